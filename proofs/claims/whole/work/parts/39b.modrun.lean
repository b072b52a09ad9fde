/-! the reference: run, walked -/

abbrev rmX5_run : Room := { frames := 2, cells := 0, slots := 0, locals := 50 }
set_option maxHeartbeats 4000000 in
set_option maxRecDepth 100000 in
/-- run -/
theorem ctX5_run (l : Launch) (G : xG) (A : Nat → Prop) (M : xM) {ad : Nat → Nat} {th : Int32} {nc : Nat} {mS : Nat → Int32} {mT : Nat → Int32} {mK : Nat → Int32} {mC : Nat → Nat} {mD : Nat → Int32} {mF : Nat → Int64} {mO : Nat → Int64} {mP : Nat → Nat} {wn : Nat → Nat} {rn : Int32} {pn : Nat} {o1 : Nat → Nat} {o2 : Nat → Nat} {u1 : Nat → Nat} {d1 : Nat → Nat} {jc : Nat} {jA : Nat → Nat} {jB : Nat → Nat} {mx : Nat → Nat} {up : Int64} {dn : Int64} (hR : xMod G M ad th nc mS mT mK mC mD mF mO mP wn rn pn o1 o2 u1 d1 jc jA jB mx up dn) (C : Nat → Nat → Prop) (U D : Nat → Nat → Nat) (zs0 os0 ab0 bl0 od0 pr0 : Nat → Nat) (hnc : nc ≤ 50) (hmc : ∀ n, n ≤ 50 → mC n ≤ 8) (hmp : ∀ n, n ≤ 50 → mP n ≤ 100) (hmk : ∀ n, n ≤ 50 → ∀ i, i < mC n → vp_in (mK (8 * n + i)) 4) (hwn : ∀ k, wn k ≤ 252000) (hCd : ∀ i j, i < nc → j < nc → (C i j ↔ (((mS (i + 1) = 0 ∧ mS (j + 1) = nI 1) ∧ 0 < mC (i + 1) ∧ 0 < mC (j + 1)) ∧ mP (i + 1) = 0 ∧ mP (j + 1) = 0) ∧ 0 < mDn mT mK mC mD wn (i + 1) (j + 1) ∧ mDn mT mK mC mD wn (i + 1) (j + 1) ≤ 2 * mU mT mK mC mD mF mO wn (i + 1) (j + 1))) (hUD : ∀ i j, i < nc → j < nc → C i j → U i j = mU mT mK mC mD mF mO wn (i + 1) (j + 1) ∧ D i j = mDn mT mK mC mD wn (i + 1) (j + 1)) (hlt : ∀ i j, i < nc → j < nc → C i j → (cRow C U D i j (cAll C U D nc i (0, zs0, os0, ab0, bl0, od0, pr0))).1 < 625) (hinL : ∀ i j, i < nc → j < nc → ∀ k, k < (cRow C U D i j (cAll C U D nc i (0, zs0, os0, ab0, bl0, od0, pr0))).1 → 0 < (cRow C U D i j (cAll C U D nc i (0, zs0, os0, ab0, bl0, od0, pr0))).2.2.2.2.1 k ∧ (cRow C U D i j (cAll C U D nc i (0, zs0, os0, ab0, bl0, od0, pr0))).2.2.2.1 k < 1000000000 ∧ (cRow C U D i j (cAll C U D nc i (0, zs0, os0, ab0, bl0, od0, pr0))).2.2.2.2.1 k < 1000000000) (hzo : ∀ i j, i < nc → j < nc → ∀ k, k < (cRow C U D i j (cAll C U D nc i (0, zs0, os0, ab0, bl0, od0, pr0))).1 → (cRow C U D i j (cAll C U D nc i (0, zs0, os0, ab0, bl0, od0, pr0))).2.1 k < 1000 ∧ (cRow C U D i j (cAll C U D nc i (0, zs0, os0, ab0, bl0, od0, pr0))).2.2.1 k < 1000) : Met l yX5_run wsX5_run rmX5_run (va_Pc ([.ref (ad 500)] : List Value) (xPc G A M)) (va_Qi (fun r M1 => ∃ (cn9 : Nat) (zs9 os9 ab9 bl9 od9 pr9 pm9 n1 n2 n3 n4 : Nat → Nat) (up9 dn9 : Int64), (cn9, zs9, os9, ab9, bl9, od9, pr9) = cAll C U D nc nc (0, zs0, os0, ab0, bl0, od0, pr0) ∧ xMod G M1 ad (nI 0) nc mS mT mK mC mD mF mO mP wn (nI 1) cn9 n1 n2 n3 n4 jc jA jB mx up9 dn9 ∧ r = nI cn9 ∧ mRep cn9 pm9 zs9 os9 ab9 bl9 n1 n2 n3 n4 ∧ (∀ t, t < 500 ∨ 516 < t → M1 t = M t)) (xPc G A) A) 0 0 A := by
  refine x_met (cc := cX5_run) (maxL := 4) (ret := (some .int)) RX5 (by decide) rfl (Nat.le_of_ble_eq_true rfl) rfl ?_
  intro p e s m below meth c hx hb hr hts hown hlocks hml hin hK hA hX ls hl
  have inX5 : ∀ w ∈ wsX50, w ∈ wsX5_run := by decide +kernel
  have lk_fieldLink_62 := hts (.fieldLink RX5 62 "ReconcileModel" "thrown" "I") (by decide +kernel)
  have lk_fieldLink_88 := hts (.fieldLink RX5 88 "ReconcileModel" "ran" "Z") (by decide +kernel)
  have lk_fieldLink_92 := hts (.fieldLink RX5 92 "ReconcileModel" "pairs" "I") (by decide +kernel)
  have lk_fieldLink_66 := hts (.fieldLink RX5 66 "ReconcileModel" "names" "I") (by decide +kernel)
  have lk_fieldLink_7 := hts (.fieldLink RX5 7 "ReconcileModel" "sides" "[I") (by decide +kernel)
  have lk_fieldLink_19 := hts (.fieldLink RX5 19 "ReconcileModel" "counts" "[I") (by decide +kernel)
  have lk_fieldLink_33 := hts (.fieldLink RX5 33 "ReconcileModel" "partners" "[I") (by decide +kernel)
  have lk_fieldLink_85 := hts (.fieldLink RX5 85 "ReconcileModel" "down" "J") (by decide +kernel)
  have lk_constantLong_99 := hts (.constantLong RX5 99 (2)) (by decide +kernel)
  have lk_fieldLink_81 := hts (.fieldLink RX5 81 "ReconcileModel" "up" "J") (by decide +kernel)
  have lk_fieldLink_41 := hts (.fieldLink RX5 41 "ReconcileModel" "ones" "[I") (by decide +kernel)
  have lk_fieldLink_44 := hts (.fieldLink RX5 44 "ReconcileModel" "twos" "[I") (by decide +kernel)
  have lk_fieldLink_47 := hts (.fieldLink RX5 47 "ReconcileModel" "ups" "[J") (by decide +kernel)
  have lk_fieldLink_50 := hts (.fieldLink RX5 50 "ReconcileModel" "downs" "[J") (by decide +kernel)
  have hS : va_S A s.heap s.heap [] := va_S.rf
  have hl : lv_has ls 4 [(0, .ref (ad 500))] := hl
  obtain ⟨hm500, hm501, hm502, hm503, hm504, hm505, hm506, hm507, hm508, hm509, hm510, hm511, hm512, hm513, hm514, hm515, hm516⟩ := id hR
  refine lv_aload_n hx hb dX5_run_0 rfl (lv_at hl 0 rfl) ?_
  refine lv_iconst (v := nI 0) hx hb dX5_run_1 (by decide) ?_
  refine x_put (ci := 7) (v := .int (nI 0)) (C := RX5) (T := TX5) (N := 23) hx hb hts inX5 tyX5 tyX5_ok nmX5 hown hK hX hS hm500 rfl 0 (by decide) lk_fieldLink_62 (fun _ h9 => h9) rfl (tyX5_ok 0 (by decide)) rfl rfl (Nat.le_of_ble_eq_true rfl) dX5_run_2 (fun H locs hX hS => ?_)
  obtain ⟨M_1, hM_1⟩ : ∃ zM : xM, zM = xu M 500 (ad 500, .inr (7, [.int (nI 0), .int (nI nc), .ref (ad 501), .ref (ad 502), .ref (ad 503), .ref (ad 504), .ref (ad 505), .ref (ad 506), .ref (ad 507), .ref (ad 508), .ref (ad 509), .int rn, .int (nI pn), .ref (ad 510), .ref (ad 511), .ref (ad 512), .ref (ad 513), .int (nI jc), .ref (ad 514), .ref (ad 515), .ref (ad 516), .long up, .long dn])) := ⟨_, rfl⟩
  have hX : xw G.1 vwCl A M_1 H := by rw [hM_1]; exact hX
  have hm501 : M_1 501 = some (ad 501, .inl (G.2 0, 51, .inl mS)) := by rw [hM_1, xu_n (by omega)]; exact hm501
  have hm502 : M_1 502 = some (ad 502, .inl (G.2 0, 408, .inl mT)) := by rw [hM_1, xu_n (by omega)]; exact hm502
  have hm503 : M_1 503 = some (ad 503, .inl (G.2 0, 408, .inl mK)) := by rw [hM_1, xu_n (by omega)]; exact hm503
  have hm504 : M_1 504 = some (ad 504, .inl (G.2 0, 51, .inl (fun k => nI (mC k)))) := by rw [hM_1, xu_n (by omega)]; exact hm504
  have hm505 : M_1 505 = some (ad 505, .inl (G.2 2, 51, .inl mD)) := by rw [hM_1, xu_n (by omega)]; exact hm505
  have hm506 : M_1 506 = some (ad 506, .inl (G.2 1, 51, .inr (.inl mF))) := by rw [hM_1, xu_n (by omega)]; exact hm506
  have hm507 : M_1 507 = some (ad 507, .inl (G.2 1, 51, .inr (.inl mO))) := by rw [hM_1, xu_n (by omega)]; exact hm507
  have hm508 : M_1 508 = some (ad 508, .inl (G.2 0, 51, .inl (fun k => nI (mP k)))) := by rw [hM_1, xu_n (by omega)]; exact hm508
  have hm509 : M_1 509 = some (ad 509, .inl (G.2 1, 4, .inr (.inl (fun k => lN (wn k))))) := by rw [hM_1, xu_n (by omega)]; exact hm509
  have hm510 : M_1 510 = some (ad 510, .inl (G.2 0, 700, .inl (fun k => nI (o1 k)))) := by rw [hM_1, xu_n (by omega)]; exact hm510
  have hm511 : M_1 511 = some (ad 511, .inl (G.2 0, 700, .inl (fun k => nI (o2 k)))) := by rw [hM_1, xu_n (by omega)]; exact hm511
  have hm512 : M_1 512 = some (ad 512, .inl (G.2 1, 700, .inr (.inl (fun k => lN (u1 k))))) := by rw [hM_1, xu_n (by omega)]; exact hm512
  have hm513 : M_1 513 = some (ad 513, .inl (G.2 1, 700, .inr (.inl (fun k => lN (d1 k))))) := by rw [hM_1, xu_n (by omega)]; exact hm513
  have hm514 : M_1 514 = some (ad 514, .inl (G.2 0, 101, .inl (fun k => nI (jA k)))) := by rw [hM_1, xu_n (by omega)]; exact hm514
  have hm515 : M_1 515 = some (ad 515, .inl (G.2 0, 101, .inl (fun k => nI (jB k)))) := by rw [hM_1, xu_n (by omega)]; exact hm515
  have hm516 : M_1 516 = some (ad 516, .inl (G.2 0, 700, .inl (fun k => nI (mx k)))) := by rw [hM_1, xu_n (by omega)]; exact hm516
  have hm500 : M_1 500 = some (ad 500, .inr (7, [.int (nI 0), .int (nI nc), .ref (ad 501), .ref (ad 502), .ref (ad 503), .ref (ad 504), .ref (ad 505), .ref (ad 506), .ref (ad 507), .ref (ad 508), .ref (ad 509), .int rn, .int (nI pn), .ref (ad 510), .ref (ad 511), .ref (ad 512), .ref (ad 513), .int (nI jc), .ref (ad 514), .ref (ad 515), .ref (ad 516), .long up, .long dn])) := by rw [hM_1]; exact xu_s
  refine lv_aload_n hx hb dX5_run_5 rfl (lv_at hl 0 rfl) ?_
  refine lv_iconst (v := nI 1) hx hb dX5_run_6 (by decide) ?_
  refine x_put (ci := 7) (v := .int (nI 1)) (C := RX5) (T := TX5) (N := 23) hx hb hts inX5 tyX5 tyX5_ok nmX5 hown hK hX hS hm500 rfl 11 (by decide) lk_fieldLink_88 (fun _ h9 => h9) rfl (tyX5_ok 11 (by decide)) rfl rfl (Nat.le_of_ble_eq_true rfl) dX5_run_7 (fun H locs hX hS => ?_)
  obtain ⟨M_2, hM_2⟩ : ∃ zM : xM, zM = xu M_1 500 (ad 500, .inr (7, [.int (nI 0), .int (nI nc), .ref (ad 501), .ref (ad 502), .ref (ad 503), .ref (ad 504), .ref (ad 505), .ref (ad 506), .ref (ad 507), .ref (ad 508), .ref (ad 509), .int (nI 1), .int (nI pn), .ref (ad 510), .ref (ad 511), .ref (ad 512), .ref (ad 513), .int (nI jc), .ref (ad 514), .ref (ad 515), .ref (ad 516), .long up, .long dn])) := ⟨_, rfl⟩
  have hX : xw G.1 vwCl A M_2 H := by rw [hM_2]; exact hX
  have hm501 : M_2 501 = some (ad 501, .inl (G.2 0, 51, .inl mS)) := by rw [hM_2, xu_n (by omega)]; exact hm501
  have hm502 : M_2 502 = some (ad 502, .inl (G.2 0, 408, .inl mT)) := by rw [hM_2, xu_n (by omega)]; exact hm502
  have hm503 : M_2 503 = some (ad 503, .inl (G.2 0, 408, .inl mK)) := by rw [hM_2, xu_n (by omega)]; exact hm503
  have hm504 : M_2 504 = some (ad 504, .inl (G.2 0, 51, .inl (fun k => nI (mC k)))) := by rw [hM_2, xu_n (by omega)]; exact hm504
  have hm505 : M_2 505 = some (ad 505, .inl (G.2 2, 51, .inl mD)) := by rw [hM_2, xu_n (by omega)]; exact hm505
  have hm506 : M_2 506 = some (ad 506, .inl (G.2 1, 51, .inr (.inl mF))) := by rw [hM_2, xu_n (by omega)]; exact hm506
  have hm507 : M_2 507 = some (ad 507, .inl (G.2 1, 51, .inr (.inl mO))) := by rw [hM_2, xu_n (by omega)]; exact hm507
  have hm508 : M_2 508 = some (ad 508, .inl (G.2 0, 51, .inl (fun k => nI (mP k)))) := by rw [hM_2, xu_n (by omega)]; exact hm508
  have hm509 : M_2 509 = some (ad 509, .inl (G.2 1, 4, .inr (.inl (fun k => lN (wn k))))) := by rw [hM_2, xu_n (by omega)]; exact hm509
  have hm510 : M_2 510 = some (ad 510, .inl (G.2 0, 700, .inl (fun k => nI (o1 k)))) := by rw [hM_2, xu_n (by omega)]; exact hm510
  have hm511 : M_2 511 = some (ad 511, .inl (G.2 0, 700, .inl (fun k => nI (o2 k)))) := by rw [hM_2, xu_n (by omega)]; exact hm511
  have hm512 : M_2 512 = some (ad 512, .inl (G.2 1, 700, .inr (.inl (fun k => lN (u1 k))))) := by rw [hM_2, xu_n (by omega)]; exact hm512
  have hm513 : M_2 513 = some (ad 513, .inl (G.2 1, 700, .inr (.inl (fun k => lN (d1 k))))) := by rw [hM_2, xu_n (by omega)]; exact hm513
  have hm514 : M_2 514 = some (ad 514, .inl (G.2 0, 101, .inl (fun k => nI (jA k)))) := by rw [hM_2, xu_n (by omega)]; exact hm514
  have hm515 : M_2 515 = some (ad 515, .inl (G.2 0, 101, .inl (fun k => nI (jB k)))) := by rw [hM_2, xu_n (by omega)]; exact hm515
  have hm516 : M_2 516 = some (ad 516, .inl (G.2 0, 700, .inl (fun k => nI (mx k)))) := by rw [hM_2, xu_n (by omega)]; exact hm516
  have hm500 : M_2 500 = some (ad 500, .inr (7, [.int (nI 0), .int (nI nc), .ref (ad 501), .ref (ad 502), .ref (ad 503), .ref (ad 504), .ref (ad 505), .ref (ad 506), .ref (ad 507), .ref (ad 508), .ref (ad 509), .int (nI 1), .int (nI pn), .ref (ad 510), .ref (ad 511), .ref (ad 512), .ref (ad 513), .int (nI jc), .ref (ad 514), .ref (ad 515), .ref (ad 516), .long up, .long dn])) := by rw [hM_2]; exact xu_s
  refine lv_aload_n hx hb dX5_run_10 rfl (lv_at hl 0 rfl) ?_
  refine lv_iconst (v := nI 0) hx hb dX5_run_11 (by decide) ?_
  refine x_put (ci := 7) (v := .int (nI 0)) (C := RX5) (T := TX5) (N := 23) hx hb hts inX5 tyX5 tyX5_ok nmX5 hown hK hX hS hm500 rfl 12 (by decide) lk_fieldLink_92 (fun _ h9 => h9) rfl (tyX5_ok 12 (by decide)) rfl rfl (Nat.le_of_ble_eq_true rfl) dX5_run_12 (fun H locs hX hS => ?_)
  obtain ⟨M_3, hM_3⟩ : ∃ zM : xM, zM = xu M_2 500 (ad 500, .inr (7, [.int (nI 0), .int (nI nc), .ref (ad 501), .ref (ad 502), .ref (ad 503), .ref (ad 504), .ref (ad 505), .ref (ad 506), .ref (ad 507), .ref (ad 508), .ref (ad 509), .int (nI 1), .int (nI 0), .ref (ad 510), .ref (ad 511), .ref (ad 512), .ref (ad 513), .int (nI jc), .ref (ad 514), .ref (ad 515), .ref (ad 516), .long up, .long dn])) := ⟨_, rfl⟩
  have hX : xw G.1 vwCl A M_3 H := by rw [hM_3]; exact hX
  have hm501 : M_3 501 = some (ad 501, .inl (G.2 0, 51, .inl mS)) := by rw [hM_3, xu_n (by omega)]; exact hm501
  have hm502 : M_3 502 = some (ad 502, .inl (G.2 0, 408, .inl mT)) := by rw [hM_3, xu_n (by omega)]; exact hm502
  have hm503 : M_3 503 = some (ad 503, .inl (G.2 0, 408, .inl mK)) := by rw [hM_3, xu_n (by omega)]; exact hm503
  have hm504 : M_3 504 = some (ad 504, .inl (G.2 0, 51, .inl (fun k => nI (mC k)))) := by rw [hM_3, xu_n (by omega)]; exact hm504
  have hm505 : M_3 505 = some (ad 505, .inl (G.2 2, 51, .inl mD)) := by rw [hM_3, xu_n (by omega)]; exact hm505
  have hm506 : M_3 506 = some (ad 506, .inl (G.2 1, 51, .inr (.inl mF))) := by rw [hM_3, xu_n (by omega)]; exact hm506
  have hm507 : M_3 507 = some (ad 507, .inl (G.2 1, 51, .inr (.inl mO))) := by rw [hM_3, xu_n (by omega)]; exact hm507
  have hm508 : M_3 508 = some (ad 508, .inl (G.2 0, 51, .inl (fun k => nI (mP k)))) := by rw [hM_3, xu_n (by omega)]; exact hm508
  have hm509 : M_3 509 = some (ad 509, .inl (G.2 1, 4, .inr (.inl (fun k => lN (wn k))))) := by rw [hM_3, xu_n (by omega)]; exact hm509
  have hm510 : M_3 510 = some (ad 510, .inl (G.2 0, 700, .inl (fun k => nI (o1 k)))) := by rw [hM_3, xu_n (by omega)]; exact hm510
  have hm511 : M_3 511 = some (ad 511, .inl (G.2 0, 700, .inl (fun k => nI (o2 k)))) := by rw [hM_3, xu_n (by omega)]; exact hm511
  have hm512 : M_3 512 = some (ad 512, .inl (G.2 1, 700, .inr (.inl (fun k => lN (u1 k))))) := by rw [hM_3, xu_n (by omega)]; exact hm512
  have hm513 : M_3 513 = some (ad 513, .inl (G.2 1, 700, .inr (.inl (fun k => lN (d1 k))))) := by rw [hM_3, xu_n (by omega)]; exact hm513
  have hm514 : M_3 514 = some (ad 514, .inl (G.2 0, 101, .inl (fun k => nI (jA k)))) := by rw [hM_3, xu_n (by omega)]; exact hm514
  have hm515 : M_3 515 = some (ad 515, .inl (G.2 0, 101, .inl (fun k => nI (jB k)))) := by rw [hM_3, xu_n (by omega)]; exact hm515
  have hm516 : M_3 516 = some (ad 516, .inl (G.2 0, 700, .inl (fun k => nI (mx k)))) := by rw [hM_3, xu_n (by omega)]; exact hm516
  have hm500 : M_3 500 = some (ad 500, .inr (7, [.int (nI 0), .int (nI nc), .ref (ad 501), .ref (ad 502), .ref (ad 503), .ref (ad 504), .ref (ad 505), .ref (ad 506), .ref (ad 507), .ref (ad 508), .ref (ad 509), .int (nI 1), .int (nI 0), .ref (ad 510), .ref (ad 511), .ref (ad 512), .ref (ad 513), .int (nI jc), .ref (ad 514), .ref (ad 515), .ref (ad 516), .long up, .long dn])) := by rw [hM_3]; exact xu_s
  refine lv_iconst (v := nI 1) hx hb dX5_run_15 (by decide) ?_
  refine lv_istore_n (lv' := [(1, .int (nI 1)), (0, .ref (ad 500))]) hx hb dX5_run_16 rfl hl (by decide) rfl (fun ls hl => ?_)
  have hRs : xMod G M_3 ad (nI 0) nc mS mT mK mC mD mF mO mP wn (nI 1) 0 o1 o2 u1 d1 jc jA jB mx up dn := ⟨hm500, hm501, hm502, hm503, hm504, hm505, hm506, hm507, hm508, hm509, hm510, hm511, hm512, hm513, hm514, hm515, hm516⟩
  have hfs : ∀ t, t < 500 ∨ 516 < t → M_3 t = M t := fun t ht => by rw [hM_3, xu_n (by omega), hM_2, xu_n (by omega), hM_1, xu_n (by omega)]
  have loop : ∀ (n : Nat) (i : Nat) (M9 : xM) (cn9 : Nat) (zs9 : Nat → Nat) (os9 : Nat → Nat) (ab9 : Nat → Nat) (bl9 : Nat → Nat) (od9 : Nat → Nat) (pr9 : Nat → Nat) (pm9 : Nat → Nat) (n1 : Nat → Nat) (n2 : Nat → Nat) (n3 : Nat → Nat) (n4 : Nat → Nat) (up9 : Int64) (dn9 : Int64) (H : Heap) (locs : List Loc) (ls : Array Slot), nc < i + n → (i ≤ nc) → (xMod G M9 ad (nI 0) nc mS mT mK mC mD mF mO mP wn (nI 1) cn9 n1 n2 n3 n4 jc jA jB mx up9 dn9) → ((cn9, zs9, os9, ab9, bl9, od9, pr9) = cAll C U D nc i (0, zs0, os0, ab0, bl0, od0, pr0)) → (mRep cn9 pm9 zs9 os9 ab9 bl9 n1 n2 n3 n4) → (∀ t, t < 500 ∨ 516 < t → M9 t = M t) → xw G.1 vwCl A M9 H → va_S A s.heap H locs → lv_has ls 4 [(1, .int (nI (i + 1))), (0, .ref (ad 500))] → W p l e rmX5_run s m ([.ref (ad 500)] : List Value).toArray below meth c H locs 0 0 (MQ below (va_Qi (fun r M1 => ∃ (cn9 : Nat) (zs9 os9 ab9 bl9 od9 pr9 pm9 n1 n2 n3 n4 : Nat → Nat) (up9 dn9 : Int64), (cn9, zs9, os9, ab9, bl9, od9, pr9) = cAll C U D nc nc (0, zs0, os0, ab0, bl0, od0, pr0) ∧ xMod G M1 ad (nI 0) nc mS mT mK mC mD mF mO mP wn (nI 1) cn9 n1 n2 n3 n4 jc jA jB mx up9 dn9 ∧ r = nI cn9 ∧ mRep cn9 pm9 zs9 os9 ab9 bl9 n1 n2 n3 n4 ∧ (∀ t, t < 500 ∨ 516 < t → M1 t = M t)) (xPc G A) A) ([.ref (ad 500)] : List Value).toArray s 0 0 A) (F0 m 17 ls []) := by
    intro n
    induction n with
    | zero => intro i M9 cn9 zs9 os9 ab9 bl9 od9 pr9 pm9 n1 n2 n3 n4 up9 dn9 H locs ls hn0 hi9 hR9 hL9 hp9 hf9; exact absurd hn0 (by omega)
    | succ n ih =>
      intro i M9 cn9 zs9 os9 ab9 bl9 od9 pr9 pm9 n1 n2 n3 n4 up9 dn9 H locs ls hn0 hi9 hR9 hL9 hp9 hf9 hX hS hl
      obtain ⟨hm500, hm501, hm502, hm503, hm504, hm505, hm506, hm507, hm508, hm509, hm510, hm511, hm512, hm513, hm514, hm515, hm516⟩ := id hR9
      refine lv_iload_n hx hb dX5_run_17 rfl (lv_at hl 0 rfl) ?_
      refine lv_aload_n hx hb dX5_run_18 rfl (lv_at hl 1 rfl) ?_
      refine x_get (ci := 7) (v := .int (nI nc)) (C := RX5) (T := TX5) (N := 23) hx hb hts inX5 hown hK hX hm500 rfl 1 (by decide) lk_fieldLink_66 (fun _ h9 => h9) rfl dX5_run_19 ?_
      refine lv_icmp_gt (tgt := 278) hx hb dX5_run_22 (by decide) (fun c_4 => ?_) (fun c_4 => ?_)
      · have c_4 : nc < (i + 1) := (nI_ltI (by omega) (by omega)).mp c_4
        refine lv_aload_n hx hb dX5_run_278 rfl (lv_at hl 1 rfl) ?_
        refine x_get (ci := 7) (v := .int (nI cn9)) (C := RX5) (T := TX5) (N := 23) hx hb hts inX5 hown hK hX hm500 rfl 12 (by decide) lk_fieldLink_92 (fun _ h9 => h9) rfl dX5_run_279 ?_
        exact x_iret hx hb hr hlocks hK hA hX hS dX5_run_282 (⟨cn9, zs9, os9, ab9, bl9, od9, pr9, pm9, n1, n2, n3, n4, up9, dn9, by rw [hL9, show i = nc by omega], hR9, rfl, hp9, hf9⟩)
      · have c_4 : ¬ (nc < (i + 1)) := fun q => c_4 ((nI_ltI (by omega) (by omega)).mpr q)
        refine lv_iconst (v := nI 1) hx hb dX5_run_25 (by decide) ?_
        refine lv_istore_n (lv' := [(2, .int (nI 1)), (1, .int (nI (i + 1))), (0, .ref (ad 500))]) hx hb dX5_run_26 rfl hl (by decide) rfl (fun ls hl => ?_)
        have loop_2 : ∀ (n_2 : Nat) (j : Nat) (M8 : xM) (cn8 : Nat) (zs8 : Nat → Nat) (os8 : Nat → Nat) (ab8 : Nat → Nat) (bl8 : Nat → Nat) (od8 : Nat → Nat) (pr8 : Nat → Nat) (pm8 : Nat → Nat) (n1b : Nat → Nat) (n2b : Nat → Nat) (n3b : Nat → Nat) (n4b : Nat → Nat) (up8 : Int64) (dn8 : Int64) (H : Heap) (locs : List Loc) (ls : Array Slot), nc < j + n_2 → (j ≤ nc) → (xMod G M8 ad (nI 0) nc mS mT mK mC mD mF mO mP wn (nI 1) cn8 n1b n2b n3b n4b jc jA jB mx up8 dn8) → ((cn8, zs8, os8, ab8, bl8, od8, pr8) = cRow C U D i j (cAll C U D nc i (0, zs0, os0, ab0, bl0, od0, pr0))) → (mRep cn8 pm8 zs8 os8 ab8 bl8 n1b n2b n3b n4b) → (∀ t, t < 500 ∨ 516 < t → M8 t = M t) → xw G.1 vwCl A M8 H → va_S A s.heap H locs → lv_has ls 4 [(2, .int (nI (j + 1))), (1, .int (nI (i + 1))), (0, .ref (ad 500))] → W p l e rmX5_run s m ([.ref (ad 500)] : List Value).toArray below meth c H locs 0 0 (MQ below (va_Qi (fun r M1 => ∃ (cn9 : Nat) (zs9 os9 ab9 bl9 od9 pr9 pm9 n1 n2 n3 n4 : Nat → Nat) (up9 dn9 : Int64), (cn9, zs9, os9, ab9, bl9, od9, pr9) = cAll C U D nc nc (0, zs0, os0, ab0, bl0, od0, pr0) ∧ xMod G M1 ad (nI 0) nc mS mT mK mC mD mF mO mP wn (nI 1) cn9 n1 n2 n3 n4 jc jA jB mx up9 dn9 ∧ r = nI cn9 ∧ mRep cn9 pm9 zs9 os9 ab9 bl9 n1 n2 n3 n4 ∧ (∀ t, t < 500 ∨ 516 < t → M1 t = M t)) (xPc G A) A) ([.ref (ad 500)] : List Value).toArray s 0 0 A) (F0 m 27 ls []) := by
          intro n_2
          induction n_2 with
          | zero => intro j M8 cn8 zs8 os8 ab8 bl8 od8 pr8 pm8 n1b n2b n3b n4b up8 dn8 H locs ls hn0_2 hi92 hR92 hL92 hp92 hf92; exact absurd hn0_2 (by omega)
          | succ n_2 ih_2 =>
            intro j M8 cn8 zs8 os8 ab8 bl8 od8 pr8 pm8 n1b n2b n3b n4b up8 dn8 H locs ls hn0_2 hi92 hR92 hL92 hp92 hf92 hX hS hl
            obtain ⟨hm500, hm501, hm502, hm503, hm504, hm505, hm506, hm507, hm508, hm509, hm510, hm511, hm512, hm513, hm514, hm515, hm516⟩ := id hR92
            refine lv_iload_n hx hb dX5_run_27 rfl (lv_at hl 0 rfl) ?_
            refine lv_aload_n hx hb dX5_run_28 rfl (lv_at hl 2 rfl) ?_
            refine x_get (ci := 7) (v := .int (nI nc)) (C := RX5) (T := TX5) (N := 23) hx hb hts inX5 hown hK hX hm500 rfl 1 (by decide) lk_fieldLink_66 (fun _ h9 => h9) rfl dX5_run_29 ?_
            refine lv_icmp_gt (tgt := 272) hx hb dX5_run_32 (by decide) (fun c_5 => ?_) (fun c_5 => ?_)
            · have c_5 : nc < (j + 1) := (nI_ltI (by omega) (by omega)).mp c_5
              refine lv_iinc (v := nI ((i + 1) + 1)) (lv' := [(1, .int (nI ((i + 1) + 1))), (2, .int (nI (j + 1))), (0, .ref (ad 500))]) hx hb dX5_run_272 hl (k := 1) rfl (show nI (i + 1) + Int32.ofInt 1 = _ from nI_add _ 1) (by decide) rfl (fun ls hl => ?_)
              refine lv_goto (tgt := 17) hx hb dX5_run_275 (by decide) ?_
              exact ih (i + 1) M8 cn8 zs8 os8 ab8 bl8 od8 pr8 pm8 n1b n2b n3b n4b up8 dn8 _ _ ls (by omega) (by omega) hR92 (by show _ = cRow _ _ _ i nc _; rw [hL92, show j = nc by omega]) hp92 hf92 hX hS (lv_sub hl [0, 2] rfl)
            · have c_5 : ¬ (nc < (j + 1)) := fun q => c_5 ((nI_ltI (by omega) (by omega)).mpr q)
              have hm1 := hmc (i + 1) (by omega)
              have hm2 := hmc (j + 1) (by omega)
              have hq1 := hmp (i + 1) (by omega)
              have hq2 := hmp (j + 1) (by omega)
              refine lv_aload_n hx hb dX5_run_35 rfl (lv_at hl 2 rfl) ?_
              refine x_get (ci := 7) (v := .ref (ad 501)) (C := RX5) (T := TX5) (N := 23) hx hb hts inX5 hown hK hX hm500 rfl 2 (by decide) lk_fieldLink_7 (fun _ h9 => h9) rfl dX5_run_36 ?_
              refine lv_iload_n hx hb dX5_run_39 rfl (lv_at hl 1 rfl) ?_
              refine x_iN hx hb hK hX hm501 (by omega) (by decide) dX5_run_40 ?_
              refine lv_if_ne (tgt := 266) hx hb dX5_run_41 (by decide) (fun c_6 => ?_) (fun c_6 => ?_)
              · refine lv_iinc (v := nI ((j + 1) + 1)) (lv' := [(2, .int (nI ((j + 1) + 1))), (1, .int (nI (i + 1))), (0, .ref (ad 500))]) hx hb dX5_run_266 hl (k := 0) rfl (show nI (j + 1) + Int32.ofInt 1 = _ from nI_add _ 1) (by decide) rfl (fun ls hl => ?_)
                refine lv_goto (tgt := 27) hx hb dX5_run_269 (by decide) ?_
                exact ih_2 (j + 1) M8 cn8 zs8 os8 ab8 bl8 od8 pr8 pm8 n1b n2b n3b n4b up8 dn8 _ _ ls (by omega) (by omega) hR92 (by show _ = cStep _ _ _ i j _; rw [cStep_f (fun q => c_6 ((hCd i j (by omega) (by omega)).mp q).1.1.1.1)]; exact hL92) hp92 hf92 hX hS (lv_sub hl [0, 1, 2] rfl)
              · refine lv_aload_n hx hb dX5_run_44 rfl (lv_at hl 2 rfl) ?_
                refine x_get (ci := 7) (v := .ref (ad 501)) (C := RX5) (T := TX5) (N := 23) hx hb hts inX5 hown hK hX hm500 rfl 2 (by decide) lk_fieldLink_7 (fun _ h9 => h9) rfl dX5_run_45 ?_
                refine lv_iload_n hx hb dX5_run_48 rfl (lv_at hl 0 rfl) ?_
                refine x_iN hx hb hK hX hm501 (by omega) (by decide) dX5_run_49 ?_
                refine lv_iconst (v := nI 1) hx hb dX5_run_50 (by decide) ?_
                refine lv_icmp_ne (tgt := 266) hx hb dX5_run_51 (by decide) (fun c_7 => ?_) (fun c_7 => ?_)
                · refine lv_iinc (v := nI ((j + 1) + 1)) (lv' := [(2, .int (nI ((j + 1) + 1))), (1, .int (nI (i + 1))), (0, .ref (ad 500))]) hx hb dX5_run_266 hl (k := 0) rfl (show nI (j + 1) + Int32.ofInt 1 = _ from nI_add _ 1) (by decide) rfl (fun ls hl => ?_)
                  refine lv_goto (tgt := 27) hx hb dX5_run_269 (by decide) ?_
                  exact ih_2 (j + 1) M8 cn8 zs8 os8 ab8 bl8 od8 pr8 pm8 n1b n2b n3b n4b up8 dn8 _ _ ls (by omega) (by omega) hR92 (by show _ = cStep _ _ _ i j _; rw [cStep_f (fun q => c_7 ((hCd i j (by omega) (by omega)).mp q).1.1.1.2)]; exact hL92) hp92 hf92 hX hS (lv_sub hl [0, 1, 2] rfl)
                · refine lv_aload_n hx hb dX5_run_54 rfl (lv_at hl 2 rfl) ?_
                  refine x_get (ci := 7) (v := .ref (ad 504)) (C := RX5) (T := TX5) (N := 23) hx hb hts inX5 hown hK hX hm500 rfl 5 (by decide) lk_fieldLink_19 (fun _ h9 => h9) rfl dX5_run_55 ?_
                  refine lv_iload_n hx hb dX5_run_58 rfl (lv_at hl 1 rfl) ?_
                  refine x_iN hx hb hK hX hm504 (by omega) (by decide) dX5_run_59 ?_
                  refine lv_if_le (tgt := 266) hx hb dX5_run_60 (by decide) (fun c_8 => ?_) (fun c_8 => ?_)
                  · have c_8 : (mC (i + 1)) ≤ 0 := (nI_leI (a := (mC (i + 1))) (b := 0) (by omega) (by omega)).mp c_8
                    refine lv_iinc (v := nI ((j + 1) + 1)) (lv' := [(2, .int (nI ((j + 1) + 1))), (1, .int (nI (i + 1))), (0, .ref (ad 500))]) hx hb dX5_run_266 hl (k := 0) rfl (show nI (j + 1) + Int32.ofInt 1 = _ from nI_add _ 1) (by decide) rfl (fun ls hl => ?_)
                    refine lv_goto (tgt := 27) hx hb dX5_run_269 (by decide) ?_
                    exact ih_2 (j + 1) M8 cn8 zs8 os8 ab8 bl8 od8 pr8 pm8 n1b n2b n3b n4b up8 dn8 _ _ ls (by omega) (by omega) hR92 (by show _ = cStep _ _ _ i j _; rw [cStep_f (fun q => by have z := ((hCd i j (by omega) (by omega)).mp q).1.1.2.1; omega)]; exact hL92) hp92 hf92 hX hS (lv_sub hl [0, 1, 2] rfl)
                  · have c_8 : ¬ ((mC (i + 1)) ≤ 0) := fun q => c_8 ((nI_leI (a := (mC (i + 1))) (b := 0) (by omega) (by omega)).mpr q)
                    refine lv_aload_n hx hb dX5_run_63 rfl (lv_at hl 2 rfl) ?_
                    refine x_get (ci := 7) (v := .ref (ad 504)) (C := RX5) (T := TX5) (N := 23) hx hb hts inX5 hown hK hX hm500 rfl 5 (by decide) lk_fieldLink_19 (fun _ h9 => h9) rfl dX5_run_64 ?_
                    refine lv_iload_n hx hb dX5_run_67 rfl (lv_at hl 0 rfl) ?_
                    refine x_iN hx hb hK hX hm504 (by omega) (by decide) dX5_run_68 ?_
                    refine lv_if_le (tgt := 266) hx hb dX5_run_69 (by decide) (fun c_9 => ?_) (fun c_9 => ?_)
                    · have c_9 : (mC (j + 1)) ≤ 0 := (nI_leI (a := (mC (j + 1))) (b := 0) (by omega) (by omega)).mp c_9
                      refine lv_iinc (v := nI ((j + 1) + 1)) (lv' := [(2, .int (nI ((j + 1) + 1))), (1, .int (nI (i + 1))), (0, .ref (ad 500))]) hx hb dX5_run_266 hl (k := 0) rfl (show nI (j + 1) + Int32.ofInt 1 = _ from nI_add _ 1) (by decide) rfl (fun ls hl => ?_)
                      refine lv_goto (tgt := 27) hx hb dX5_run_269 (by decide) ?_
                      exact ih_2 (j + 1) M8 cn8 zs8 os8 ab8 bl8 od8 pr8 pm8 n1b n2b n3b n4b up8 dn8 _ _ ls (by omega) (by omega) hR92 (by show _ = cStep _ _ _ i j _; rw [cStep_f (fun q => by have z := ((hCd i j (by omega) (by omega)).mp q).1.1.2.2; omega)]; exact hL92) hp92 hf92 hX hS (lv_sub hl [0, 1, 2] rfl)
                    · have c_9 : ¬ ((mC (j + 1)) ≤ 0) := fun q => c_9 ((nI_leI (a := (mC (j + 1))) (b := 0) (by omega) (by omega)).mpr q)
                      refine lv_aload_n hx hb dX5_run_72 rfl (lv_at hl 2 rfl) ?_
                      refine x_get (ci := 7) (v := .ref (ad 508)) (C := RX5) (T := TX5) (N := 23) hx hb hts inX5 hown hK hX hm500 rfl 9 (by decide) lk_fieldLink_33 (fun _ h9 => h9) rfl dX5_run_73 ?_
                      refine lv_iload_n hx hb dX5_run_76 rfl (lv_at hl 1 rfl) ?_
                      refine x_iN hx hb hK hX hm508 (by omega) (by decide) dX5_run_77 ?_
                      refine lv_if_ne (tgt := 266) hx hb dX5_run_78 (by decide) (fun c_10 => ?_) (fun c_10 => ?_)
                      · have c_10 : ¬ ((mP (i + 1)) = 0) := fun q => c_10 ((nI_eq (a := (mP (i + 1))) (b := 0) (by omega) (by omega)).mpr q)
                        refine lv_iinc (v := nI ((j + 1) + 1)) (lv' := [(2, .int (nI ((j + 1) + 1))), (1, .int (nI (i + 1))), (0, .ref (ad 500))]) hx hb dX5_run_266 hl (k := 0) rfl (show nI (j + 1) + Int32.ofInt 1 = _ from nI_add _ 1) (by decide) rfl (fun ls hl => ?_)
                        refine lv_goto (tgt := 27) hx hb dX5_run_269 (by decide) ?_
                        exact ih_2 (j + 1) M8 cn8 zs8 os8 ab8 bl8 od8 pr8 pm8 n1b n2b n3b n4b up8 dn8 _ _ ls (by omega) (by omega) hR92 (by show _ = cStep _ _ _ i j _; rw [cStep_f (fun q => c_10 ((hCd i j (by omega) (by omega)).mp q).1.2.1)]; exact hL92) hp92 hf92 hX hS (lv_sub hl [0, 1, 2] rfl)
                      · have c_10 : (mP (i + 1)) = 0 := (nI_eq (a := (mP (i + 1))) (b := 0) (by omega) (by omega)).mp c_10
                        refine lv_aload_n hx hb dX5_run_81 rfl (lv_at hl 2 rfl) ?_
                        refine x_get (ci := 7) (v := .ref (ad 508)) (C := RX5) (T := TX5) (N := 23) hx hb hts inX5 hown hK hX hm500 rfl 9 (by decide) lk_fieldLink_33 (fun _ h9 => h9) rfl dX5_run_82 ?_
                        refine lv_iload_n hx hb dX5_run_85 rfl (lv_at hl 0 rfl) ?_
                        refine x_iN hx hb hK hX hm508 (by omega) (by decide) dX5_run_86 ?_
                        refine lv_if_ne (tgt := 266) hx hb dX5_run_87 (by decide) (fun c_11 => ?_) (fun c_11 => ?_)
                        · have c_11 : ¬ ((mP (j + 1)) = 0) := fun q => c_11 ((nI_eq (a := (mP (j + 1))) (b := 0) (by omega) (by omega)).mpr q)
                          refine lv_iinc (v := nI ((j + 1) + 1)) (lv' := [(2, .int (nI ((j + 1) + 1))), (1, .int (nI (i + 1))), (0, .ref (ad 500))]) hx hb dX5_run_266 hl (k := 0) rfl (show nI (j + 1) + Int32.ofInt 1 = _ from nI_add _ 1) (by decide) rfl (fun ls hl => ?_)
                          refine lv_goto (tgt := 27) hx hb dX5_run_269 (by decide) ?_
                          exact ih_2 (j + 1) M8 cn8 zs8 os8 ab8 bl8 od8 pr8 pm8 n1b n2b n3b n4b up8 dn8 _ _ ls (by omega) (by omega) hR92 (by show _ = cStep _ _ _ i j _; rw [cStep_f (fun q => c_11 ((hCd i j (by omega) (by omega)).mp q).1.2.2)]; exact hL92) hp92 hf92 hX hS (lv_sub hl [0, 1, 2] rfl)
                        · have c_11 : (mP (j + 1)) = 0 := (nI_eq (a := (mP (j + 1))) (b := 0) (by omega) (by omega)).mp c_11
                          refine lv_aload_n hx hb dX5_run_90 rfl (lv_at hl 2 rfl) ?_
                          refine lv_iload_n hx hb dX5_run_91 rfl (lv_at hl 1 rfl) ?_
                          refine lv_iload_n hx hb dX5_run_92 rfl (lv_at hl 0 rfl) ?_
                          refine x_callv (x_runV (q := (RX5, TX5, 23)) (As := [.int (nI (i + 1)), .int (nI (j + 1))]) (rest := []) ⟨hx, hb, hml, hown, hts⟩ (ctX5_reckon l G A M8 hR92 (i + 1) (j + 1) (by omega) (by omega) hm1 hm2 (hmk (i + 1) (by omega)) (hmk (j + 1) (by omega))) (cwV 2 hts gX5_run_X5_reckon rfl rfl rfl (by decide +kernel) ⟨Nat.le_of_ble_eq_true rfl, Nat.le_of_ble_eq_true rfl⟩) hK hA hX hS hm500 rfl rfl hl.1 rfl (lv_room (Nat.le_of_ble_eq_true rfl)) dX5_run_93 ⟨by decide, by decide⟩) hS (fun M_13 H locs hp hX hS => ?_)
                          obtain ⟨hRk, hfk0⟩ := hp
                          have hfk : ∀ t, t < 500 ∨ 516 < t → M_13 t = M t := fun t ht => (hfk0 t ht).trans (hf92 t ht)
                          obtain ⟨hm500, hm501, hm502, hm503, hm504, hm505, hm506, hm507, hm508, hm509, hm510, hm511, hm512, hm513, hm514, hm515, hm516⟩ := id hRk
                          have hbU := mU_le (mT := mT) (mK := mK) (mD := mD) (mF := mF) (mO := mO) (b := j + 1) hwn hm1
                          have hbD := mDn_le (mT := mT) (mK := mK) (mD := mD) hwn hm1 hm2
                          refine lv_aload_n hx hb dX5_run_96 rfl (lv_at hl 2 rfl) ?_
                          refine x_get (ci := 7) (v := .long (lN (mDn mT mK mC mD wn (i + 1) (j + 1)))) (C := RX5) (T := TX5) (N := 23) hx hb hts inX5 hown hK hX hm500 rfl 22 (by decide) lk_fieldLink_85 (fun _ h9 => h9) rfl dX5_run_97 ?_
                          refine lv_lconst (v := lN 0) hx hb dX5_run_100 rfl ?_
                          refine W.lcmp hx hb dX5_run_101 ?_
                          refine x_lc_le (tgt := 266) hx hb dX5_run_102 (by decide) (fun c_14 => ?_) (fun c_14 => ?_)
                          · have c_14 : (mDn mT mK mC mD wn (i + 1) (j + 1)) ≤ 0 := (pk_lLE (by omega) (by omega)).mp c_14
                            refine lv_iinc (v := nI ((j + 1) + 1)) (lv' := [(2, .int (nI ((j + 1) + 1))), (1, .int (nI (i + 1))), (0, .ref (ad 500))]) hx hb dX5_run_266 hl (k := 0) rfl (show nI (j + 1) + Int32.ofInt 1 = _ from nI_add _ 1) (by decide) rfl (fun ls hl => ?_)
                            refine lv_goto (tgt := 27) hx hb dX5_run_269 (by decide) ?_
                            exact ih_2 (j + 1) M_13 cn8 zs8 os8 ab8 bl8 od8 pr8 pm8 n1b n2b n3b n4b (lN (mU mT mK mC mD mF mO wn (i + 1) (j + 1))) (lN (mDn mT mK mC mD wn (i + 1) (j + 1))) _ _ ls (by omega) (by omega) hRk (by show _ = cStep _ _ _ i j _; rw [cStep_f (fun q => by have z := ((hCd i j (by omega) (by omega)).mp q).2.1; omega)]; exact hL92) hp92 hfk hX hS (lv_sub hl [0, 1, 2] rfl)
                          · have c_14 : ¬ ((mDn mT mK mC mD wn (i + 1) (j + 1)) ≤ 0) := fun q => c_14 ((pk_lLE (by omega) (by omega)).mpr q)
                            refine lv_ldc2 (v := 2) hx hb hown lk_constantLong_99 dX5_run_105 ?_
                            refine x_rl (y := lN 2) rfl ?_
                            refine lv_aload_n hx hb dX5_run_108 rfl (lv_at hl 2 rfl) ?_
                            refine x_get (ci := 7) (v := .long (lN (mU mT mK mC mD mF mO wn (i + 1) (j + 1)))) (C := RX5) (T := TX5) (N := 23) hx hb hts inX5 hown hK hX hm500 rfl 21 (by decide) lk_fieldLink_81 (fun _ h9 => h9) rfl dX5_run_109 ?_
                            refine lv_lmul hx hb dX5_run_112 ?_
                            refine x_rl (y := lN (2 * (mU mT mK mC mD mF mO wn (i + 1) (j + 1)))) (lN_mul _ _) ?_
                            refine lv_aload_n hx hb dX5_run_113 rfl (lv_at hl 2 rfl) ?_
                            refine x_get (ci := 7) (v := .long (lN (mDn mT mK mC mD wn (i + 1) (j + 1)))) (C := RX5) (T := TX5) (N := 23) hx hb hts inX5 hown hK hX hm500 rfl 22 (by decide) lk_fieldLink_85 (fun _ h9 => h9) rfl dX5_run_114 ?_
                            refine W.lcmp hx hb dX5_run_117 ?_
                            refine x_lc_lt (tgt := 266) hx hb dX5_run_118 (by decide) (fun c_15 => ?_) (fun c_15 => ?_)
                            · have c_15 : (2 * (mU mT mK mC mD mF mO wn (i + 1) (j + 1))) < (mDn mT mK mC mD wn (i + 1) (j + 1)) := (pk_lLT (by omega) (by omega)).mp c_15
                              refine lv_iinc (v := nI ((j + 1) + 1)) (lv' := [(2, .int (nI ((j + 1) + 1))), (1, .int (nI (i + 1))), (0, .ref (ad 500))]) hx hb dX5_run_266 hl (k := 0) rfl (show nI (j + 1) + Int32.ofInt 1 = _ from nI_add _ 1) (by decide) rfl (fun ls hl => ?_)
                              refine lv_goto (tgt := 27) hx hb dX5_run_269 (by decide) ?_
                              exact ih_2 (j + 1) M_13 cn8 zs8 os8 ab8 bl8 od8 pr8 pm8 n1b n2b n3b n4b (lN (mU mT mK mC mD mF mO wn (i + 1) (j + 1))) (lN (mDn mT mK mC mD wn (i + 1) (j + 1))) _ _ ls (by omega) (by omega) hRk (by show _ = cStep _ _ _ i j _; rw [cStep_f (fun q => by have z := ((hCd i j (by omega) (by omega)).mp q).2.2; omega)]; exact hL92) hp92 hfk hX hS (lv_sub hl [0, 1, 2] rfl)
                            · have c_15 : ¬ ((2 * (mU mT mK mC mD mF mO wn (i + 1) (j + 1))) < (mDn mT mK mC mD wn (i + 1) (j + 1))) := fun q => c_15 ((pk_lLT (by omega) (by omega)).mpr q)
                              have hC : C i j := (hCd i j (by omega) (by omega)).mpr ⟨⟨⟨⟨c_6, c_7⟩, by omega, by omega⟩, c_10, c_11⟩, by omega, by omega⟩
                              have hlt9 : cn8 < 625 := by have q := hlt i j (by omega) (by omega) hC; rw [← hL92] at q; exact q
                              have hin8 := hinL i j (by omega) (by omega)
                              rw [← hL92] at hin8
                              have hps8 : ∀ k, k < cn8 → 0 < bl8 k ∧ ab8 k < 1000000000 ∧ bl8 k < 1000000000 := hin8
                              have hpm8 : ∀ k, k < cn8 → pm8 k < cn8 := fun k hk => (xGood_in hp92.1 (by omega) hk).2
                              have hnb : ∀ k, k < cn8 → n1b k < 1000 ∧ n2b k < 1000 ∧ n3b k < 1000000000 ∧ n4b k < 1000000000 := fun k hk => by have q := hp92.2 k hk; have z := hps8 _ (hpm8 k hk); have y := hzo i j (by omega) (by omega); rw [← hL92] at y; have y2 : zs8 (pm8 k) < 1000 ∧ os8 (pm8 k) < 1000 := y _ (hpm8 k hk); rw [q.1, q.2.1, q.2.2.1, q.2.2.2]; exact ⟨y2.1, y2.2, z.2.1, z.2.2⟩
                              refine lv_aload_n hx hb dX5_run_121 rfl (lv_at hl 2 rfl) ?_
                              refine x_get (ci := 7) (v := .int (nI cn8)) (C := RX5) (T := TX5) (N := 23) hx hb hts inX5 hown hK hX hm500 rfl 12 (by decide) lk_fieldLink_92 (fun _ h9 => h9) rfl dX5_run_122 ?_
                              refine lv_istore_n (lv' := [(3, .int (nI cn8)), (2, .int (nI (j + 1))), (1, .int (nI (i + 1))), (0, .ref (ad 500))]) hx hb dX5_run_125 rfl hl (by decide) rfl (fun ls hl => ?_)
                              have loop_3 : ∀ (n_3 : Nat) (at9 : Nat) (s1 : Nat → Nat) (s2 : Nat → Nat) (s3 : Nat → Nat) (s4 : Nat → Nat) (M9_3 : xM) (H : Heap) (locs : List Loc) (ls : Array Slot), at9 < n_3 → (at9 ≤ cn8) → ((∀ k, k < at9 → s1 k = n1b k) ∧ (∀ k, at9 < k → k ≤ cn8 → s1 k = n1b (k - 1))) → ((∀ k, k < at9 → s2 k = n2b k) ∧ (∀ k, at9 < k → k ≤ cn8 → s2 k = n2b (k - 1))) → ((∀ k, k < at9 → s3 k = n3b k) ∧ (∀ k, at9 < k → k ≤ cn8 → s3 k = n3b (k - 1))) → ((∀ k, k < at9 → s4 k = n4b k) ∧ (∀ k, at9 < k → k ≤ cn8 → s4 k = n4b (k - 1))) → (∀ k, at9 ≤ k → k < cn8 → n3b k * (mDn mT mK mC mD wn (i + 1) (j + 1)) < (mU mT mK mC mD mF mO wn (i + 1) (j + 1)) * n4b k) → M9_3 = xu (xu (xu (xu M_13 510 (ad 510, .inl (G.2 0, 700, .inl (fun k => nI (s1 k))))) 511 (ad 511, .inl (G.2 0, 700, .inl (fun k => nI (s2 k))))) 512 (ad 512, .inl (G.2 1, 700, .inr (.inl (fun k => lN (s3 k)))))) 513 (ad 513, .inl (G.2 1, 700, .inr (.inl (fun k => lN (s4 k))))) → xw G.1 vwCl A M9_3 H → va_S A s.heap H locs → lv_has ls 4 [(3, .int (nI at9)), (2, .int (nI (j + 1))), (1, .int (nI (i + 1))), (0, .ref (ad 500))] → W p l e rmX5_run s m ([.ref (ad 500)] : List Value).toArray below meth c H locs 0 0 (MQ below (va_Qi (fun r M1 => ∃ (cn9 : Nat) (zs9 os9 ab9 bl9 od9 pr9 pm9 n1 n2 n3 n4 : Nat → Nat) (up9 dn9 : Int64), (cn9, zs9, os9, ab9, bl9, od9, pr9) = cAll C U D nc nc (0, zs0, os0, ab0, bl0, od0, pr0) ∧ xMod G M1 ad (nI 0) nc mS mT mK mC mD mF mO mP wn (nI 1) cn9 n1 n2 n3 n4 jc jA jB mx up9 dn9 ∧ r = nI cn9 ∧ mRep cn9 pm9 zs9 os9 ab9 bl9 n1 n2 n3 n4 ∧ (∀ t, t < 500 ∨ 516 < t → M1 t = M t)) (xPc G A) A) ([.ref (ad 500)] : List Value).toArray s 0 0 A) (F0 m 126 ls []) := by
                                intro n_3
                                induction n_3 with
                                | zero => intro at9 s1 s2 s3 s4 M9_3 H locs ls hn0_3 hat hs1 hs2 hs3 hs4 hgt; exact absurd hn0_3 (by omega)
                                | succ n_3 ih_3 =>
                                  intro at9 s1 s2 s3 s4 M9_3 H locs ls hn0_3 hat hs1 hs2 hs3 hs4 hgt hM9_3 hX hS hl
                                  have hm500 : M9_3 500 = some (ad 500, .inr (7, [.int (nI 0), .int (nI nc), .ref (ad 501), .ref (ad 502), .ref (ad 503), .ref (ad 504), .ref (ad 505), .ref (ad 506), .ref (ad 507), .ref (ad 508), .ref (ad 509), .int (nI 1), .int (nI cn8), .ref (ad 510), .ref (ad 511), .ref (ad 512), .ref (ad 513), .int (nI jc), .ref (ad 514), .ref (ad 515), .ref (ad 516), .long (lN (mU mT mK mC mD mF mO wn (i + 1) (j + 1))), .long (lN (mDn mT mK mC mD wn (i + 1) (j + 1)))])) := by rw [hM9_3, xu_n (by omega), xu_n (by omega), xu_n (by omega), xu_n (by omega)]; exact hm500
                                  have hm501 : M9_3 501 = some (ad 501, .inl (G.2 0, 51, .inl mS)) := by rw [hM9_3, xu_n (by omega), xu_n (by omega), xu_n (by omega), xu_n (by omega)]; exact hm501
                                  have hm502 : M9_3 502 = some (ad 502, .inl (G.2 0, 408, .inl mT)) := by rw [hM9_3, xu_n (by omega), xu_n (by omega), xu_n (by omega), xu_n (by omega)]; exact hm502
                                  have hm503 : M9_3 503 = some (ad 503, .inl (G.2 0, 408, .inl mK)) := by rw [hM9_3, xu_n (by omega), xu_n (by omega), xu_n (by omega), xu_n (by omega)]; exact hm503
                                  have hm504 : M9_3 504 = some (ad 504, .inl (G.2 0, 51, .inl (fun k => nI (mC k)))) := by rw [hM9_3, xu_n (by omega), xu_n (by omega), xu_n (by omega), xu_n (by omega)]; exact hm504
                                  have hm505 : M9_3 505 = some (ad 505, .inl (G.2 2, 51, .inl mD)) := by rw [hM9_3, xu_n (by omega), xu_n (by omega), xu_n (by omega), xu_n (by omega)]; exact hm505
                                  have hm506 : M9_3 506 = some (ad 506, .inl (G.2 1, 51, .inr (.inl mF))) := by rw [hM9_3, xu_n (by omega), xu_n (by omega), xu_n (by omega), xu_n (by omega)]; exact hm506
                                  have hm507 : M9_3 507 = some (ad 507, .inl (G.2 1, 51, .inr (.inl mO))) := by rw [hM9_3, xu_n (by omega), xu_n (by omega), xu_n (by omega), xu_n (by omega)]; exact hm507
                                  have hm508 : M9_3 508 = some (ad 508, .inl (G.2 0, 51, .inl (fun k => nI (mP k)))) := by rw [hM9_3, xu_n (by omega), xu_n (by omega), xu_n (by omega), xu_n (by omega)]; exact hm508
                                  have hm509 : M9_3 509 = some (ad 509, .inl (G.2 1, 4, .inr (.inl (fun k => lN (wn k))))) := by rw [hM9_3, xu_n (by omega), xu_n (by omega), xu_n (by omega), xu_n (by omega)]; exact hm509
                                  have hm514 : M9_3 514 = some (ad 514, .inl (G.2 0, 101, .inl (fun k => nI (jA k)))) := by rw [hM9_3, xu_n (by omega), xu_n (by omega), xu_n (by omega), xu_n (by omega)]; exact hm514
                                  have hm515 : M9_3 515 = some (ad 515, .inl (G.2 0, 101, .inl (fun k => nI (jB k)))) := by rw [hM9_3, xu_n (by omega), xu_n (by omega), xu_n (by omega), xu_n (by omega)]; exact hm515
                                  have hm516 : M9_3 516 = some (ad 516, .inl (G.2 0, 700, .inl (fun k => nI (mx k)))) := by rw [hM9_3, xu_n (by omega), xu_n (by omega), xu_n (by omega), xu_n (by omega)]; exact hm516
                                  have hm510 : M9_3 510 = some (ad 510, .inl (G.2 0, 700, .inl (fun k => nI (s1 k)))) := by rw [hM9_3, xu_n (by omega), xu_n (by omega), xu_n (by omega)]; exact xu_s
                                  have hm511 : M9_3 511 = some (ad 511, .inl (G.2 0, 700, .inl (fun k => nI (s2 k)))) := by rw [hM9_3, xu_n (by omega), xu_n (by omega)]; exact xu_s
                                  have hm512 : M9_3 512 = some (ad 512, .inl (G.2 1, 700, .inr (.inl (fun k => lN (s3 k))))) := by rw [hM9_3, xu_n (by omega)]; exact xu_s
                                  have hm513 : M9_3 513 = some (ad 513, .inl (G.2 1, 700, .inr (.inl (fun k => lN (s4 k))))) := by rw [hM9_3]; exact xu_s
                                  refine lv_iload_n hx hb dX5_run_126 rfl (lv_at hl 0 rfl) ?_
                                  refine lv_if_le (tgt := 222) hx hb dX5_run_127 (by decide) (fun c_16 => ?_) (fun c_16 => ?_)
                                  · have c_16 : at9 ≤ 0 := (nI_leI (a := at9) (b := 0) (by omega) (by omega)).mp c_16
                                    have hst : at9 = 0 ∨ ¬ (n3b (at9 - 1) * (mDn mT mK mC mD wn (i + 1) (j + 1)) < (mU mT mK mC mD mF mO wn (i + 1) (j + 1)) * n4b (at9 - 1)) := Or.inl (by omega)
                                    refine lv_aload_n hx hb dX5_run_222 rfl (lv_at hl 3 rfl) ?_
                                    refine x_get (ci := 7) (v := .ref (ad 510)) (C := RX5) (T := TX5) (N := 23) hx hb hts inX5 hown hK hX hm500 rfl 13 (by decide) lk_fieldLink_41 (fun _ h9 => h9) rfl dX5_run_223 ?_
                                    refine lv_iload_n hx hb dX5_run_226 rfl (lv_at hl 0 rfl) ?_
                                    refine lv_iload_n hx hb dX5_run_227 rfl (lv_at hl 2 rfl) ?_
                                    refine x_isN hx hb hK hX hS hm510 (by omega) (by decide) dX5_run_228 (fun H locs hX hS => ?_)
                                    rw [upd_n] at hX
                                    obtain ⟨M_17, hM_17⟩ : ∃ zM : xM, zM = xu M9_3 510 (ad 510, .inl (G.2 0, 700, .inl (fun k => nI ((va_up s1 at9 (i + 1)) k)))) := ⟨_, rfl⟩
                                    have hX : xw G.1 vwCl A M_17 H := by rw [hM_17]; exact hX
                                    have hm500 : M_17 500 = some (ad 500, .inr (7, [.int (nI 0), .int (nI nc), .ref (ad 501), .ref (ad 502), .ref (ad 503), .ref (ad 504), .ref (ad 505), .ref (ad 506), .ref (ad 507), .ref (ad 508), .ref (ad 509), .int (nI 1), .int (nI cn8), .ref (ad 510), .ref (ad 511), .ref (ad 512), .ref (ad 513), .int (nI jc), .ref (ad 514), .ref (ad 515), .ref (ad 516), .long (lN (mU mT mK mC mD mF mO wn (i + 1) (j + 1))), .long (lN (mDn mT mK mC mD wn (i + 1) (j + 1)))])) := by rw [hM_17, xu_n (by omega)]; exact hm500
                                    have hm501 : M_17 501 = some (ad 501, .inl (G.2 0, 51, .inl mS)) := by rw [hM_17, xu_n (by omega)]; exact hm501
                                    have hm502 : M_17 502 = some (ad 502, .inl (G.2 0, 408, .inl mT)) := by rw [hM_17, xu_n (by omega)]; exact hm502
                                    have hm503 : M_17 503 = some (ad 503, .inl (G.2 0, 408, .inl mK)) := by rw [hM_17, xu_n (by omega)]; exact hm503
                                    have hm504 : M_17 504 = some (ad 504, .inl (G.2 0, 51, .inl (fun k => nI (mC k)))) := by rw [hM_17, xu_n (by omega)]; exact hm504
                                    have hm505 : M_17 505 = some (ad 505, .inl (G.2 2, 51, .inl mD)) := by rw [hM_17, xu_n (by omega)]; exact hm505
                                    have hm506 : M_17 506 = some (ad 506, .inl (G.2 1, 51, .inr (.inl mF))) := by rw [hM_17, xu_n (by omega)]; exact hm506
                                    have hm507 : M_17 507 = some (ad 507, .inl (G.2 1, 51, .inr (.inl mO))) := by rw [hM_17, xu_n (by omega)]; exact hm507
                                    have hm508 : M_17 508 = some (ad 508, .inl (G.2 0, 51, .inl (fun k => nI (mP k)))) := by rw [hM_17, xu_n (by omega)]; exact hm508
                                    have hm509 : M_17 509 = some (ad 509, .inl (G.2 1, 4, .inr (.inl (fun k => lN (wn k))))) := by rw [hM_17, xu_n (by omega)]; exact hm509
                                    have hm511 : M_17 511 = some (ad 511, .inl (G.2 0, 700, .inl (fun k => nI (s2 k)))) := by rw [hM_17, xu_n (by omega)]; exact hm511
                                    have hm512 : M_17 512 = some (ad 512, .inl (G.2 1, 700, .inr (.inl (fun k => lN (s3 k))))) := by rw [hM_17, xu_n (by omega)]; exact hm512
                                    have hm513 : M_17 513 = some (ad 513, .inl (G.2 1, 700, .inr (.inl (fun k => lN (s4 k))))) := by rw [hM_17, xu_n (by omega)]; exact hm513
                                    have hm514 : M_17 514 = some (ad 514, .inl (G.2 0, 101, .inl (fun k => nI (jA k)))) := by rw [hM_17, xu_n (by omega)]; exact hm514
                                    have hm515 : M_17 515 = some (ad 515, .inl (G.2 0, 101, .inl (fun k => nI (jB k)))) := by rw [hM_17, xu_n (by omega)]; exact hm515
                                    have hm516 : M_17 516 = some (ad 516, .inl (G.2 0, 700, .inl (fun k => nI (mx k)))) := by rw [hM_17, xu_n (by omega)]; exact hm516
                                    have hm510 : M_17 510 = some (ad 510, .inl (G.2 0, 700, .inl (fun k => nI ((va_up s1 at9 (i + 1)) k)))) := by rw [hM_17]; exact xu_s
                                    refine lv_aload_n hx hb dX5_run_229 rfl (lv_at hl 3 rfl) ?_
                                    refine x_get (ci := 7) (v := .ref (ad 511)) (C := RX5) (T := TX5) (N := 23) hx hb hts inX5 hown hK hX hm500 rfl 14 (by decide) lk_fieldLink_44 (fun _ h9 => h9) rfl dX5_run_230 ?_
                                    refine lv_iload_n hx hb dX5_run_233 rfl (lv_at hl 0 rfl) ?_
                                    refine lv_iload_n hx hb dX5_run_234 rfl (lv_at hl 1 rfl) ?_
                                    refine x_isN hx hb hK hX hS hm511 (by omega) (by decide) dX5_run_235 (fun H locs hX hS => ?_)
                                    rw [upd_n] at hX
                                    obtain ⟨M_18, hM_18⟩ : ∃ zM : xM, zM = xu M_17 511 (ad 511, .inl (G.2 0, 700, .inl (fun k => nI ((va_up s2 at9 (j + 1)) k)))) := ⟨_, rfl⟩
                                    have hX : xw G.1 vwCl A M_18 H := by rw [hM_18]; exact hX
                                    have hm500 : M_18 500 = some (ad 500, .inr (7, [.int (nI 0), .int (nI nc), .ref (ad 501), .ref (ad 502), .ref (ad 503), .ref (ad 504), .ref (ad 505), .ref (ad 506), .ref (ad 507), .ref (ad 508), .ref (ad 509), .int (nI 1), .int (nI cn8), .ref (ad 510), .ref (ad 511), .ref (ad 512), .ref (ad 513), .int (nI jc), .ref (ad 514), .ref (ad 515), .ref (ad 516), .long (lN (mU mT mK mC mD mF mO wn (i + 1) (j + 1))), .long (lN (mDn mT mK mC mD wn (i + 1) (j + 1)))])) := by rw [hM_18, xu_n (by omega)]; exact hm500
                                    have hm501 : M_18 501 = some (ad 501, .inl (G.2 0, 51, .inl mS)) := by rw [hM_18, xu_n (by omega)]; exact hm501
                                    have hm502 : M_18 502 = some (ad 502, .inl (G.2 0, 408, .inl mT)) := by rw [hM_18, xu_n (by omega)]; exact hm502
                                    have hm503 : M_18 503 = some (ad 503, .inl (G.2 0, 408, .inl mK)) := by rw [hM_18, xu_n (by omega)]; exact hm503
                                    have hm504 : M_18 504 = some (ad 504, .inl (G.2 0, 51, .inl (fun k => nI (mC k)))) := by rw [hM_18, xu_n (by omega)]; exact hm504
                                    have hm505 : M_18 505 = some (ad 505, .inl (G.2 2, 51, .inl mD)) := by rw [hM_18, xu_n (by omega)]; exact hm505
                                    have hm506 : M_18 506 = some (ad 506, .inl (G.2 1, 51, .inr (.inl mF))) := by rw [hM_18, xu_n (by omega)]; exact hm506
                                    have hm507 : M_18 507 = some (ad 507, .inl (G.2 1, 51, .inr (.inl mO))) := by rw [hM_18, xu_n (by omega)]; exact hm507
                                    have hm508 : M_18 508 = some (ad 508, .inl (G.2 0, 51, .inl (fun k => nI (mP k)))) := by rw [hM_18, xu_n (by omega)]; exact hm508
                                    have hm509 : M_18 509 = some (ad 509, .inl (G.2 1, 4, .inr (.inl (fun k => lN (wn k))))) := by rw [hM_18, xu_n (by omega)]; exact hm509
                                    have hm510 : M_18 510 = some (ad 510, .inl (G.2 0, 700, .inl (fun k => nI ((va_up s1 at9 (i + 1)) k)))) := by rw [hM_18, xu_n (by omega)]; exact hm510
                                    have hm512 : M_18 512 = some (ad 512, .inl (G.2 1, 700, .inr (.inl (fun k => lN (s3 k))))) := by rw [hM_18, xu_n (by omega)]; exact hm512
                                    have hm513 : M_18 513 = some (ad 513, .inl (G.2 1, 700, .inr (.inl (fun k => lN (s4 k))))) := by rw [hM_18, xu_n (by omega)]; exact hm513
                                    have hm514 : M_18 514 = some (ad 514, .inl (G.2 0, 101, .inl (fun k => nI (jA k)))) := by rw [hM_18, xu_n (by omega)]; exact hm514
                                    have hm515 : M_18 515 = some (ad 515, .inl (G.2 0, 101, .inl (fun k => nI (jB k)))) := by rw [hM_18, xu_n (by omega)]; exact hm515
                                    have hm516 : M_18 516 = some (ad 516, .inl (G.2 0, 700, .inl (fun k => nI (mx k)))) := by rw [hM_18, xu_n (by omega)]; exact hm516
                                    have hm511 : M_18 511 = some (ad 511, .inl (G.2 0, 700, .inl (fun k => nI ((va_up s2 at9 (j + 1)) k)))) := by rw [hM_18]; exact xu_s
                                    refine lv_aload_n hx hb dX5_run_236 rfl (lv_at hl 3 rfl) ?_
                                    refine x_get (ci := 7) (v := .ref (ad 512)) (C := RX5) (T := TX5) (N := 23) hx hb hts inX5 hown hK hX hm500 rfl 15 (by decide) lk_fieldLink_47 (fun _ h9 => h9) rfl dX5_run_237 ?_
                                    refine lv_iload_n hx hb dX5_run_240 rfl (lv_at hl 0 rfl) ?_
                                    refine lv_aload_n hx hb dX5_run_241 rfl (lv_at hl 3 rfl) ?_
                                    refine x_get (ci := 7) (v := .long (lN (mU mT mK mC mD mF mO wn (i + 1) (j + 1)))) (C := RX5) (T := TX5) (N := 23) hx hb hts inX5 hown hK hX hm500 rfl 21 (by decide) lk_fieldLink_81 (fun _ h9 => h9) rfl dX5_run_242 ?_
                                    refine x_lsN hx hb hK hX hS hm512 (by omega) (by decide) dX5_run_245 (fun H locs hX hS => ?_)
                                    rw [updL_n] at hX
                                    obtain ⟨M_19, hM_19⟩ : ∃ zM : xM, zM = xu M_18 512 (ad 512, .inl (G.2 1, 700, .inr (.inl (fun k => lN ((va_up s3 at9 (mU mT mK mC mD mF mO wn (i + 1) (j + 1))) k))))) := ⟨_, rfl⟩
                                    have hX : xw G.1 vwCl A M_19 H := by rw [hM_19]; exact hX
                                    have hm500 : M_19 500 = some (ad 500, .inr (7, [.int (nI 0), .int (nI nc), .ref (ad 501), .ref (ad 502), .ref (ad 503), .ref (ad 504), .ref (ad 505), .ref (ad 506), .ref (ad 507), .ref (ad 508), .ref (ad 509), .int (nI 1), .int (nI cn8), .ref (ad 510), .ref (ad 511), .ref (ad 512), .ref (ad 513), .int (nI jc), .ref (ad 514), .ref (ad 515), .ref (ad 516), .long (lN (mU mT mK mC mD mF mO wn (i + 1) (j + 1))), .long (lN (mDn mT mK mC mD wn (i + 1) (j + 1)))])) := by rw [hM_19, xu_n (by omega)]; exact hm500
                                    have hm501 : M_19 501 = some (ad 501, .inl (G.2 0, 51, .inl mS)) := by rw [hM_19, xu_n (by omega)]; exact hm501
                                    have hm502 : M_19 502 = some (ad 502, .inl (G.2 0, 408, .inl mT)) := by rw [hM_19, xu_n (by omega)]; exact hm502
                                    have hm503 : M_19 503 = some (ad 503, .inl (G.2 0, 408, .inl mK)) := by rw [hM_19, xu_n (by omega)]; exact hm503
                                    have hm504 : M_19 504 = some (ad 504, .inl (G.2 0, 51, .inl (fun k => nI (mC k)))) := by rw [hM_19, xu_n (by omega)]; exact hm504
                                    have hm505 : M_19 505 = some (ad 505, .inl (G.2 2, 51, .inl mD)) := by rw [hM_19, xu_n (by omega)]; exact hm505
                                    have hm506 : M_19 506 = some (ad 506, .inl (G.2 1, 51, .inr (.inl mF))) := by rw [hM_19, xu_n (by omega)]; exact hm506
                                    have hm507 : M_19 507 = some (ad 507, .inl (G.2 1, 51, .inr (.inl mO))) := by rw [hM_19, xu_n (by omega)]; exact hm507
                                    have hm508 : M_19 508 = some (ad 508, .inl (G.2 0, 51, .inl (fun k => nI (mP k)))) := by rw [hM_19, xu_n (by omega)]; exact hm508
                                    have hm509 : M_19 509 = some (ad 509, .inl (G.2 1, 4, .inr (.inl (fun k => lN (wn k))))) := by rw [hM_19, xu_n (by omega)]; exact hm509
                                    have hm510 : M_19 510 = some (ad 510, .inl (G.2 0, 700, .inl (fun k => nI ((va_up s1 at9 (i + 1)) k)))) := by rw [hM_19, xu_n (by omega)]; exact hm510
                                    have hm511 : M_19 511 = some (ad 511, .inl (G.2 0, 700, .inl (fun k => nI ((va_up s2 at9 (j + 1)) k)))) := by rw [hM_19, xu_n (by omega)]; exact hm511
                                    have hm513 : M_19 513 = some (ad 513, .inl (G.2 1, 700, .inr (.inl (fun k => lN (s4 k))))) := by rw [hM_19, xu_n (by omega)]; exact hm513
                                    have hm514 : M_19 514 = some (ad 514, .inl (G.2 0, 101, .inl (fun k => nI (jA k)))) := by rw [hM_19, xu_n (by omega)]; exact hm514
                                    have hm515 : M_19 515 = some (ad 515, .inl (G.2 0, 101, .inl (fun k => nI (jB k)))) := by rw [hM_19, xu_n (by omega)]; exact hm515
                                    have hm516 : M_19 516 = some (ad 516, .inl (G.2 0, 700, .inl (fun k => nI (mx k)))) := by rw [hM_19, xu_n (by omega)]; exact hm516
                                    have hm512 : M_19 512 = some (ad 512, .inl (G.2 1, 700, .inr (.inl (fun k => lN ((va_up s3 at9 (mU mT mK mC mD mF mO wn (i + 1) (j + 1))) k))))) := by rw [hM_19]; exact xu_s
                                    refine lv_aload_n hx hb dX5_run_246 rfl (lv_at hl 3 rfl) ?_
                                    refine x_get (ci := 7) (v := .ref (ad 513)) (C := RX5) (T := TX5) (N := 23) hx hb hts inX5 hown hK hX hm500 rfl 16 (by decide) lk_fieldLink_50 (fun _ h9 => h9) rfl dX5_run_247 ?_
                                    refine lv_iload_n hx hb dX5_run_250 rfl (lv_at hl 0 rfl) ?_
                                    refine lv_aload_n hx hb dX5_run_251 rfl (lv_at hl 3 rfl) ?_
                                    refine x_get (ci := 7) (v := .long (lN (mDn mT mK mC mD wn (i + 1) (j + 1)))) (C := RX5) (T := TX5) (N := 23) hx hb hts inX5 hown hK hX hm500 rfl 22 (by decide) lk_fieldLink_85 (fun _ h9 => h9) rfl dX5_run_252 ?_
                                    refine x_lsN hx hb hK hX hS hm513 (by omega) (by decide) dX5_run_255 (fun H locs hX hS => ?_)
                                    rw [updL_n] at hX
                                    obtain ⟨M_20, hM_20⟩ : ∃ zM : xM, zM = xu M_19 513 (ad 513, .inl (G.2 1, 700, .inr (.inl (fun k => lN ((va_up s4 at9 (mDn mT mK mC mD wn (i + 1) (j + 1))) k))))) := ⟨_, rfl⟩
                                    have hX : xw G.1 vwCl A M_20 H := by rw [hM_20]; exact hX
                                    have hm500 : M_20 500 = some (ad 500, .inr (7, [.int (nI 0), .int (nI nc), .ref (ad 501), .ref (ad 502), .ref (ad 503), .ref (ad 504), .ref (ad 505), .ref (ad 506), .ref (ad 507), .ref (ad 508), .ref (ad 509), .int (nI 1), .int (nI cn8), .ref (ad 510), .ref (ad 511), .ref (ad 512), .ref (ad 513), .int (nI jc), .ref (ad 514), .ref (ad 515), .ref (ad 516), .long (lN (mU mT mK mC mD mF mO wn (i + 1) (j + 1))), .long (lN (mDn mT mK mC mD wn (i + 1) (j + 1)))])) := by rw [hM_20, xu_n (by omega)]; exact hm500
                                    have hm501 : M_20 501 = some (ad 501, .inl (G.2 0, 51, .inl mS)) := by rw [hM_20, xu_n (by omega)]; exact hm501
                                    have hm502 : M_20 502 = some (ad 502, .inl (G.2 0, 408, .inl mT)) := by rw [hM_20, xu_n (by omega)]; exact hm502
                                    have hm503 : M_20 503 = some (ad 503, .inl (G.2 0, 408, .inl mK)) := by rw [hM_20, xu_n (by omega)]; exact hm503
                                    have hm504 : M_20 504 = some (ad 504, .inl (G.2 0, 51, .inl (fun k => nI (mC k)))) := by rw [hM_20, xu_n (by omega)]; exact hm504
                                    have hm505 : M_20 505 = some (ad 505, .inl (G.2 2, 51, .inl mD)) := by rw [hM_20, xu_n (by omega)]; exact hm505
                                    have hm506 : M_20 506 = some (ad 506, .inl (G.2 1, 51, .inr (.inl mF))) := by rw [hM_20, xu_n (by omega)]; exact hm506
                                    have hm507 : M_20 507 = some (ad 507, .inl (G.2 1, 51, .inr (.inl mO))) := by rw [hM_20, xu_n (by omega)]; exact hm507
                                    have hm508 : M_20 508 = some (ad 508, .inl (G.2 0, 51, .inl (fun k => nI (mP k)))) := by rw [hM_20, xu_n (by omega)]; exact hm508
                                    have hm509 : M_20 509 = some (ad 509, .inl (G.2 1, 4, .inr (.inl (fun k => lN (wn k))))) := by rw [hM_20, xu_n (by omega)]; exact hm509
                                    have hm510 : M_20 510 = some (ad 510, .inl (G.2 0, 700, .inl (fun k => nI ((va_up s1 at9 (i + 1)) k)))) := by rw [hM_20, xu_n (by omega)]; exact hm510
                                    have hm511 : M_20 511 = some (ad 511, .inl (G.2 0, 700, .inl (fun k => nI ((va_up s2 at9 (j + 1)) k)))) := by rw [hM_20, xu_n (by omega)]; exact hm511
                                    have hm512 : M_20 512 = some (ad 512, .inl (G.2 1, 700, .inr (.inl (fun k => lN ((va_up s3 at9 (mU mT mK mC mD mF mO wn (i + 1) (j + 1))) k))))) := by rw [hM_20, xu_n (by omega)]; exact hm512
                                    have hm514 : M_20 514 = some (ad 514, .inl (G.2 0, 101, .inl (fun k => nI (jA k)))) := by rw [hM_20, xu_n (by omega)]; exact hm514
                                    have hm515 : M_20 515 = some (ad 515, .inl (G.2 0, 101, .inl (fun k => nI (jB k)))) := by rw [hM_20, xu_n (by omega)]; exact hm515
                                    have hm516 : M_20 516 = some (ad 516, .inl (G.2 0, 700, .inl (fun k => nI (mx k)))) := by rw [hM_20, xu_n (by omega)]; exact hm516
                                    have hm513 : M_20 513 = some (ad 513, .inl (G.2 1, 700, .inr (.inl (fun k => lN ((va_up s4 at9 (mDn mT mK mC mD wn (i + 1) (j + 1))) k))))) := by rw [hM_20]; exact xu_s
                                    refine lv_aload_n hx hb dX5_run_256 rfl (lv_at hl 3 rfl) ?_
                                    refine lv_dup hx hb dX5_run_257 rfl ?_
                                    refine x_get (ci := 7) (v := .int (nI cn8)) (C := RX5) (T := TX5) (N := 23) hx hb hts inX5 hown hK hX hm500 rfl 12 (by decide) lk_fieldLink_92 (fun _ h9 => h9) rfl dX5_run_258 ?_
                                    refine lv_iconst (v := nI 1) hx hb dX5_run_261 (by decide) ?_
                                    refine lv_iadd hx hb dX5_run_262 ?_
                                    refine x_ri (y := nI (cn8 + 1)) (nI_add _ _) ?_
                                    refine x_put (ci := 7) (v := .int (nI (cn8 + 1))) (C := RX5) (T := TX5) (N := 23) hx hb hts inX5 tyX5 tyX5_ok nmX5 hown hK hX hS hm500 rfl 12 (by decide) lk_fieldLink_92 (fun _ h9 => h9) rfl (tyX5_ok 12 (by decide)) rfl rfl (Nat.le_of_ble_eq_true rfl) dX5_run_263 (fun H locs hX hS => ?_)
                                    obtain ⟨M_21, hM_21⟩ : ∃ zM : xM, zM = xu M_20 500 (ad 500, .inr (7, [.int (nI 0), .int (nI nc), .ref (ad 501), .ref (ad 502), .ref (ad 503), .ref (ad 504), .ref (ad 505), .ref (ad 506), .ref (ad 507), .ref (ad 508), .ref (ad 509), .int (nI 1), .int (nI (cn8 + 1)), .ref (ad 510), .ref (ad 511), .ref (ad 512), .ref (ad 513), .int (nI jc), .ref (ad 514), .ref (ad 515), .ref (ad 516), .long (lN (mU mT mK mC mD mF mO wn (i + 1) (j + 1))), .long (lN (mDn mT mK mC mD wn (i + 1) (j + 1)))])) := ⟨_, rfl⟩
                                    have hX : xw G.1 vwCl A M_21 H := by rw [hM_21]; exact hX
                                    have hm501 : M_21 501 = some (ad 501, .inl (G.2 0, 51, .inl mS)) := by rw [hM_21, xu_n (by omega)]; exact hm501
                                    have hm502 : M_21 502 = some (ad 502, .inl (G.2 0, 408, .inl mT)) := by rw [hM_21, xu_n (by omega)]; exact hm502
                                    have hm503 : M_21 503 = some (ad 503, .inl (G.2 0, 408, .inl mK)) := by rw [hM_21, xu_n (by omega)]; exact hm503
                                    have hm504 : M_21 504 = some (ad 504, .inl (G.2 0, 51, .inl (fun k => nI (mC k)))) := by rw [hM_21, xu_n (by omega)]; exact hm504
                                    have hm505 : M_21 505 = some (ad 505, .inl (G.2 2, 51, .inl mD)) := by rw [hM_21, xu_n (by omega)]; exact hm505
                                    have hm506 : M_21 506 = some (ad 506, .inl (G.2 1, 51, .inr (.inl mF))) := by rw [hM_21, xu_n (by omega)]; exact hm506
                                    have hm507 : M_21 507 = some (ad 507, .inl (G.2 1, 51, .inr (.inl mO))) := by rw [hM_21, xu_n (by omega)]; exact hm507
                                    have hm508 : M_21 508 = some (ad 508, .inl (G.2 0, 51, .inl (fun k => nI (mP k)))) := by rw [hM_21, xu_n (by omega)]; exact hm508
                                    have hm509 : M_21 509 = some (ad 509, .inl (G.2 1, 4, .inr (.inl (fun k => lN (wn k))))) := by rw [hM_21, xu_n (by omega)]; exact hm509
                                    have hm510 : M_21 510 = some (ad 510, .inl (G.2 0, 700, .inl (fun k => nI ((va_up s1 at9 (i + 1)) k)))) := by rw [hM_21, xu_n (by omega)]; exact hm510
                                    have hm511 : M_21 511 = some (ad 511, .inl (G.2 0, 700, .inl (fun k => nI ((va_up s2 at9 (j + 1)) k)))) := by rw [hM_21, xu_n (by omega)]; exact hm511
                                    have hm512 : M_21 512 = some (ad 512, .inl (G.2 1, 700, .inr (.inl (fun k => lN ((va_up s3 at9 (mU mT mK mC mD mF mO wn (i + 1) (j + 1))) k))))) := by rw [hM_21, xu_n (by omega)]; exact hm512
                                    have hm513 : M_21 513 = some (ad 513, .inl (G.2 1, 700, .inr (.inl (fun k => lN ((va_up s4 at9 (mDn mT mK mC mD wn (i + 1) (j + 1))) k))))) := by rw [hM_21, xu_n (by omega)]; exact hm513
                                    have hm514 : M_21 514 = some (ad 514, .inl (G.2 0, 101, .inl (fun k => nI (jA k)))) := by rw [hM_21, xu_n (by omega)]; exact hm514
                                    have hm515 : M_21 515 = some (ad 515, .inl (G.2 0, 101, .inl (fun k => nI (jB k)))) := by rw [hM_21, xu_n (by omega)]; exact hm515
                                    have hm516 : M_21 516 = some (ad 516, .inl (G.2 0, 700, .inl (fun k => nI (mx k)))) := by rw [hM_21, xu_n (by omega)]; exact hm516
                                    have hm500 : M_21 500 = some (ad 500, .inr (7, [.int (nI 0), .int (nI nc), .ref (ad 501), .ref (ad 502), .ref (ad 503), .ref (ad 504), .ref (ad 505), .ref (ad 506), .ref (ad 507), .ref (ad 508), .ref (ad 509), .int (nI 1), .int (nI (cn8 + 1)), .ref (ad 510), .ref (ad 511), .ref (ad 512), .ref (ad 513), .int (nI jc), .ref (ad 514), .ref (ad 515), .ref (ad 516), .long (lN (mU mT mK mC mD mF mO wn (i + 1) (j + 1))), .long (lN (mDn mT mK mC mD wn (i + 1) (j + 1)))])) := by rw [hM_21]; exact xu_s
                                    have hud := hUD i j (by omega) (by omega) hC
                                    have hRn : xMod G M_21 ad (nI 0) nc mS mT mK mC mD mF mO mP wn (nI 1) (cn8 + 1) (va_up s1 at9 (i + 1)) (va_up s2 at9 (j + 1)) (va_up s3 at9 (mU mT mK mC mD mF mO wn (i + 1) (j + 1))) (va_up s4 at9 (mDn mT mK mC mD wn (i + 1) (j + 1))) jc jA jB mx (lN (mU mT mK mC mD mF mO wn (i + 1) (j + 1))) (lN (mDn mT mK mC mD wn (i + 1) (j + 1))) := ⟨hm500, hm501, hm502, hm503, hm504, hm505, hm506, hm507, hm508, hm509, hm510, hm511, hm512, hm513, hm514, hm515, hm516⟩
                                    have hfn : ∀ t, t < 500 ∨ 516 < t → M_21 t = M t := fun t ht => by rw [hM_21, xu_n (by omega), hM_20, xu_n (by omega), hM_19, xu_n (by omega), hM_18, xu_n (by omega), hM_17, xu_n (by omega), hM9_3, xu_n (by omega), xu_n (by omega), xu_n (by omega), xu_n (by omega)]; exact hfk t ht
                                    have hpn : mRep (cn8 + 1) (insF pm8 at9 cn8) (va_up zs8 cn8 (i + 1)) (va_up os8 cn8 (j + 1)) (va_up ab8 cn8 (mU mT mK mC mD mF mO wn (i + 1) (j + 1))) (va_up bl8 cn8 (mDn mT mK mC mD wn (i + 1) (j + 1))) (va_up s1 at9 (i + 1)) (va_up s2 at9 (j + 1)) (va_up s3 at9 (mU mT mK mC mD mF mO wn (i + 1) (j + 1))) (va_up s4 at9 (mDn mT mK mC mD wn (i + 1) (j + 1))) := ins_rep hat hp92 (by omega) (fun k hk => (hps8 k hk).1) hgt hst (sh_end hs1.1 hs1.2) (sh_end hs2.1 hs2.2) (sh_end hs3.1 hs3.2) (sh_end hs4.1 hs4.2)
                                    refine lv_iinc (v := nI ((j + 1) + 1)) (lv' := [(2, .int (nI ((j + 1) + 1))), (3, .int (nI at9)), (1, .int (nI (i + 1))), (0, .ref (ad 500))]) hx hb dX5_run_266 hl (k := 1) rfl (show nI (j + 1) + Int32.ofInt 1 = _ from nI_add _ 1) (by decide) rfl (fun ls hl => ?_)
                                    refine lv_goto (tgt := 27) hx hb dX5_run_269 (by decide) ?_
                                    exact ih_2 (j + 1) M_21 (cn8 + 1) (va_up zs8 cn8 (i + 1)) (va_up os8 cn8 (j + 1)) (va_up ab8 cn8 (mU mT mK mC mD mF mO wn (i + 1) (j + 1))) (va_up bl8 cn8 (mDn mT mK mC mD wn (i + 1) (j + 1))) (va_up od8 cn8 cn8) (va_up (va_up pr8 (i + 1) 1) (j + 1) 1) (insF pm8 at9 cn8) (va_up s1 at9 (i + 1)) (va_up s2 at9 (j + 1)) (va_up s3 at9 (mU mT mK mC mD mF mO wn (i + 1) (j + 1))) (va_up s4 at9 (mDn mT mK mC mD wn (i + 1) (j + 1))) (lN (mU mT mK mC mD mF mO wn (i + 1) (j + 1))) (lN (mDn mT mK mC mD wn (i + 1) (j + 1))) _ _ ls (by omega) (by omega) hRn (by show _ = cStep _ _ _ i j _; rw [cStep_t hC, ← hL92, ← hud.1, ← hud.2]; rfl) hpn hfn hX hS (lv_sub hl [0, 2, 3] rfl)
                                  · have c_16 : ¬ (at9 ≤ 0) := fun q => c_16 ((nI_leI (a := at9) (b := 0) (by omega) (by omega)).mpr q)
                                    have hb1 := hnb (at9 - 1) (by omega)
                                    have es1 := hs1.1 (at9 - 1) (by omega)
                                    have es2 := hs2.1 (at9 - 1) (by omega)
                                    have es3 := hs3.1 (at9 - 1) (by omega)
                                    have es4 := hs4.1 (at9 - 1) (by omega)
                                    have hx1 := x_mulb hbU hb1.2.2.2
                                    have hx2 := x_mulb hb1.2.2.1 hbD
                                    rw [← es3] at hx2
                                    rw [← es4] at hx1
                                    refine lv_aload_n hx hb dX5_run_130 rfl (lv_at hl 3 rfl) ?_
                                    refine x_get (ci := 7) (v := .long (lN (mU mT mK mC mD mF mO wn (i + 1) (j + 1)))) (C := RX5) (T := TX5) (N := 23) hx hb hts inX5 hown hK hX hm500 rfl 21 (by decide) lk_fieldLink_81 (fun _ h9 => h9) rfl dX5_run_131 ?_
                                    refine lv_aload_n hx hb dX5_run_134 rfl (lv_at hl 3 rfl) ?_
                                    refine x_get (ci := 7) (v := .ref (ad 513)) (C := RX5) (T := TX5) (N := 23) hx hb hts inX5 hown hK hX hm500 rfl 16 (by decide) lk_fieldLink_50 (fun _ h9 => h9) rfl dX5_run_135 ?_
                                    refine lv_iload_n hx hb dX5_run_138 rfl (lv_at hl 0 rfl) ?_
                                    refine lv_iconst (v := nI 1) hx hb dX5_run_139 (by decide) ?_
                                    refine lv_isub hx hb dX5_run_140 ?_
                                    refine x_ri (y := nI (at9 - 1)) (pk_sub (by omega)) ?_
                                    refine x_lN hx hb hK hX hm513 (by omega) (by decide) dX5_run_141 ?_
                                    refine lv_lmul hx hb dX5_run_142 ?_
                                    refine x_rl (y := lN ((mU mT mK mC mD mF mO wn (i + 1) (j + 1)) * (s4 (at9 - 1)))) (lN_mul _ _) ?_
                                    refine lv_aload_n hx hb dX5_run_143 rfl (lv_at hl 3 rfl) ?_
                                    refine x_get (ci := 7) (v := .ref (ad 512)) (C := RX5) (T := TX5) (N := 23) hx hb hts inX5 hown hK hX hm500 rfl 15 (by decide) lk_fieldLink_47 (fun _ h9 => h9) rfl dX5_run_144 ?_
                                    refine lv_iload_n hx hb dX5_run_147 rfl (lv_at hl 0 rfl) ?_
                                    refine lv_iconst (v := nI 1) hx hb dX5_run_148 (by decide) ?_
                                    refine lv_isub hx hb dX5_run_149 ?_
                                    refine x_ri (y := nI (at9 - 1)) (pk_sub (by omega)) ?_
                                    refine x_lN hx hb hK hX hm512 (by omega) (by decide) dX5_run_150 ?_
                                    refine lv_aload_n hx hb dX5_run_151 rfl (lv_at hl 3 rfl) ?_
                                    refine x_get (ci := 7) (v := .long (lN (mDn mT mK mC mD wn (i + 1) (j + 1)))) (C := RX5) (T := TX5) (N := 23) hx hb hts inX5 hown hK hX hm500 rfl 22 (by decide) lk_fieldLink_85 (fun _ h9 => h9) rfl dX5_run_152 ?_
                                    refine lv_lmul hx hb dX5_run_155 ?_
                                    refine x_rl (y := lN ((s3 (at9 - 1)) * (mDn mT mK mC mD wn (i + 1) (j + 1)))) (lN_mul _ _) ?_
                                    refine W.lcmp hx hb dX5_run_156 ?_
                                    refine x_lc_le (tgt := 222) hx hb dX5_run_157 (by decide) (fun c_22 => ?_) (fun c_22 => ?_)
                                    · have c_22 : ((mU mT mK mC mD mF mO wn (i + 1) (j + 1)) * (s4 (at9 - 1))) ≤ ((s3 (at9 - 1)) * (mDn mT mK mC mD wn (i + 1) (j + 1))) := (pk_lLE (by omega) (by omega)).mp c_22
                                      have hgn : ¬ (n3b (at9 - 1) * (mDn mT mK mC mD wn (i + 1) (j + 1)) < (mU mT mK mC mD mF mO wn (i + 1) (j + 1)) * n4b (at9 - 1)) := by rw [← es3, ← es4]; omega
                                      have hst : at9 = 0 ∨ ¬ (n3b (at9 - 1) * (mDn mT mK mC mD wn (i + 1) (j + 1)) < (mU mT mK mC mD mF mO wn (i + 1) (j + 1)) * n4b (at9 - 1)) := Or.inr hgn
                                      refine lv_aload_n hx hb dX5_run_222 rfl (lv_at hl 3 rfl) ?_
                                      refine x_get (ci := 7) (v := .ref (ad 510)) (C := RX5) (T := TX5) (N := 23) hx hb hts inX5 hown hK hX hm500 rfl 13 (by decide) lk_fieldLink_41 (fun _ h9 => h9) rfl dX5_run_223 ?_
                                      refine lv_iload_n hx hb dX5_run_226 rfl (lv_at hl 0 rfl) ?_
                                      refine lv_iload_n hx hb dX5_run_227 rfl (lv_at hl 2 rfl) ?_
                                      refine x_isN hx hb hK hX hS hm510 (by omega) (by decide) dX5_run_228 (fun H locs hX hS => ?_)
                                      rw [upd_n] at hX
                                      obtain ⟨M_23, hM_23⟩ : ∃ zM : xM, zM = xu M9_3 510 (ad 510, .inl (G.2 0, 700, .inl (fun k => nI ((va_up s1 at9 (i + 1)) k)))) := ⟨_, rfl⟩
                                      have hX : xw G.1 vwCl A M_23 H := by rw [hM_23]; exact hX
                                      have hm500 : M_23 500 = some (ad 500, .inr (7, [.int (nI 0), .int (nI nc), .ref (ad 501), .ref (ad 502), .ref (ad 503), .ref (ad 504), .ref (ad 505), .ref (ad 506), .ref (ad 507), .ref (ad 508), .ref (ad 509), .int (nI 1), .int (nI cn8), .ref (ad 510), .ref (ad 511), .ref (ad 512), .ref (ad 513), .int (nI jc), .ref (ad 514), .ref (ad 515), .ref (ad 516), .long (lN (mU mT mK mC mD mF mO wn (i + 1) (j + 1))), .long (lN (mDn mT mK mC mD wn (i + 1) (j + 1)))])) := by rw [hM_23, xu_n (by omega)]; exact hm500
                                      have hm501 : M_23 501 = some (ad 501, .inl (G.2 0, 51, .inl mS)) := by rw [hM_23, xu_n (by omega)]; exact hm501
                                      have hm502 : M_23 502 = some (ad 502, .inl (G.2 0, 408, .inl mT)) := by rw [hM_23, xu_n (by omega)]; exact hm502
                                      have hm503 : M_23 503 = some (ad 503, .inl (G.2 0, 408, .inl mK)) := by rw [hM_23, xu_n (by omega)]; exact hm503
                                      have hm504 : M_23 504 = some (ad 504, .inl (G.2 0, 51, .inl (fun k => nI (mC k)))) := by rw [hM_23, xu_n (by omega)]; exact hm504
                                      have hm505 : M_23 505 = some (ad 505, .inl (G.2 2, 51, .inl mD)) := by rw [hM_23, xu_n (by omega)]; exact hm505
                                      have hm506 : M_23 506 = some (ad 506, .inl (G.2 1, 51, .inr (.inl mF))) := by rw [hM_23, xu_n (by omega)]; exact hm506
                                      have hm507 : M_23 507 = some (ad 507, .inl (G.2 1, 51, .inr (.inl mO))) := by rw [hM_23, xu_n (by omega)]; exact hm507
                                      have hm508 : M_23 508 = some (ad 508, .inl (G.2 0, 51, .inl (fun k => nI (mP k)))) := by rw [hM_23, xu_n (by omega)]; exact hm508
                                      have hm509 : M_23 509 = some (ad 509, .inl (G.2 1, 4, .inr (.inl (fun k => lN (wn k))))) := by rw [hM_23, xu_n (by omega)]; exact hm509
                                      have hm511 : M_23 511 = some (ad 511, .inl (G.2 0, 700, .inl (fun k => nI (s2 k)))) := by rw [hM_23, xu_n (by omega)]; exact hm511
                                      have hm512 : M_23 512 = some (ad 512, .inl (G.2 1, 700, .inr (.inl (fun k => lN (s3 k))))) := by rw [hM_23, xu_n (by omega)]; exact hm512
                                      have hm513 : M_23 513 = some (ad 513, .inl (G.2 1, 700, .inr (.inl (fun k => lN (s4 k))))) := by rw [hM_23, xu_n (by omega)]; exact hm513
                                      have hm514 : M_23 514 = some (ad 514, .inl (G.2 0, 101, .inl (fun k => nI (jA k)))) := by rw [hM_23, xu_n (by omega)]; exact hm514
                                      have hm515 : M_23 515 = some (ad 515, .inl (G.2 0, 101, .inl (fun k => nI (jB k)))) := by rw [hM_23, xu_n (by omega)]; exact hm515
                                      have hm516 : M_23 516 = some (ad 516, .inl (G.2 0, 700, .inl (fun k => nI (mx k)))) := by rw [hM_23, xu_n (by omega)]; exact hm516
                                      have hm510 : M_23 510 = some (ad 510, .inl (G.2 0, 700, .inl (fun k => nI ((va_up s1 at9 (i + 1)) k)))) := by rw [hM_23]; exact xu_s
                                      refine lv_aload_n hx hb dX5_run_229 rfl (lv_at hl 3 rfl) ?_
                                      refine x_get (ci := 7) (v := .ref (ad 511)) (C := RX5) (T := TX5) (N := 23) hx hb hts inX5 hown hK hX hm500 rfl 14 (by decide) lk_fieldLink_44 (fun _ h9 => h9) rfl dX5_run_230 ?_
                                      refine lv_iload_n hx hb dX5_run_233 rfl (lv_at hl 0 rfl) ?_
                                      refine lv_iload_n hx hb dX5_run_234 rfl (lv_at hl 1 rfl) ?_
                                      refine x_isN hx hb hK hX hS hm511 (by omega) (by decide) dX5_run_235 (fun H locs hX hS => ?_)
                                      rw [upd_n] at hX
                                      obtain ⟨M_24, hM_24⟩ : ∃ zM : xM, zM = xu M_23 511 (ad 511, .inl (G.2 0, 700, .inl (fun k => nI ((va_up s2 at9 (j + 1)) k)))) := ⟨_, rfl⟩
                                      have hX : xw G.1 vwCl A M_24 H := by rw [hM_24]; exact hX
                                      have hm500 : M_24 500 = some (ad 500, .inr (7, [.int (nI 0), .int (nI nc), .ref (ad 501), .ref (ad 502), .ref (ad 503), .ref (ad 504), .ref (ad 505), .ref (ad 506), .ref (ad 507), .ref (ad 508), .ref (ad 509), .int (nI 1), .int (nI cn8), .ref (ad 510), .ref (ad 511), .ref (ad 512), .ref (ad 513), .int (nI jc), .ref (ad 514), .ref (ad 515), .ref (ad 516), .long (lN (mU mT mK mC mD mF mO wn (i + 1) (j + 1))), .long (lN (mDn mT mK mC mD wn (i + 1) (j + 1)))])) := by rw [hM_24, xu_n (by omega)]; exact hm500
                                      have hm501 : M_24 501 = some (ad 501, .inl (G.2 0, 51, .inl mS)) := by rw [hM_24, xu_n (by omega)]; exact hm501
                                      have hm502 : M_24 502 = some (ad 502, .inl (G.2 0, 408, .inl mT)) := by rw [hM_24, xu_n (by omega)]; exact hm502
                                      have hm503 : M_24 503 = some (ad 503, .inl (G.2 0, 408, .inl mK)) := by rw [hM_24, xu_n (by omega)]; exact hm503
                                      have hm504 : M_24 504 = some (ad 504, .inl (G.2 0, 51, .inl (fun k => nI (mC k)))) := by rw [hM_24, xu_n (by omega)]; exact hm504
                                      have hm505 : M_24 505 = some (ad 505, .inl (G.2 2, 51, .inl mD)) := by rw [hM_24, xu_n (by omega)]; exact hm505
                                      have hm506 : M_24 506 = some (ad 506, .inl (G.2 1, 51, .inr (.inl mF))) := by rw [hM_24, xu_n (by omega)]; exact hm506
                                      have hm507 : M_24 507 = some (ad 507, .inl (G.2 1, 51, .inr (.inl mO))) := by rw [hM_24, xu_n (by omega)]; exact hm507
                                      have hm508 : M_24 508 = some (ad 508, .inl (G.2 0, 51, .inl (fun k => nI (mP k)))) := by rw [hM_24, xu_n (by omega)]; exact hm508
                                      have hm509 : M_24 509 = some (ad 509, .inl (G.2 1, 4, .inr (.inl (fun k => lN (wn k))))) := by rw [hM_24, xu_n (by omega)]; exact hm509
                                      have hm510 : M_24 510 = some (ad 510, .inl (G.2 0, 700, .inl (fun k => nI ((va_up s1 at9 (i + 1)) k)))) := by rw [hM_24, xu_n (by omega)]; exact hm510
                                      have hm512 : M_24 512 = some (ad 512, .inl (G.2 1, 700, .inr (.inl (fun k => lN (s3 k))))) := by rw [hM_24, xu_n (by omega)]; exact hm512
                                      have hm513 : M_24 513 = some (ad 513, .inl (G.2 1, 700, .inr (.inl (fun k => lN (s4 k))))) := by rw [hM_24, xu_n (by omega)]; exact hm513
                                      have hm514 : M_24 514 = some (ad 514, .inl (G.2 0, 101, .inl (fun k => nI (jA k)))) := by rw [hM_24, xu_n (by omega)]; exact hm514
                                      have hm515 : M_24 515 = some (ad 515, .inl (G.2 0, 101, .inl (fun k => nI (jB k)))) := by rw [hM_24, xu_n (by omega)]; exact hm515
                                      have hm516 : M_24 516 = some (ad 516, .inl (G.2 0, 700, .inl (fun k => nI (mx k)))) := by rw [hM_24, xu_n (by omega)]; exact hm516
                                      have hm511 : M_24 511 = some (ad 511, .inl (G.2 0, 700, .inl (fun k => nI ((va_up s2 at9 (j + 1)) k)))) := by rw [hM_24]; exact xu_s
                                      refine lv_aload_n hx hb dX5_run_236 rfl (lv_at hl 3 rfl) ?_
                                      refine x_get (ci := 7) (v := .ref (ad 512)) (C := RX5) (T := TX5) (N := 23) hx hb hts inX5 hown hK hX hm500 rfl 15 (by decide) lk_fieldLink_47 (fun _ h9 => h9) rfl dX5_run_237 ?_
                                      refine lv_iload_n hx hb dX5_run_240 rfl (lv_at hl 0 rfl) ?_
                                      refine lv_aload_n hx hb dX5_run_241 rfl (lv_at hl 3 rfl) ?_
                                      refine x_get (ci := 7) (v := .long (lN (mU mT mK mC mD mF mO wn (i + 1) (j + 1)))) (C := RX5) (T := TX5) (N := 23) hx hb hts inX5 hown hK hX hm500 rfl 21 (by decide) lk_fieldLink_81 (fun _ h9 => h9) rfl dX5_run_242 ?_
                                      refine x_lsN hx hb hK hX hS hm512 (by omega) (by decide) dX5_run_245 (fun H locs hX hS => ?_)
                                      rw [updL_n] at hX
                                      obtain ⟨M_25, hM_25⟩ : ∃ zM : xM, zM = xu M_24 512 (ad 512, .inl (G.2 1, 700, .inr (.inl (fun k => lN ((va_up s3 at9 (mU mT mK mC mD mF mO wn (i + 1) (j + 1))) k))))) := ⟨_, rfl⟩
                                      have hX : xw G.1 vwCl A M_25 H := by rw [hM_25]; exact hX
                                      have hm500 : M_25 500 = some (ad 500, .inr (7, [.int (nI 0), .int (nI nc), .ref (ad 501), .ref (ad 502), .ref (ad 503), .ref (ad 504), .ref (ad 505), .ref (ad 506), .ref (ad 507), .ref (ad 508), .ref (ad 509), .int (nI 1), .int (nI cn8), .ref (ad 510), .ref (ad 511), .ref (ad 512), .ref (ad 513), .int (nI jc), .ref (ad 514), .ref (ad 515), .ref (ad 516), .long (lN (mU mT mK mC mD mF mO wn (i + 1) (j + 1))), .long (lN (mDn mT mK mC mD wn (i + 1) (j + 1)))])) := by rw [hM_25, xu_n (by omega)]; exact hm500
                                      have hm501 : M_25 501 = some (ad 501, .inl (G.2 0, 51, .inl mS)) := by rw [hM_25, xu_n (by omega)]; exact hm501
                                      have hm502 : M_25 502 = some (ad 502, .inl (G.2 0, 408, .inl mT)) := by rw [hM_25, xu_n (by omega)]; exact hm502
                                      have hm503 : M_25 503 = some (ad 503, .inl (G.2 0, 408, .inl mK)) := by rw [hM_25, xu_n (by omega)]; exact hm503
                                      have hm504 : M_25 504 = some (ad 504, .inl (G.2 0, 51, .inl (fun k => nI (mC k)))) := by rw [hM_25, xu_n (by omega)]; exact hm504
                                      have hm505 : M_25 505 = some (ad 505, .inl (G.2 2, 51, .inl mD)) := by rw [hM_25, xu_n (by omega)]; exact hm505
                                      have hm506 : M_25 506 = some (ad 506, .inl (G.2 1, 51, .inr (.inl mF))) := by rw [hM_25, xu_n (by omega)]; exact hm506
                                      have hm507 : M_25 507 = some (ad 507, .inl (G.2 1, 51, .inr (.inl mO))) := by rw [hM_25, xu_n (by omega)]; exact hm507
                                      have hm508 : M_25 508 = some (ad 508, .inl (G.2 0, 51, .inl (fun k => nI (mP k)))) := by rw [hM_25, xu_n (by omega)]; exact hm508
                                      have hm509 : M_25 509 = some (ad 509, .inl (G.2 1, 4, .inr (.inl (fun k => lN (wn k))))) := by rw [hM_25, xu_n (by omega)]; exact hm509
                                      have hm510 : M_25 510 = some (ad 510, .inl (G.2 0, 700, .inl (fun k => nI ((va_up s1 at9 (i + 1)) k)))) := by rw [hM_25, xu_n (by omega)]; exact hm510
                                      have hm511 : M_25 511 = some (ad 511, .inl (G.2 0, 700, .inl (fun k => nI ((va_up s2 at9 (j + 1)) k)))) := by rw [hM_25, xu_n (by omega)]; exact hm511
                                      have hm513 : M_25 513 = some (ad 513, .inl (G.2 1, 700, .inr (.inl (fun k => lN (s4 k))))) := by rw [hM_25, xu_n (by omega)]; exact hm513
                                      have hm514 : M_25 514 = some (ad 514, .inl (G.2 0, 101, .inl (fun k => nI (jA k)))) := by rw [hM_25, xu_n (by omega)]; exact hm514
                                      have hm515 : M_25 515 = some (ad 515, .inl (G.2 0, 101, .inl (fun k => nI (jB k)))) := by rw [hM_25, xu_n (by omega)]; exact hm515
                                      have hm516 : M_25 516 = some (ad 516, .inl (G.2 0, 700, .inl (fun k => nI (mx k)))) := by rw [hM_25, xu_n (by omega)]; exact hm516
                                      have hm512 : M_25 512 = some (ad 512, .inl (G.2 1, 700, .inr (.inl (fun k => lN ((va_up s3 at9 (mU mT mK mC mD mF mO wn (i + 1) (j + 1))) k))))) := by rw [hM_25]; exact xu_s
                                      refine lv_aload_n hx hb dX5_run_246 rfl (lv_at hl 3 rfl) ?_
                                      refine x_get (ci := 7) (v := .ref (ad 513)) (C := RX5) (T := TX5) (N := 23) hx hb hts inX5 hown hK hX hm500 rfl 16 (by decide) lk_fieldLink_50 (fun _ h9 => h9) rfl dX5_run_247 ?_
                                      refine lv_iload_n hx hb dX5_run_250 rfl (lv_at hl 0 rfl) ?_
                                      refine lv_aload_n hx hb dX5_run_251 rfl (lv_at hl 3 rfl) ?_
                                      refine x_get (ci := 7) (v := .long (lN (mDn mT mK mC mD wn (i + 1) (j + 1)))) (C := RX5) (T := TX5) (N := 23) hx hb hts inX5 hown hK hX hm500 rfl 22 (by decide) lk_fieldLink_85 (fun _ h9 => h9) rfl dX5_run_252 ?_
                                      refine x_lsN hx hb hK hX hS hm513 (by omega) (by decide) dX5_run_255 (fun H locs hX hS => ?_)
                                      rw [updL_n] at hX
                                      obtain ⟨M_26, hM_26⟩ : ∃ zM : xM, zM = xu M_25 513 (ad 513, .inl (G.2 1, 700, .inr (.inl (fun k => lN ((va_up s4 at9 (mDn mT mK mC mD wn (i + 1) (j + 1))) k))))) := ⟨_, rfl⟩
                                      have hX : xw G.1 vwCl A M_26 H := by rw [hM_26]; exact hX
                                      have hm500 : M_26 500 = some (ad 500, .inr (7, [.int (nI 0), .int (nI nc), .ref (ad 501), .ref (ad 502), .ref (ad 503), .ref (ad 504), .ref (ad 505), .ref (ad 506), .ref (ad 507), .ref (ad 508), .ref (ad 509), .int (nI 1), .int (nI cn8), .ref (ad 510), .ref (ad 511), .ref (ad 512), .ref (ad 513), .int (nI jc), .ref (ad 514), .ref (ad 515), .ref (ad 516), .long (lN (mU mT mK mC mD mF mO wn (i + 1) (j + 1))), .long (lN (mDn mT mK mC mD wn (i + 1) (j + 1)))])) := by rw [hM_26, xu_n (by omega)]; exact hm500
                                      have hm501 : M_26 501 = some (ad 501, .inl (G.2 0, 51, .inl mS)) := by rw [hM_26, xu_n (by omega)]; exact hm501
                                      have hm502 : M_26 502 = some (ad 502, .inl (G.2 0, 408, .inl mT)) := by rw [hM_26, xu_n (by omega)]; exact hm502
                                      have hm503 : M_26 503 = some (ad 503, .inl (G.2 0, 408, .inl mK)) := by rw [hM_26, xu_n (by omega)]; exact hm503
                                      have hm504 : M_26 504 = some (ad 504, .inl (G.2 0, 51, .inl (fun k => nI (mC k)))) := by rw [hM_26, xu_n (by omega)]; exact hm504
                                      have hm505 : M_26 505 = some (ad 505, .inl (G.2 2, 51, .inl mD)) := by rw [hM_26, xu_n (by omega)]; exact hm505
                                      have hm506 : M_26 506 = some (ad 506, .inl (G.2 1, 51, .inr (.inl mF))) := by rw [hM_26, xu_n (by omega)]; exact hm506
                                      have hm507 : M_26 507 = some (ad 507, .inl (G.2 1, 51, .inr (.inl mO))) := by rw [hM_26, xu_n (by omega)]; exact hm507
                                      have hm508 : M_26 508 = some (ad 508, .inl (G.2 0, 51, .inl (fun k => nI (mP k)))) := by rw [hM_26, xu_n (by omega)]; exact hm508
                                      have hm509 : M_26 509 = some (ad 509, .inl (G.2 1, 4, .inr (.inl (fun k => lN (wn k))))) := by rw [hM_26, xu_n (by omega)]; exact hm509
                                      have hm510 : M_26 510 = some (ad 510, .inl (G.2 0, 700, .inl (fun k => nI ((va_up s1 at9 (i + 1)) k)))) := by rw [hM_26, xu_n (by omega)]; exact hm510
                                      have hm511 : M_26 511 = some (ad 511, .inl (G.2 0, 700, .inl (fun k => nI ((va_up s2 at9 (j + 1)) k)))) := by rw [hM_26, xu_n (by omega)]; exact hm511
                                      have hm512 : M_26 512 = some (ad 512, .inl (G.2 1, 700, .inr (.inl (fun k => lN ((va_up s3 at9 (mU mT mK mC mD mF mO wn (i + 1) (j + 1))) k))))) := by rw [hM_26, xu_n (by omega)]; exact hm512
                                      have hm514 : M_26 514 = some (ad 514, .inl (G.2 0, 101, .inl (fun k => nI (jA k)))) := by rw [hM_26, xu_n (by omega)]; exact hm514
                                      have hm515 : M_26 515 = some (ad 515, .inl (G.2 0, 101, .inl (fun k => nI (jB k)))) := by rw [hM_26, xu_n (by omega)]; exact hm515
                                      have hm516 : M_26 516 = some (ad 516, .inl (G.2 0, 700, .inl (fun k => nI (mx k)))) := by rw [hM_26, xu_n (by omega)]; exact hm516
                                      have hm513 : M_26 513 = some (ad 513, .inl (G.2 1, 700, .inr (.inl (fun k => lN ((va_up s4 at9 (mDn mT mK mC mD wn (i + 1) (j + 1))) k))))) := by rw [hM_26]; exact xu_s
                                      refine lv_aload_n hx hb dX5_run_256 rfl (lv_at hl 3 rfl) ?_
                                      refine lv_dup hx hb dX5_run_257 rfl ?_
                                      refine x_get (ci := 7) (v := .int (nI cn8)) (C := RX5) (T := TX5) (N := 23) hx hb hts inX5 hown hK hX hm500 rfl 12 (by decide) lk_fieldLink_92 (fun _ h9 => h9) rfl dX5_run_258 ?_
                                      refine lv_iconst (v := nI 1) hx hb dX5_run_261 (by decide) ?_
                                      refine lv_iadd hx hb dX5_run_262 ?_
                                      refine x_ri (y := nI (cn8 + 1)) (nI_add _ _) ?_
                                      refine x_put (ci := 7) (v := .int (nI (cn8 + 1))) (C := RX5) (T := TX5) (N := 23) hx hb hts inX5 tyX5 tyX5_ok nmX5 hown hK hX hS hm500 rfl 12 (by decide) lk_fieldLink_92 (fun _ h9 => h9) rfl (tyX5_ok 12 (by decide)) rfl rfl (Nat.le_of_ble_eq_true rfl) dX5_run_263 (fun H locs hX hS => ?_)
                                      obtain ⟨M_27, hM_27⟩ : ∃ zM : xM, zM = xu M_26 500 (ad 500, .inr (7, [.int (nI 0), .int (nI nc), .ref (ad 501), .ref (ad 502), .ref (ad 503), .ref (ad 504), .ref (ad 505), .ref (ad 506), .ref (ad 507), .ref (ad 508), .ref (ad 509), .int (nI 1), .int (nI (cn8 + 1)), .ref (ad 510), .ref (ad 511), .ref (ad 512), .ref (ad 513), .int (nI jc), .ref (ad 514), .ref (ad 515), .ref (ad 516), .long (lN (mU mT mK mC mD mF mO wn (i + 1) (j + 1))), .long (lN (mDn mT mK mC mD wn (i + 1) (j + 1)))])) := ⟨_, rfl⟩
                                      have hX : xw G.1 vwCl A M_27 H := by rw [hM_27]; exact hX
                                      have hm501 : M_27 501 = some (ad 501, .inl (G.2 0, 51, .inl mS)) := by rw [hM_27, xu_n (by omega)]; exact hm501
                                      have hm502 : M_27 502 = some (ad 502, .inl (G.2 0, 408, .inl mT)) := by rw [hM_27, xu_n (by omega)]; exact hm502
                                      have hm503 : M_27 503 = some (ad 503, .inl (G.2 0, 408, .inl mK)) := by rw [hM_27, xu_n (by omega)]; exact hm503
                                      have hm504 : M_27 504 = some (ad 504, .inl (G.2 0, 51, .inl (fun k => nI (mC k)))) := by rw [hM_27, xu_n (by omega)]; exact hm504
                                      have hm505 : M_27 505 = some (ad 505, .inl (G.2 2, 51, .inl mD)) := by rw [hM_27, xu_n (by omega)]; exact hm505
                                      have hm506 : M_27 506 = some (ad 506, .inl (G.2 1, 51, .inr (.inl mF))) := by rw [hM_27, xu_n (by omega)]; exact hm506
                                      have hm507 : M_27 507 = some (ad 507, .inl (G.2 1, 51, .inr (.inl mO))) := by rw [hM_27, xu_n (by omega)]; exact hm507
                                      have hm508 : M_27 508 = some (ad 508, .inl (G.2 0, 51, .inl (fun k => nI (mP k)))) := by rw [hM_27, xu_n (by omega)]; exact hm508
                                      have hm509 : M_27 509 = some (ad 509, .inl (G.2 1, 4, .inr (.inl (fun k => lN (wn k))))) := by rw [hM_27, xu_n (by omega)]; exact hm509
                                      have hm510 : M_27 510 = some (ad 510, .inl (G.2 0, 700, .inl (fun k => nI ((va_up s1 at9 (i + 1)) k)))) := by rw [hM_27, xu_n (by omega)]; exact hm510
                                      have hm511 : M_27 511 = some (ad 511, .inl (G.2 0, 700, .inl (fun k => nI ((va_up s2 at9 (j + 1)) k)))) := by rw [hM_27, xu_n (by omega)]; exact hm511
                                      have hm512 : M_27 512 = some (ad 512, .inl (G.2 1, 700, .inr (.inl (fun k => lN ((va_up s3 at9 (mU mT mK mC mD mF mO wn (i + 1) (j + 1))) k))))) := by rw [hM_27, xu_n (by omega)]; exact hm512
                                      have hm513 : M_27 513 = some (ad 513, .inl (G.2 1, 700, .inr (.inl (fun k => lN ((va_up s4 at9 (mDn mT mK mC mD wn (i + 1) (j + 1))) k))))) := by rw [hM_27, xu_n (by omega)]; exact hm513
                                      have hm514 : M_27 514 = some (ad 514, .inl (G.2 0, 101, .inl (fun k => nI (jA k)))) := by rw [hM_27, xu_n (by omega)]; exact hm514
                                      have hm515 : M_27 515 = some (ad 515, .inl (G.2 0, 101, .inl (fun k => nI (jB k)))) := by rw [hM_27, xu_n (by omega)]; exact hm515
                                      have hm516 : M_27 516 = some (ad 516, .inl (G.2 0, 700, .inl (fun k => nI (mx k)))) := by rw [hM_27, xu_n (by omega)]; exact hm516
                                      have hm500 : M_27 500 = some (ad 500, .inr (7, [.int (nI 0), .int (nI nc), .ref (ad 501), .ref (ad 502), .ref (ad 503), .ref (ad 504), .ref (ad 505), .ref (ad 506), .ref (ad 507), .ref (ad 508), .ref (ad 509), .int (nI 1), .int (nI (cn8 + 1)), .ref (ad 510), .ref (ad 511), .ref (ad 512), .ref (ad 513), .int (nI jc), .ref (ad 514), .ref (ad 515), .ref (ad 516), .long (lN (mU mT mK mC mD mF mO wn (i + 1) (j + 1))), .long (lN (mDn mT mK mC mD wn (i + 1) (j + 1)))])) := by rw [hM_27]; exact xu_s
                                      have hud := hUD i j (by omega) (by omega) hC
                                      have hRn : xMod G M_27 ad (nI 0) nc mS mT mK mC mD mF mO mP wn (nI 1) (cn8 + 1) (va_up s1 at9 (i + 1)) (va_up s2 at9 (j + 1)) (va_up s3 at9 (mU mT mK mC mD mF mO wn (i + 1) (j + 1))) (va_up s4 at9 (mDn mT mK mC mD wn (i + 1) (j + 1))) jc jA jB mx (lN (mU mT mK mC mD mF mO wn (i + 1) (j + 1))) (lN (mDn mT mK mC mD wn (i + 1) (j + 1))) := ⟨hm500, hm501, hm502, hm503, hm504, hm505, hm506, hm507, hm508, hm509, hm510, hm511, hm512, hm513, hm514, hm515, hm516⟩
                                      have hfn : ∀ t, t < 500 ∨ 516 < t → M_27 t = M t := fun t ht => by rw [hM_27, xu_n (by omega), hM_26, xu_n (by omega), hM_25, xu_n (by omega), hM_24, xu_n (by omega), hM_23, xu_n (by omega), hM9_3, xu_n (by omega), xu_n (by omega), xu_n (by omega), xu_n (by omega)]; exact hfk t ht
                                      have hpn : mRep (cn8 + 1) (insF pm8 at9 cn8) (va_up zs8 cn8 (i + 1)) (va_up os8 cn8 (j + 1)) (va_up ab8 cn8 (mU mT mK mC mD mF mO wn (i + 1) (j + 1))) (va_up bl8 cn8 (mDn mT mK mC mD wn (i + 1) (j + 1))) (va_up s1 at9 (i + 1)) (va_up s2 at9 (j + 1)) (va_up s3 at9 (mU mT mK mC mD mF mO wn (i + 1) (j + 1))) (va_up s4 at9 (mDn mT mK mC mD wn (i + 1) (j + 1))) := ins_rep hat hp92 (by omega) (fun k hk => (hps8 k hk).1) hgt hst (sh_end hs1.1 hs1.2) (sh_end hs2.1 hs2.2) (sh_end hs3.1 hs3.2) (sh_end hs4.1 hs4.2)
                                      refine lv_iinc (v := nI ((j + 1) + 1)) (lv' := [(2, .int (nI ((j + 1) + 1))), (3, .int (nI at9)), (1, .int (nI (i + 1))), (0, .ref (ad 500))]) hx hb dX5_run_266 hl (k := 1) rfl (show nI (j + 1) + Int32.ofInt 1 = _ from nI_add _ 1) (by decide) rfl (fun ls hl => ?_)
                                      refine lv_goto (tgt := 27) hx hb dX5_run_269 (by decide) ?_
                                      exact ih_2 (j + 1) M_27 (cn8 + 1) (va_up zs8 cn8 (i + 1)) (va_up os8 cn8 (j + 1)) (va_up ab8 cn8 (mU mT mK mC mD mF mO wn (i + 1) (j + 1))) (va_up bl8 cn8 (mDn mT mK mC mD wn (i + 1) (j + 1))) (va_up od8 cn8 cn8) (va_up (va_up pr8 (i + 1) 1) (j + 1) 1) (insF pm8 at9 cn8) (va_up s1 at9 (i + 1)) (va_up s2 at9 (j + 1)) (va_up s3 at9 (mU mT mK mC mD mF mO wn (i + 1) (j + 1))) (va_up s4 at9 (mDn mT mK mC mD wn (i + 1) (j + 1))) (lN (mU mT mK mC mD mF mO wn (i + 1) (j + 1))) (lN (mDn mT mK mC mD wn (i + 1) (j + 1))) _ _ ls (by omega) (by omega) hRn (by show _ = cStep _ _ _ i j _; rw [cStep_t hC, ← hL92, ← hud.1, ← hud.2]; rfl) hpn hfn hX hS (lv_sub hl [0, 2, 3] rfl)
                                    · have c_22 : ¬ (((mU mT mK mC mD mF mO wn (i + 1) (j + 1)) * (s4 (at9 - 1))) ≤ ((s3 (at9 - 1)) * (mDn mT mK mC mD wn (i + 1) (j + 1)))) := fun q => c_22 ((pk_lLE (by omega) (by omega)).mpr q)
                                      have hgn : n3b (at9 - 1) * (mDn mT mK mC mD wn (i + 1) (j + 1)) < (mU mT mK mC mD mF mO wn (i + 1) (j + 1)) * n4b (at9 - 1) := by rw [← es3, ← es4]; omega
                                      refine lv_aload_n hx hb dX5_run_160 rfl (lv_at hl 3 rfl) ?_
                                      refine x_get (ci := 7) (v := .ref (ad 510)) (C := RX5) (T := TX5) (N := 23) hx hb hts inX5 hown hK hX hm500 rfl 13 (by decide) lk_fieldLink_41 (fun _ h9 => h9) rfl dX5_run_161 ?_
                                      refine lv_iload_n hx hb dX5_run_164 rfl (lv_at hl 0 rfl) ?_
                                      refine lv_aload_n hx hb dX5_run_165 rfl (lv_at hl 3 rfl) ?_
                                      refine x_get (ci := 7) (v := .ref (ad 510)) (C := RX5) (T := TX5) (N := 23) hx hb hts inX5 hown hK hX hm500 rfl 13 (by decide) lk_fieldLink_41 (fun _ h9 => h9) rfl dX5_run_166 ?_
                                      refine lv_iload_n hx hb dX5_run_169 rfl (lv_at hl 0 rfl) ?_
                                      refine lv_iconst (v := nI 1) hx hb dX5_run_170 (by decide) ?_
                                      refine lv_isub hx hb dX5_run_171 ?_
                                      refine x_ri (y := nI (at9 - 1)) (pk_sub (by omega)) ?_
                                      refine x_iN hx hb hK hX hm510 (by omega) (by decide) dX5_run_172 ?_
                                      refine x_isN hx hb hK hX hS hm510 (by omega) (by decide) dX5_run_173 (fun H locs hX hS => ?_)
                                      rw [upd_n] at hX
                                      obtain ⟨M_28, hM_28⟩ : ∃ zM : xM, zM = xu M9_3 510 (ad 510, .inl (G.2 0, 700, .inl (fun k => nI ((va_up s1 at9 (s1 (at9 - 1))) k)))) := ⟨_, rfl⟩
                                      have hX : xw G.1 vwCl A M_28 H := by rw [hM_28]; exact hX
                                      have hm500 : M_28 500 = some (ad 500, .inr (7, [.int (nI 0), .int (nI nc), .ref (ad 501), .ref (ad 502), .ref (ad 503), .ref (ad 504), .ref (ad 505), .ref (ad 506), .ref (ad 507), .ref (ad 508), .ref (ad 509), .int (nI 1), .int (nI cn8), .ref (ad 510), .ref (ad 511), .ref (ad 512), .ref (ad 513), .int (nI jc), .ref (ad 514), .ref (ad 515), .ref (ad 516), .long (lN (mU mT mK mC mD mF mO wn (i + 1) (j + 1))), .long (lN (mDn mT mK mC mD wn (i + 1) (j + 1)))])) := by rw [hM_28, xu_n (by omega)]; exact hm500
                                      have hm501 : M_28 501 = some (ad 501, .inl (G.2 0, 51, .inl mS)) := by rw [hM_28, xu_n (by omega)]; exact hm501
                                      have hm502 : M_28 502 = some (ad 502, .inl (G.2 0, 408, .inl mT)) := by rw [hM_28, xu_n (by omega)]; exact hm502
                                      have hm503 : M_28 503 = some (ad 503, .inl (G.2 0, 408, .inl mK)) := by rw [hM_28, xu_n (by omega)]; exact hm503
                                      have hm504 : M_28 504 = some (ad 504, .inl (G.2 0, 51, .inl (fun k => nI (mC k)))) := by rw [hM_28, xu_n (by omega)]; exact hm504
                                      have hm505 : M_28 505 = some (ad 505, .inl (G.2 2, 51, .inl mD)) := by rw [hM_28, xu_n (by omega)]; exact hm505
                                      have hm506 : M_28 506 = some (ad 506, .inl (G.2 1, 51, .inr (.inl mF))) := by rw [hM_28, xu_n (by omega)]; exact hm506
                                      have hm507 : M_28 507 = some (ad 507, .inl (G.2 1, 51, .inr (.inl mO))) := by rw [hM_28, xu_n (by omega)]; exact hm507
                                      have hm508 : M_28 508 = some (ad 508, .inl (G.2 0, 51, .inl (fun k => nI (mP k)))) := by rw [hM_28, xu_n (by omega)]; exact hm508
                                      have hm509 : M_28 509 = some (ad 509, .inl (G.2 1, 4, .inr (.inl (fun k => lN (wn k))))) := by rw [hM_28, xu_n (by omega)]; exact hm509
                                      have hm511 : M_28 511 = some (ad 511, .inl (G.2 0, 700, .inl (fun k => nI (s2 k)))) := by rw [hM_28, xu_n (by omega)]; exact hm511
                                      have hm512 : M_28 512 = some (ad 512, .inl (G.2 1, 700, .inr (.inl (fun k => lN (s3 k))))) := by rw [hM_28, xu_n (by omega)]; exact hm512
                                      have hm513 : M_28 513 = some (ad 513, .inl (G.2 1, 700, .inr (.inl (fun k => lN (s4 k))))) := by rw [hM_28, xu_n (by omega)]; exact hm513
                                      have hm514 : M_28 514 = some (ad 514, .inl (G.2 0, 101, .inl (fun k => nI (jA k)))) := by rw [hM_28, xu_n (by omega)]; exact hm514
                                      have hm515 : M_28 515 = some (ad 515, .inl (G.2 0, 101, .inl (fun k => nI (jB k)))) := by rw [hM_28, xu_n (by omega)]; exact hm515
                                      have hm516 : M_28 516 = some (ad 516, .inl (G.2 0, 700, .inl (fun k => nI (mx k)))) := by rw [hM_28, xu_n (by omega)]; exact hm516
                                      have hm510 : M_28 510 = some (ad 510, .inl (G.2 0, 700, .inl (fun k => nI ((va_up s1 at9 (s1 (at9 - 1))) k)))) := by rw [hM_28]; exact xu_s
                                      refine lv_aload_n hx hb dX5_run_174 rfl (lv_at hl 3 rfl) ?_
                                      refine x_get (ci := 7) (v := .ref (ad 511)) (C := RX5) (T := TX5) (N := 23) hx hb hts inX5 hown hK hX hm500 rfl 14 (by decide) lk_fieldLink_44 (fun _ h9 => h9) rfl dX5_run_175 ?_
                                      refine lv_iload_n hx hb dX5_run_178 rfl (lv_at hl 0 rfl) ?_
                                      refine lv_aload_n hx hb dX5_run_179 rfl (lv_at hl 3 rfl) ?_
                                      refine x_get (ci := 7) (v := .ref (ad 511)) (C := RX5) (T := TX5) (N := 23) hx hb hts inX5 hown hK hX hm500 rfl 14 (by decide) lk_fieldLink_44 (fun _ h9 => h9) rfl dX5_run_180 ?_
                                      refine lv_iload_n hx hb dX5_run_183 rfl (lv_at hl 0 rfl) ?_
                                      refine lv_iconst (v := nI 1) hx hb dX5_run_184 (by decide) ?_
                                      refine lv_isub hx hb dX5_run_185 ?_
                                      refine x_ri (y := nI (at9 - 1)) (pk_sub (by omega)) ?_
                                      refine x_iN hx hb hK hX hm511 (by omega) (by decide) dX5_run_186 ?_
                                      refine x_isN hx hb hK hX hS hm511 (by omega) (by decide) dX5_run_187 (fun H locs hX hS => ?_)
                                      rw [upd_n] at hX
                                      obtain ⟨M_29, hM_29⟩ : ∃ zM : xM, zM = xu M_28 511 (ad 511, .inl (G.2 0, 700, .inl (fun k => nI ((va_up s2 at9 (s2 (at9 - 1))) k)))) := ⟨_, rfl⟩
                                      have hX : xw G.1 vwCl A M_29 H := by rw [hM_29]; exact hX
                                      have hm500 : M_29 500 = some (ad 500, .inr (7, [.int (nI 0), .int (nI nc), .ref (ad 501), .ref (ad 502), .ref (ad 503), .ref (ad 504), .ref (ad 505), .ref (ad 506), .ref (ad 507), .ref (ad 508), .ref (ad 509), .int (nI 1), .int (nI cn8), .ref (ad 510), .ref (ad 511), .ref (ad 512), .ref (ad 513), .int (nI jc), .ref (ad 514), .ref (ad 515), .ref (ad 516), .long (lN (mU mT mK mC mD mF mO wn (i + 1) (j + 1))), .long (lN (mDn mT mK mC mD wn (i + 1) (j + 1)))])) := by rw [hM_29, xu_n (by omega)]; exact hm500
                                      have hm501 : M_29 501 = some (ad 501, .inl (G.2 0, 51, .inl mS)) := by rw [hM_29, xu_n (by omega)]; exact hm501
                                      have hm502 : M_29 502 = some (ad 502, .inl (G.2 0, 408, .inl mT)) := by rw [hM_29, xu_n (by omega)]; exact hm502
                                      have hm503 : M_29 503 = some (ad 503, .inl (G.2 0, 408, .inl mK)) := by rw [hM_29, xu_n (by omega)]; exact hm503
                                      have hm504 : M_29 504 = some (ad 504, .inl (G.2 0, 51, .inl (fun k => nI (mC k)))) := by rw [hM_29, xu_n (by omega)]; exact hm504
                                      have hm505 : M_29 505 = some (ad 505, .inl (G.2 2, 51, .inl mD)) := by rw [hM_29, xu_n (by omega)]; exact hm505
                                      have hm506 : M_29 506 = some (ad 506, .inl (G.2 1, 51, .inr (.inl mF))) := by rw [hM_29, xu_n (by omega)]; exact hm506
                                      have hm507 : M_29 507 = some (ad 507, .inl (G.2 1, 51, .inr (.inl mO))) := by rw [hM_29, xu_n (by omega)]; exact hm507
                                      have hm508 : M_29 508 = some (ad 508, .inl (G.2 0, 51, .inl (fun k => nI (mP k)))) := by rw [hM_29, xu_n (by omega)]; exact hm508
                                      have hm509 : M_29 509 = some (ad 509, .inl (G.2 1, 4, .inr (.inl (fun k => lN (wn k))))) := by rw [hM_29, xu_n (by omega)]; exact hm509
                                      have hm510 : M_29 510 = some (ad 510, .inl (G.2 0, 700, .inl (fun k => nI ((va_up s1 at9 (s1 (at9 - 1))) k)))) := by rw [hM_29, xu_n (by omega)]; exact hm510
                                      have hm512 : M_29 512 = some (ad 512, .inl (G.2 1, 700, .inr (.inl (fun k => lN (s3 k))))) := by rw [hM_29, xu_n (by omega)]; exact hm512
                                      have hm513 : M_29 513 = some (ad 513, .inl (G.2 1, 700, .inr (.inl (fun k => lN (s4 k))))) := by rw [hM_29, xu_n (by omega)]; exact hm513
                                      have hm514 : M_29 514 = some (ad 514, .inl (G.2 0, 101, .inl (fun k => nI (jA k)))) := by rw [hM_29, xu_n (by omega)]; exact hm514
                                      have hm515 : M_29 515 = some (ad 515, .inl (G.2 0, 101, .inl (fun k => nI (jB k)))) := by rw [hM_29, xu_n (by omega)]; exact hm515
                                      have hm516 : M_29 516 = some (ad 516, .inl (G.2 0, 700, .inl (fun k => nI (mx k)))) := by rw [hM_29, xu_n (by omega)]; exact hm516
                                      have hm511 : M_29 511 = some (ad 511, .inl (G.2 0, 700, .inl (fun k => nI ((va_up s2 at9 (s2 (at9 - 1))) k)))) := by rw [hM_29]; exact xu_s
                                      refine lv_aload_n hx hb dX5_run_188 rfl (lv_at hl 3 rfl) ?_
                                      refine x_get (ci := 7) (v := .ref (ad 512)) (C := RX5) (T := TX5) (N := 23) hx hb hts inX5 hown hK hX hm500 rfl 15 (by decide) lk_fieldLink_47 (fun _ h9 => h9) rfl dX5_run_189 ?_
                                      refine lv_iload_n hx hb dX5_run_192 rfl (lv_at hl 0 rfl) ?_
                                      refine lv_aload_n hx hb dX5_run_193 rfl (lv_at hl 3 rfl) ?_
                                      refine x_get (ci := 7) (v := .ref (ad 512)) (C := RX5) (T := TX5) (N := 23) hx hb hts inX5 hown hK hX hm500 rfl 15 (by decide) lk_fieldLink_47 (fun _ h9 => h9) rfl dX5_run_194 ?_
                                      refine lv_iload_n hx hb dX5_run_197 rfl (lv_at hl 0 rfl) ?_
                                      refine lv_iconst (v := nI 1) hx hb dX5_run_198 (by decide) ?_
                                      refine lv_isub hx hb dX5_run_199 ?_
                                      refine x_ri (y := nI (at9 - 1)) (pk_sub (by omega)) ?_
                                      refine x_lN hx hb hK hX hm512 (by omega) (by decide) dX5_run_200 ?_
                                      refine x_lsN hx hb hK hX hS hm512 (by omega) (by decide) dX5_run_201 (fun H locs hX hS => ?_)
                                      rw [updL_n] at hX
                                      obtain ⟨M_30, hM_30⟩ : ∃ zM : xM, zM = xu M_29 512 (ad 512, .inl (G.2 1, 700, .inr (.inl (fun k => lN ((va_up s3 at9 (s3 (at9 - 1))) k))))) := ⟨_, rfl⟩
                                      have hX : xw G.1 vwCl A M_30 H := by rw [hM_30]; exact hX
                                      have hm500 : M_30 500 = some (ad 500, .inr (7, [.int (nI 0), .int (nI nc), .ref (ad 501), .ref (ad 502), .ref (ad 503), .ref (ad 504), .ref (ad 505), .ref (ad 506), .ref (ad 507), .ref (ad 508), .ref (ad 509), .int (nI 1), .int (nI cn8), .ref (ad 510), .ref (ad 511), .ref (ad 512), .ref (ad 513), .int (nI jc), .ref (ad 514), .ref (ad 515), .ref (ad 516), .long (lN (mU mT mK mC mD mF mO wn (i + 1) (j + 1))), .long (lN (mDn mT mK mC mD wn (i + 1) (j + 1)))])) := by rw [hM_30, xu_n (by omega)]; exact hm500
                                      have hm501 : M_30 501 = some (ad 501, .inl (G.2 0, 51, .inl mS)) := by rw [hM_30, xu_n (by omega)]; exact hm501
                                      have hm502 : M_30 502 = some (ad 502, .inl (G.2 0, 408, .inl mT)) := by rw [hM_30, xu_n (by omega)]; exact hm502
                                      have hm503 : M_30 503 = some (ad 503, .inl (G.2 0, 408, .inl mK)) := by rw [hM_30, xu_n (by omega)]; exact hm503
                                      have hm504 : M_30 504 = some (ad 504, .inl (G.2 0, 51, .inl (fun k => nI (mC k)))) := by rw [hM_30, xu_n (by omega)]; exact hm504
                                      have hm505 : M_30 505 = some (ad 505, .inl (G.2 2, 51, .inl mD)) := by rw [hM_30, xu_n (by omega)]; exact hm505
                                      have hm506 : M_30 506 = some (ad 506, .inl (G.2 1, 51, .inr (.inl mF))) := by rw [hM_30, xu_n (by omega)]; exact hm506
                                      have hm507 : M_30 507 = some (ad 507, .inl (G.2 1, 51, .inr (.inl mO))) := by rw [hM_30, xu_n (by omega)]; exact hm507
                                      have hm508 : M_30 508 = some (ad 508, .inl (G.2 0, 51, .inl (fun k => nI (mP k)))) := by rw [hM_30, xu_n (by omega)]; exact hm508
                                      have hm509 : M_30 509 = some (ad 509, .inl (G.2 1, 4, .inr (.inl (fun k => lN (wn k))))) := by rw [hM_30, xu_n (by omega)]; exact hm509
                                      have hm510 : M_30 510 = some (ad 510, .inl (G.2 0, 700, .inl (fun k => nI ((va_up s1 at9 (s1 (at9 - 1))) k)))) := by rw [hM_30, xu_n (by omega)]; exact hm510
                                      have hm511 : M_30 511 = some (ad 511, .inl (G.2 0, 700, .inl (fun k => nI ((va_up s2 at9 (s2 (at9 - 1))) k)))) := by rw [hM_30, xu_n (by omega)]; exact hm511
                                      have hm513 : M_30 513 = some (ad 513, .inl (G.2 1, 700, .inr (.inl (fun k => lN (s4 k))))) := by rw [hM_30, xu_n (by omega)]; exact hm513
                                      have hm514 : M_30 514 = some (ad 514, .inl (G.2 0, 101, .inl (fun k => nI (jA k)))) := by rw [hM_30, xu_n (by omega)]; exact hm514
                                      have hm515 : M_30 515 = some (ad 515, .inl (G.2 0, 101, .inl (fun k => nI (jB k)))) := by rw [hM_30, xu_n (by omega)]; exact hm515
                                      have hm516 : M_30 516 = some (ad 516, .inl (G.2 0, 700, .inl (fun k => nI (mx k)))) := by rw [hM_30, xu_n (by omega)]; exact hm516
                                      have hm512 : M_30 512 = some (ad 512, .inl (G.2 1, 700, .inr (.inl (fun k => lN ((va_up s3 at9 (s3 (at9 - 1))) k))))) := by rw [hM_30]; exact xu_s
                                      refine lv_aload_n hx hb dX5_run_202 rfl (lv_at hl 3 rfl) ?_
                                      refine x_get (ci := 7) (v := .ref (ad 513)) (C := RX5) (T := TX5) (N := 23) hx hb hts inX5 hown hK hX hm500 rfl 16 (by decide) lk_fieldLink_50 (fun _ h9 => h9) rfl dX5_run_203 ?_
                                      refine lv_iload_n hx hb dX5_run_206 rfl (lv_at hl 0 rfl) ?_
                                      refine lv_aload_n hx hb dX5_run_207 rfl (lv_at hl 3 rfl) ?_
                                      refine x_get (ci := 7) (v := .ref (ad 513)) (C := RX5) (T := TX5) (N := 23) hx hb hts inX5 hown hK hX hm500 rfl 16 (by decide) lk_fieldLink_50 (fun _ h9 => h9) rfl dX5_run_208 ?_
                                      refine lv_iload_n hx hb dX5_run_211 rfl (lv_at hl 0 rfl) ?_
                                      refine lv_iconst (v := nI 1) hx hb dX5_run_212 (by decide) ?_
                                      refine lv_isub hx hb dX5_run_213 ?_
                                      refine x_ri (y := nI (at9 - 1)) (pk_sub (by omega)) ?_
                                      refine x_lN hx hb hK hX hm513 (by omega) (by decide) dX5_run_214 ?_
                                      refine x_lsN hx hb hK hX hS hm513 (by omega) (by decide) dX5_run_215 (fun H locs hX hS => ?_)
                                      rw [updL_n] at hX
                                      obtain ⟨M_31, hM_31⟩ : ∃ zM : xM, zM = xu M_30 513 (ad 513, .inl (G.2 1, 700, .inr (.inl (fun k => lN ((va_up s4 at9 (s4 (at9 - 1))) k))))) := ⟨_, rfl⟩
                                      have hX : xw G.1 vwCl A M_31 H := by rw [hM_31]; exact hX
                                      have hm500 : M_31 500 = some (ad 500, .inr (7, [.int (nI 0), .int (nI nc), .ref (ad 501), .ref (ad 502), .ref (ad 503), .ref (ad 504), .ref (ad 505), .ref (ad 506), .ref (ad 507), .ref (ad 508), .ref (ad 509), .int (nI 1), .int (nI cn8), .ref (ad 510), .ref (ad 511), .ref (ad 512), .ref (ad 513), .int (nI jc), .ref (ad 514), .ref (ad 515), .ref (ad 516), .long (lN (mU mT mK mC mD mF mO wn (i + 1) (j + 1))), .long (lN (mDn mT mK mC mD wn (i + 1) (j + 1)))])) := by rw [hM_31, xu_n (by omega)]; exact hm500
                                      have hm501 : M_31 501 = some (ad 501, .inl (G.2 0, 51, .inl mS)) := by rw [hM_31, xu_n (by omega)]; exact hm501
                                      have hm502 : M_31 502 = some (ad 502, .inl (G.2 0, 408, .inl mT)) := by rw [hM_31, xu_n (by omega)]; exact hm502
                                      have hm503 : M_31 503 = some (ad 503, .inl (G.2 0, 408, .inl mK)) := by rw [hM_31, xu_n (by omega)]; exact hm503
                                      have hm504 : M_31 504 = some (ad 504, .inl (G.2 0, 51, .inl (fun k => nI (mC k)))) := by rw [hM_31, xu_n (by omega)]; exact hm504
                                      have hm505 : M_31 505 = some (ad 505, .inl (G.2 2, 51, .inl mD)) := by rw [hM_31, xu_n (by omega)]; exact hm505
                                      have hm506 : M_31 506 = some (ad 506, .inl (G.2 1, 51, .inr (.inl mF))) := by rw [hM_31, xu_n (by omega)]; exact hm506
                                      have hm507 : M_31 507 = some (ad 507, .inl (G.2 1, 51, .inr (.inl mO))) := by rw [hM_31, xu_n (by omega)]; exact hm507
                                      have hm508 : M_31 508 = some (ad 508, .inl (G.2 0, 51, .inl (fun k => nI (mP k)))) := by rw [hM_31, xu_n (by omega)]; exact hm508
                                      have hm509 : M_31 509 = some (ad 509, .inl (G.2 1, 4, .inr (.inl (fun k => lN (wn k))))) := by rw [hM_31, xu_n (by omega)]; exact hm509
                                      have hm510 : M_31 510 = some (ad 510, .inl (G.2 0, 700, .inl (fun k => nI ((va_up s1 at9 (s1 (at9 - 1))) k)))) := by rw [hM_31, xu_n (by omega)]; exact hm510
                                      have hm511 : M_31 511 = some (ad 511, .inl (G.2 0, 700, .inl (fun k => nI ((va_up s2 at9 (s2 (at9 - 1))) k)))) := by rw [hM_31, xu_n (by omega)]; exact hm511
                                      have hm512 : M_31 512 = some (ad 512, .inl (G.2 1, 700, .inr (.inl (fun k => lN ((va_up s3 at9 (s3 (at9 - 1))) k))))) := by rw [hM_31, xu_n (by omega)]; exact hm512
                                      have hm514 : M_31 514 = some (ad 514, .inl (G.2 0, 101, .inl (fun k => nI (jA k)))) := by rw [hM_31, xu_n (by omega)]; exact hm514
                                      have hm515 : M_31 515 = some (ad 515, .inl (G.2 0, 101, .inl (fun k => nI (jB k)))) := by rw [hM_31, xu_n (by omega)]; exact hm515
                                      have hm516 : M_31 516 = some (ad 516, .inl (G.2 0, 700, .inl (fun k => nI (mx k)))) := by rw [hM_31, xu_n (by omega)]; exact hm516
                                      have hm513 : M_31 513 = some (ad 513, .inl (G.2 1, 700, .inr (.inl (fun k => lN ((va_up s4 at9 (s4 (at9 - 1))) k))))) := by rw [hM_31]; exact xu_s
                                      refine lv_iinc (v := nI (at9 - 1)) (lv' := [(3, .int (nI (at9 - 1))), (2, .int (nI (j + 1))), (1, .int (nI (i + 1))), (0, .ref (ad 500))]) hx hb dX5_run_216 hl (k := 0) rfl (x_dec (by omega)) (by decide) rfl (fun ls hl => ?_)
                                      refine lv_goto (tgt := 126) hx hb dX5_run_219 (by decide) ?_
                                      exact ih_3 (at9 - 1) (va_up s1 at9 (s1 (at9 - 1))) (va_up s2 at9 (s2 (at9 - 1))) (va_up s3 at9 (s3 (at9 - 1))) (va_up s4 at9 (s4 (at9 - 1))) M_31 _ _ ls (by omega) (by omega) (sh_keep (by omega) hat hs1.1 hs1.2 rfl) (sh_keep (by omega) hat hs2.1 hs2.2 rfl) (sh_keep (by omega) hat hs3.1 hs3.2 rfl) (sh_keep (by omega) hat hs4.1 hs4.2 rfl) (fun k h1 h2 => by by_cases q : k = at9 - 1; rw [q]; exact hgn; exact hgt k (by omega) h2) (by rw [hM_31, hM_30, hM_29, hM_28, hM9_3]; funext t; simp only [xu]; by_cases q0 : t = 510; simp [q0]; by_cases q1 : t = 511; simp [q1]; by_cases q2 : t = 512; simp [q2]; by_cases q3 : t = 513; simp [q3]; simp [q0, q1, q2, q3]) hX hS (lv_sub hl [0, 1, 2, 3] rfl)
                              exact loop_3 (cn8 + 1) cn8 n1b n2b n3b n4b M_13 _ _ ls (by omega) (by omega) (⟨fun _ _ => rfl, fun k h1 h2 => absurd h1 (by omega)⟩) (⟨fun _ _ => rfl, fun k h1 h2 => absurd h1 (by omega)⟩) (⟨fun _ _ => rfl, fun k h1 h2 => absurd h1 (by omega)⟩) (⟨fun _ _ => rfl, fun k h1 h2 => absurd h1 (by omega)⟩) (fun k h1 h2 => absurd h1 (by omega)) (by rw [x_us hm510, x_us hm511, x_us hm512]; exact (x_us hm513).symm) hX hS (lv_sub hl [0, 1, 2, 3] rfl)
        exact loop_2 (nc + 1) 0 M9 cn9 zs9 os9 ab9 bl9 od9 pr9 pm9 n1 n2 n3 n4 up9 dn9 _ _ ls (by omega) (by omega) hR9 hL9 hp9 hf9 hX hS (lv_sub hl [0, 1, 2] rfl)
  exact loop (nc + 1) 0 M_3 0 zs0 os0 ab0 bl0 od0 pr0 (fun k => k) o1 o2 u1 d1 up dn _ _ ls (by omega) (by omega) hRs rfl (⟨xGood_0 (by omega), fun k hk => absurd hk (by omega)⟩) hfs hX hS (lv_sub hl [0, 1] rfl)
