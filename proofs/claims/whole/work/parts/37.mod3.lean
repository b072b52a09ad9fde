/-! the reference: sample, best, none -/

abbrev rmX5_sample : Room := { frames := 1, cells := 0, slots := 0, locals := 21 }
set_option maxHeartbeats 4000000 in
set_option maxRecDepth 100000 in
/-- sample -/
theorem ctX5_sample (l : Launch) (G : xG) (A : Nat → Prop) (M : xM) {ad : Nat → Nat} {th : Int32} {nc : Nat} {mS : Nat → Int32} {mT : Nat → Int32} {mK : Nat → Int32} {mC : Nat → Nat} {mD : Nat → Int32} {mF : Nat → Int64} {mO : Nat → Int64} {mP : Nat → Nat} {wn : Nat → Nat} {rn : Int32} {pn : Nat} {o1 : Nat → Nat} {o2 : Nat → Nat} {u1 : Nat → Nat} {d1 : Nat → Nat} {jc : Nat} {jA : Nat → Nat} {jB : Nat → Nat} {mx : Nat → Nat} {up : Int64} {dn : Int64} (hR : xMod G M ad th nc mS mT mK mC mD mF mO mP wn rn pn o1 o2 u1 d1 jc jA jB mx up dn) (p1 : Int64) (p0 : Int32) (hpn : pn ≤ 625) : Met l yX5_sample wsX5_sample rmX5_sample (va_Pc ([.ref (ad 500), .long p1, .int p0] : List Value) (xPc G A M)) (va_Qi (fun r M1 => ((∃ i0, i0 < pn ∧ p0 = nI i0 ∧ r = nI (xMix (pn - 1) p1 (xIota mx pn) i0) ∧ ∃ m7 : Nat → Nat, xMod G M1 ad (nI 0) nc mS mT mK mC mD mF mO mP wn rn pn o1 o2 u1 d1 jc jA jB m7 up dn) ∨ (¬ (¬ p0 < 0 ∧ ¬ nI pn ≤ p0) ∧ r = (-1) ∧ xMod G M1 ad (nI 0) nc mS mT mK mC mD mF mO mP wn rn pn o1 o2 u1 d1 jc jA jB mx up dn)) ∧ (∀ t, t < 500 ∨ 516 < t → M1 t = M t)) (xPc G A) A) 0 0 A := by
  refine x_met (cc := cX5_sample) (maxL := 9) (ret := (some .int)) RX5 (by decide) rfl (Nat.le_of_ble_eq_true rfl) rfl ?_
  intro p e s m below meth c hx hb hr hts hown hlocks hml hin hK hA hX ls hl
  have inX5 : ∀ w ∈ wsX50, w ∈ wsX5_sample := by decide +kernel
  have lk_fieldLink_62 := hts (.fieldLink RX5 62 "ReconcileModel" "thrown" "I") (by decide +kernel)
  have lk_fieldLink_92 := hts (.fieldLink RX5 92 "ReconcileModel" "pairs" "I") (by decide +kernel)
  have lk_fieldLink_59 := hts (.fieldLink RX5 59 "ReconcileModel" "mixed" "[I") (by decide +kernel)
  have lk_constantLong_109 := hts (.constantLong RX5 109 (6364136223846793005)) (by decide +kernel)
  have lk_constantLong_111 := hts (.constantLong RX5 111 (1442695040888963407)) (by decide +kernel)
  have hS : va_S A s.heap s.heap [] := va_S.rf
  have hl : lv_has ls 9 [(0, .ref (ad 500)), (1, .long p1), (3, .int p0)] := hl
  obtain ⟨hm500, hm501, hm502, hm503, hm504, hm505, hm506, hm507, hm508, hm509, hm510, hm511, hm512, hm513, hm514, hm515, hm516⟩ := id hR
  refine lv_aload_n hx hb dX5_sample_0 rfl (lv_at hl 0 rfl) ?_
  refine lv_iconst (v := nI 0) hx hb dX5_sample_1 (by decide) ?_
  refine x_put (ci := 7) (v := .int (nI 0)) (C := RX5) (T := TX5) (N := 23) hx hb hts inX5 tyX5 tyX5_ok nmX5 hown hK hX hS hm500 rfl 0 (by decide) lk_fieldLink_62 (fun _ h9 => h9) rfl (tyX5_ok 0 (by decide)) rfl rfl (Nat.le_of_ble_eq_true rfl) dX5_sample_2 (fun H locs hX hS => ?_)
  obtain ⟨M_1, hM_1⟩ : ∃ zM : xM, zM = xu M 500 (ad 500, .inr (7, [.int (nI 0), .int (nI nc), .ref (ad 501), .ref (ad 502), .ref (ad 503), .ref (ad 504), .ref (ad 505), .ref (ad 506), .ref (ad 507), .ref (ad 508), .ref (ad 509), .int rn, .int (nI pn), .ref (ad 510), .ref (ad 511), .ref (ad 512), .ref (ad 513), .int (nI jc), .ref (ad 514), .ref (ad 515), .ref (ad 516), .long up, .long dn])) := ⟨_, rfl⟩
  have hX : xw G.1 vwCl A M_1 H := by rw [hM_1]; exact hX
  have hm501 : M_1 501 = some (ad 501, .inl (G.2 0, 51, .inl mS)) := by rw [hM_1, xu_n (by omega)]; exact hm501
  have hm502 : M_1 502 = some (ad 502, .inl (G.2 0, 408, .inl mT)) := by rw [hM_1, xu_n (by omega)]; exact hm502
  have hm503 : M_1 503 = some (ad 503, .inl (G.2 0, 408, .inl mK)) := by rw [hM_1, xu_n (by omega)]; exact hm503
  have hm504 : M_1 504 = some (ad 504, .inl (G.2 0, 51, .inl (fun k => nI (mC k)))) := by rw [hM_1, xu_n (by omega)]; exact hm504
  have hm505 : M_1 505 = some (ad 505, .inl (G.2 2, 51, .inl mD)) := by rw [hM_1, xu_n (by omega)]; exact hm505
  have hm506 : M_1 506 = some (ad 506, .inl (G.2 1, 51, .inr (.inl mF))) := by rw [hM_1, xu_n (by omega)]; exact hm506
  have hm507 : M_1 507 = some (ad 507, .inl (G.2 1, 51, .inr (.inl mO))) := by rw [hM_1, xu_n (by omega)]; exact hm507
  have hm508 : M_1 508 = some (ad 508, .inl (G.2 0, 51, .inl (fun k => nI (mP k)))) := by rw [hM_1, xu_n (by omega)]; exact hm508
  have hm509 : M_1 509 = some (ad 509, .inl (G.2 1, 4, .inr (.inl (fun k => lN (wn k))))) := by rw [hM_1, xu_n (by omega)]; exact hm509
  have hm510 : M_1 510 = some (ad 510, .inl (G.2 0, 700, .inl (fun k => nI (o1 k)))) := by rw [hM_1, xu_n (by omega)]; exact hm510
  have hm511 : M_1 511 = some (ad 511, .inl (G.2 0, 700, .inl (fun k => nI (o2 k)))) := by rw [hM_1, xu_n (by omega)]; exact hm511
  have hm512 : M_1 512 = some (ad 512, .inl (G.2 1, 700, .inr (.inl (fun k => lN (u1 k))))) := by rw [hM_1, xu_n (by omega)]; exact hm512
  have hm513 : M_1 513 = some (ad 513, .inl (G.2 1, 700, .inr (.inl (fun k => lN (d1 k))))) := by rw [hM_1, xu_n (by omega)]; exact hm513
  have hm514 : M_1 514 = some (ad 514, .inl (G.2 0, 101, .inl (fun k => nI (jA k)))) := by rw [hM_1, xu_n (by omega)]; exact hm514
  have hm515 : M_1 515 = some (ad 515, .inl (G.2 0, 101, .inl (fun k => nI (jB k)))) := by rw [hM_1, xu_n (by omega)]; exact hm515
  have hm516 : M_1 516 = some (ad 516, .inl (G.2 0, 700, .inl (fun k => nI (mx k)))) := by rw [hM_1, xu_n (by omega)]; exact hm516
  have hm500 : M_1 500 = some (ad 500, .inr (7, [.int (nI 0), .int (nI nc), .ref (ad 501), .ref (ad 502), .ref (ad 503), .ref (ad 504), .ref (ad 505), .ref (ad 506), .ref (ad 507), .ref (ad 508), .ref (ad 509), .int rn, .int (nI pn), .ref (ad 510), .ref (ad 511), .ref (ad 512), .ref (ad 513), .int (nI jc), .ref (ad 514), .ref (ad 515), .ref (ad 516), .long up, .long dn])) := by rw [hM_1]; exact xu_s
  refine lv_aload_n hx hb dX5_sample_5 rfl (lv_at hl 0 rfl) ?_
  refine lv_iload_n hx hb dX5_sample_6 rfl (lv_at hl 2 rfl) ?_
  refine x_calli (x_runV (q := (RX5, TX5, 23)) (As := [.int p0]) (rest := []) ⟨hx, hb, hml, hown, hts⟩ (ctX5_isPair l G A M_1 ⟨hm500, hm501, hm502, hm503, hm504, hm505, hm506, hm507, hm508, hm509, hm510, hm511, hm512, hm513, hm514, hm515, hm516⟩ p0 hpn) (cwV 1 hts gX5_sample_X5_isPair rfl rfl rfl (by decide +kernel) ⟨Nat.le_of_ble_eq_true rfl, Nat.le_of_ble_eq_true rfl⟩) hK hA hX hS hm500 rfl rfl hl.1 rfl (lv_room (Nat.le_of_ble_eq_true rfl)) dX5_sample_7 ⟨by decide, by decide⟩) hS (fun r_2 M_3 H locs hp hX hS => ?_)
  obtain ⟨hM_, hq_r_2⟩ := hp
  rw [hM_] at hX
  rcases hq_r_2 with ⟨i, hi, ep, er⟩ | ⟨ep, er⟩
  · rw [er]
    subst ep
    refine lv_if_ne (tgt := 15) hx hb dX5_sample_10 (by decide) (fun c_4 => ?_) (fun c_4 => ?_)
    · have c_4 : ¬ (1 = 0) := fun q => c_4 ((nI_eq (a := 1) (b := 0) (by omega) (by omega)).mpr q)
      refine lv_iconst (v := nI 0) hx hb dX5_sample_15 (by decide) ?_
      refine lv_istore (lv' := [(4, .int (nI 0)), (0, .ref (ad 500)), (1, .long p1), (3, .int (nI i))]) hx hb dX5_sample_16 hl (by decide) rfl (fun ls hl => ?_)
      have loop : ∀ (n : Nat) (kx : Nat) (M9 : xM) (H : Heap) (locs : List Loc) (ls : Array Slot), pn < kx + n → (kx ≤ pn) → M9 = xu M_1 516 (ad 516, .inl (G.2 0, 700, .inl (fun k => nI ((xIota mx kx) k)))) → xw G.1 vwCl A M9 H → va_S A s.heap H locs → lv_has ls 9 [(4, .int (nI kx)), (0, .ref (ad 500)), (1, .long p1), (3, .int (nI i))] → W p l e rmX5_sample s m ([.ref (ad 500), .long p1, .int (nI i)] : List Value).toArray below meth c H locs 0 0 (MQ below (va_Qi (fun r M1 => ((∃ i0, i0 < pn ∧ (nI i) = nI i0 ∧ r = nI (xMix (pn - 1) p1 (xIota mx pn) i0) ∧ ∃ m7 : Nat → Nat, xMod G M1 ad (nI 0) nc mS mT mK mC mD mF mO mP wn rn pn o1 o2 u1 d1 jc jA jB m7 up dn) ∨ (¬ (¬ (nI i) < 0 ∧ ¬ nI pn ≤ (nI i)) ∧ r = (-1) ∧ xMod G M1 ad (nI 0) nc mS mT mK mC mD mF mO mP wn rn pn o1 o2 u1 d1 jc jA jB mx up dn)) ∧ (∀ t, t < 500 ∨ 516 < t → M1 t = M t)) (xPc G A) A) ([.ref (ad 500), .long p1, .int (nI i)] : List Value).toArray s 0 0 A) (F0 m 18 ls []) := by
        intro n
        induction n with
        | zero => intro kx M9 H locs ls hn0 hk; exact absurd hn0 (by omega)
        | succ n ih =>
          intro kx M9 H locs ls hn0 hk hM9 hX hS hl
          have hm500 : M9 500 = some (ad 500, .inr (7, [.int (nI 0), .int (nI nc), .ref (ad 501), .ref (ad 502), .ref (ad 503), .ref (ad 504), .ref (ad 505), .ref (ad 506), .ref (ad 507), .ref (ad 508), .ref (ad 509), .int rn, .int (nI pn), .ref (ad 510), .ref (ad 511), .ref (ad 512), .ref (ad 513), .int (nI jc), .ref (ad 514), .ref (ad 515), .ref (ad 516), .long up, .long dn])) := by rw [hM9, xu_n (by omega)]; exact hm500
          have hm501 : M9 501 = some (ad 501, .inl (G.2 0, 51, .inl mS)) := by rw [hM9, xu_n (by omega)]; exact hm501
          have hm502 : M9 502 = some (ad 502, .inl (G.2 0, 408, .inl mT)) := by rw [hM9, xu_n (by omega)]; exact hm502
          have hm503 : M9 503 = some (ad 503, .inl (G.2 0, 408, .inl mK)) := by rw [hM9, xu_n (by omega)]; exact hm503
          have hm504 : M9 504 = some (ad 504, .inl (G.2 0, 51, .inl (fun k => nI (mC k)))) := by rw [hM9, xu_n (by omega)]; exact hm504
          have hm505 : M9 505 = some (ad 505, .inl (G.2 2, 51, .inl mD)) := by rw [hM9, xu_n (by omega)]; exact hm505
          have hm506 : M9 506 = some (ad 506, .inl (G.2 1, 51, .inr (.inl mF))) := by rw [hM9, xu_n (by omega)]; exact hm506
          have hm507 : M9 507 = some (ad 507, .inl (G.2 1, 51, .inr (.inl mO))) := by rw [hM9, xu_n (by omega)]; exact hm507
          have hm508 : M9 508 = some (ad 508, .inl (G.2 0, 51, .inl (fun k => nI (mP k)))) := by rw [hM9, xu_n (by omega)]; exact hm508
          have hm509 : M9 509 = some (ad 509, .inl (G.2 1, 4, .inr (.inl (fun k => lN (wn k))))) := by rw [hM9, xu_n (by omega)]; exact hm509
          have hm510 : M9 510 = some (ad 510, .inl (G.2 0, 700, .inl (fun k => nI (o1 k)))) := by rw [hM9, xu_n (by omega)]; exact hm510
          have hm511 : M9 511 = some (ad 511, .inl (G.2 0, 700, .inl (fun k => nI (o2 k)))) := by rw [hM9, xu_n (by omega)]; exact hm511
          have hm512 : M9 512 = some (ad 512, .inl (G.2 1, 700, .inr (.inl (fun k => lN (u1 k))))) := by rw [hM9, xu_n (by omega)]; exact hm512
          have hm513 : M9 513 = some (ad 513, .inl (G.2 1, 700, .inr (.inl (fun k => lN (d1 k))))) := by rw [hM9, xu_n (by omega)]; exact hm513
          have hm514 : M9 514 = some (ad 514, .inl (G.2 0, 101, .inl (fun k => nI (jA k)))) := by rw [hM9, xu_n (by omega)]; exact hm514
          have hm515 : M9 515 = some (ad 515, .inl (G.2 0, 101, .inl (fun k => nI (jB k)))) := by rw [hM9, xu_n (by omega)]; exact hm515
          have hm516 : M9 516 = some (ad 516, .inl (G.2 0, 700, .inl (fun k => nI ((xIota mx kx) k)))) := by rw [hM9]; exact xu_s
          refine lv_iload hx hb dX5_sample_18 (lv_at hl 0 rfl) ?_
          refine lv_aload_n hx hb dX5_sample_20 rfl (lv_at hl 1 rfl) ?_
          refine x_get (ci := 7) (v := .int (nI pn)) (C := RX5) (T := TX5) (N := 23) hx hb hts inX5 hown hK hX hm500 rfl 12 (by decide) lk_fieldLink_92 (fun _ h9 => h9) rfl dX5_sample_21 ?_
          refine lv_icmp_ge (tgt := 42) hx hb dX5_sample_24 (by decide) (fun c_5 => ?_) (fun c_5 => ?_)
          · have c_5 : pn ≤ kx := (nI_leI (by omega) (by omega)).mp c_5
            refine lv_lload_n hx hb dX5_sample_42 rfl (lv_at hl 2 rfl) ?_
            refine lv_lstore (lv' := [(4, .long p1), (0, .ref (ad 500)), (1, .long p1), (3, .int (nI i))]) hx hb dX5_sample_43 hl (by decide) rfl (fun ls hl => ?_)
            have hic : kx = pn := by omega
            rw [hic] at hm516 hM9
            refine lv_aload_n hx hb dX5_sample_45 rfl (lv_at hl 1 rfl) ?_
            refine x_get (ci := 7) (v := .int (nI pn)) (C := RX5) (T := TX5) (N := 23) hx hb hts inX5 hown hK hX hm500 rfl 12 (by decide) lk_fieldLink_92 (fun _ h9 => h9) rfl dX5_sample_46 ?_
            refine lv_iconst (v := nI 1) hx hb dX5_sample_49 (by decide) ?_
            refine lv_isub hx hb dX5_sample_50 ?_
            refine x_ri (pk_sub (by omega)) ?_
            refine lv_istore (lv' := [(6, .int (nI (pn - 1))), (4, .long p1), (0, .ref (ad 500)), (1, .long p1), (3, .int (nI i))]) hx hb dX5_sample_51 hl (by decide) rfl (fun ls hl => ?_)
            have loop_2 : ∀ (n_2 : Nat) (ky : Nat) (st : Int64) (f : Nat → Nat) (M9_2 : xM) (H : Heap) (locs : List Loc) (ls : Array Slot), ky < n_2 → (ky < pn) → (∀ j, j < pn → f j < pn) → (xMix ky st f = xMix (pn - 1) p1 (xIota mx pn)) → M9_2 = xu M9 516 (ad 516, .inl (G.2 0, 700, .inl (fun k => nI (f k)))) → xw G.1 vwCl A M9_2 H → va_S A s.heap H locs → lv_has ls 9 [(6, .int (nI ky)), (4, .long st), (0, .ref (ad 500)), (1, .long p1), (3, .int (nI i))] → W p l e rmX5_sample s m ([.ref (ad 500), .long p1, .int (nI i)] : List Value).toArray below meth c H locs 0 0 (MQ below (va_Qi (fun r M1 => ((∃ i0, i0 < pn ∧ (nI i) = nI i0 ∧ r = nI (xMix (pn - 1) p1 (xIota mx pn) i0) ∧ ∃ m7 : Nat → Nat, xMod G M1 ad (nI 0) nc mS mT mK mC mD mF mO mP wn rn pn o1 o2 u1 d1 jc jA jB m7 up dn) ∨ (¬ (¬ (nI i) < 0 ∧ ¬ nI pn ≤ (nI i)) ∧ r = (-1) ∧ xMod G M1 ad (nI 0) nc mS mT mK mC mD mF mO mP wn rn pn o1 o2 u1 d1 jc jA jB mx up dn)) ∧ (∀ t, t < 500 ∨ 516 < t → M1 t = M t)) (xPc G A) A) ([.ref (ad 500), .long p1, .int (nI i)] : List Value).toArray s 0 0 A) (F0 m 53 ls []) := by
              intro n_2
              induction n_2 with
              | zero => intro ky st f M9_2 H locs ls hn0_2 hy hf hv; exact absurd hn0_2 (by omega)
              | succ n_2 ih_2 =>
                intro ky st f M9_2 H locs ls hn0_2 hy hf hv hM9_2 hX hS hl
                have hm500 : M9_2 500 = some (ad 500, .inr (7, [.int (nI 0), .int (nI nc), .ref (ad 501), .ref (ad 502), .ref (ad 503), .ref (ad 504), .ref (ad 505), .ref (ad 506), .ref (ad 507), .ref (ad 508), .ref (ad 509), .int rn, .int (nI pn), .ref (ad 510), .ref (ad 511), .ref (ad 512), .ref (ad 513), .int (nI jc), .ref (ad 514), .ref (ad 515), .ref (ad 516), .long up, .long dn])) := by rw [hM9_2, xu_n (by omega)]; exact hm500
                have hm501 : M9_2 501 = some (ad 501, .inl (G.2 0, 51, .inl mS)) := by rw [hM9_2, xu_n (by omega)]; exact hm501
                have hm502 : M9_2 502 = some (ad 502, .inl (G.2 0, 408, .inl mT)) := by rw [hM9_2, xu_n (by omega)]; exact hm502
                have hm503 : M9_2 503 = some (ad 503, .inl (G.2 0, 408, .inl mK)) := by rw [hM9_2, xu_n (by omega)]; exact hm503
                have hm504 : M9_2 504 = some (ad 504, .inl (G.2 0, 51, .inl (fun k => nI (mC k)))) := by rw [hM9_2, xu_n (by omega)]; exact hm504
                have hm505 : M9_2 505 = some (ad 505, .inl (G.2 2, 51, .inl mD)) := by rw [hM9_2, xu_n (by omega)]; exact hm505
                have hm506 : M9_2 506 = some (ad 506, .inl (G.2 1, 51, .inr (.inl mF))) := by rw [hM9_2, xu_n (by omega)]; exact hm506
                have hm507 : M9_2 507 = some (ad 507, .inl (G.2 1, 51, .inr (.inl mO))) := by rw [hM9_2, xu_n (by omega)]; exact hm507
                have hm508 : M9_2 508 = some (ad 508, .inl (G.2 0, 51, .inl (fun k => nI (mP k)))) := by rw [hM9_2, xu_n (by omega)]; exact hm508
                have hm509 : M9_2 509 = some (ad 509, .inl (G.2 1, 4, .inr (.inl (fun k => lN (wn k))))) := by rw [hM9_2, xu_n (by omega)]; exact hm509
                have hm510 : M9_2 510 = some (ad 510, .inl (G.2 0, 700, .inl (fun k => nI (o1 k)))) := by rw [hM9_2, xu_n (by omega)]; exact hm510
                have hm511 : M9_2 511 = some (ad 511, .inl (G.2 0, 700, .inl (fun k => nI (o2 k)))) := by rw [hM9_2, xu_n (by omega)]; exact hm511
                have hm512 : M9_2 512 = some (ad 512, .inl (G.2 1, 700, .inr (.inl (fun k => lN (u1 k))))) := by rw [hM9_2, xu_n (by omega)]; exact hm512
                have hm513 : M9_2 513 = some (ad 513, .inl (G.2 1, 700, .inr (.inl (fun k => lN (d1 k))))) := by rw [hM9_2, xu_n (by omega)]; exact hm513
                have hm514 : M9_2 514 = some (ad 514, .inl (G.2 0, 101, .inl (fun k => nI (jA k)))) := by rw [hM9_2, xu_n (by omega)]; exact hm514
                have hm515 : M9_2 515 = some (ad 515, .inl (G.2 0, 101, .inl (fun k => nI (jB k)))) := by rw [hM9_2, xu_n (by omega)]; exact hm515
                have hm516 : M9_2 516 = some (ad 516, .inl (G.2 0, 700, .inl (fun k => nI (f k)))) := by rw [hM9_2]; exact xu_s
                refine lv_iload hx hb dX5_sample_53 (lv_at hl 0 rfl) ?_
                refine lv_if_le (tgt := 122) hx hb dX5_sample_55 (by decide) (fun c_6 => ?_) (fun c_6 => ?_)
                · have c_6 : ky ≤ 0 := (nI_leI (a := ky) (b := 0) (by omega) (by omega)).mp c_6
                  refine lv_aload_n hx hb dX5_sample_122 rfl (lv_at hl 2 rfl) ?_
                  refine x_get (ci := 7) (v := .ref (ad 516)) (C := RX5) (T := TX5) (N := 23) hx hb hts inX5 hown hK hX hm500 rfl 20 (by decide) lk_fieldLink_59 (fun _ h9 => h9) rfl dX5_sample_123 ?_
                  refine lv_iload_n hx hb dX5_sample_126 rfl (lv_at hl 4 rfl) ?_
                  refine x_iN hx hb hK hX hm516 (by omega) (by decide) dX5_sample_127 ?_
                  exact x_iret hx hb hr hlocks hK hA hX hS dX5_sample_128 (⟨Or.inl ⟨i, hi, rfl, by rw [← hv, show ky = 0 by omega]; rfl, f, ⟨hm500, hm501, hm502, hm503, hm504, hm505, hm506, hm507, hm508, hm509, hm510, hm511, hm512, hm513, hm514, hm515, hm516⟩⟩, fun t ht => by rw [hM9_2, xu_n (by omega), hM9, xu_n (by omega), hM_1, xu_n (by omega)]⟩)
                · have c_6 : ¬ (ky ≤ 0) := fun q => c_6 ((nI_leI (a := ky) (b := 0) (by omega) (by omega)).mpr q)
                  refine lv_lload hx hb dX5_sample_58 (lv_at hl 1 rfl) ?_
                  refine lv_ldc2 (v := 6364136223846793005) hx hb hown lk_constantLong_109 dX5_sample_60 ?_
                  refine x_rl (y := lN 6364136223846793005) rfl ?_
                  refine lv_lmul hx hb dX5_sample_63 ?_
                  refine lv_ldc2 (v := 1442695040888963407) hx hb hown lk_constantLong_111 dX5_sample_64 ?_
                  refine x_rl (y := lN 1442695040888963407) rfl ?_
                  refine lv_ladd hx hb dX5_sample_67 ?_
                  refine lv_lstore (lv' := [(4, .long (mixS st)), (6, .int (nI ky)), (0, .ref (ad 500)), (1, .long p1), (3, .int (nI i))]) hx hb dX5_sample_68 hl (by decide) rfl (fun ls hl => ?_)
                  refine lv_lload hx hb dX5_sample_70 (lv_at hl 0 rfl) ?_
                  refine lv_bipush (v := nI 33) hx hb dX5_sample_72 (by decide) ?_
                  refine lv_lushr (v := lN (mixU (mixS st))) hx hb dX5_sample_74 (mix_shr _) ?_
                  have hmu := mixU_lt (mixS st)
                  refine lv_iload hx hb dX5_sample_75 (lv_at hl 1 rfl) ?_
                  refine lv_iconst (v := nI 1) hx hb dX5_sample_77 (by decide) ?_
                  refine lv_iadd hx hb dX5_sample_78 ?_
                  refine x_ri (nI_add _ _) ?_
                  refine lv_i2l (v := lN (ky + 1)) hx hb dX5_sample_79 (nI_l (by omega)) ?_
                  refine lv_lrem hx hb dX5_sample_80 (by rw [show (0 : Int64) = lN 0 from rfl, pk_lEQ (by omega) (by omega)]; omega) ?_
                  refine x_rl (pk_lRem (by omega) (by omega) (by omega)) ?_
                  refine lv_l2i (v := nI ((mixU (mixS st)) % (ky + 1))) hx hb dX5_sample_81 (lN_i _) ?_
                  refine lv_istore (lv' := [(7, .int (nI ((mixU (mixS st)) % (ky + 1)))), (4, .long (mixS st)), (6, .int (nI ky)), (0, .ref (ad 500)), (1, .long p1), (3, .int (nI i))]) hx hb dX5_sample_82 hl (by decide) rfl (fun ls hl => ?_)
                  have hmj : mixU (mixS st) % (ky + 1) < pn := by have := Nat.mod_lt (mixU (mixS st)) (show 0 < ky + 1 by omega); omega
                  have hfk := hf ky hy
                  have hfm := hf _ hmj
                  refine lv_aload_n hx hb dX5_sample_84 rfl (lv_at hl 3 rfl) ?_
                  refine x_get (ci := 7) (v := .ref (ad 516)) (C := RX5) (T := TX5) (N := 23) hx hb hts inX5 hown hK hX hm500 rfl 20 (by decide) lk_fieldLink_59 (fun _ h9 => h9) rfl dX5_sample_85 ?_
                  refine lv_iload hx hb dX5_sample_88 (lv_at hl 2 rfl) ?_
                  refine x_iN hx hb hK hX hm516 (by omega) (by decide) dX5_sample_90 ?_
                  refine lv_istore (lv' := [(8, .int (nI (f ky))), (7, .int (nI ((mixU (mixS st)) % (ky + 1)))), (4, .long (mixS st)), (6, .int (nI ky)), (0, .ref (ad 500)), (1, .long p1), (3, .int (nI i))]) hx hb dX5_sample_91 hl (by decide) rfl (fun ls hl => ?_)
                  refine lv_aload_n hx hb dX5_sample_93 rfl (lv_at hl 4 rfl) ?_
                  refine x_get (ci := 7) (v := .ref (ad 516)) (C := RX5) (T := TX5) (N := 23) hx hb hts inX5 hown hK hX hm500 rfl 20 (by decide) lk_fieldLink_59 (fun _ h9 => h9) rfl dX5_sample_94 ?_
                  refine lv_iload hx hb dX5_sample_97 (lv_at hl 3 rfl) ?_
                  refine lv_aload_n hx hb dX5_sample_99 rfl (lv_at hl 4 rfl) ?_
                  refine x_get (ci := 7) (v := .ref (ad 516)) (C := RX5) (T := TX5) (N := 23) hx hb hts inX5 hown hK hX hm500 rfl 20 (by decide) lk_fieldLink_59 (fun _ h9 => h9) rfl dX5_sample_100 ?_
                  refine lv_iload hx hb dX5_sample_103 (lv_at hl 1 rfl) ?_
                  refine x_iN hx hb hK hX hm516 (by omega) (by decide) dX5_sample_105 ?_
                  refine x_isN hx hb hK hX hS hm516 (by omega) (by decide) dX5_sample_106 (fun H locs hX hS => ?_)
                  rw [upd_n] at hX
                  obtain ⟨M_7, hM_7⟩ : ∃ zM : xM, zM = xu M9_2 516 (ad 516, .inl (G.2 0, 700, .inl (fun k => nI ((va_up f ky (f ((mixU (mixS st)) % (ky + 1)))) k)))) := ⟨_, rfl⟩
                  have hX : xw G.1 vwCl A M_7 H := by rw [hM_7]; exact hX
                  have hm500 : M_7 500 = some (ad 500, .inr (7, [.int (nI 0), .int (nI nc), .ref (ad 501), .ref (ad 502), .ref (ad 503), .ref (ad 504), .ref (ad 505), .ref (ad 506), .ref (ad 507), .ref (ad 508), .ref (ad 509), .int rn, .int (nI pn), .ref (ad 510), .ref (ad 511), .ref (ad 512), .ref (ad 513), .int (nI jc), .ref (ad 514), .ref (ad 515), .ref (ad 516), .long up, .long dn])) := by rw [hM_7, xu_n (by omega)]; exact hm500
                  have hm501 : M_7 501 = some (ad 501, .inl (G.2 0, 51, .inl mS)) := by rw [hM_7, xu_n (by omega)]; exact hm501
                  have hm502 : M_7 502 = some (ad 502, .inl (G.2 0, 408, .inl mT)) := by rw [hM_7, xu_n (by omega)]; exact hm502
                  have hm503 : M_7 503 = some (ad 503, .inl (G.2 0, 408, .inl mK)) := by rw [hM_7, xu_n (by omega)]; exact hm503
                  have hm504 : M_7 504 = some (ad 504, .inl (G.2 0, 51, .inl (fun k => nI (mC k)))) := by rw [hM_7, xu_n (by omega)]; exact hm504
                  have hm505 : M_7 505 = some (ad 505, .inl (G.2 2, 51, .inl mD)) := by rw [hM_7, xu_n (by omega)]; exact hm505
                  have hm506 : M_7 506 = some (ad 506, .inl (G.2 1, 51, .inr (.inl mF))) := by rw [hM_7, xu_n (by omega)]; exact hm506
                  have hm507 : M_7 507 = some (ad 507, .inl (G.2 1, 51, .inr (.inl mO))) := by rw [hM_7, xu_n (by omega)]; exact hm507
                  have hm508 : M_7 508 = some (ad 508, .inl (G.2 0, 51, .inl (fun k => nI (mP k)))) := by rw [hM_7, xu_n (by omega)]; exact hm508
                  have hm509 : M_7 509 = some (ad 509, .inl (G.2 1, 4, .inr (.inl (fun k => lN (wn k))))) := by rw [hM_7, xu_n (by omega)]; exact hm509
                  have hm510 : M_7 510 = some (ad 510, .inl (G.2 0, 700, .inl (fun k => nI (o1 k)))) := by rw [hM_7, xu_n (by omega)]; exact hm510
                  have hm511 : M_7 511 = some (ad 511, .inl (G.2 0, 700, .inl (fun k => nI (o2 k)))) := by rw [hM_7, xu_n (by omega)]; exact hm511
                  have hm512 : M_7 512 = some (ad 512, .inl (G.2 1, 700, .inr (.inl (fun k => lN (u1 k))))) := by rw [hM_7, xu_n (by omega)]; exact hm512
                  have hm513 : M_7 513 = some (ad 513, .inl (G.2 1, 700, .inr (.inl (fun k => lN (d1 k))))) := by rw [hM_7, xu_n (by omega)]; exact hm513
                  have hm514 : M_7 514 = some (ad 514, .inl (G.2 0, 101, .inl (fun k => nI (jA k)))) := by rw [hM_7, xu_n (by omega)]; exact hm514
                  have hm515 : M_7 515 = some (ad 515, .inl (G.2 0, 101, .inl (fun k => nI (jB k)))) := by rw [hM_7, xu_n (by omega)]; exact hm515
                  have hm516 : M_7 516 = some (ad 516, .inl (G.2 0, 700, .inl (fun k => nI ((va_up f ky (f ((mixU (mixS st)) % (ky + 1)))) k)))) := by rw [hM_7]; exact xu_s
                  refine lv_aload_n hx hb dX5_sample_107 rfl (lv_at hl 4 rfl) ?_
                  refine x_get (ci := 7) (v := .ref (ad 516)) (C := RX5) (T := TX5) (N := 23) hx hb hts inX5 hown hK hX hm500 rfl 20 (by decide) lk_fieldLink_59 (fun _ h9 => h9) rfl dX5_sample_108 ?_
                  refine lv_iload hx hb dX5_sample_111 (lv_at hl 1 rfl) ?_
                  refine lv_iload hx hb dX5_sample_113 (lv_at hl 0 rfl) ?_
                  refine x_isN hx hb hK hX hS hm516 (by omega) (by decide) dX5_sample_115 (fun H locs hX hS => ?_)
                  rw [upd_n] at hX
                  obtain ⟨M_8, hM_8⟩ : ∃ zM : xM, zM = xu M_7 516 (ad 516, .inl (G.2 0, 700, .inl (fun k => nI ((va_up (va_up f ky (f ((mixU (mixS st)) % (ky + 1)))) ((mixU (mixS st)) % (ky + 1)) (f ky)) k)))) := ⟨_, rfl⟩
                  have hX : xw G.1 vwCl A M_8 H := by rw [hM_8]; exact hX
                  have hm500 : M_8 500 = some (ad 500, .inr (7, [.int (nI 0), .int (nI nc), .ref (ad 501), .ref (ad 502), .ref (ad 503), .ref (ad 504), .ref (ad 505), .ref (ad 506), .ref (ad 507), .ref (ad 508), .ref (ad 509), .int rn, .int (nI pn), .ref (ad 510), .ref (ad 511), .ref (ad 512), .ref (ad 513), .int (nI jc), .ref (ad 514), .ref (ad 515), .ref (ad 516), .long up, .long dn])) := by rw [hM_8, xu_n (by omega)]; exact hm500
                  have hm501 : M_8 501 = some (ad 501, .inl (G.2 0, 51, .inl mS)) := by rw [hM_8, xu_n (by omega)]; exact hm501
                  have hm502 : M_8 502 = some (ad 502, .inl (G.2 0, 408, .inl mT)) := by rw [hM_8, xu_n (by omega)]; exact hm502
                  have hm503 : M_8 503 = some (ad 503, .inl (G.2 0, 408, .inl mK)) := by rw [hM_8, xu_n (by omega)]; exact hm503
                  have hm504 : M_8 504 = some (ad 504, .inl (G.2 0, 51, .inl (fun k => nI (mC k)))) := by rw [hM_8, xu_n (by omega)]; exact hm504
                  have hm505 : M_8 505 = some (ad 505, .inl (G.2 2, 51, .inl mD)) := by rw [hM_8, xu_n (by omega)]; exact hm505
                  have hm506 : M_8 506 = some (ad 506, .inl (G.2 1, 51, .inr (.inl mF))) := by rw [hM_8, xu_n (by omega)]; exact hm506
                  have hm507 : M_8 507 = some (ad 507, .inl (G.2 1, 51, .inr (.inl mO))) := by rw [hM_8, xu_n (by omega)]; exact hm507
                  have hm508 : M_8 508 = some (ad 508, .inl (G.2 0, 51, .inl (fun k => nI (mP k)))) := by rw [hM_8, xu_n (by omega)]; exact hm508
                  have hm509 : M_8 509 = some (ad 509, .inl (G.2 1, 4, .inr (.inl (fun k => lN (wn k))))) := by rw [hM_8, xu_n (by omega)]; exact hm509
                  have hm510 : M_8 510 = some (ad 510, .inl (G.2 0, 700, .inl (fun k => nI (o1 k)))) := by rw [hM_8, xu_n (by omega)]; exact hm510
                  have hm511 : M_8 511 = some (ad 511, .inl (G.2 0, 700, .inl (fun k => nI (o2 k)))) := by rw [hM_8, xu_n (by omega)]; exact hm511
                  have hm512 : M_8 512 = some (ad 512, .inl (G.2 1, 700, .inr (.inl (fun k => lN (u1 k))))) := by rw [hM_8, xu_n (by omega)]; exact hm512
                  have hm513 : M_8 513 = some (ad 513, .inl (G.2 1, 700, .inr (.inl (fun k => lN (d1 k))))) := by rw [hM_8, xu_n (by omega)]; exact hm513
                  have hm514 : M_8 514 = some (ad 514, .inl (G.2 0, 101, .inl (fun k => nI (jA k)))) := by rw [hM_8, xu_n (by omega)]; exact hm514
                  have hm515 : M_8 515 = some (ad 515, .inl (G.2 0, 101, .inl (fun k => nI (jB k)))) := by rw [hM_8, xu_n (by omega)]; exact hm515
                  have hm516 : M_8 516 = some (ad 516, .inl (G.2 0, 700, .inl (fun k => nI ((va_up (va_up f ky (f ((mixU (mixS st)) % (ky + 1)))) ((mixU (mixS st)) % (ky + 1)) (f ky)) k)))) := by rw [hM_8]; exact xu_s
                  refine lv_iinc (v := nI (ky - 1)) (lv' := [(6, .int (nI (ky - 1))), (8, .int (nI (f ky))), (7, .int (nI ((mixU (mixS st)) % (ky + 1)))), (4, .long (mixS st)), (0, .ref (ad 500)), (1, .long p1), (3, .int (nI i))]) hx hb dX5_sample_116 hl (k := 3) rfl (x_dec (by omega)) (by decide) rfl (fun ls hl => ?_)
                  refine lv_goto (tgt := 53) hx hb dX5_sample_119 (by decide) ?_
                  exact ih_2 (ky - 1) (mixS st) (va_up (va_up f ky (f (mixU (mixS st) % (ky + 1)))) (mixU (mixS st) % (ky + 1)) (f ky)) M_8 _ _ ls (by omega) (by omega) (fun j hj => by have q1 := hf _ hmj; have q2 := hf ky hy; simp only [va_up]; split; exact q2; split; exact q1; exact hf j hj) (by rw [← hv, xMix_s (k := ky) (by omega)]) (by rw [hM_8, hM_7, hM9_2, x_uu, x_uu]) hX hS (lv_sub hl [0, 3, 4, 5, 6] rfl)
            exact loop_2 pn (pn - 1) p1 (xIota mx pn) M9 _ _ ls (by omega) (by omega) (fun j hj => by unfold xIota; rw [if_pos hj]; exact hj) rfl ((x_us hm516).symm) hX hS (lv_sub hl [0, 1, 2, 3, 4] rfl)
          · have c_5 : ¬ (pn ≤ kx) := fun q => c_5 ((nI_leI (by omega) (by omega)).mpr q)
            refine lv_aload_n hx hb dX5_sample_27 rfl (lv_at hl 1 rfl) ?_
            refine x_get (ci := 7) (v := .ref (ad 516)) (C := RX5) (T := TX5) (N := 23) hx hb hts inX5 hown hK hX hm500 rfl 20 (by decide) lk_fieldLink_59 (fun _ h9 => h9) rfl dX5_sample_28 ?_
            refine lv_iload hx hb dX5_sample_31 (lv_at hl 0 rfl) ?_
            refine lv_iload hx hb dX5_sample_33 (lv_at hl 0 rfl) ?_
            refine x_isN hx hb hK hX hS hm516 (by omega) (by decide) dX5_sample_35 (fun H locs hX hS => ?_)
            rw [upd_n] at hX
            obtain ⟨M_9, hM_9⟩ : ∃ zM : xM, zM = xu M9 516 (ad 516, .inl (G.2 0, 700, .inl (fun k => nI ((va_up (xIota mx kx) kx kx) k)))) := ⟨_, rfl⟩
            have hX : xw G.1 vwCl A M_9 H := by rw [hM_9]; exact hX
            have hm500 : M_9 500 = some (ad 500, .inr (7, [.int (nI 0), .int (nI nc), .ref (ad 501), .ref (ad 502), .ref (ad 503), .ref (ad 504), .ref (ad 505), .ref (ad 506), .ref (ad 507), .ref (ad 508), .ref (ad 509), .int rn, .int (nI pn), .ref (ad 510), .ref (ad 511), .ref (ad 512), .ref (ad 513), .int (nI jc), .ref (ad 514), .ref (ad 515), .ref (ad 516), .long up, .long dn])) := by rw [hM_9, xu_n (by omega)]; exact hm500
            have hm501 : M_9 501 = some (ad 501, .inl (G.2 0, 51, .inl mS)) := by rw [hM_9, xu_n (by omega)]; exact hm501
            have hm502 : M_9 502 = some (ad 502, .inl (G.2 0, 408, .inl mT)) := by rw [hM_9, xu_n (by omega)]; exact hm502
            have hm503 : M_9 503 = some (ad 503, .inl (G.2 0, 408, .inl mK)) := by rw [hM_9, xu_n (by omega)]; exact hm503
            have hm504 : M_9 504 = some (ad 504, .inl (G.2 0, 51, .inl (fun k => nI (mC k)))) := by rw [hM_9, xu_n (by omega)]; exact hm504
            have hm505 : M_9 505 = some (ad 505, .inl (G.2 2, 51, .inl mD)) := by rw [hM_9, xu_n (by omega)]; exact hm505
            have hm506 : M_9 506 = some (ad 506, .inl (G.2 1, 51, .inr (.inl mF))) := by rw [hM_9, xu_n (by omega)]; exact hm506
            have hm507 : M_9 507 = some (ad 507, .inl (G.2 1, 51, .inr (.inl mO))) := by rw [hM_9, xu_n (by omega)]; exact hm507
            have hm508 : M_9 508 = some (ad 508, .inl (G.2 0, 51, .inl (fun k => nI (mP k)))) := by rw [hM_9, xu_n (by omega)]; exact hm508
            have hm509 : M_9 509 = some (ad 509, .inl (G.2 1, 4, .inr (.inl (fun k => lN (wn k))))) := by rw [hM_9, xu_n (by omega)]; exact hm509
            have hm510 : M_9 510 = some (ad 510, .inl (G.2 0, 700, .inl (fun k => nI (o1 k)))) := by rw [hM_9, xu_n (by omega)]; exact hm510
            have hm511 : M_9 511 = some (ad 511, .inl (G.2 0, 700, .inl (fun k => nI (o2 k)))) := by rw [hM_9, xu_n (by omega)]; exact hm511
            have hm512 : M_9 512 = some (ad 512, .inl (G.2 1, 700, .inr (.inl (fun k => lN (u1 k))))) := by rw [hM_9, xu_n (by omega)]; exact hm512
            have hm513 : M_9 513 = some (ad 513, .inl (G.2 1, 700, .inr (.inl (fun k => lN (d1 k))))) := by rw [hM_9, xu_n (by omega)]; exact hm513
            have hm514 : M_9 514 = some (ad 514, .inl (G.2 0, 101, .inl (fun k => nI (jA k)))) := by rw [hM_9, xu_n (by omega)]; exact hm514
            have hm515 : M_9 515 = some (ad 515, .inl (G.2 0, 101, .inl (fun k => nI (jB k)))) := by rw [hM_9, xu_n (by omega)]; exact hm515
            have hm516 : M_9 516 = some (ad 516, .inl (G.2 0, 700, .inl (fun k => nI ((va_up (xIota mx kx) kx kx) k)))) := by rw [hM_9]; exact xu_s
            refine lv_iinc (v := nI (kx + 1)) (lv' := [(4, .int (nI (kx + 1))), (0, .ref (ad 500)), (1, .long p1), (3, .int (nI i))]) hx hb dX5_sample_36 hl (k := 0) rfl (show nI kx + Int32.ofInt 1 = _ from nI_add _ 1) (by decide) rfl (fun ls hl => ?_)
            refine lv_goto (tgt := 18) hx hb dX5_sample_39 (by decide) ?_
            exact ih (kx + 1) M_9 _ _ ls (by omega) (by omega) (by rw [hM_9, hM9, x_uu, xIota_s]) hX hS (lv_sub hl [0, 1, 2, 3] rfl)
      exact loop (pn + 1) 0 M_1 _ _ ls (by omega) (by omega) (by rw [xIota_0]; exact (x_us hm516).symm) hX hS (lv_sub hl [0, 1, 2, 3] rfl)
    · have c_4 : 1 = 0 := (nI_eq (a := 1) (b := 0) (by omega) (by omega)).mp c_4
      exact absurd c_4 (by omega)
  · rw [er]
    refine lv_if_ne (tgt := 15) hx hb dX5_sample_10 (by decide) (fun c_10 => ?_) (fun c_10 => ?_)
    · have c_10 : ¬ (0 = 0) := fun q => c_10 ((nI_eq (a := 0) (b := 0) (by omega) (by omega)).mpr q)
      exact absurd c_10 (by omega)
    · have c_10 : 0 = 0 := (nI_eq (a := 0) (b := 0) (by omega) (by omega)).mp c_10
      refine lv_iconst (v := (-1)) hx hb dX5_sample_13 (by decide) ?_
      exact x_iret hx hb hr hlocks hK hA hX hS dX5_sample_14 (⟨Or.inr ⟨ep, rfl, ⟨hm500, hm501, hm502, hm503, hm504, hm505, hm506, hm507, hm508, hm509, hm510, hm511, hm512, hm513, hm514, hm515, hm516⟩⟩, fun t ht => by rw [hM_1, xu_n (by omega)]⟩)

abbrev rmX5_best : Room := { frames := 0, cells := 0, slots := 0, locals := 0 }
set_option maxHeartbeats 4000000 in
set_option maxRecDepth 100000 in
/-- best -/
theorem ctX5_best (l : Launch) (G : xG) (A : Nat → Prop) (M : xM) {ad : Nat → Nat} {th : Int32} {nc : Nat} {mS : Nat → Int32} {mT : Nat → Int32} {mK : Nat → Int32} {mC : Nat → Nat} {mD : Nat → Int32} {mF : Nat → Int64} {mO : Nat → Int64} {mP : Nat → Nat} {wn : Nat → Nat} {rn : Int32} {pn : Nat} {o1 : Nat → Nat} {o2 : Nat → Nat} {u1 : Nat → Nat} {d1 : Nat → Nat} {jc : Nat} {jA : Nat → Nat} {jB : Nat → Nat} {mx : Nat → Nat} {up : Int64} {dn : Int64} (hR : xMod G M ad th nc mS mT mK mC mD mF mO mP wn rn pn o1 o2 u1 d1 jc jA jB mx up dn) (p0 p1 p2 : Int32) (hpn : pn ≤ 625) : Met l yX5_best wsX5_best rmX5_best (va_Pc ([.ref (ad 500), .int p0, .int p1, .int p2] : List Value) (xPc G A M)) (va_Qi (fun r M1 => ((∃ sx0, sx0 ≤ 1 ∧ p0 = nI sx0 ∧ 0 ≤ p2 ∧ r = xScan (fun j => decide ((if sx0 = 1 then nI (o2 j) else nI (o1 j)) = p1)) (fun j => if sx0 = 1 then nI (o1 j) else nI (o2 j)) p2 pn 0 0) ∨ (¬ ((p0 = 0 ∨ p0 = nI 1) ∧ 0 ≤ p2) ∧ r = nI 0)) ∧ xMod G M1 ad (nI 0) nc mS mT mK mC mD mF mO mP wn rn pn o1 o2 u1 d1 jc jA jB mx up dn ∧ (∀ t, t < 500 ∨ 516 < t → M1 t = M t)) (xPc G A) A) 0 0 A := by
  refine x_met (cc := cX5_best) (maxL := 6) (ret := (some .int)) RX5 (by decide) rfl (Nat.le_of_ble_eq_true rfl) rfl ?_
  intro p e s m below meth c hx hb hr hts hown hlocks hml hin hK hA hX ls hl
  have inX5 : ∀ w ∈ wsX50, w ∈ wsX5_best := by decide +kernel
  have lk_fieldLink_62 := hts (.fieldLink RX5 62 "ReconcileModel" "thrown" "I") (by decide +kernel)
  have lk_fieldLink_92 := hts (.fieldLink RX5 92 "ReconcileModel" "pairs" "I") (by decide +kernel)
  have lk_fieldLink_44 := hts (.fieldLink RX5 44 "ReconcileModel" "twos" "[I") (by decide +kernel)
  have lk_fieldLink_41 := hts (.fieldLink RX5 41 "ReconcileModel" "ones" "[I") (by decide +kernel)
  have hS : va_S A s.heap s.heap [] := va_S.rf
  have hl : lv_has ls 6 [(0, .ref (ad 500)), (1, .int p0), (2, .int p1), (3, .int p2)] := hl
  obtain ⟨hm500, hm501, hm502, hm503, hm504, hm505, hm506, hm507, hm508, hm509, hm510, hm511, hm512, hm513, hm514, hm515, hm516⟩ := id hR
  refine lv_aload_n hx hb dX5_best_0 rfl (lv_at hl 0 rfl) ?_
  refine lv_iconst (v := nI 0) hx hb dX5_best_1 (by decide) ?_
  refine x_put (ci := 7) (v := .int (nI 0)) (C := RX5) (T := TX5) (N := 23) hx hb hts inX5 tyX5 tyX5_ok nmX5 hown hK hX hS hm500 rfl 0 (by decide) lk_fieldLink_62 (fun _ h9 => h9) rfl (tyX5_ok 0 (by decide)) rfl rfl (Nat.le_of_ble_eq_true rfl) dX5_best_2 (fun H locs hX hS => ?_)
  obtain ⟨M_1, hM_1⟩ : ∃ zM : xM, zM = xu M 500 (ad 500, .inr (7, [.int (nI 0), .int (nI nc), .ref (ad 501), .ref (ad 502), .ref (ad 503), .ref (ad 504), .ref (ad 505), .ref (ad 506), .ref (ad 507), .ref (ad 508), .ref (ad 509), .int rn, .int (nI pn), .ref (ad 510), .ref (ad 511), .ref (ad 512), .ref (ad 513), .int (nI jc), .ref (ad 514), .ref (ad 515), .ref (ad 516), .long up, .long dn])) := ⟨_, rfl⟩
  have hX : xw G.1 vwCl A M_1 H := by rw [hM_1]; exact hX
  have hm501 : M_1 501 = some (ad 501, .inl (G.2 0, 51, .inl mS)) := by rw [hM_1, xu_n (by omega)]; exact hm501
  have hm502 : M_1 502 = some (ad 502, .inl (G.2 0, 408, .inl mT)) := by rw [hM_1, xu_n (by omega)]; exact hm502
  have hm503 : M_1 503 = some (ad 503, .inl (G.2 0, 408, .inl mK)) := by rw [hM_1, xu_n (by omega)]; exact hm503
  have hm504 : M_1 504 = some (ad 504, .inl (G.2 0, 51, .inl (fun k => nI (mC k)))) := by rw [hM_1, xu_n (by omega)]; exact hm504
  have hm505 : M_1 505 = some (ad 505, .inl (G.2 2, 51, .inl mD)) := by rw [hM_1, xu_n (by omega)]; exact hm505
  have hm506 : M_1 506 = some (ad 506, .inl (G.2 1, 51, .inr (.inl mF))) := by rw [hM_1, xu_n (by omega)]; exact hm506
  have hm507 : M_1 507 = some (ad 507, .inl (G.2 1, 51, .inr (.inl mO))) := by rw [hM_1, xu_n (by omega)]; exact hm507
  have hm508 : M_1 508 = some (ad 508, .inl (G.2 0, 51, .inl (fun k => nI (mP k)))) := by rw [hM_1, xu_n (by omega)]; exact hm508
  have hm509 : M_1 509 = some (ad 509, .inl (G.2 1, 4, .inr (.inl (fun k => lN (wn k))))) := by rw [hM_1, xu_n (by omega)]; exact hm509
  have hm510 : M_1 510 = some (ad 510, .inl (G.2 0, 700, .inl (fun k => nI (o1 k)))) := by rw [hM_1, xu_n (by omega)]; exact hm510
  have hm511 : M_1 511 = some (ad 511, .inl (G.2 0, 700, .inl (fun k => nI (o2 k)))) := by rw [hM_1, xu_n (by omega)]; exact hm511
  have hm512 : M_1 512 = some (ad 512, .inl (G.2 1, 700, .inr (.inl (fun k => lN (u1 k))))) := by rw [hM_1, xu_n (by omega)]; exact hm512
  have hm513 : M_1 513 = some (ad 513, .inl (G.2 1, 700, .inr (.inl (fun k => lN (d1 k))))) := by rw [hM_1, xu_n (by omega)]; exact hm513
  have hm514 : M_1 514 = some (ad 514, .inl (G.2 0, 101, .inl (fun k => nI (jA k)))) := by rw [hM_1, xu_n (by omega)]; exact hm514
  have hm515 : M_1 515 = some (ad 515, .inl (G.2 0, 101, .inl (fun k => nI (jB k)))) := by rw [hM_1, xu_n (by omega)]; exact hm515
  have hm516 : M_1 516 = some (ad 516, .inl (G.2 0, 700, .inl (fun k => nI (mx k)))) := by rw [hM_1, xu_n (by omega)]; exact hm516
  have hm500 : M_1 500 = some (ad 500, .inr (7, [.int (nI 0), .int (nI nc), .ref (ad 501), .ref (ad 502), .ref (ad 503), .ref (ad 504), .ref (ad 505), .ref (ad 506), .ref (ad 507), .ref (ad 508), .ref (ad 509), .int rn, .int (nI pn), .ref (ad 510), .ref (ad 511), .ref (ad 512), .ref (ad 513), .int (nI jc), .ref (ad 514), .ref (ad 515), .ref (ad 516), .long up, .long dn])) := by rw [hM_1]; exact xu_s
  refine lv_iconst (v := nI 0) hx hb dX5_best_5 (by decide) ?_
  refine lv_istore (lv' := [(4, .int (nI 0)), (0, .ref (ad 500)), (1, .int p0), (2, .int p1), (3, .int p2)]) hx hb dX5_best_6 hl (by decide) rfl (fun ls hl => ?_)
  refine lv_iconst (v := nI 0) hx hb dX5_best_8 (by decide) ?_
  refine lv_istore (lv' := [(5, .int (nI 0)), (4, .int (nI 0)), (0, .ref (ad 500)), (1, .int p0), (2, .int p1), (3, .int p2)]) hx hb dX5_best_9 hl (by decide) rfl (fun ls hl => ?_)
  by_cases hc : (p0 = 0 ∨ p0 = nI 1) ∧ 0 ≤ p2
  · obtain ⟨sx, hsx, es⟩ : ∃ sx, sx ≤ 1 ∧ p0 = nI sx := by rcases hc.1 with q | q; exact ⟨0, by omega, q⟩; exact ⟨1, by omega, q⟩
    subst es
    have loop : ∀ (n : Nat) (i : Nat) (b : Nat) (ls : Array Slot), pn < i + n → (i ≤ pn) → (b ≤ i) → (xScan (fun j => decide ((if sx = 1 then nI (o2 j) else nI (o1 j)) = p1)) (fun j => if sx = 1 then nI (o1 j) else nI (o2 j)) p2 (pn - i) i b = xScan (fun j => decide ((if sx = 1 then nI (o2 j) else nI (o1 j)) = p1)) (fun j => if sx = 1 then nI (o1 j) else nI (o2 j)) p2 pn 0 0) → lv_has ls 6 [(5, .int (nI i)), (4, .int (nI b)), (0, .ref (ad 500)), (1, .int (nI sx)), (2, .int p1), (3, .int p2)] → W p l e rmX5_best s m ([.ref (ad 500), .int (nI sx), .int p1, .int p2] : List Value).toArray below meth c H locs 0 0 (MQ below (va_Qi (fun r M1 => ((∃ sx0, sx0 ≤ 1 ∧ (nI sx) = nI sx0 ∧ 0 ≤ p2 ∧ r = xScan (fun j => decide ((if sx0 = 1 then nI (o2 j) else nI (o1 j)) = p1)) (fun j => if sx0 = 1 then nI (o1 j) else nI (o2 j)) p2 pn 0 0) ∨ (¬ (((nI sx) = 0 ∨ (nI sx) = nI 1) ∧ 0 ≤ p2) ∧ r = nI 0)) ∧ xMod G M1 ad (nI 0) nc mS mT mK mC mD mF mO mP wn rn pn o1 o2 u1 d1 jc jA jB mx up dn ∧ (∀ t, t < 500 ∨ 516 < t → M1 t = M t)) (xPc G A) A) ([.ref (ad 500), .int (nI sx), .int p1, .int p2] : List Value).toArray s 0 0 A) (F0 m 11 ls []) := by
      intro n
      induction n with
      | zero => intro i b ls hn0 hi hb9 hv; exact absurd hn0 (by omega)
      | succ n ih =>
        intro i b ls hn0 hi hb9 hv hl
        refine lv_iload hx hb dX5_best_11 (lv_at hl 0 rfl) ?_
        refine lv_aload_n hx hb dX5_best_13 rfl (lv_at hl 2 rfl) ?_
        refine x_get (ci := 7) (v := .int (nI pn)) (C := RX5) (T := TX5) (N := 23) hx hb hts inX5 hown hK hX hm500 rfl 12 (by decide) lk_fieldLink_92 (fun _ h9 => h9) rfl dX5_best_14 ?_
        refine lv_icmp_ge (tgt := 95) hx hb dX5_best_17 (by decide) (fun c_2 => ?_) (fun c_2 => ?_)
        · have c_2 : pn ≤ i := (nI_leI (by omega) (by omega)).mp c_2
          refine lv_iconst (v := nI 0) hx hb dX5_best_95 (by decide) ?_
          exact x_iret hx hb hr hlocks hK hA hX hS dX5_best_96 (⟨Or.inl ⟨sx, hsx, rfl, hc.2, by rw [← hv, xScan_0 (by omega)]; rfl⟩, ⟨hm500, hm501, hm502, hm503, hm504, hm505, hm506, hm507, hm508, hm509, hm510, hm511, hm512, hm513, hm514, hm515, hm516⟩, fun t ht => by rw [hM_1, xu_n (by omega)]⟩)
        · have c_2 : ¬ (pn ≤ i) := fun q => c_2 ((nI_leI (by omega) (by omega)).mpr q)
          refine lv_iload_n hx hb dX5_best_20 rfl (lv_at hl 5 rfl) ?_
          refine lv_if_lt (tgt := 95) hx hb dX5_best_21 (by decide) (fun c_3 => ?_) (fun c_3 => ?_)
          · exact absurd hc.2 (x_nle.mpr c_3)
          · refine lv_iload_n hx hb dX5_best_24 rfl (lv_at hl 3 rfl) ?_
            refine lv_if_lt (tgt := 95) hx hb dX5_best_25 (by decide) (fun c_4 => ?_) (fun c_4 => ?_)
            · have c_4 : sx < 0 := (nI_ltI (a := sx) (b := 0) (by omega) (by omega)).mp c_4
              exact absurd c_4 (by omega)
            · have c_4 : ¬ (sx < 0) := fun q => c_4 ((nI_ltI (a := sx) (b := 0) (by omega) (by omega)).mpr q)
              refine lv_iload_n hx hb dX5_best_28 rfl (lv_at hl 3 rfl) ?_
              refine lv_iconst (v := nI 2) hx hb dX5_best_29 (by decide) ?_
              refine lv_icmp_ge (tgt := 95) hx hb dX5_best_30 (by decide) (fun c_5 => ?_) (fun c_5 => ?_)
              · have c_5 : 2 ≤ sx := (nI_leI (by omega) (by omega)).mp c_5
                exact absurd c_5 (by omega)
              · have c_5 : ¬ (2 ≤ sx) := fun q => c_5 ((nI_leI (by omega) (by omega)).mpr q)
                refine lv_iload_n hx hb dX5_best_33 rfl (lv_at hl 3 rfl) ?_
                refine lv_if_ne (tgt := 47) hx hb dX5_best_34 (by decide) (fun c_6 => ?_) (fun c_6 => ?_)
                · have c_6 : ¬ (sx = 0) := fun q => c_6 ((nI_eq (a := sx) (b := 0) (by omega) (by omega)).mpr q)
                  refine lv_aload_n hx hb dX5_best_47 rfl (lv_at hl 2 rfl) ?_
                  refine x_get (ci := 7) (v := .ref (ad 511)) (C := RX5) (T := TX5) (N := 23) hx hb hts inX5 hown hK hX hm500 rfl 14 (by decide) lk_fieldLink_44 (fun _ h9 => h9) rfl dX5_best_48 ?_
                  refine lv_iload hx hb dX5_best_51 (lv_at hl 0 rfl) ?_
                  refine x_iN hx hb hK hX hm511 (by omega) (by decide) dX5_best_53 ?_
                  refine lv_iload_n hx hb dX5_best_54 rfl (lv_at hl 4 rfl) ?_
                  refine lv_icmp_ne (tgt := 89) hx hb dX5_best_55 (by decide) (fun c_7 => ?_) (fun c_7 => ?_)
                  · have hP : (fun j => decide ((if sx = 1 then nI (o2 j) else nI (o1 j)) = p1)) i = false := by show decide ((if sx = 1 then nI (o2 i) else nI (o1 i)) = p1) = false; rw [if_pos (by omega)]; exact decide_eq_false c_7
                    refine lv_iinc (v := nI (i + 1)) (lv' := [(5, .int (nI (i + 1))), (4, .int (nI b)), (0, .ref (ad 500)), (1, .int (nI sx)), (2, .int p1), (3, .int p2)]) hx hb dX5_best_89 hl (k := 0) rfl (show nI i + Int32.ofInt 1 = _ from nI_add _ 1) (by decide) rfl (fun ls hl => ?_)
                    refine lv_goto (tgt := 11) hx hb dX5_best_92 (by decide) ?_
                    exact ih (i + 1) b ls (by omega) (by omega) (by omega) (by have q := xScan_pass (P := (fun j => decide ((if sx = 1 then nI (o2 j) else nI (o1 j)) = p1))) (i := i) (v := (fun j => if sx = 1 then nI (o1 j) else nI (o2 j))) (k := p2) (f := pn - i) (b := b) hP (by omega); rw [Nat.sub_sub] at q; exact q.symm.trans hv) (lv_sub hl [0, 1, 2, 3, 4, 5] rfl)
                  · have hP : (fun j => decide ((if sx = 1 then nI (o2 j) else nI (o1 j)) = p1)) i = true := by show decide ((if sx = 1 then nI (o2 i) else nI (o1 i)) = p1) = true; rw [if_pos (by omega)]; exact decide_eq_true c_7
                    refine lv_iload hx hb dX5_best_58 (lv_at hl 1 rfl) ?_
                    refine lv_iload_n hx hb dX5_best_60 rfl (lv_at hl 5 rfl) ?_
                    refine lv_icmp_ne (tgt := 86) hx hb dX5_best_61 (by decide) (fun c_8 => ?_) (fun c_8 => ?_)
                    · refine lv_iinc (v := nI (b + 1)) (lv' := [(4, .int (nI (b + 1))), (5, .int (nI i)), (0, .ref (ad 500)), (1, .int (nI sx)), (2, .int p1), (3, .int p2)]) hx hb dX5_best_86 hl (k := 1) rfl (show nI b + Int32.ofInt 1 = _ from nI_add _ 1) (by decide) rfl (fun ls hl => ?_)
                      refine lv_iinc (v := nI (i + 1)) (lv' := [(5, .int (nI (i + 1))), (4, .int (nI (b + 1))), (0, .ref (ad 500)), (1, .int (nI sx)), (2, .int p1), (3, .int p2)]) hx hb dX5_best_89 hl (k := 1) rfl (show nI i + Int32.ofInt 1 = _ from nI_add _ 1) (by decide) rfl (fun ls hl => ?_)
                      refine lv_goto (tgt := 11) hx hb dX5_best_92 (by decide) ?_
                      exact ih (i + 1) (b + 1) ls (by omega) (by omega) (by omega) (by have q := xScan_miss (P := (fun j => decide ((if sx = 1 then nI (o2 j) else nI (o1 j)) = p1))) (i := i) (v := (fun j => if sx = 1 then nI (o1 j) else nI (o2 j))) (k := p2) (f := pn - i) (b := b) hP c_8 (by omega); rw [Nat.sub_sub] at q; exact q.symm.trans hv) (lv_sub hl [0, 1, 2, 3, 4, 5] rfl)
                    · refine lv_iload_n hx hb dX5_best_64 rfl (lv_at hl 3 rfl) ?_
                      refine lv_if_ne (tgt := 78) hx hb dX5_best_65 (by decide) (fun c_9 => ?_) (fun c_9 => ?_)
                      · have c_9 : ¬ (sx = 0) := fun q => c_9 ((nI_eq (a := sx) (b := 0) (by omega) (by omega)).mpr q)
                        refine lv_aload_n hx hb dX5_best_78 rfl (lv_at hl 2 rfl) ?_
                        refine x_get (ci := 7) (v := .ref (ad 510)) (C := RX5) (T := TX5) (N := 23) hx hb hts inX5 hown hK hX hm500 rfl 13 (by decide) lk_fieldLink_41 (fun _ h9 => h9) rfl dX5_best_79 ?_
                        refine lv_iload hx hb dX5_best_82 (lv_at hl 0 rfl) ?_
                        refine x_iN hx hb hK hX hm510 (by omega) (by decide) dX5_best_84 ?_
                        exact x_iret hx hb hr hlocks hK hA hX hS dX5_best_85 (⟨Or.inl ⟨sx, hsx, rfl, hc.2, by rw [← hv, xScan_hit (P := (fun j => decide ((if sx = 1 then nI (o2 j) else nI (o1 j)) = p1))) (i := i) (v := (fun j => if sx = 1 then nI (o1 j) else nI (o2 j))) hP c_8 (by omega), if_pos (show sx = 1 by omega)]⟩, ⟨hm500, hm501, hm502, hm503, hm504, hm505, hm506, hm507, hm508, hm509, hm510, hm511, hm512, hm513, hm514, hm515, hm516⟩, fun t ht => by rw [hM_1, xu_n (by omega)]⟩)
                      · have c_9 : sx = 0 := (nI_eq (a := sx) (b := 0) (by omega) (by omega)).mp c_9
                        exact absurd c_9 (by omega)
                · have c_6 : sx = 0 := (nI_eq (a := sx) (b := 0) (by omega) (by omega)).mp c_6
                  refine lv_aload_n hx hb dX5_best_37 rfl (lv_at hl 2 rfl) ?_
                  refine x_get (ci := 7) (v := .ref (ad 510)) (C := RX5) (T := TX5) (N := 23) hx hb hts inX5 hown hK hX hm500 rfl 13 (by decide) lk_fieldLink_41 (fun _ h9 => h9) rfl dX5_best_38 ?_
                  refine lv_iload hx hb dX5_best_41 (lv_at hl 0 rfl) ?_
                  refine x_iN hx hb hK hX hm510 (by omega) (by decide) dX5_best_43 ?_
                  refine lv_goto (tgt := 54) hx hb dX5_best_44 (by decide) ?_
                  refine lv_iload_n hx hb dX5_best_54 rfl (lv_at hl 4 rfl) ?_
                  refine lv_icmp_ne (tgt := 89) hx hb dX5_best_55 (by decide) (fun c_10 => ?_) (fun c_10 => ?_)
                  · have hP : (fun j => decide ((if sx = 1 then nI (o2 j) else nI (o1 j)) = p1)) i = false := by show decide ((if sx = 1 then nI (o2 i) else nI (o1 i)) = p1) = false; rw [if_neg (by omega)]; exact decide_eq_false c_10
                    refine lv_iinc (v := nI (i + 1)) (lv' := [(5, .int (nI (i + 1))), (4, .int (nI b)), (0, .ref (ad 500)), (1, .int (nI sx)), (2, .int p1), (3, .int p2)]) hx hb dX5_best_89 hl (k := 0) rfl (show nI i + Int32.ofInt 1 = _ from nI_add _ 1) (by decide) rfl (fun ls hl => ?_)
                    refine lv_goto (tgt := 11) hx hb dX5_best_92 (by decide) ?_
                    exact ih (i + 1) b ls (by omega) (by omega) (by omega) (by have q := xScan_pass (P := (fun j => decide ((if sx = 1 then nI (o2 j) else nI (o1 j)) = p1))) (i := i) (v := (fun j => if sx = 1 then nI (o1 j) else nI (o2 j))) (k := p2) (f := pn - i) (b := b) hP (by omega); rw [Nat.sub_sub] at q; exact q.symm.trans hv) (lv_sub hl [0, 1, 2, 3, 4, 5] rfl)
                  · have hP : (fun j => decide ((if sx = 1 then nI (o2 j) else nI (o1 j)) = p1)) i = true := by show decide ((if sx = 1 then nI (o2 i) else nI (o1 i)) = p1) = true; rw [if_neg (by omega)]; exact decide_eq_true c_10
                    refine lv_iload hx hb dX5_best_58 (lv_at hl 1 rfl) ?_
                    refine lv_iload_n hx hb dX5_best_60 rfl (lv_at hl 5 rfl) ?_
                    refine lv_icmp_ne (tgt := 86) hx hb dX5_best_61 (by decide) (fun c_11 => ?_) (fun c_11 => ?_)
                    · refine lv_iinc (v := nI (b + 1)) (lv' := [(4, .int (nI (b + 1))), (5, .int (nI i)), (0, .ref (ad 500)), (1, .int (nI sx)), (2, .int p1), (3, .int p2)]) hx hb dX5_best_86 hl (k := 1) rfl (show nI b + Int32.ofInt 1 = _ from nI_add _ 1) (by decide) rfl (fun ls hl => ?_)
                      refine lv_iinc (v := nI (i + 1)) (lv' := [(5, .int (nI (i + 1))), (4, .int (nI (b + 1))), (0, .ref (ad 500)), (1, .int (nI sx)), (2, .int p1), (3, .int p2)]) hx hb dX5_best_89 hl (k := 1) rfl (show nI i + Int32.ofInt 1 = _ from nI_add _ 1) (by decide) rfl (fun ls hl => ?_)
                      refine lv_goto (tgt := 11) hx hb dX5_best_92 (by decide) ?_
                      exact ih (i + 1) (b + 1) ls (by omega) (by omega) (by omega) (by have q := xScan_miss (P := (fun j => decide ((if sx = 1 then nI (o2 j) else nI (o1 j)) = p1))) (i := i) (v := (fun j => if sx = 1 then nI (o1 j) else nI (o2 j))) (k := p2) (f := pn - i) (b := b) hP c_11 (by omega); rw [Nat.sub_sub] at q; exact q.symm.trans hv) (lv_sub hl [0, 1, 2, 3, 4, 5] rfl)
                    · refine lv_iload_n hx hb dX5_best_64 rfl (lv_at hl 3 rfl) ?_
                      refine lv_if_ne (tgt := 78) hx hb dX5_best_65 (by decide) (fun c_12 => ?_) (fun c_12 => ?_)
                      · have c_12 : ¬ (sx = 0) := fun q => c_12 ((nI_eq (a := sx) (b := 0) (by omega) (by omega)).mpr q)
                        exact absurd c_12 (by omega)
                      · have c_12 : sx = 0 := (nI_eq (a := sx) (b := 0) (by omega) (by omega)).mp c_12
                        refine lv_aload_n hx hb dX5_best_68 rfl (lv_at hl 2 rfl) ?_
                        refine x_get (ci := 7) (v := .ref (ad 511)) (C := RX5) (T := TX5) (N := 23) hx hb hts inX5 hown hK hX hm500 rfl 14 (by decide) lk_fieldLink_44 (fun _ h9 => h9) rfl dX5_best_69 ?_
                        refine lv_iload hx hb dX5_best_72 (lv_at hl 0 rfl) ?_
                        refine x_iN hx hb hK hX hm511 (by omega) (by decide) dX5_best_74 ?_
                        refine lv_goto (tgt := 85) hx hb dX5_best_75 (by decide) ?_
                        exact x_iret hx hb hr hlocks hK hA hX hS dX5_best_85 (⟨Or.inl ⟨sx, hsx, rfl, hc.2, by rw [← hv, xScan_hit (P := (fun j => decide ((if sx = 1 then nI (o2 j) else nI (o1 j)) = p1))) (i := i) (v := (fun j => if sx = 1 then nI (o1 j) else nI (o2 j))) hP c_11 (by omega), if_neg (show ¬ sx = 1 by omega)]⟩, ⟨hm500, hm501, hm502, hm503, hm504, hm505, hm506, hm507, hm508, hm509, hm510, hm511, hm512, hm513, hm514, hm515, hm516⟩, fun t ht => by rw [hM_1, xu_n (by omega)]⟩)
    exact loop (pn + 1) 0 0 ls (by omega) (by omega) (by omega) rfl (lv_sub hl [0, 1, 2, 3, 4, 5] rfl)
  · refine lv_iload hx hb dX5_best_11 (lv_at hl 0 rfl) ?_
    refine lv_aload_n hx hb dX5_best_13 rfl (lv_at hl 2 rfl) ?_
    refine x_get (ci := 7) (v := .int (nI pn)) (C := RX5) (T := TX5) (N := 23) hx hb hts inX5 hown hK hX hm500 rfl 12 (by decide) lk_fieldLink_92 (fun _ h9 => h9) rfl dX5_best_14 ?_
    refine lv_icmp_ge (tgt := 95) hx hb dX5_best_17 (by decide) (fun c_13 => ?_) (fun c_13 => ?_)
    · have c_13 : pn ≤ 0 := (nI_leI (by omega) (by omega)).mp c_13
      refine lv_iconst (v := nI 0) hx hb dX5_best_95 (by decide) ?_
      exact x_iret hx hb hr hlocks hK hA hX hS dX5_best_96 (⟨Or.inr ⟨hc, rfl⟩, ⟨hm500, hm501, hm502, hm503, hm504, hm505, hm506, hm507, hm508, hm509, hm510, hm511, hm512, hm513, hm514, hm515, hm516⟩, fun t ht => by rw [hM_1, xu_n (by omega)]⟩)
    · have c_13 : ¬ (pn ≤ 0) := fun q => c_13 ((nI_leI (by omega) (by omega)).mpr q)
      refine lv_iload_n hx hb dX5_best_20 rfl (lv_at hl 5 rfl) ?_
      refine lv_if_lt (tgt := 95) hx hb dX5_best_21 (by decide) (fun c_14 => ?_) (fun c_14 => ?_)
      · refine lv_iconst (v := nI 0) hx hb dX5_best_95 (by decide) ?_
        exact x_iret hx hb hr hlocks hK hA hX hS dX5_best_96 (⟨Or.inr ⟨hc, rfl⟩, ⟨hm500, hm501, hm502, hm503, hm504, hm505, hm506, hm507, hm508, hm509, hm510, hm511, hm512, hm513, hm514, hm515, hm516⟩, fun t ht => by rw [hM_1, xu_n (by omega)]⟩)
      · refine lv_iload_n hx hb dX5_best_24 rfl (lv_at hl 3 rfl) ?_
        refine lv_if_lt (tgt := 95) hx hb dX5_best_25 (by decide) (fun c_15 => ?_) (fun c_15 => ?_)
        · refine lv_iconst (v := nI 0) hx hb dX5_best_95 (by decide) ?_
          exact x_iret hx hb hr hlocks hK hA hX hS dX5_best_96 (⟨Or.inr ⟨hc, rfl⟩, ⟨hm500, hm501, hm502, hm503, hm504, hm505, hm506, hm507, hm508, hm509, hm510, hm511, hm512, hm513, hm514, hm515, hm516⟩, fun t ht => by rw [hM_1, xu_n (by omega)]⟩)
        · refine lv_iload_n hx hb dX5_best_28 rfl (lv_at hl 3 rfl) ?_
          refine lv_iconst (v := nI 2) hx hb dX5_best_29 (by decide) ?_
          refine lv_icmp_ge (tgt := 95) hx hb dX5_best_30 (by decide) (fun c_16 => ?_) (fun c_16 => ?_)
          · refine lv_iconst (v := nI 0) hx hb dX5_best_95 (by decide) ?_
            exact x_iret hx hb hr hlocks hK hA hX hS dX5_best_96 (⟨Or.inr ⟨hc, rfl⟩, ⟨hm500, hm501, hm502, hm503, hm504, hm505, hm506, hm507, hm508, hm509, hm510, hm511, hm512, hm513, hm514, hm515, hm516⟩, fun t ht => by rw [hM_1, xu_n (by omega)]⟩)
          · exact absurd ⟨x_side c_15 (fun q => c_16 (by rw [Int32.le_iff_toInt_le]; rw [Int32.lt_iff_toInt_lt] at q; rw [nI_toInt (by omega)] at *; omega)), x_nlt.mp c_14⟩ hc

abbrev rmX5_none : Room := { frames := 0, cells := 0, slots := 0, locals := 0 }
set_option maxHeartbeats 4000000 in
set_option maxRecDepth 100000 in
/-- none -/
theorem ctX5_none (l : Launch) (G : xG) (A : Nat → Prop) (M : xM) {ad : Nat → Nat} {th : Int32} {nc : Nat} {mS : Nat → Int32} {mT : Nat → Int32} {mK : Nat → Int32} {mC : Nat → Nat} {mD : Nat → Int32} {mF : Nat → Int64} {mO : Nat → Int64} {mP : Nat → Nat} {wn : Nat → Nat} {rn : Int32} {pn : Nat} {o1 : Nat → Nat} {o2 : Nat → Nat} {u1 : Nat → Nat} {d1 : Nat → Nat} {jc : Nat} {jA : Nat → Nat} {jB : Nat → Nat} {mx : Nat → Nat} {up : Int64} {dn : Int64} (hR : xMod G M ad th nc mS mT mK mC mD mF mO mP wn rn pn o1 o2 u1 d1 jc jA jB mx up dn) (p0 : Int32) (hnc : nc ≤ 50) (hpn : pn ≤ 625) (ho1 : ∀ k, k < pn → o1 k < 1000) : Met l yX5_none wsX5_none rmX5_none (va_Pc ([.ref (ad 500), .int p0] : List Value) (xPc G A M)) (va_Qi (fun r M1 => (r = if p0 < 0 ∨ rn = 0 then nI 0 else xScan (fun j => decide (mS (j + 1) = 0) && mNo o1 (j + 1) pn) (fun j => nI (j + 1)) p0 nc 0 0) ∧ xMod G M1 ad (nI 0) nc mS mT mK mC mD mF mO mP wn rn pn o1 o2 u1 d1 jc jA jB mx up dn ∧ (∀ t, t < 500 ∨ 516 < t → M1 t = M t)) (xPc G A) A) 0 0 A := by
  refine x_met (cc := cX5_none) (maxL := 6) (ret := (some .int)) RX5 (by decide) rfl (Nat.le_of_ble_eq_true rfl) rfl ?_
  intro p e s m below meth c hx hb hr hts hown hlocks hml hin hK hA hX ls hl
  have inX5 : ∀ w ∈ wsX50, w ∈ wsX5_none := by decide +kernel
  have lk_fieldLink_62 := hts (.fieldLink RX5 62 "ReconcileModel" "thrown" "I") (by decide +kernel)
  have lk_fieldLink_66 := hts (.fieldLink RX5 66 "ReconcileModel" "names" "I") (by decide +kernel)
  have lk_fieldLink_88 := hts (.fieldLink RX5 88 "ReconcileModel" "ran" "Z") (by decide +kernel)
  have lk_fieldLink_7 := hts (.fieldLink RX5 7 "ReconcileModel" "sides" "[I") (by decide +kernel)
  have lk_fieldLink_92 := hts (.fieldLink RX5 92 "ReconcileModel" "pairs" "I") (by decide +kernel)
  have lk_fieldLink_41 := hts (.fieldLink RX5 41 "ReconcileModel" "ones" "[I") (by decide +kernel)
  have hS : va_S A s.heap s.heap [] := va_S.rf
  have hl : lv_has ls 6 [(0, .ref (ad 500)), (1, .int p0)] := hl
  obtain ⟨hm500, hm501, hm502, hm503, hm504, hm505, hm506, hm507, hm508, hm509, hm510, hm511, hm512, hm513, hm514, hm515, hm516⟩ := id hR
  refine lv_aload_n hx hb dX5_none_0 rfl (lv_at hl 0 rfl) ?_
  refine lv_iconst (v := nI 0) hx hb dX5_none_1 (by decide) ?_
  refine x_put (ci := 7) (v := .int (nI 0)) (C := RX5) (T := TX5) (N := 23) hx hb hts inX5 tyX5 tyX5_ok nmX5 hown hK hX hS hm500 rfl 0 (by decide) lk_fieldLink_62 (fun _ h9 => h9) rfl (tyX5_ok 0 (by decide)) rfl rfl (Nat.le_of_ble_eq_true rfl) dX5_none_2 (fun H locs hX hS => ?_)
  obtain ⟨M_1, hM_1⟩ : ∃ zM : xM, zM = xu M 500 (ad 500, .inr (7, [.int (nI 0), .int (nI nc), .ref (ad 501), .ref (ad 502), .ref (ad 503), .ref (ad 504), .ref (ad 505), .ref (ad 506), .ref (ad 507), .ref (ad 508), .ref (ad 509), .int rn, .int (nI pn), .ref (ad 510), .ref (ad 511), .ref (ad 512), .ref (ad 513), .int (nI jc), .ref (ad 514), .ref (ad 515), .ref (ad 516), .long up, .long dn])) := ⟨_, rfl⟩
  have hX : xw G.1 vwCl A M_1 H := by rw [hM_1]; exact hX
  have hm501 : M_1 501 = some (ad 501, .inl (G.2 0, 51, .inl mS)) := by rw [hM_1, xu_n (by omega)]; exact hm501
  have hm502 : M_1 502 = some (ad 502, .inl (G.2 0, 408, .inl mT)) := by rw [hM_1, xu_n (by omega)]; exact hm502
  have hm503 : M_1 503 = some (ad 503, .inl (G.2 0, 408, .inl mK)) := by rw [hM_1, xu_n (by omega)]; exact hm503
  have hm504 : M_1 504 = some (ad 504, .inl (G.2 0, 51, .inl (fun k => nI (mC k)))) := by rw [hM_1, xu_n (by omega)]; exact hm504
  have hm505 : M_1 505 = some (ad 505, .inl (G.2 2, 51, .inl mD)) := by rw [hM_1, xu_n (by omega)]; exact hm505
  have hm506 : M_1 506 = some (ad 506, .inl (G.2 1, 51, .inr (.inl mF))) := by rw [hM_1, xu_n (by omega)]; exact hm506
  have hm507 : M_1 507 = some (ad 507, .inl (G.2 1, 51, .inr (.inl mO))) := by rw [hM_1, xu_n (by omega)]; exact hm507
  have hm508 : M_1 508 = some (ad 508, .inl (G.2 0, 51, .inl (fun k => nI (mP k)))) := by rw [hM_1, xu_n (by omega)]; exact hm508
  have hm509 : M_1 509 = some (ad 509, .inl (G.2 1, 4, .inr (.inl (fun k => lN (wn k))))) := by rw [hM_1, xu_n (by omega)]; exact hm509
  have hm510 : M_1 510 = some (ad 510, .inl (G.2 0, 700, .inl (fun k => nI (o1 k)))) := by rw [hM_1, xu_n (by omega)]; exact hm510
  have hm511 : M_1 511 = some (ad 511, .inl (G.2 0, 700, .inl (fun k => nI (o2 k)))) := by rw [hM_1, xu_n (by omega)]; exact hm511
  have hm512 : M_1 512 = some (ad 512, .inl (G.2 1, 700, .inr (.inl (fun k => lN (u1 k))))) := by rw [hM_1, xu_n (by omega)]; exact hm512
  have hm513 : M_1 513 = some (ad 513, .inl (G.2 1, 700, .inr (.inl (fun k => lN (d1 k))))) := by rw [hM_1, xu_n (by omega)]; exact hm513
  have hm514 : M_1 514 = some (ad 514, .inl (G.2 0, 101, .inl (fun k => nI (jA k)))) := by rw [hM_1, xu_n (by omega)]; exact hm514
  have hm515 : M_1 515 = some (ad 515, .inl (G.2 0, 101, .inl (fun k => nI (jB k)))) := by rw [hM_1, xu_n (by omega)]; exact hm515
  have hm516 : M_1 516 = some (ad 516, .inl (G.2 0, 700, .inl (fun k => nI (mx k)))) := by rw [hM_1, xu_n (by omega)]; exact hm516
  have hm500 : M_1 500 = some (ad 500, .inr (7, [.int (nI 0), .int (nI nc), .ref (ad 501), .ref (ad 502), .ref (ad 503), .ref (ad 504), .ref (ad 505), .ref (ad 506), .ref (ad 507), .ref (ad 508), .ref (ad 509), .int rn, .int (nI pn), .ref (ad 510), .ref (ad 511), .ref (ad 512), .ref (ad 513), .int (nI jc), .ref (ad 514), .ref (ad 515), .ref (ad 516), .long up, .long dn])) := by rw [hM_1]; exact xu_s
  refine lv_iconst (v := nI 0) hx hb dX5_none_5 (by decide) ?_
  refine lv_istore_n (lv' := [(2, .int (nI 0)), (0, .ref (ad 500)), (1, .int p0)]) hx hb dX5_none_6 rfl hl (by decide) rfl (fun ls hl => ?_)
  refine lv_iconst (v := nI 1) hx hb dX5_none_7 (by decide) ?_
  refine lv_istore_n (lv' := [(3, .int (nI 1)), (2, .int (nI 0)), (0, .ref (ad 500)), (1, .int p0)]) hx hb dX5_none_8 rfl hl (by decide) rfl (fun ls hl => ?_)
  by_cases hc : p0 < 0 ∨ rn = 0
  · refine lv_iload_n hx hb dX5_none_9 rfl (lv_at hl 0 rfl) ?_
    refine lv_aload_n hx hb dX5_none_10 rfl (lv_at hl 2 rfl) ?_
    refine x_get (ci := 7) (v := .int (nI nc)) (C := RX5) (T := TX5) (N := 23) hx hb hts inX5 hown hK hX hm500 rfl 1 (by decide) lk_fieldLink_66 (fun _ h9 => h9) rfl dX5_none_11 ?_
    refine lv_icmp_gt (tgt := 106) hx hb dX5_none_14 (by decide) (fun c_2 => ?_) (fun c_2 => ?_)
    · have c_2 : nc < 1 := (nI_ltI (by omega) (by omega)).mp c_2
      refine lv_iconst (v := nI 0) hx hb dX5_none_106 (by decide) ?_
      exact x_iret hx hb hr hlocks hK hA hX hS dX5_none_107 (⟨by rw [if_pos hc], ⟨hm500, hm501, hm502, hm503, hm504, hm505, hm506, hm507, hm508, hm509, hm510, hm511, hm512, hm513, hm514, hm515, hm516⟩, fun t ht => by rw [hM_1, xu_n (by omega)]⟩)
    · have c_2 : ¬ (nc < 1) := fun q => c_2 ((nI_ltI (by omega) (by omega)).mpr q)
      refine lv_aload_n hx hb dX5_none_17 rfl (lv_at hl 2 rfl) ?_
      refine x_get (ci := 7) (v := .int rn) (C := RX5) (T := TX5) (N := 23) hx hb hts inX5 hown hK hX hm500 rfl 11 (by decide) lk_fieldLink_88 (fun _ h9 => h9) rfl dX5_none_18 ?_
      refine lv_if_eq (tgt := 106) hx hb dX5_none_21 (by decide) (fun c_3 => ?_) (fun c_3 => ?_)
      · refine lv_iconst (v := nI 0) hx hb dX5_none_106 (by decide) ?_
        exact x_iret hx hb hr hlocks hK hA hX hS dX5_none_107 (⟨by rw [if_pos hc], ⟨hm500, hm501, hm502, hm503, hm504, hm505, hm506, hm507, hm508, hm509, hm510, hm511, hm512, hm513, hm514, hm515, hm516⟩, fun t ht => by rw [hM_1, xu_n (by omega)]⟩)
      · refine lv_iload_n hx hb dX5_none_24 rfl (lv_at hl 3 rfl) ?_
        refine lv_if_lt (tgt := 106) hx hb dX5_none_25 (by decide) (fun c_4 => ?_) (fun c_4 => ?_)
        · refine lv_iconst (v := nI 0) hx hb dX5_none_106 (by decide) ?_
          exact x_iret hx hb hr hlocks hK hA hX hS dX5_none_107 (⟨by rw [if_pos hc], ⟨hm500, hm501, hm502, hm503, hm504, hm505, hm506, hm507, hm508, hm509, hm510, hm511, hm512, hm513, hm514, hm515, hm516⟩, fun t ht => by rw [hM_1, xu_n (by omega)]⟩)
        · exact absurd hc (fun q => q.elim c_4 c_3)
  · have loop : ∀ (n : Nat) (i : Nat) (b : Nat) (ls : Array Slot), nc < i + n → (i ≤ nc) → (b ≤ i) → (xScan (fun j => decide (mS (j + 1) = 0) && mNo o1 (j + 1) pn) (fun j => nI (j + 1)) p0 (nc - i) i b = xScan (fun j => decide (mS (j + 1) = 0) && mNo o1 (j + 1) pn) (fun j => nI (j + 1)) p0 nc 0 0) → lv_has ls 6 [(3, .int (nI (i + 1))), (2, .int (nI b)), (0, .ref (ad 500)), (1, .int p0)] → W p l e rmX5_none s m ([.ref (ad 500), .int p0] : List Value).toArray below meth c H locs 0 0 (MQ below (va_Qi (fun r M1 => (r = if p0 < 0 ∨ rn = 0 then nI 0 else xScan (fun j => decide (mS (j + 1) = 0) && mNo o1 (j + 1) pn) (fun j => nI (j + 1)) p0 nc 0 0) ∧ xMod G M1 ad (nI 0) nc mS mT mK mC mD mF mO mP wn rn pn o1 o2 u1 d1 jc jA jB mx up dn ∧ (∀ t, t < 500 ∨ 516 < t → M1 t = M t)) (xPc G A) A) ([.ref (ad 500), .int p0] : List Value).toArray s 0 0 A) (F0 m 9 ls []) := by
      intro n
      induction n with
      | zero => intro i b ls hn0 hi hb9 hv; exact absurd hn0 (by omega)
      | succ n ih =>
        intro i b ls hn0 hi hb9 hv hl
        refine lv_iload_n hx hb dX5_none_9 rfl (lv_at hl 0 rfl) ?_
        refine lv_aload_n hx hb dX5_none_10 rfl (lv_at hl 2 rfl) ?_
        refine x_get (ci := 7) (v := .int (nI nc)) (C := RX5) (T := TX5) (N := 23) hx hb hts inX5 hown hK hX hm500 rfl 1 (by decide) lk_fieldLink_66 (fun _ h9 => h9) rfl dX5_none_11 ?_
        refine lv_icmp_gt (tgt := 106) hx hb dX5_none_14 (by decide) (fun c_5 => ?_) (fun c_5 => ?_)
        · have c_5 : nc < (i + 1) := (nI_ltI (by omega) (by omega)).mp c_5
          refine lv_iconst (v := nI 0) hx hb dX5_none_106 (by decide) ?_
          exact x_iret hx hb hr hlocks hK hA hX hS dX5_none_107 (⟨by rw [if_neg hc, ← hv, xScan_0 (by omega)]; rfl, ⟨hm500, hm501, hm502, hm503, hm504, hm505, hm506, hm507, hm508, hm509, hm510, hm511, hm512, hm513, hm514, hm515, hm516⟩, fun t ht => by rw [hM_1, xu_n (by omega)]⟩)
        · have c_5 : ¬ (nc < (i + 1)) := fun q => c_5 ((nI_ltI (by omega) (by omega)).mpr q)
          refine lv_aload_n hx hb dX5_none_17 rfl (lv_at hl 2 rfl) ?_
          refine x_get (ci := 7) (v := .int rn) (C := RX5) (T := TX5) (N := 23) hx hb hts inX5 hown hK hX hm500 rfl 11 (by decide) lk_fieldLink_88 (fun _ h9 => h9) rfl dX5_none_18 ?_
          refine lv_if_eq (tgt := 106) hx hb dX5_none_21 (by decide) (fun c_6 => ?_) (fun c_6 => ?_)
          · exact absurd (Or.inr c_6) hc
          · refine lv_iload_n hx hb dX5_none_24 rfl (lv_at hl 3 rfl) ?_
            refine lv_if_lt (tgt := 106) hx hb dX5_none_25 (by decide) (fun c_7 => ?_) (fun c_7 => ?_)
            · exact absurd (Or.inl c_7) hc
            · refine lv_aload_n hx hb dX5_none_28 rfl (lv_at hl 2 rfl) ?_
              refine x_get (ci := 7) (v := .ref (ad 501)) (C := RX5) (T := TX5) (N := 23) hx hb hts inX5 hown hK hX hm500 rfl 2 (by decide) lk_fieldLink_7 (fun _ h9 => h9) rfl dX5_none_29 ?_
              refine lv_iload_n hx hb dX5_none_32 rfl (lv_at hl 0 rfl) ?_
              refine x_iN hx hb hK hX hm501 (by omega) (by decide) dX5_none_33 ?_
              refine lv_if_ne (tgt := 41) hx hb dX5_none_34 (by decide) (fun c_8 => ?_) (fun c_8 => ?_)
              · have hs0 : decide (mS (i + 1) = 0) = false := decide_eq_false c_8
                refine lv_iconst (v := nI 0) hx hb dX5_none_41 (by decide) ?_
                refine lv_istore (lv' := [(4, .int (nI 0)), (3, .int (nI (i + 1))), (2, .int (nI b)), (0, .ref (ad 500)), (1, .int p0)]) hx hb dX5_none_42 hl (by decide) rfl (fun ls hl => ?_)
                refine lv_iconst (v := nI 0) hx hb dX5_none_44 (by decide) ?_
                refine lv_istore (lv' := [(5, .int (nI 0)), (4, .int (nI 0)), (3, .int (nI (i + 1))), (2, .int (nI b)), (0, .ref (ad 500)), (1, .int p0)]) hx hb dX5_none_45 hl (by decide) rfl (fun ls hl => ?_)
                have loop_2 : ∀ (n_2 : Nat) (kx : Nat) (e9 : Nat) (ls : Array Slot), pn < kx + n_2 → (kx ≤ pn) → (e9 = b2n (decide (mS (i + 1) = 0) && mNo o1 (i + 1) kx)) → lv_has ls 6 [(5, .int (nI kx)), (4, .int (nI e9)), (3, .int (nI (i + 1))), (2, .int (nI b)), (0, .ref (ad 500)), (1, .int p0)] → W p l e rmX5_none s m ([.ref (ad 500), .int p0] : List Value).toArray below meth c H locs 0 0 (MQ below (va_Qi (fun r M1 => (r = if p0 < 0 ∨ rn = 0 then nI 0 else xScan (fun j => decide (mS (j + 1) = 0) && mNo o1 (j + 1) pn) (fun j => nI (j + 1)) p0 nc 0 0) ∧ xMod G M1 ad (nI 0) nc mS mT mK mC mD mF mO mP wn rn pn o1 o2 u1 d1 jc jA jB mx up dn ∧ (∀ t, t < 500 ∨ 516 < t → M1 t = M t)) (xPc G A) A) ([.ref (ad 500), .int p0] : List Value).toArray s 0 0 A) (F0 m 47 ls []) := by
                  intro n_2
                  induction n_2 with
                  | zero => intro kx e9 ls hn0_2 hk he; exact absurd hn0_2 (by omega)
                  | succ n_2 ih_2 =>
                    intro kx e9 ls hn0_2 hk he hl
                    have he1 : e9 ≤ 1 := by rw [he]; exact b2n_le
                    refine lv_iload hx hb dX5_none_47 (lv_at hl 0 rfl) ?_
                    refine lv_aload_n hx hb dX5_none_49 rfl (lv_at hl 4 rfl) ?_
                    refine x_get (ci := 7) (v := .int (nI pn)) (C := RX5) (T := TX5) (N := 23) hx hb hts inX5 hown hK hX hm500 rfl 12 (by decide) lk_fieldLink_92 (fun _ h9 => h9) rfl dX5_none_50 ?_
                    refine lv_icmp_ge (tgt := 85) hx hb dX5_none_53 (by decide) (fun c_9 => ?_) (fun c_9 => ?_)
                    · have c_9 : pn ≤ kx := (nI_leI (by omega) (by omega)).mp c_9
                      refine lv_iload hx hb dX5_none_85 (lv_at hl 1 rfl) ?_
                      refine lv_if_eq (tgt := 100) hx hb dX5_none_87 (by decide) (fun c_10 => ?_) (fun c_10 => ?_)
                      · have c_10 : e9 = 0 := (nI_eq (a := e9) (b := 0) (by omega) (by omega)).mp c_10
                        have hkp : kx = pn := by omega
                        rw [hkp] at he
                        have hP : (fun j => decide (mS (j + 1) = 0) && mNo o1 (j + 1) pn) i = false := b2n_0 (by rw [← he]; exact c_10)
                        refine lv_iinc (v := nI ((i + 1) + 1)) (lv' := [(3, .int (nI ((i + 1) + 1))), (5, .int (nI kx)), (4, .int (nI e9)), (2, .int (nI b)), (0, .ref (ad 500)), (1, .int p0)]) hx hb dX5_none_100 hl (k := 2) rfl (show nI (i + 1) + Int32.ofInt 1 = _ from nI_add _ 1) (by decide) rfl (fun ls hl => ?_)
                        refine lv_goto (tgt := 9) hx hb dX5_none_103 (by decide) ?_
                        exact ih (i + 1) b ls (by omega) (by omega) (by omega) (by have q := xScan_pass (P := (fun j => decide (mS (j + 1) = 0) && mNo o1 (j + 1) pn)) (i := i) (v := (fun j => nI (j + 1))) (k := p0) (f := nc - i) (b := b) hP (by omega); rw [Nat.sub_sub] at q; exact q.symm.trans hv) (lv_sub hl [0, 3, 4, 5] rfl)
                      · have c_10 : ¬ (e9 = 0) := fun q => c_10 ((nI_eq (a := e9) (b := 0) (by omega) (by omega)).mpr q)
                        have hkp : kx = pn := by omega
                        rw [hkp] at he
                        have hP : (fun j => decide (mS (j + 1) = 0) && mNo o1 (j + 1) pn) i = true := b2n_1 (by rw [← he]; exact c_10)
                        refine lv_iload_n hx hb dX5_none_90 rfl (lv_at hl 3 rfl) ?_
                        refine lv_iload_n hx hb dX5_none_91 rfl (lv_at hl 5 rfl) ?_
                        refine lv_icmp_ne (tgt := 97) hx hb dX5_none_92 (by decide) (fun c_11 => ?_) (fun c_11 => ?_)
                        · refine lv_iinc (v := nI (b + 1)) (lv' := [(2, .int (nI (b + 1))), (5, .int (nI kx)), (4, .int (nI e9)), (3, .int (nI (i + 1))), (0, .ref (ad 500)), (1, .int p0)]) hx hb dX5_none_97 hl (k := 3) rfl (show nI b + Int32.ofInt 1 = _ from nI_add _ 1) (by decide) rfl (fun ls hl => ?_)
                          refine lv_iinc (v := nI ((i + 1) + 1)) (lv' := [(3, .int (nI ((i + 1) + 1))), (2, .int (nI (b + 1))), (5, .int (nI kx)), (4, .int (nI e9)), (0, .ref (ad 500)), (1, .int p0)]) hx hb dX5_none_100 hl (k := 3) rfl (show nI (i + 1) + Int32.ofInt 1 = _ from nI_add _ 1) (by decide) rfl (fun ls hl => ?_)
                          refine lv_goto (tgt := 9) hx hb dX5_none_103 (by decide) ?_
                          exact ih (i + 1) (b + 1) ls (by omega) (by omega) (by omega) (by have q := xScan_miss (P := (fun j => decide (mS (j + 1) = 0) && mNo o1 (j + 1) pn)) (i := i) (v := (fun j => nI (j + 1))) (k := p0) (f := nc - i) (b := b) hP c_11 (by omega); rw [Nat.sub_sub] at q; exact q.symm.trans hv) (lv_sub hl [0, 1, 4, 5] rfl)
                        · refine lv_iload_n hx hb dX5_none_95 rfl (lv_at hl 2 rfl) ?_
                          exact x_iret hx hb hr hlocks hK hA hX hS dX5_none_96 (⟨by rw [if_neg hc, ← hv, xScan_hit (P := (fun j => decide (mS (j + 1) = 0) && mNo o1 (j + 1) pn)) (i := i) (v := (fun j => nI (j + 1))) hP c_11 (by omega)], ⟨hm500, hm501, hm502, hm503, hm504, hm505, hm506, hm507, hm508, hm509, hm510, hm511, hm512, hm513, hm514, hm515, hm516⟩, fun t ht => by rw [hM_1, xu_n (by omega)]⟩)
                    · have c_9 : ¬ (pn ≤ kx) := fun q => c_9 ((nI_leI (by omega) (by omega)).mpr q)
                      refine lv_iload hx hb dX5_none_56 (lv_at hl 1 rfl) ?_
                      refine lv_if_eq (tgt := 76) hx hb dX5_none_58 (by decide) (fun c_12 => ?_) (fun c_12 => ?_)
                      · have c_12 : e9 = 0 := (nI_eq (a := e9) (b := 0) (by omega) (by omega)).mp c_12
                        refine lv_iconst (v := nI 0) hx hb dX5_none_76 (by decide) ?_
                        refine lv_istore (lv' := [(4, .int (nI 0)), (5, .int (nI kx)), (3, .int (nI (i + 1))), (2, .int (nI b)), (0, .ref (ad 500)), (1, .int p0)]) hx hb dX5_none_77 hl (by decide) rfl (fun ls hl => ?_)
                        refine lv_iinc (v := nI (kx + 1)) (lv' := [(5, .int (nI (kx + 1))), (4, .int (nI 0)), (3, .int (nI (i + 1))), (2, .int (nI b)), (0, .ref (ad 500)), (1, .int p0)]) hx hb dX5_none_79 hl (k := 1) rfl (show nI kx + Int32.ofInt 1 = _ from nI_add _ 1) (by decide) rfl (fun ls hl => ?_)
                        refine lv_goto (tgt := 47) hx hb dX5_none_82 (by decide) ?_
                        exact ih_2 (kx + 1) 0 ls (by omega) (by omega) (by show _ = b2n (decide (mS (i + 1) = 0) && (mNo o1 (i + 1) kx && !(decide (o1 kx = i + 1)))); rw [← Bool.and_assoc, b2n_0 (b := decide (mS (i + 1) = 0) && mNo o1 (i + 1) kx) (by rw [← he]; exact c_12)]; rfl) (lv_sub hl [0, 1, 2, 3, 4, 5] rfl)
                      · have c_12 : ¬ (e9 = 0) := fun q => c_12 ((nI_eq (a := e9) (b := 0) (by omega) (by omega)).mpr q)
                        have ht0 := b2n_1 (b := decide (mS (i + 1) = 0) && mNo o1 (i + 1) kx) (by rw [← he]; exact c_12)
                        have hok := ho1 kx (by omega)
                        refine lv_aload_n hx hb dX5_none_61 rfl (lv_at hl 4 rfl) ?_
                        refine x_get (ci := 7) (v := .ref (ad 510)) (C := RX5) (T := TX5) (N := 23) hx hb hts inX5 hown hK hX hm500 rfl 13 (by decide) lk_fieldLink_41 (fun _ h9 => h9) rfl dX5_none_62 ?_
                        refine lv_iload hx hb dX5_none_65 (lv_at hl 0 rfl) ?_
                        refine x_iN hx hb hK hX hm510 (by omega) (by decide) dX5_none_67 ?_
                        refine lv_iload_n hx hb dX5_none_68 rfl (lv_at hl 2 rfl) ?_
                        refine lv_icmp_eq (tgt := 76) hx hb dX5_none_69 (by decide) (fun c_13 => ?_) (fun c_13 => ?_)
                        · have c_13 : (o1 kx) = (i + 1) := (nI_eq (by omega) (by omega)).mp c_13
                          refine lv_iconst (v := nI 0) hx hb dX5_none_76 (by decide) ?_
                          refine lv_istore (lv' := [(4, .int (nI 0)), (5, .int (nI kx)), (3, .int (nI (i + 1))), (2, .int (nI b)), (0, .ref (ad 500)), (1, .int p0)]) hx hb dX5_none_77 hl (by decide) rfl (fun ls hl => ?_)
                          refine lv_iinc (v := nI (kx + 1)) (lv' := [(5, .int (nI (kx + 1))), (4, .int (nI 0)), (3, .int (nI (i + 1))), (2, .int (nI b)), (0, .ref (ad 500)), (1, .int p0)]) hx hb dX5_none_79 hl (k := 1) rfl (show nI kx + Int32.ofInt 1 = _ from nI_add _ 1) (by decide) rfl (fun ls hl => ?_)
                          refine lv_goto (tgt := 47) hx hb dX5_none_82 (by decide) ?_
                          exact ih_2 (kx + 1) 0 ls (by omega) (by omega) (by show _ = b2n (decide (mS (i + 1) = 0) && (mNo o1 (i + 1) kx && !(decide (o1 kx = i + 1)))); rw [← Bool.and_assoc, ht0, decide_eq_true c_13]; rfl) (lv_sub hl [0, 1, 2, 3, 4, 5] rfl)
                        · have c_13 : ¬ ((o1 kx) = (i + 1)) := fun q => c_13 ((nI_eq (by omega) (by omega)).mpr q)
                          refine lv_iconst (v := nI 1) hx hb dX5_none_72 (by decide) ?_
                          refine lv_goto (tgt := 77) hx hb dX5_none_73 (by decide) ?_
                          refine lv_istore (lv' := [(4, .int (nI 1)), (5, .int (nI kx)), (3, .int (nI (i + 1))), (2, .int (nI b)), (0, .ref (ad 500)), (1, .int p0)]) hx hb dX5_none_77 hl (by decide) rfl (fun ls hl => ?_)
                          refine lv_iinc (v := nI (kx + 1)) (lv' := [(5, .int (nI (kx + 1))), (4, .int (nI 1)), (3, .int (nI (i + 1))), (2, .int (nI b)), (0, .ref (ad 500)), (1, .int p0)]) hx hb dX5_none_79 hl (k := 1) rfl (show nI kx + Int32.ofInt 1 = _ from nI_add _ 1) (by decide) rfl (fun ls hl => ?_)
                          refine lv_goto (tgt := 47) hx hb dX5_none_82 (by decide) ?_
                          exact ih_2 (kx + 1) 1 ls (by omega) (by omega) (by show _ = b2n (decide (mS (i + 1) = 0) && (mNo o1 (i + 1) kx && !(decide (o1 kx = i + 1)))); rw [← Bool.and_assoc, ht0, decide_eq_false c_13]; rfl) (lv_sub hl [0, 1, 2, 3, 4, 5] rfl)
                exact loop_2 (pn + 1) 0 0 ls (by omega) (by omega) (by rw [hs0]; rfl) (lv_sub hl [0, 1, 2, 3, 4, 5] rfl)
              · have hs0 : decide (mS (i + 1) = 0) = true := decide_eq_true c_8
                refine lv_iconst (v := nI 1) hx hb dX5_none_37 (by decide) ?_
                refine lv_goto (tgt := 42) hx hb dX5_none_38 (by decide) ?_
                refine lv_istore (lv' := [(4, .int (nI 1)), (3, .int (nI (i + 1))), (2, .int (nI b)), (0, .ref (ad 500)), (1, .int p0)]) hx hb dX5_none_42 hl (by decide) rfl (fun ls hl => ?_)
                refine lv_iconst (v := nI 0) hx hb dX5_none_44 (by decide) ?_
                refine lv_istore (lv' := [(5, .int (nI 0)), (4, .int (nI 1)), (3, .int (nI (i + 1))), (2, .int (nI b)), (0, .ref (ad 500)), (1, .int p0)]) hx hb dX5_none_45 hl (by decide) rfl (fun ls hl => ?_)
                have loop_2 : ∀ (n_2 : Nat) (kx : Nat) (e9 : Nat) (ls : Array Slot), pn < kx + n_2 → (kx ≤ pn) → (e9 = b2n (decide (mS (i + 1) = 0) && mNo o1 (i + 1) kx)) → lv_has ls 6 [(5, .int (nI kx)), (4, .int (nI e9)), (3, .int (nI (i + 1))), (2, .int (nI b)), (0, .ref (ad 500)), (1, .int p0)] → W p l e rmX5_none s m ([.ref (ad 500), .int p0] : List Value).toArray below meth c H locs 0 0 (MQ below (va_Qi (fun r M1 => (r = if p0 < 0 ∨ rn = 0 then nI 0 else xScan (fun j => decide (mS (j + 1) = 0) && mNo o1 (j + 1) pn) (fun j => nI (j + 1)) p0 nc 0 0) ∧ xMod G M1 ad (nI 0) nc mS mT mK mC mD mF mO mP wn rn pn o1 o2 u1 d1 jc jA jB mx up dn ∧ (∀ t, t < 500 ∨ 516 < t → M1 t = M t)) (xPc G A) A) ([.ref (ad 500), .int p0] : List Value).toArray s 0 0 A) (F0 m 47 ls []) := by
                  intro n_2
                  induction n_2 with
                  | zero => intro kx e9 ls hn0_2 hk he; exact absurd hn0_2 (by omega)
                  | succ n_2 ih_2 =>
                    intro kx e9 ls hn0_2 hk he hl
                    have he1 : e9 ≤ 1 := by rw [he]; exact b2n_le
                    refine lv_iload hx hb dX5_none_47 (lv_at hl 0 rfl) ?_
                    refine lv_aload_n hx hb dX5_none_49 rfl (lv_at hl 4 rfl) ?_
                    refine x_get (ci := 7) (v := .int (nI pn)) (C := RX5) (T := TX5) (N := 23) hx hb hts inX5 hown hK hX hm500 rfl 12 (by decide) lk_fieldLink_92 (fun _ h9 => h9) rfl dX5_none_50 ?_
                    refine lv_icmp_ge (tgt := 85) hx hb dX5_none_53 (by decide) (fun c_14 => ?_) (fun c_14 => ?_)
                    · have c_14 : pn ≤ kx := (nI_leI (by omega) (by omega)).mp c_14
                      refine lv_iload hx hb dX5_none_85 (lv_at hl 1 rfl) ?_
                      refine lv_if_eq (tgt := 100) hx hb dX5_none_87 (by decide) (fun c_15 => ?_) (fun c_15 => ?_)
                      · have c_15 : e9 = 0 := (nI_eq (a := e9) (b := 0) (by omega) (by omega)).mp c_15
                        have hkp : kx = pn := by omega
                        rw [hkp] at he
                        have hP : (fun j => decide (mS (j + 1) = 0) && mNo o1 (j + 1) pn) i = false := b2n_0 (by rw [← he]; exact c_15)
                        refine lv_iinc (v := nI ((i + 1) + 1)) (lv' := [(3, .int (nI ((i + 1) + 1))), (5, .int (nI kx)), (4, .int (nI e9)), (2, .int (nI b)), (0, .ref (ad 500)), (1, .int p0)]) hx hb dX5_none_100 hl (k := 2) rfl (show nI (i + 1) + Int32.ofInt 1 = _ from nI_add _ 1) (by decide) rfl (fun ls hl => ?_)
                        refine lv_goto (tgt := 9) hx hb dX5_none_103 (by decide) ?_
                        exact ih (i + 1) b ls (by omega) (by omega) (by omega) (by have q := xScan_pass (P := (fun j => decide (mS (j + 1) = 0) && mNo o1 (j + 1) pn)) (i := i) (v := (fun j => nI (j + 1))) (k := p0) (f := nc - i) (b := b) hP (by omega); rw [Nat.sub_sub] at q; exact q.symm.trans hv) (lv_sub hl [0, 3, 4, 5] rfl)
                      · have c_15 : ¬ (e9 = 0) := fun q => c_15 ((nI_eq (a := e9) (b := 0) (by omega) (by omega)).mpr q)
                        have hkp : kx = pn := by omega
                        rw [hkp] at he
                        have hP : (fun j => decide (mS (j + 1) = 0) && mNo o1 (j + 1) pn) i = true := b2n_1 (by rw [← he]; exact c_15)
                        refine lv_iload_n hx hb dX5_none_90 rfl (lv_at hl 3 rfl) ?_
                        refine lv_iload_n hx hb dX5_none_91 rfl (lv_at hl 5 rfl) ?_
                        refine lv_icmp_ne (tgt := 97) hx hb dX5_none_92 (by decide) (fun c_16 => ?_) (fun c_16 => ?_)
                        · refine lv_iinc (v := nI (b + 1)) (lv' := [(2, .int (nI (b + 1))), (5, .int (nI kx)), (4, .int (nI e9)), (3, .int (nI (i + 1))), (0, .ref (ad 500)), (1, .int p0)]) hx hb dX5_none_97 hl (k := 3) rfl (show nI b + Int32.ofInt 1 = _ from nI_add _ 1) (by decide) rfl (fun ls hl => ?_)
                          refine lv_iinc (v := nI ((i + 1) + 1)) (lv' := [(3, .int (nI ((i + 1) + 1))), (2, .int (nI (b + 1))), (5, .int (nI kx)), (4, .int (nI e9)), (0, .ref (ad 500)), (1, .int p0)]) hx hb dX5_none_100 hl (k := 3) rfl (show nI (i + 1) + Int32.ofInt 1 = _ from nI_add _ 1) (by decide) rfl (fun ls hl => ?_)
                          refine lv_goto (tgt := 9) hx hb dX5_none_103 (by decide) ?_
                          exact ih (i + 1) (b + 1) ls (by omega) (by omega) (by omega) (by have q := xScan_miss (P := (fun j => decide (mS (j + 1) = 0) && mNo o1 (j + 1) pn)) (i := i) (v := (fun j => nI (j + 1))) (k := p0) (f := nc - i) (b := b) hP c_16 (by omega); rw [Nat.sub_sub] at q; exact q.symm.trans hv) (lv_sub hl [0, 1, 4, 5] rfl)
                        · refine lv_iload_n hx hb dX5_none_95 rfl (lv_at hl 2 rfl) ?_
                          exact x_iret hx hb hr hlocks hK hA hX hS dX5_none_96 (⟨by rw [if_neg hc, ← hv, xScan_hit (P := (fun j => decide (mS (j + 1) = 0) && mNo o1 (j + 1) pn)) (i := i) (v := (fun j => nI (j + 1))) hP c_16 (by omega)], ⟨hm500, hm501, hm502, hm503, hm504, hm505, hm506, hm507, hm508, hm509, hm510, hm511, hm512, hm513, hm514, hm515, hm516⟩, fun t ht => by rw [hM_1, xu_n (by omega)]⟩)
                    · have c_14 : ¬ (pn ≤ kx) := fun q => c_14 ((nI_leI (by omega) (by omega)).mpr q)
                      refine lv_iload hx hb dX5_none_56 (lv_at hl 1 rfl) ?_
                      refine lv_if_eq (tgt := 76) hx hb dX5_none_58 (by decide) (fun c_17 => ?_) (fun c_17 => ?_)
                      · have c_17 : e9 = 0 := (nI_eq (a := e9) (b := 0) (by omega) (by omega)).mp c_17
                        refine lv_iconst (v := nI 0) hx hb dX5_none_76 (by decide) ?_
                        refine lv_istore (lv' := [(4, .int (nI 0)), (5, .int (nI kx)), (3, .int (nI (i + 1))), (2, .int (nI b)), (0, .ref (ad 500)), (1, .int p0)]) hx hb dX5_none_77 hl (by decide) rfl (fun ls hl => ?_)
                        refine lv_iinc (v := nI (kx + 1)) (lv' := [(5, .int (nI (kx + 1))), (4, .int (nI 0)), (3, .int (nI (i + 1))), (2, .int (nI b)), (0, .ref (ad 500)), (1, .int p0)]) hx hb dX5_none_79 hl (k := 1) rfl (show nI kx + Int32.ofInt 1 = _ from nI_add _ 1) (by decide) rfl (fun ls hl => ?_)
                        refine lv_goto (tgt := 47) hx hb dX5_none_82 (by decide) ?_
                        exact ih_2 (kx + 1) 0 ls (by omega) (by omega) (by show _ = b2n (decide (mS (i + 1) = 0) && (mNo o1 (i + 1) kx && !(decide (o1 kx = i + 1)))); rw [← Bool.and_assoc, b2n_0 (b := decide (mS (i + 1) = 0) && mNo o1 (i + 1) kx) (by rw [← he]; exact c_17)]; rfl) (lv_sub hl [0, 1, 2, 3, 4, 5] rfl)
                      · have c_17 : ¬ (e9 = 0) := fun q => c_17 ((nI_eq (a := e9) (b := 0) (by omega) (by omega)).mpr q)
                        have ht0 := b2n_1 (b := decide (mS (i + 1) = 0) && mNo o1 (i + 1) kx) (by rw [← he]; exact c_17)
                        have hok := ho1 kx (by omega)
                        refine lv_aload_n hx hb dX5_none_61 rfl (lv_at hl 4 rfl) ?_
                        refine x_get (ci := 7) (v := .ref (ad 510)) (C := RX5) (T := TX5) (N := 23) hx hb hts inX5 hown hK hX hm500 rfl 13 (by decide) lk_fieldLink_41 (fun _ h9 => h9) rfl dX5_none_62 ?_
                        refine lv_iload hx hb dX5_none_65 (lv_at hl 0 rfl) ?_
                        refine x_iN hx hb hK hX hm510 (by omega) (by decide) dX5_none_67 ?_
                        refine lv_iload_n hx hb dX5_none_68 rfl (lv_at hl 2 rfl) ?_
                        refine lv_icmp_eq (tgt := 76) hx hb dX5_none_69 (by decide) (fun c_18 => ?_) (fun c_18 => ?_)
                        · have c_18 : (o1 kx) = (i + 1) := (nI_eq (by omega) (by omega)).mp c_18
                          refine lv_iconst (v := nI 0) hx hb dX5_none_76 (by decide) ?_
                          refine lv_istore (lv' := [(4, .int (nI 0)), (5, .int (nI kx)), (3, .int (nI (i + 1))), (2, .int (nI b)), (0, .ref (ad 500)), (1, .int p0)]) hx hb dX5_none_77 hl (by decide) rfl (fun ls hl => ?_)
                          refine lv_iinc (v := nI (kx + 1)) (lv' := [(5, .int (nI (kx + 1))), (4, .int (nI 0)), (3, .int (nI (i + 1))), (2, .int (nI b)), (0, .ref (ad 500)), (1, .int p0)]) hx hb dX5_none_79 hl (k := 1) rfl (show nI kx + Int32.ofInt 1 = _ from nI_add _ 1) (by decide) rfl (fun ls hl => ?_)
                          refine lv_goto (tgt := 47) hx hb dX5_none_82 (by decide) ?_
                          exact ih_2 (kx + 1) 0 ls (by omega) (by omega) (by show _ = b2n (decide (mS (i + 1) = 0) && (mNo o1 (i + 1) kx && !(decide (o1 kx = i + 1)))); rw [← Bool.and_assoc, ht0, decide_eq_true c_18]; rfl) (lv_sub hl [0, 1, 2, 3, 4, 5] rfl)
                        · have c_18 : ¬ ((o1 kx) = (i + 1)) := fun q => c_18 ((nI_eq (by omega) (by omega)).mpr q)
                          refine lv_iconst (v := nI 1) hx hb dX5_none_72 (by decide) ?_
                          refine lv_goto (tgt := 77) hx hb dX5_none_73 (by decide) ?_
                          refine lv_istore (lv' := [(4, .int (nI 1)), (5, .int (nI kx)), (3, .int (nI (i + 1))), (2, .int (nI b)), (0, .ref (ad 500)), (1, .int p0)]) hx hb dX5_none_77 hl (by decide) rfl (fun ls hl => ?_)
                          refine lv_iinc (v := nI (kx + 1)) (lv' := [(5, .int (nI (kx + 1))), (4, .int (nI 1)), (3, .int (nI (i + 1))), (2, .int (nI b)), (0, .ref (ad 500)), (1, .int p0)]) hx hb dX5_none_79 hl (k := 1) rfl (show nI kx + Int32.ofInt 1 = _ from nI_add _ 1) (by decide) rfl (fun ls hl => ?_)
                          refine lv_goto (tgt := 47) hx hb dX5_none_82 (by decide) ?_
                          exact ih_2 (kx + 1) 1 ls (by omega) (by omega) (by show _ = b2n (decide (mS (i + 1) = 0) && (mNo o1 (i + 1) kx && !(decide (o1 kx = i + 1)))); rw [← Bool.and_assoc, ht0, decide_eq_false c_18]; rfl) (lv_sub hl [0, 1, 2, 3, 4, 5] rfl)
                exact loop_2 (pn + 1) 0 1 ls (by omega) (by omega) (by rw [hs0]; rfl) (lv_sub hl [0, 1, 2, 3, 4, 5] rfl)
    exact loop (nc + 1) 0 0 ls (by omega) (by omega) (by omega) rfl (lv_sub hl [0, 1, 2, 3] rfl)
