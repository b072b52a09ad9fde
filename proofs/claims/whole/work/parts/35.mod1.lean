/-! the reference: its state, its simple methods -/
def xMod (G : xG) (M : xM) (ad : Nat → Nat) (th : Int32) (nc : Nat) (mS : Nat → Int32) (mT : Nat → Int32) (mK : Nat → Int32) (mC : Nat → Nat) (mD : Nat → Int32) (mF : Nat → Int64) (mO : Nat → Int64) (mP : Nat → Nat) (wn : Nat → Nat) (rn : Int32) (pn : Nat) (o1 : Nat → Nat) (o2 : Nat → Nat) (u1 : Nat → Nat) (d1 : Nat → Nat) (jc : Nat) (jA : Nat → Nat) (jB : Nat → Nat) (mx : Nat → Nat) (up : Int64) (dn : Int64) : Prop :=
  M 500 = some (ad 500, .inr (7, [.int th, .int (nI nc), .ref (ad 501), .ref (ad 502), .ref (ad 503), .ref (ad 504), .ref (ad 505), .ref (ad 506), .ref (ad 507), .ref (ad 508), .ref (ad 509), .int rn, .int (nI pn), .ref (ad 510), .ref (ad 511), .ref (ad 512), .ref (ad 513), .int (nI jc), .ref (ad 514), .ref (ad 515), .ref (ad 516), .long up, .long dn])) ∧
  M 501 = some (ad 501, .inl (G.2 0, 51, .inl mS)) ∧
  M 502 = some (ad 502, .inl (G.2 0, 408, .inl mT)) ∧
  M 503 = some (ad 503, .inl (G.2 0, 408, .inl mK)) ∧
  M 504 = some (ad 504, .inl (G.2 0, 51, .inl (fun k => nI (mC k)))) ∧
  M 505 = some (ad 505, .inl (G.2 2, 51, .inl mD)) ∧
  M 506 = some (ad 506, .inl (G.2 1, 51, .inr (.inl mF))) ∧
  M 507 = some (ad 507, .inl (G.2 1, 51, .inr (.inl mO))) ∧
  M 508 = some (ad 508, .inl (G.2 0, 51, .inl (fun k => nI (mP k)))) ∧
  M 509 = some (ad 509, .inl (G.2 1, 4, .inr (.inl (fun k => lN (wn k))))) ∧
  M 510 = some (ad 510, .inl (G.2 0, 700, .inl (fun k => nI (o1 k)))) ∧
  M 511 = some (ad 511, .inl (G.2 0, 700, .inl (fun k => nI (o2 k)))) ∧
  M 512 = some (ad 512, .inl (G.2 1, 700, .inr (.inl (fun k => lN (u1 k))))) ∧
  M 513 = some (ad 513, .inl (G.2 1, 700, .inr (.inl (fun k => lN (d1 k))))) ∧
  M 514 = some (ad 514, .inl (G.2 0, 101, .inl (fun k => nI (jA k)))) ∧
  M 515 = some (ad 515, .inl (G.2 0, 101, .inl (fun k => nI (jB k)))) ∧
  M 516 = some (ad 516, .inl (G.2 0, 700, .inl (fun k => nI (mx k))))

theorem x_le0 {x : Int32} : x ≤ 0 ↔ x < nI 1 := by
  rw [Int32.le_iff_toInt_le, Int32.lt_iff_toInt_lt, nI_toInt (by omega)]
  have : (0 : Int32).toInt = 0 := rfl
  omega
theorem x_side {x : Int32} (h0 : ¬ x < 0) (h1 : ¬ nI 1 < x) : x = 0 ∨ x = nI 1 := by
  obtain ⟨j, hj, rfl⟩ := nI_of h0
  have h2 : ¬ 1 < j := fun q => h1 ((nI_ltI (by omega) hj).mpr q)
  rcases (show j = 0 ∨ j = 1 by omega) with q | q
  · subst q; exact Or.inl rfl
  · subst q; exact Or.inr rfl
theorem x_side0 {x : Int32} (h : x = 0 ∨ x = nI 1) : ¬ x < 0 ∧ ¬ nI 1 < x := by
  rcases h with q | q <;> subst q <;> decide
theorem x_nle {x y : Int32} : ¬ x ≤ y ↔ y < x := by rw [Int32.le_iff_toInt_le, Int32.lt_iff_toInt_lt]; omega
theorem x_nlt {x y : Int32} : ¬ x < y ↔ y ≤ x := by rw [Int32.le_iff_toInt_le, Int32.lt_iff_toInt_lt]; omega

abbrev rmX5_thrown : Room := { frames := 0, cells := 0, slots := 0, locals := 0 }
set_option maxHeartbeats 4000000 in
set_option maxRecDepth 100000 in
/-- thrown -/
theorem ctX5_thrown (l : Launch) (G : xG) (A : Nat → Prop) (M : xM) {ad : Nat → Nat} {th : Int32} {nc : Nat} {mS : Nat → Int32} {mT : Nat → Int32} {mK : Nat → Int32} {mC : Nat → Nat} {mD : Nat → Int32} {mF : Nat → Int64} {mO : Nat → Int64} {mP : Nat → Nat} {wn : Nat → Nat} {rn : Int32} {pn : Nat} {o1 : Nat → Nat} {o2 : Nat → Nat} {u1 : Nat → Nat} {d1 : Nat → Nat} {jc : Nat} {jA : Nat → Nat} {jB : Nat → Nat} {mx : Nat → Nat} {up : Int64} {dn : Int64} (hR : xMod G M ad th nc mS mT mK mC mD mF mO mP wn rn pn o1 o2 u1 d1 jc jA jB mx up dn) : Met l yX5_thrown wsX5_thrown rmX5_thrown (va_Pc ([.ref (ad 500)] : List Value) (xPc G A M)) (va_Qi (fun r M1 => M1 = M ∧ r = th) (xPc G A) A) 0 0 A := by
  refine x_met (cc := cX5_thrown) (maxL := 1) (ret := (some .int)) RX5 (by decide) rfl (Nat.le_of_ble_eq_true rfl) rfl ?_
  intro p e s m below meth c hx hb hr hts hown hlocks hml hin hK hA hX ls hl
  have inX5 : ∀ w ∈ wsX50, w ∈ wsX5_thrown := by decide +kernel
  have lk_fieldLink_62 := hts (.fieldLink RX5 62 "ReconcileModel" "thrown" "I") (by decide +kernel)
  have hS : va_S A s.heap s.heap [] := va_S.rf
  have hl : lv_has ls 1 [(0, .ref (ad 500))] := hl
  obtain ⟨hm500, hm501, hm502, hm503, hm504, hm505, hm506, hm507, hm508, hm509, hm510, hm511, hm512, hm513, hm514, hm515, hm516⟩ := id hR
  refine lv_aload_n hx hb dX5_thrown_0 rfl (lv_at hl 0 rfl) ?_
  refine x_get (ci := 7) (v := .int th) (C := RX5) (T := TX5) (N := 23) hx hb hts inX5 hown hK hX hm500 rfl 0 (by decide) lk_fieldLink_62 (fun _ h9 => h9) rfl dX5_thrown_1 ?_
  exact x_iret hx hb hr hlocks hK hA hX hS dX5_thrown_4 (⟨rfl, rfl⟩)

abbrev rmX5_isName : Room := { frames := 0, cells := 0, slots := 0, locals := 0 }
set_option maxHeartbeats 4000000 in
set_option maxRecDepth 100000 in
/-- isName -/
theorem ctX5_isName (l : Launch) (G : xG) (A : Nat → Prop) (M : xM) {ad : Nat → Nat} {th : Int32} {nc : Nat} {mS : Nat → Int32} {mT : Nat → Int32} {mK : Nat → Int32} {mC : Nat → Nat} {mD : Nat → Int32} {mF : Nat → Int64} {mO : Nat → Int64} {mP : Nat → Nat} {wn : Nat → Nat} {rn : Int32} {pn : Nat} {o1 : Nat → Nat} {o2 : Nat → Nat} {u1 : Nat → Nat} {d1 : Nat → Nat} {jc : Nat} {jA : Nat → Nat} {jB : Nat → Nat} {mx : Nat → Nat} {up : Int64} {dn : Int64} (hR : xMod G M ad th nc mS mT mK mC mD mF mO mP wn rn pn o1 o2 u1 d1 jc jA jB mx up dn) (p0 : Int32) (hnc : nc ≤ 50) : Met l yX5_isName wsX5_isName rmX5_isName (va_Pc ([.ref (ad 500), .int p0] : List Value) (xPc G A M)) (va_Qi (fun r M1 => M1 = M ∧ ((∃ i, i < nc ∧ p0 = nI (i + 1) ∧ r = nI 1) ∨ ((p0 < nI 1 ∨ ¬ p0 ≤ nI nc) ∧ r = nI 0))) (xPc G A) A) 0 0 A := by
  refine x_met (cc := cX5_isName) (maxL := 2) (ret := (some .boolean)) RX5 (by decide) rfl (Nat.le_of_ble_eq_true rfl) rfl ?_
  intro p e s m below meth c hx hb hr hts hown hlocks hml hin hK hA hX ls hl
  have inX5 : ∀ w ∈ wsX50, w ∈ wsX5_isName := by decide +kernel
  have lk_fieldLink_66 := hts (.fieldLink RX5 66 "ReconcileModel" "names" "I") (by decide +kernel)
  have hS : va_S A s.heap s.heap [] := va_S.rf
  have hl : lv_has ls 2 [(0, .ref (ad 500)), (1, .int p0)] := hl
  obtain ⟨hm500, hm501, hm502, hm503, hm504, hm505, hm506, hm507, hm508, hm509, hm510, hm511, hm512, hm513, hm514, hm515, hm516⟩ := id hR
  refine lv_iload_n hx hb dX5_isName_0 rfl (lv_at hl 1 rfl) ?_
  refine lv_if_le (tgt := 16) hx hb dX5_isName_1 (by decide) (fun c_1 => ?_) (fun c_1 => ?_)
  · refine lv_iconst (v := nI 0) hx hb dX5_isName_16 (by decide) ?_
    exact x_zret hx hb hr hlocks hK hA hX hS dX5_isName_17 rfl (⟨rfl, Or.inr ⟨Or.inl (x_le0.mp c_1), rfl⟩⟩)
  · refine lv_iload_n hx hb dX5_isName_4 rfl (lv_at hl 1 rfl) ?_
    refine lv_aload_n hx hb dX5_isName_5 rfl (lv_at hl 0 rfl) ?_
    refine x_get (ci := 7) (v := .int (nI nc)) (C := RX5) (T := TX5) (N := 23) hx hb hts inX5 hown hK hX hm500 rfl 1 (by decide) lk_fieldLink_66 (fun _ h9 => h9) rfl dX5_isName_6 ?_
    refine lv_icmp_gt (tgt := 16) hx hb dX5_isName_9 (by decide) (fun c_2 => ?_) (fun c_2 => ?_)
    · refine lv_iconst (v := nI 0) hx hb dX5_isName_16 (by decide) ?_
      exact x_zret hx hb hr hlocks hK hA hX hS dX5_isName_17 rfl (⟨rfl, Or.inr ⟨Or.inr (x_nle.mpr c_2), rfl⟩⟩)
    · refine lv_iconst (v := nI 1) hx hb dX5_isName_12 (by decide) ?_
      refine lv_goto (tgt := 17) hx hb dX5_isName_13 (by decide) ?_
      exact x_zret hx hb hr hlocks hK hA hX hS dX5_isName_17 rfl (⟨rfl, Or.inl (by obtain ⟨i, hi, e⟩ := x_p1 (by omega) (fun q => c_1 (x_le0.mpr q)) (x_nlt.mp c_2); exact ⟨i, hi, e, rfl⟩)⟩)

abbrev rmX5_isPair : Room := { frames := 0, cells := 0, slots := 0, locals := 0 }
set_option maxHeartbeats 4000000 in
set_option maxRecDepth 100000 in
/-- isPair -/
theorem ctX5_isPair (l : Launch) (G : xG) (A : Nat → Prop) (M : xM) {ad : Nat → Nat} {th : Int32} {nc : Nat} {mS : Nat → Int32} {mT : Nat → Int32} {mK : Nat → Int32} {mC : Nat → Nat} {mD : Nat → Int32} {mF : Nat → Int64} {mO : Nat → Int64} {mP : Nat → Nat} {wn : Nat → Nat} {rn : Int32} {pn : Nat} {o1 : Nat → Nat} {o2 : Nat → Nat} {u1 : Nat → Nat} {d1 : Nat → Nat} {jc : Nat} {jA : Nat → Nat} {jB : Nat → Nat} {mx : Nat → Nat} {up : Int64} {dn : Int64} (hR : xMod G M ad th nc mS mT mK mC mD mF mO mP wn rn pn o1 o2 u1 d1 jc jA jB mx up dn) (p0 : Int32) (hpn : pn ≤ 625) : Met l yX5_isPair wsX5_isPair rmX5_isPair (va_Pc ([.ref (ad 500), .int p0] : List Value) (xPc G A M)) (va_Qi (fun r M1 => M1 = M ∧ ((∃ i, i < pn ∧ p0 = nI i ∧ r = nI 1) ∨ (¬ (¬ p0 < 0 ∧ ¬ nI pn ≤ p0) ∧ r = nI 0))) (xPc G A) A) 0 0 A := by
  refine x_met (cc := cX5_isPair) (maxL := 2) (ret := (some .boolean)) RX5 (by decide) rfl (Nat.le_of_ble_eq_true rfl) rfl ?_
  intro p e s m below meth c hx hb hr hts hown hlocks hml hin hK hA hX ls hl
  have inX5 : ∀ w ∈ wsX50, w ∈ wsX5_isPair := by decide +kernel
  have lk_fieldLink_92 := hts (.fieldLink RX5 92 "ReconcileModel" "pairs" "I") (by decide +kernel)
  have hS : va_S A s.heap s.heap [] := va_S.rf
  have hl : lv_has ls 2 [(0, .ref (ad 500)), (1, .int p0)] := hl
  obtain ⟨hm500, hm501, hm502, hm503, hm504, hm505, hm506, hm507, hm508, hm509, hm510, hm511, hm512, hm513, hm514, hm515, hm516⟩ := id hR
  refine lv_iload_n hx hb dX5_isPair_0 rfl (lv_at hl 1 rfl) ?_
  refine lv_if_lt (tgt := 16) hx hb dX5_isPair_1 (by decide) (fun c_1 => ?_) (fun c_1 => ?_)
  · refine lv_iconst (v := nI 0) hx hb dX5_isPair_16 (by decide) ?_
    exact x_zret hx hb hr hlocks hK hA hX hS dX5_isPair_17 rfl (⟨rfl, Or.inr ⟨fun q => q.1 c_1, rfl⟩⟩)
  · refine lv_iload_n hx hb dX5_isPair_4 rfl (lv_at hl 1 rfl) ?_
    refine lv_aload_n hx hb dX5_isPair_5 rfl (lv_at hl 0 rfl) ?_
    refine x_get (ci := 7) (v := .int (nI pn)) (C := RX5) (T := TX5) (N := 23) hx hb hts inX5 hown hK hX hm500 rfl 12 (by decide) lk_fieldLink_92 (fun _ h9 => h9) rfl dX5_isPair_6 ?_
    refine lv_icmp_ge (tgt := 16) hx hb dX5_isPair_9 (by decide) (fun c_2 => ?_) (fun c_2 => ?_)
    · refine lv_iconst (v := nI 0) hx hb dX5_isPair_16 (by decide) ?_
      exact x_zret hx hb hr hlocks hK hA hX hS dX5_isPair_17 rfl (⟨rfl, Or.inr ⟨fun q => q.2 c_2, rfl⟩⟩)
    · refine lv_iconst (v := nI 1) hx hb dX5_isPair_12 (by decide) ?_
      refine lv_goto (tgt := 17) hx hb dX5_isPair_13 (by decide) ?_
      exact x_zret hx hb hr hlocks hK hA hX hS dX5_isPair_17 rfl (⟨rfl, Or.inl (by obtain ⟨i, hi, e⟩ := x_in (by omega) c_1 c_2; exact ⟨i, hi, e, rfl⟩)⟩)

abbrev rmX5_name : Room := { frames := 0, cells := 0, slots := 0, locals := 0 }
set_option maxHeartbeats 4000000 in
set_option maxRecDepth 100000 in
/-- name -/
theorem ctX5_name (l : Launch) (G : xG) (A : Nat → Prop) (M : xM) {ad : Nat → Nat} {th : Int32} {nc : Nat} {mS : Nat → Int32} {mT : Nat → Int32} {mK : Nat → Int32} {mC : Nat → Nat} {mD : Nat → Int32} {mF : Nat → Int64} {mO : Nat → Int64} {mP : Nat → Nat} {wn : Nat → Nat} {rn : Int32} {pn : Nat} {o1 : Nat → Nat} {o2 : Nat → Nat} {u1 : Nat → Nat} {d1 : Nat → Nat} {jc : Nat} {jA : Nat → Nat} {jB : Nat → Nat} {mx : Nat → Nat} {up : Int64} {dn : Int64} (hR : xMod G M ad th nc mS mT mK mC mD mF mO mP wn rn pn o1 o2 u1 d1 jc jA jB mx up dn) (p0 : Int32) (hnc : nc ≤ 50) : Met l yX5_name wsX5_name rmX5_name (va_Pc ([.ref (ad 500), .int p0] : List Value) (xPc G A M)) (va_Qi (fun r M1 => (((p0 = 0 ∨ p0 = nI 1) ∧ nc < 50 ∧ r = nI (nc + 1) ∧ xMod G M1 ad (nI 0) (nc + 1) (upd mS (nc + 1) p0) mT mK mC mD mF mO mP wn rn pn o1 o2 u1 d1 jc jA jB mx up dn) ∨ (¬ ((p0 = 0 ∨ p0 = nI 1) ∧ nc < 50) ∧ r = nI 0 ∧ xMod G M1 ad (nI 0) nc mS mT mK mC mD mF mO mP wn rn pn o1 o2 u1 d1 jc jA jB mx up dn)) ∧ (∀ t, t < 500 ∨ 516 < t → M1 t = M t)) (xPc G A) A) 0 0 A := by
  refine x_met (cc := cX5_name) (maxL := 2) (ret := (some .int)) RX5 (by decide) rfl (Nat.le_of_ble_eq_true rfl) rfl ?_
  intro p e s m below meth c hx hb hr hts hown hlocks hml hin hK hA hX ls hl
  have inX5 : ∀ w ∈ wsX50, w ∈ wsX5_name := by decide +kernel
  have lk_fieldLink_62 := hts (.fieldLink RX5 62 "ReconcileModel" "thrown" "I") (by decide +kernel)
  have lk_fieldLink_66 := hts (.fieldLink RX5 66 "ReconcileModel" "names" "I") (by decide +kernel)
  have lk_fieldLink_7 := hts (.fieldLink RX5 7 "ReconcileModel" "sides" "[I") (by decide +kernel)
  have hS : va_S A s.heap s.heap [] := va_S.rf
  have hl : lv_has ls 2 [(0, .ref (ad 500)), (1, .int p0)] := hl
  obtain ⟨hm500, hm501, hm502, hm503, hm504, hm505, hm506, hm507, hm508, hm509, hm510, hm511, hm512, hm513, hm514, hm515, hm516⟩ := id hR
  refine lv_aload_n hx hb dX5_name_0 rfl (lv_at hl 0 rfl) ?_
  refine lv_iconst (v := nI 0) hx hb dX5_name_1 (by decide) ?_
  refine x_put (ci := 7) (v := .int (nI 0)) (C := RX5) (T := TX5) (N := 23) hx hb hts inX5 tyX5 tyX5_ok nmX5 hown hK hX hS hm500 rfl 0 (by decide) lk_fieldLink_62 (fun _ h9 => h9) rfl (tyX5_ok 0 (by decide)) rfl rfl (Nat.le_of_ble_eq_true rfl) dX5_name_2 (fun H locs hX hS => ?_)
  obtain ⟨M_1, hM_1⟩ : ∃ zM : xM, zM = xu M 500 (ad 500, .inr (7, [.int (nI 0), .int (nI nc), .ref (ad 501), .ref (ad 502), .ref (ad 503), .ref (ad 504), .ref (ad 505), .ref (ad 506), .ref (ad 507), .ref (ad 508), .ref (ad 509), .int rn, .int (nI pn), .ref (ad 510), .ref (ad 511), .ref (ad 512), .ref (ad 513), .int (nI jc), .ref (ad 514), .ref (ad 515), .ref (ad 516), .long up, .long dn])) := ⟨_, rfl⟩
  have hX : xw G.1 vwCl A M_1 H := by rw [hM_1]; exact hX
  have hm501 : M_1 501 = some (ad 501, .inl (G.2 0, 51, .inl mS)) := by rw [hM_1, xu_n (by omega)]; exact hm501
  have hm502 : M_1 502 = some (ad 502, .inl (G.2 0, 408, .inl mT)) := by rw [hM_1, xu_n (by omega)]; exact hm502
  have hm503 : M_1 503 = some (ad 503, .inl (G.2 0, 408, .inl mK)) := by rw [hM_1, xu_n (by omega)]; exact hm503
  have hm504 : M_1 504 = some (ad 504, .inl (G.2 0, 51, .inl (fun k => nI (mC k)))) := by rw [hM_1, xu_n (by omega)]; exact hm504
  have hm505 : M_1 505 = some (ad 505, .inl (G.2 2, 51, .inl mD)) := by rw [hM_1, xu_n (by omega)]; exact hm505
  have hm506 : M_1 506 = some (ad 506, .inl (G.2 1, 51, .inr (.inl mF))) := by rw [hM_1, xu_n (by omega)]; exact hm506
  have hm507 : M_1 507 = some (ad 507, .inl (G.2 1, 51, .inr (.inl mO))) := by rw [hM_1, xu_n (by omega)]; exact hm507
  have hm508 : M_1 508 = some (ad 508, .inl (G.2 0, 51, .inl (fun k => nI (mP k)))) := by rw [hM_1, xu_n (by omega)]; exact hm508
  have hm509 : M_1 509 = some (ad 509, .inl (G.2 1, 4, .inr (.inl (fun k => lN (wn k))))) := by rw [hM_1, xu_n (by omega)]; exact hm509
  have hm510 : M_1 510 = some (ad 510, .inl (G.2 0, 700, .inl (fun k => nI (o1 k)))) := by rw [hM_1, xu_n (by omega)]; exact hm510
  have hm511 : M_1 511 = some (ad 511, .inl (G.2 0, 700, .inl (fun k => nI (o2 k)))) := by rw [hM_1, xu_n (by omega)]; exact hm511
  have hm512 : M_1 512 = some (ad 512, .inl (G.2 1, 700, .inr (.inl (fun k => lN (u1 k))))) := by rw [hM_1, xu_n (by omega)]; exact hm512
  have hm513 : M_1 513 = some (ad 513, .inl (G.2 1, 700, .inr (.inl (fun k => lN (d1 k))))) := by rw [hM_1, xu_n (by omega)]; exact hm513
  have hm514 : M_1 514 = some (ad 514, .inl (G.2 0, 101, .inl (fun k => nI (jA k)))) := by rw [hM_1, xu_n (by omega)]; exact hm514
  have hm515 : M_1 515 = some (ad 515, .inl (G.2 0, 101, .inl (fun k => nI (jB k)))) := by rw [hM_1, xu_n (by omega)]; exact hm515
  have hm516 : M_1 516 = some (ad 516, .inl (G.2 0, 700, .inl (fun k => nI (mx k)))) := by rw [hM_1, xu_n (by omega)]; exact hm516
  have hm500 : M_1 500 = some (ad 500, .inr (7, [.int (nI 0), .int (nI nc), .ref (ad 501), .ref (ad 502), .ref (ad 503), .ref (ad 504), .ref (ad 505), .ref (ad 506), .ref (ad 507), .ref (ad 508), .ref (ad 509), .int rn, .int (nI pn), .ref (ad 510), .ref (ad 511), .ref (ad 512), .ref (ad 513), .int (nI jc), .ref (ad 514), .ref (ad 515), .ref (ad 516), .long up, .long dn])) := by rw [hM_1]; exact xu_s
  refine lv_iload_n hx hb dX5_name_5 rfl (lv_at hl 1 rfl) ?_
  refine lv_if_lt (tgt := 23) hx hb dX5_name_6 (by decide) (fun c_2 => ?_) (fun c_2 => ?_)
  · refine lv_iconst (v := nI 0) hx hb dX5_name_23 (by decide) ?_
    exact x_iret hx hb hr hlocks hK hA hX hS dX5_name_24 (⟨Or.inr ⟨fun q => (x_side0 q.1).1 c_2, rfl, ⟨hm500, hm501, hm502, hm503, hm504, hm505, hm506, hm507, hm508, hm509, hm510, hm511, hm512, hm513, hm514, hm515, hm516⟩⟩, fun t ht => by rw [hM_1, xu_n (by omega)]⟩)
  · refine lv_iload_n hx hb dX5_name_9 rfl (lv_at hl 1 rfl) ?_
    refine lv_iconst (v := nI 1) hx hb dX5_name_10 (by decide) ?_
    refine lv_icmp_gt (tgt := 23) hx hb dX5_name_11 (by decide) (fun c_3 => ?_) (fun c_3 => ?_)
    · refine lv_iconst (v := nI 0) hx hb dX5_name_23 (by decide) ?_
      exact x_iret hx hb hr hlocks hK hA hX hS dX5_name_24 (⟨Or.inr ⟨fun q => (x_side0 q.1).2 c_3, rfl, ⟨hm500, hm501, hm502, hm503, hm504, hm505, hm506, hm507, hm508, hm509, hm510, hm511, hm512, hm513, hm514, hm515, hm516⟩⟩, fun t ht => by rw [hM_1, xu_n (by omega)]⟩)
    · refine lv_aload_n hx hb dX5_name_14 rfl (lv_at hl 0 rfl) ?_
      refine x_get (ci := 7) (v := .int (nI nc)) (C := RX5) (T := TX5) (N := 23) hx hb hts inX5 hown hK hX hm500 rfl 1 (by decide) lk_fieldLink_66 (fun _ h9 => h9) rfl dX5_name_15 ?_
      refine lv_bipush (v := nI 50) hx hb dX5_name_18 (by decide) ?_
      refine lv_icmp_ne (tgt := 25) hx hb dX5_name_20 (by decide) (fun c_4 => ?_) (fun c_4 => ?_)
      · have c_4 : ¬ (nc = 50) := fun q => c_4 ((nI_eq (by omega) (by omega)).mpr q)
        refine lv_aload_n hx hb dX5_name_25 rfl (lv_at hl 0 rfl) ?_
        refine lv_dup hx hb dX5_name_26 rfl ?_
        refine x_get (ci := 7) (v := .int (nI nc)) (C := RX5) (T := TX5) (N := 23) hx hb hts inX5 hown hK hX hm500 rfl 1 (by decide) lk_fieldLink_66 (fun _ h9 => h9) rfl dX5_name_27 ?_
        refine lv_iconst (v := nI 1) hx hb dX5_name_30 (by decide) ?_
        refine lv_iadd hx hb dX5_name_31 ?_
        refine x_ri (nI_add _ _) ?_
        refine x_put (ci := 7) (v := .int (nI (nc + 1))) (C := RX5) (T := TX5) (N := 23) hx hb hts inX5 tyX5 tyX5_ok nmX5 hown hK hX hS hm500 rfl 1 (by decide) lk_fieldLink_66 (fun _ h9 => h9) rfl (tyX5_ok 1 (by decide)) rfl rfl (Nat.le_of_ble_eq_true rfl) dX5_name_32 (fun H locs hX hS => ?_)
        obtain ⟨M_5, hM_5⟩ : ∃ zM : xM, zM = xu M_1 500 (ad 500, .inr (7, [.int (nI 0), .int (nI (nc + 1)), .ref (ad 501), .ref (ad 502), .ref (ad 503), .ref (ad 504), .ref (ad 505), .ref (ad 506), .ref (ad 507), .ref (ad 508), .ref (ad 509), .int rn, .int (nI pn), .ref (ad 510), .ref (ad 511), .ref (ad 512), .ref (ad 513), .int (nI jc), .ref (ad 514), .ref (ad 515), .ref (ad 516), .long up, .long dn])) := ⟨_, rfl⟩
        have hX : xw G.1 vwCl A M_5 H := by rw [hM_5]; exact hX
        have hm501 : M_5 501 = some (ad 501, .inl (G.2 0, 51, .inl mS)) := by rw [hM_5, xu_n (by omega)]; exact hm501
        have hm502 : M_5 502 = some (ad 502, .inl (G.2 0, 408, .inl mT)) := by rw [hM_5, xu_n (by omega)]; exact hm502
        have hm503 : M_5 503 = some (ad 503, .inl (G.2 0, 408, .inl mK)) := by rw [hM_5, xu_n (by omega)]; exact hm503
        have hm504 : M_5 504 = some (ad 504, .inl (G.2 0, 51, .inl (fun k => nI (mC k)))) := by rw [hM_5, xu_n (by omega)]; exact hm504
        have hm505 : M_5 505 = some (ad 505, .inl (G.2 2, 51, .inl mD)) := by rw [hM_5, xu_n (by omega)]; exact hm505
        have hm506 : M_5 506 = some (ad 506, .inl (G.2 1, 51, .inr (.inl mF))) := by rw [hM_5, xu_n (by omega)]; exact hm506
        have hm507 : M_5 507 = some (ad 507, .inl (G.2 1, 51, .inr (.inl mO))) := by rw [hM_5, xu_n (by omega)]; exact hm507
        have hm508 : M_5 508 = some (ad 508, .inl (G.2 0, 51, .inl (fun k => nI (mP k)))) := by rw [hM_5, xu_n (by omega)]; exact hm508
        have hm509 : M_5 509 = some (ad 509, .inl (G.2 1, 4, .inr (.inl (fun k => lN (wn k))))) := by rw [hM_5, xu_n (by omega)]; exact hm509
        have hm510 : M_5 510 = some (ad 510, .inl (G.2 0, 700, .inl (fun k => nI (o1 k)))) := by rw [hM_5, xu_n (by omega)]; exact hm510
        have hm511 : M_5 511 = some (ad 511, .inl (G.2 0, 700, .inl (fun k => nI (o2 k)))) := by rw [hM_5, xu_n (by omega)]; exact hm511
        have hm512 : M_5 512 = some (ad 512, .inl (G.2 1, 700, .inr (.inl (fun k => lN (u1 k))))) := by rw [hM_5, xu_n (by omega)]; exact hm512
        have hm513 : M_5 513 = some (ad 513, .inl (G.2 1, 700, .inr (.inl (fun k => lN (d1 k))))) := by rw [hM_5, xu_n (by omega)]; exact hm513
        have hm514 : M_5 514 = some (ad 514, .inl (G.2 0, 101, .inl (fun k => nI (jA k)))) := by rw [hM_5, xu_n (by omega)]; exact hm514
        have hm515 : M_5 515 = some (ad 515, .inl (G.2 0, 101, .inl (fun k => nI (jB k)))) := by rw [hM_5, xu_n (by omega)]; exact hm515
        have hm516 : M_5 516 = some (ad 516, .inl (G.2 0, 700, .inl (fun k => nI (mx k)))) := by rw [hM_5, xu_n (by omega)]; exact hm516
        have hm500 : M_5 500 = some (ad 500, .inr (7, [.int (nI 0), .int (nI (nc + 1)), .ref (ad 501), .ref (ad 502), .ref (ad 503), .ref (ad 504), .ref (ad 505), .ref (ad 506), .ref (ad 507), .ref (ad 508), .ref (ad 509), .int rn, .int (nI pn), .ref (ad 510), .ref (ad 511), .ref (ad 512), .ref (ad 513), .int (nI jc), .ref (ad 514), .ref (ad 515), .ref (ad 516), .long up, .long dn])) := by rw [hM_5]; exact xu_s
        refine lv_aload_n hx hb dX5_name_35 rfl (lv_at hl 0 rfl) ?_
        refine x_get (ci := 7) (v := .ref (ad 501)) (C := RX5) (T := TX5) (N := 23) hx hb hts inX5 hown hK hX hm500 rfl 2 (by decide) lk_fieldLink_7 (fun _ h9 => h9) rfl dX5_name_36 ?_
        refine lv_aload_n hx hb dX5_name_39 rfl (lv_at hl 0 rfl) ?_
        refine x_get (ci := 7) (v := .int (nI (nc + 1))) (C := RX5) (T := TX5) (N := 23) hx hb hts inX5 hown hK hX hm500 rfl 1 (by decide) lk_fieldLink_66 (fun _ h9 => h9) rfl dX5_name_40 ?_
        refine lv_iload_n hx hb dX5_name_43 rfl (lv_at hl 1 rfl) ?_
        refine x_isN hx hb hK hX hS hm501 (by omega) (by decide) dX5_name_44 (fun H locs hX hS => ?_)
        obtain ⟨M_6, hM_6⟩ : ∃ zM : xM, zM = xu M_5 501 (ad 501, .inl (G.2 0, 51, .inl (upd mS (nc + 1) p0))) := ⟨_, rfl⟩
        have hX : xw G.1 vwCl A M_6 H := by rw [hM_6]; exact hX
        have hm500 : M_6 500 = some (ad 500, .inr (7, [.int (nI 0), .int (nI (nc + 1)), .ref (ad 501), .ref (ad 502), .ref (ad 503), .ref (ad 504), .ref (ad 505), .ref (ad 506), .ref (ad 507), .ref (ad 508), .ref (ad 509), .int rn, .int (nI pn), .ref (ad 510), .ref (ad 511), .ref (ad 512), .ref (ad 513), .int (nI jc), .ref (ad 514), .ref (ad 515), .ref (ad 516), .long up, .long dn])) := by rw [hM_6, xu_n (by omega)]; exact hm500
        have hm502 : M_6 502 = some (ad 502, .inl (G.2 0, 408, .inl mT)) := by rw [hM_6, xu_n (by omega)]; exact hm502
        have hm503 : M_6 503 = some (ad 503, .inl (G.2 0, 408, .inl mK)) := by rw [hM_6, xu_n (by omega)]; exact hm503
        have hm504 : M_6 504 = some (ad 504, .inl (G.2 0, 51, .inl (fun k => nI (mC k)))) := by rw [hM_6, xu_n (by omega)]; exact hm504
        have hm505 : M_6 505 = some (ad 505, .inl (G.2 2, 51, .inl mD)) := by rw [hM_6, xu_n (by omega)]; exact hm505
        have hm506 : M_6 506 = some (ad 506, .inl (G.2 1, 51, .inr (.inl mF))) := by rw [hM_6, xu_n (by omega)]; exact hm506
        have hm507 : M_6 507 = some (ad 507, .inl (G.2 1, 51, .inr (.inl mO))) := by rw [hM_6, xu_n (by omega)]; exact hm507
        have hm508 : M_6 508 = some (ad 508, .inl (G.2 0, 51, .inl (fun k => nI (mP k)))) := by rw [hM_6, xu_n (by omega)]; exact hm508
        have hm509 : M_6 509 = some (ad 509, .inl (G.2 1, 4, .inr (.inl (fun k => lN (wn k))))) := by rw [hM_6, xu_n (by omega)]; exact hm509
        have hm510 : M_6 510 = some (ad 510, .inl (G.2 0, 700, .inl (fun k => nI (o1 k)))) := by rw [hM_6, xu_n (by omega)]; exact hm510
        have hm511 : M_6 511 = some (ad 511, .inl (G.2 0, 700, .inl (fun k => nI (o2 k)))) := by rw [hM_6, xu_n (by omega)]; exact hm511
        have hm512 : M_6 512 = some (ad 512, .inl (G.2 1, 700, .inr (.inl (fun k => lN (u1 k))))) := by rw [hM_6, xu_n (by omega)]; exact hm512
        have hm513 : M_6 513 = some (ad 513, .inl (G.2 1, 700, .inr (.inl (fun k => lN (d1 k))))) := by rw [hM_6, xu_n (by omega)]; exact hm513
        have hm514 : M_6 514 = some (ad 514, .inl (G.2 0, 101, .inl (fun k => nI (jA k)))) := by rw [hM_6, xu_n (by omega)]; exact hm514
        have hm515 : M_6 515 = some (ad 515, .inl (G.2 0, 101, .inl (fun k => nI (jB k)))) := by rw [hM_6, xu_n (by omega)]; exact hm515
        have hm516 : M_6 516 = some (ad 516, .inl (G.2 0, 700, .inl (fun k => nI (mx k)))) := by rw [hM_6, xu_n (by omega)]; exact hm516
        have hm501 : M_6 501 = some (ad 501, .inl (G.2 0, 51, .inl (upd mS (nc + 1) p0))) := by rw [hM_6]; exact xu_s
        refine lv_aload_n hx hb dX5_name_45 rfl (lv_at hl 0 rfl) ?_
        refine x_get (ci := 7) (v := .int (nI (nc + 1))) (C := RX5) (T := TX5) (N := 23) hx hb hts inX5 hown hK hX hm500 rfl 1 (by decide) lk_fieldLink_66 (fun _ h9 => h9) rfl dX5_name_46 ?_
        exact x_iret hx hb hr hlocks hK hA hX hS dX5_name_49 (⟨Or.inl ⟨x_side c_2 c_3, by omega, rfl, ⟨hm500, hm501, hm502, hm503, hm504, hm505, hm506, hm507, hm508, hm509, hm510, hm511, hm512, hm513, hm514, hm515, hm516⟩⟩, fun t ht => by rw [hM_6, xu_n (by omega), hM_5, xu_n (by omega), hM_1, xu_n (by omega)]⟩)
      · have c_4 : nc = 50 := (nI_eq (by omega) (by omega)).mp c_4
        refine lv_iconst (v := nI 0) hx hb dX5_name_23 (by decide) ?_
        exact x_iret hx hb hr hlocks hK hA hX hS dX5_name_24 (⟨Or.inr ⟨fun q => by have := q.2; omega, rfl, ⟨hm500, hm501, hm502, hm503, hm504, hm505, hm506, hm507, hm508, hm509, hm510, hm511, hm512, hm513, hm514, hm515, hm516⟩⟩, fun t ht => by rw [hM_1, xu_n (by omega)]⟩)

abbrev rmX5_date : Room := { frames := 1, cells := 0, slots := 0, locals := 21 }
set_option maxHeartbeats 4000000 in
set_option maxRecDepth 100000 in
/-- date -/
theorem ctX5_date (l : Launch) (G : xG) (A : Nat → Prop) (M : xM) {ad : Nat → Nat} {th : Int32} {nc : Nat} {mS : Nat → Int32} {mT : Nat → Int32} {mK : Nat → Int32} {mC : Nat → Nat} {mD : Nat → Int32} {mF : Nat → Int64} {mO : Nat → Int64} {mP : Nat → Nat} {wn : Nat → Nat} {rn : Int32} {pn : Nat} {o1 : Nat → Nat} {o2 : Nat → Nat} {u1 : Nat → Nat} {d1 : Nat → Nat} {jc : Nat} {jA : Nat → Nat} {jB : Nat → Nat} {mx : Nat → Nat} {up : Int64} {dn : Int64} (hR : xMod G M ad th nc mS mT mK mC mD mF mO mP wn rn pn o1 o2 u1 d1 jc jA jB mx up dn) (p0 : Int32) (p1 p2 : Int64) (hnc : nc ≤ 50) : Met l yX5_date wsX5_date rmX5_date (va_Pc ([.ref (ad 500), .int p0, .long p1, .long p2] : List Value) (xPc G A M)) (va_Qv (fun M1 => ((∃ i, i < nc ∧ p0 = nI (i + 1) ∧ p1 ≤ p2 ∧ xMod G M1 ad (nI 0) nc mS mT mK mC (upd mD (i + 1) (nI 1)) (vp_updL mF (i + 1) p1) (vp_updL mO (i + 1) p2) mP wn rn pn o1 o2 u1 d1 jc jA jB mx up dn) ∨ (((p0 < nI 1 ∨ ¬ p0 ≤ nI nc) ∨ ¬ p1 ≤ p2) ∧ xMod G M1 ad (nI 0) nc mS mT mK mC mD mF mO mP wn rn pn o1 o2 u1 d1 jc jA jB mx up dn)) ∧ (∀ t, t < 500 ∨ 516 < t → M1 t = M t)) (xPc G A) A) 0 0 A := by
  refine x_met (cc := cX5_date) (maxL := 6) (ret := none) RX5 (by decide) rfl (Nat.le_of_ble_eq_true rfl) rfl ?_
  intro p e s m below meth c hx hb hr hts hown hlocks hml hin hK hA hX ls hl
  have inX5 : ∀ w ∈ wsX50, w ∈ wsX5_date := by decide +kernel
  have lk_fieldLink_62 := hts (.fieldLink RX5 62 "ReconcileModel" "thrown" "I") (by decide +kernel)
  have lk_fieldLink_22 := hts (.fieldLink RX5 22 "ReconcileModel" "dated" "[Z") (by decide +kernel)
  have lk_fieldLink_26 := hts (.fieldLink RX5 26 "ReconcileModel" "froms" "[J") (by decide +kernel)
  have lk_fieldLink_30 := hts (.fieldLink RX5 30 "ReconcileModel" "tos" "[J") (by decide +kernel)
  have hS : va_S A s.heap s.heap [] := va_S.rf
  have hl : lv_has ls 6 [(0, .ref (ad 500)), (1, .int p0), (2, .long p1), (4, .long p2)] := hl
  obtain ⟨hm500, hm501, hm502, hm503, hm504, hm505, hm506, hm507, hm508, hm509, hm510, hm511, hm512, hm513, hm514, hm515, hm516⟩ := id hR
  refine lv_aload_n hx hb dX5_date_0 rfl (lv_at hl 0 rfl) ?_
  refine lv_iconst (v := nI 0) hx hb dX5_date_1 (by decide) ?_
  refine x_put (ci := 7) (v := .int (nI 0)) (C := RX5) (T := TX5) (N := 23) hx hb hts inX5 tyX5 tyX5_ok nmX5 hown hK hX hS hm500 rfl 0 (by decide) lk_fieldLink_62 (fun _ h9 => h9) rfl (tyX5_ok 0 (by decide)) rfl rfl (Nat.le_of_ble_eq_true rfl) dX5_date_2 (fun H locs hX hS => ?_)
  obtain ⟨M_1, hM_1⟩ : ∃ zM : xM, zM = xu M 500 (ad 500, .inr (7, [.int (nI 0), .int (nI nc), .ref (ad 501), .ref (ad 502), .ref (ad 503), .ref (ad 504), .ref (ad 505), .ref (ad 506), .ref (ad 507), .ref (ad 508), .ref (ad 509), .int rn, .int (nI pn), .ref (ad 510), .ref (ad 511), .ref (ad 512), .ref (ad 513), .int (nI jc), .ref (ad 514), .ref (ad 515), .ref (ad 516), .long up, .long dn])) := ⟨_, rfl⟩
  have hX : xw G.1 vwCl A M_1 H := by rw [hM_1]; exact hX
  have hm501 : M_1 501 = some (ad 501, .inl (G.2 0, 51, .inl mS)) := by rw [hM_1, xu_n (by omega)]; exact hm501
  have hm502 : M_1 502 = some (ad 502, .inl (G.2 0, 408, .inl mT)) := by rw [hM_1, xu_n (by omega)]; exact hm502
  have hm503 : M_1 503 = some (ad 503, .inl (G.2 0, 408, .inl mK)) := by rw [hM_1, xu_n (by omega)]; exact hm503
  have hm504 : M_1 504 = some (ad 504, .inl (G.2 0, 51, .inl (fun k => nI (mC k)))) := by rw [hM_1, xu_n (by omega)]; exact hm504
  have hm505 : M_1 505 = some (ad 505, .inl (G.2 2, 51, .inl mD)) := by rw [hM_1, xu_n (by omega)]; exact hm505
  have hm506 : M_1 506 = some (ad 506, .inl (G.2 1, 51, .inr (.inl mF))) := by rw [hM_1, xu_n (by omega)]; exact hm506
  have hm507 : M_1 507 = some (ad 507, .inl (G.2 1, 51, .inr (.inl mO))) := by rw [hM_1, xu_n (by omega)]; exact hm507
  have hm508 : M_1 508 = some (ad 508, .inl (G.2 0, 51, .inl (fun k => nI (mP k)))) := by rw [hM_1, xu_n (by omega)]; exact hm508
  have hm509 : M_1 509 = some (ad 509, .inl (G.2 1, 4, .inr (.inl (fun k => lN (wn k))))) := by rw [hM_1, xu_n (by omega)]; exact hm509
  have hm510 : M_1 510 = some (ad 510, .inl (G.2 0, 700, .inl (fun k => nI (o1 k)))) := by rw [hM_1, xu_n (by omega)]; exact hm510
  have hm511 : M_1 511 = some (ad 511, .inl (G.2 0, 700, .inl (fun k => nI (o2 k)))) := by rw [hM_1, xu_n (by omega)]; exact hm511
  have hm512 : M_1 512 = some (ad 512, .inl (G.2 1, 700, .inr (.inl (fun k => lN (u1 k))))) := by rw [hM_1, xu_n (by omega)]; exact hm512
  have hm513 : M_1 513 = some (ad 513, .inl (G.2 1, 700, .inr (.inl (fun k => lN (d1 k))))) := by rw [hM_1, xu_n (by omega)]; exact hm513
  have hm514 : M_1 514 = some (ad 514, .inl (G.2 0, 101, .inl (fun k => nI (jA k)))) := by rw [hM_1, xu_n (by omega)]; exact hm514
  have hm515 : M_1 515 = some (ad 515, .inl (G.2 0, 101, .inl (fun k => nI (jB k)))) := by rw [hM_1, xu_n (by omega)]; exact hm515
  have hm516 : M_1 516 = some (ad 516, .inl (G.2 0, 700, .inl (fun k => nI (mx k)))) := by rw [hM_1, xu_n (by omega)]; exact hm516
  have hm500 : M_1 500 = some (ad 500, .inr (7, [.int (nI 0), .int (nI nc), .ref (ad 501), .ref (ad 502), .ref (ad 503), .ref (ad 504), .ref (ad 505), .ref (ad 506), .ref (ad 507), .ref (ad 508), .ref (ad 509), .int rn, .int (nI pn), .ref (ad 510), .ref (ad 511), .ref (ad 512), .ref (ad 513), .int (nI jc), .ref (ad 514), .ref (ad 515), .ref (ad 516), .long up, .long dn])) := by rw [hM_1]; exact xu_s
  refine lv_aload_n hx hb dX5_date_5 rfl (lv_at hl 0 rfl) ?_
  refine lv_iload_n hx hb dX5_date_6 rfl (lv_at hl 1 rfl) ?_
  refine x_calli (x_runV (q := (RX5, TX5, 23)) (As := [.int p0]) (rest := []) ⟨hx, hb, hml, hown, hts⟩ (ctX5_isName l G A M_1 ⟨hm500, hm501, hm502, hm503, hm504, hm505, hm506, hm507, hm508, hm509, hm510, hm511, hm512, hm513, hm514, hm515, hm516⟩ p0 hnc) (cwV 1 hts gX5_date_X5_isName rfl rfl rfl (by decide +kernel) ⟨Nat.le_of_ble_eq_true rfl, Nat.le_of_ble_eq_true rfl⟩) hK hA hX hS hm500 rfl rfl hl.1 rfl (lv_room (Nat.le_of_ble_eq_true rfl)) dX5_date_7 ⟨by decide, by decide⟩) hS (fun r_2 M_3 H locs hp hX hS => ?_)
  obtain ⟨hM_, hq_r_2⟩ := hp
  rw [hM_] at hX
  rcases hq_r_2 with ⟨i, hi, ep, er⟩ | ⟨ep, er⟩
  · rw [er]
    subst ep
    refine lv_if_eq (tgt := 42) hx hb dX5_date_10 (by decide) (fun c_4 => ?_) (fun c_4 => ?_)
    · have c_4 : 1 = 0 := (nI_eq (a := 1) (b := 0) (by omega) (by omega)).mp c_4
      exact absurd c_4 (by omega)
    · have c_4 : ¬ (1 = 0) := fun q => c_4 ((nI_eq (a := 1) (b := 0) (by omega) (by omega)).mpr q)
      refine lv_lload_n hx hb dX5_date_13 rfl (lv_at hl 2 rfl) ?_
      refine lv_lload hx hb dX5_date_14 (lv_at hl 3 rfl) ?_
      refine W.lcmp hx hb dX5_date_16 ?_
      refine x_lc_gt (tgt := 42) hx hb dX5_date_17 (by decide) (fun c_5 => ?_) (fun c_5 => ?_)
      · exact x_vret hx hb hr hlocks hK hA hX hS dX5_date_42 (⟨Or.inr ⟨Or.inr (fun q => (lc_n64.mp q) c_5), ⟨hm500, hm501, hm502, hm503, hm504, hm505, hm506, hm507, hm508, hm509, hm510, hm511, hm512, hm513, hm514, hm515, hm516⟩⟩, fun t ht => by rw [hM_1, xu_n (by omega)]⟩)
      · refine lv_aload_n hx hb dX5_date_20 rfl (lv_at hl 0 rfl) ?_
        refine x_get (ci := 7) (v := .ref (ad 505)) (C := RX5) (T := TX5) (N := 23) hx hb hts inX5 hown hK hX hm500 rfl 6 (by decide) lk_fieldLink_22 (fun _ h9 => h9) rfl dX5_date_21 ?_
        refine lv_iload_n hx hb dX5_date_24 rfl (lv_at hl 1 rfl) ?_
        refine lv_iconst (v := nI 1) hx hb dX5_date_25 (by decide) ?_
        refine x_zsN (x' := nI 1) hx hb hK hX hS (by decide) hm505 (by omega) (by decide) dX5_date_26 (fun H locs hX hS => ?_)
        obtain ⟨M_6, hM_6⟩ : ∃ zM : xM, zM = xu M_1 505 (ad 505, .inl (G.2 2, 51, .inl (upd mD (i + 1) (nI 1)))) := ⟨_, rfl⟩
        have hX : xw G.1 vwCl A M_6 H := by rw [hM_6]; exact hX
        have hm500 : M_6 500 = some (ad 500, .inr (7, [.int (nI 0), .int (nI nc), .ref (ad 501), .ref (ad 502), .ref (ad 503), .ref (ad 504), .ref (ad 505), .ref (ad 506), .ref (ad 507), .ref (ad 508), .ref (ad 509), .int rn, .int (nI pn), .ref (ad 510), .ref (ad 511), .ref (ad 512), .ref (ad 513), .int (nI jc), .ref (ad 514), .ref (ad 515), .ref (ad 516), .long up, .long dn])) := by rw [hM_6, xu_n (by omega)]; exact hm500
        have hm501 : M_6 501 = some (ad 501, .inl (G.2 0, 51, .inl mS)) := by rw [hM_6, xu_n (by omega)]; exact hm501
        have hm502 : M_6 502 = some (ad 502, .inl (G.2 0, 408, .inl mT)) := by rw [hM_6, xu_n (by omega)]; exact hm502
        have hm503 : M_6 503 = some (ad 503, .inl (G.2 0, 408, .inl mK)) := by rw [hM_6, xu_n (by omega)]; exact hm503
        have hm504 : M_6 504 = some (ad 504, .inl (G.2 0, 51, .inl (fun k => nI (mC k)))) := by rw [hM_6, xu_n (by omega)]; exact hm504
        have hm506 : M_6 506 = some (ad 506, .inl (G.2 1, 51, .inr (.inl mF))) := by rw [hM_6, xu_n (by omega)]; exact hm506
        have hm507 : M_6 507 = some (ad 507, .inl (G.2 1, 51, .inr (.inl mO))) := by rw [hM_6, xu_n (by omega)]; exact hm507
        have hm508 : M_6 508 = some (ad 508, .inl (G.2 0, 51, .inl (fun k => nI (mP k)))) := by rw [hM_6, xu_n (by omega)]; exact hm508
        have hm509 : M_6 509 = some (ad 509, .inl (G.2 1, 4, .inr (.inl (fun k => lN (wn k))))) := by rw [hM_6, xu_n (by omega)]; exact hm509
        have hm510 : M_6 510 = some (ad 510, .inl (G.2 0, 700, .inl (fun k => nI (o1 k)))) := by rw [hM_6, xu_n (by omega)]; exact hm510
        have hm511 : M_6 511 = some (ad 511, .inl (G.2 0, 700, .inl (fun k => nI (o2 k)))) := by rw [hM_6, xu_n (by omega)]; exact hm511
        have hm512 : M_6 512 = some (ad 512, .inl (G.2 1, 700, .inr (.inl (fun k => lN (u1 k))))) := by rw [hM_6, xu_n (by omega)]; exact hm512
        have hm513 : M_6 513 = some (ad 513, .inl (G.2 1, 700, .inr (.inl (fun k => lN (d1 k))))) := by rw [hM_6, xu_n (by omega)]; exact hm513
        have hm514 : M_6 514 = some (ad 514, .inl (G.2 0, 101, .inl (fun k => nI (jA k)))) := by rw [hM_6, xu_n (by omega)]; exact hm514
        have hm515 : M_6 515 = some (ad 515, .inl (G.2 0, 101, .inl (fun k => nI (jB k)))) := by rw [hM_6, xu_n (by omega)]; exact hm515
        have hm516 : M_6 516 = some (ad 516, .inl (G.2 0, 700, .inl (fun k => nI (mx k)))) := by rw [hM_6, xu_n (by omega)]; exact hm516
        have hm505 : M_6 505 = some (ad 505, .inl (G.2 2, 51, .inl (upd mD (i + 1) (nI 1)))) := by rw [hM_6]; exact xu_s
        refine lv_aload_n hx hb dX5_date_27 rfl (lv_at hl 0 rfl) ?_
        refine x_get (ci := 7) (v := .ref (ad 506)) (C := RX5) (T := TX5) (N := 23) hx hb hts inX5 hown hK hX hm500 rfl 7 (by decide) lk_fieldLink_26 (fun _ h9 => h9) rfl dX5_date_28 ?_
        refine lv_iload_n hx hb dX5_date_31 rfl (lv_at hl 1 rfl) ?_
        refine lv_lload_n hx hb dX5_date_32 rfl (lv_at hl 2 rfl) ?_
        refine x_lsN hx hb hK hX hS hm506 (by omega) (by decide) dX5_date_33 (fun H locs hX hS => ?_)
        obtain ⟨M_7, hM_7⟩ : ∃ zM : xM, zM = xu M_6 506 (ad 506, .inl (G.2 1, 51, .inr (.inl (vp_updL mF (i + 1) p1)))) := ⟨_, rfl⟩
        have hX : xw G.1 vwCl A M_7 H := by rw [hM_7]; exact hX
        have hm500 : M_7 500 = some (ad 500, .inr (7, [.int (nI 0), .int (nI nc), .ref (ad 501), .ref (ad 502), .ref (ad 503), .ref (ad 504), .ref (ad 505), .ref (ad 506), .ref (ad 507), .ref (ad 508), .ref (ad 509), .int rn, .int (nI pn), .ref (ad 510), .ref (ad 511), .ref (ad 512), .ref (ad 513), .int (nI jc), .ref (ad 514), .ref (ad 515), .ref (ad 516), .long up, .long dn])) := by rw [hM_7, xu_n (by omega)]; exact hm500
        have hm501 : M_7 501 = some (ad 501, .inl (G.2 0, 51, .inl mS)) := by rw [hM_7, xu_n (by omega)]; exact hm501
        have hm502 : M_7 502 = some (ad 502, .inl (G.2 0, 408, .inl mT)) := by rw [hM_7, xu_n (by omega)]; exact hm502
        have hm503 : M_7 503 = some (ad 503, .inl (G.2 0, 408, .inl mK)) := by rw [hM_7, xu_n (by omega)]; exact hm503
        have hm504 : M_7 504 = some (ad 504, .inl (G.2 0, 51, .inl (fun k => nI (mC k)))) := by rw [hM_7, xu_n (by omega)]; exact hm504
        have hm505 : M_7 505 = some (ad 505, .inl (G.2 2, 51, .inl (upd mD (i + 1) (nI 1)))) := by rw [hM_7, xu_n (by omega)]; exact hm505
        have hm507 : M_7 507 = some (ad 507, .inl (G.2 1, 51, .inr (.inl mO))) := by rw [hM_7, xu_n (by omega)]; exact hm507
        have hm508 : M_7 508 = some (ad 508, .inl (G.2 0, 51, .inl (fun k => nI (mP k)))) := by rw [hM_7, xu_n (by omega)]; exact hm508
        have hm509 : M_7 509 = some (ad 509, .inl (G.2 1, 4, .inr (.inl (fun k => lN (wn k))))) := by rw [hM_7, xu_n (by omega)]; exact hm509
        have hm510 : M_7 510 = some (ad 510, .inl (G.2 0, 700, .inl (fun k => nI (o1 k)))) := by rw [hM_7, xu_n (by omega)]; exact hm510
        have hm511 : M_7 511 = some (ad 511, .inl (G.2 0, 700, .inl (fun k => nI (o2 k)))) := by rw [hM_7, xu_n (by omega)]; exact hm511
        have hm512 : M_7 512 = some (ad 512, .inl (G.2 1, 700, .inr (.inl (fun k => lN (u1 k))))) := by rw [hM_7, xu_n (by omega)]; exact hm512
        have hm513 : M_7 513 = some (ad 513, .inl (G.2 1, 700, .inr (.inl (fun k => lN (d1 k))))) := by rw [hM_7, xu_n (by omega)]; exact hm513
        have hm514 : M_7 514 = some (ad 514, .inl (G.2 0, 101, .inl (fun k => nI (jA k)))) := by rw [hM_7, xu_n (by omega)]; exact hm514
        have hm515 : M_7 515 = some (ad 515, .inl (G.2 0, 101, .inl (fun k => nI (jB k)))) := by rw [hM_7, xu_n (by omega)]; exact hm515
        have hm516 : M_7 516 = some (ad 516, .inl (G.2 0, 700, .inl (fun k => nI (mx k)))) := by rw [hM_7, xu_n (by omega)]; exact hm516
        have hm506 : M_7 506 = some (ad 506, .inl (G.2 1, 51, .inr (.inl (vp_updL mF (i + 1) p1)))) := by rw [hM_7]; exact xu_s
        refine lv_aload_n hx hb dX5_date_34 rfl (lv_at hl 0 rfl) ?_
        refine x_get (ci := 7) (v := .ref (ad 507)) (C := RX5) (T := TX5) (N := 23) hx hb hts inX5 hown hK hX hm500 rfl 8 (by decide) lk_fieldLink_30 (fun _ h9 => h9) rfl dX5_date_35 ?_
        refine lv_iload_n hx hb dX5_date_38 rfl (lv_at hl 1 rfl) ?_
        refine lv_lload hx hb dX5_date_39 (lv_at hl 3 rfl) ?_
        refine x_lsN hx hb hK hX hS hm507 (by omega) (by decide) dX5_date_41 (fun H locs hX hS => ?_)
        obtain ⟨M_8, hM_8⟩ : ∃ zM : xM, zM = xu M_7 507 (ad 507, .inl (G.2 1, 51, .inr (.inl (vp_updL mO (i + 1) p2)))) := ⟨_, rfl⟩
        have hX : xw G.1 vwCl A M_8 H := by rw [hM_8]; exact hX
        have hm500 : M_8 500 = some (ad 500, .inr (7, [.int (nI 0), .int (nI nc), .ref (ad 501), .ref (ad 502), .ref (ad 503), .ref (ad 504), .ref (ad 505), .ref (ad 506), .ref (ad 507), .ref (ad 508), .ref (ad 509), .int rn, .int (nI pn), .ref (ad 510), .ref (ad 511), .ref (ad 512), .ref (ad 513), .int (nI jc), .ref (ad 514), .ref (ad 515), .ref (ad 516), .long up, .long dn])) := by rw [hM_8, xu_n (by omega)]; exact hm500
        have hm501 : M_8 501 = some (ad 501, .inl (G.2 0, 51, .inl mS)) := by rw [hM_8, xu_n (by omega)]; exact hm501
        have hm502 : M_8 502 = some (ad 502, .inl (G.2 0, 408, .inl mT)) := by rw [hM_8, xu_n (by omega)]; exact hm502
        have hm503 : M_8 503 = some (ad 503, .inl (G.2 0, 408, .inl mK)) := by rw [hM_8, xu_n (by omega)]; exact hm503
        have hm504 : M_8 504 = some (ad 504, .inl (G.2 0, 51, .inl (fun k => nI (mC k)))) := by rw [hM_8, xu_n (by omega)]; exact hm504
        have hm505 : M_8 505 = some (ad 505, .inl (G.2 2, 51, .inl (upd mD (i + 1) (nI 1)))) := by rw [hM_8, xu_n (by omega)]; exact hm505
        have hm506 : M_8 506 = some (ad 506, .inl (G.2 1, 51, .inr (.inl (vp_updL mF (i + 1) p1)))) := by rw [hM_8, xu_n (by omega)]; exact hm506
        have hm508 : M_8 508 = some (ad 508, .inl (G.2 0, 51, .inl (fun k => nI (mP k)))) := by rw [hM_8, xu_n (by omega)]; exact hm508
        have hm509 : M_8 509 = some (ad 509, .inl (G.2 1, 4, .inr (.inl (fun k => lN (wn k))))) := by rw [hM_8, xu_n (by omega)]; exact hm509
        have hm510 : M_8 510 = some (ad 510, .inl (G.2 0, 700, .inl (fun k => nI (o1 k)))) := by rw [hM_8, xu_n (by omega)]; exact hm510
        have hm511 : M_8 511 = some (ad 511, .inl (G.2 0, 700, .inl (fun k => nI (o2 k)))) := by rw [hM_8, xu_n (by omega)]; exact hm511
        have hm512 : M_8 512 = some (ad 512, .inl (G.2 1, 700, .inr (.inl (fun k => lN (u1 k))))) := by rw [hM_8, xu_n (by omega)]; exact hm512
        have hm513 : M_8 513 = some (ad 513, .inl (G.2 1, 700, .inr (.inl (fun k => lN (d1 k))))) := by rw [hM_8, xu_n (by omega)]; exact hm513
        have hm514 : M_8 514 = some (ad 514, .inl (G.2 0, 101, .inl (fun k => nI (jA k)))) := by rw [hM_8, xu_n (by omega)]; exact hm514
        have hm515 : M_8 515 = some (ad 515, .inl (G.2 0, 101, .inl (fun k => nI (jB k)))) := by rw [hM_8, xu_n (by omega)]; exact hm515
        have hm516 : M_8 516 = some (ad 516, .inl (G.2 0, 700, .inl (fun k => nI (mx k)))) := by rw [hM_8, xu_n (by omega)]; exact hm516
        have hm507 : M_8 507 = some (ad 507, .inl (G.2 1, 51, .inr (.inl (vp_updL mO (i + 1) p2)))) := by rw [hM_8]; exact xu_s
        exact x_vret hx hb hr hlocks hK hA hX hS dX5_date_42 (⟨Or.inl ⟨i, hi, rfl, lc_n64.mpr c_5, ⟨hm500, hm501, hm502, hm503, hm504, hm505, hm506, hm507, hm508, hm509, hm510, hm511, hm512, hm513, hm514, hm515, hm516⟩⟩, fun t ht => by rw [hM_8, xu_n (by omega), hM_7, xu_n (by omega), hM_6, xu_n (by omega), hM_1, xu_n (by omega)]⟩)
  · rw [er]
    refine lv_if_eq (tgt := 42) hx hb dX5_date_10 (by decide) (fun c_9 => ?_) (fun c_9 => ?_)
    · have c_9 : 0 = 0 := (nI_eq (a := 0) (b := 0) (by omega) (by omega)).mp c_9
      exact x_vret hx hb hr hlocks hK hA hX hS dX5_date_42 (⟨Or.inr ⟨Or.inl ep, ⟨hm500, hm501, hm502, hm503, hm504, hm505, hm506, hm507, hm508, hm509, hm510, hm511, hm512, hm513, hm514, hm515, hm516⟩⟩, fun t ht => by rw [hM_1, xu_n (by omega)]⟩)
    · have c_9 : ¬ (0 = 0) := fun q => c_9 ((nI_eq (a := 0) (b := 0) (by omega) (by omega)).mpr q)
      exact absurd c_9 (by omega)

abbrev rmX5_weight : Room := { frames := 0, cells := 0, slots := 0, locals := 0 }
set_option maxHeartbeats 4000000 in
set_option maxRecDepth 100000 in
/-- weight -/
theorem ctX5_weight (l : Launch) (G : xG) (A : Nat → Prop) (M : xM) {ad : Nat → Nat} {th : Int32} {nc : Nat} {mS : Nat → Int32} {mT : Nat → Int32} {mK : Nat → Int32} {mC : Nat → Nat} {mD : Nat → Int32} {mF : Nat → Int64} {mO : Nat → Int64} {mP : Nat → Nat} {wn : Nat → Nat} {rn : Int32} {pn : Nat} {o1 : Nat → Nat} {o2 : Nat → Nat} {u1 : Nat → Nat} {d1 : Nat → Nat} {jc : Nat} {jA : Nat → Nat} {jB : Nat → Nat} {mx : Nat → Nat} {up : Int64} {dn : Int64} (hR : xMod G M ad th nc mS mT mK mC mD mF mO mP wn rn pn o1 o2 u1 d1 jc jA jB mx up dn) (p0 : Int32) (p1 p2 : Int64) : Met l yX5_weight wsX5_weight rmX5_weight (va_Pc ([.ref (ad 500), .int p0, .long p1, .long p2] : List Value) (xPc G A M)) (va_Qi (fun r M1 => ((∃ kk u d : Nat, (kk < 4 ∧ u ≤ 100 ∧ 1 ≤ d ∧ d ≤ 10) ∧ (p0 = nI kk ∧ p1 = lN u ∧ p2 = lN d) ∧ r = nI 1 ∧ xMod G M1 ad (nI 0) nc mS mT mK mC mD mF mO mP (va_up wn kk (2520 / d * u)) rn pn o1 o2 u1 d1 jc jA jB mx up dn) ∨ ((p0 < 0 ∨ nI 4 ≤ p0 ∨ p1 < lN 0 ∨ lN 100 < p1 ∨ p2 < lN 1 ∨ ¬ p2 ≤ lN 10) ∧ r = nI 0 ∧ xMod G M1 ad (nI 0) nc mS mT mK mC mD mF mO mP wn rn pn o1 o2 u1 d1 jc jA jB mx up dn)) ∧ (∀ t, t < 500 ∨ 516 < t → M1 t = M t)) (xPc G A) A) 0 0 A := by
  refine x_met (cc := cX5_weight) (maxL := 6) (ret := (some .int)) RX5 (by decide) rfl (Nat.le_of_ble_eq_true rfl) rfl ?_
  intro p e s m below meth c hx hb hr hts hown hlocks hml hin hK hA hX ls hl
  have inX5 : ∀ w ∈ wsX50, w ∈ wsX5_weight := by decide +kernel
  have lk_fieldLink_62 := hts (.fieldLink RX5 62 "ReconcileModel" "thrown" "I") (by decide +kernel)
  have lk_constantLong_77 := hts (.constantLong RX5 77 (100)) (by decide +kernel)
  have lk_constantLong_79 := hts (.constantLong RX5 79 (10)) (by decide +kernel)
  have lk_fieldLink_38 := hts (.fieldLink RX5 38 "ReconcileModel" "weights" "[J") (by decide +kernel)
  have lk_constantLong_36 := hts (.constantLong RX5 36 (2520)) (by decide +kernel)
  have hS : va_S A s.heap s.heap [] := va_S.rf
  have hl : lv_has ls 6 [(0, .ref (ad 500)), (1, .int p0), (2, .long p1), (4, .long p2)] := hl
  obtain ⟨hm500, hm501, hm502, hm503, hm504, hm505, hm506, hm507, hm508, hm509, hm510, hm511, hm512, hm513, hm514, hm515, hm516⟩ := id hR
  refine lv_aload_n hx hb dX5_weight_0 rfl (lv_at hl 0 rfl) ?_
  refine lv_iconst (v := nI 0) hx hb dX5_weight_1 (by decide) ?_
  refine x_put (ci := 7) (v := .int (nI 0)) (C := RX5) (T := TX5) (N := 23) hx hb hts inX5 tyX5 tyX5_ok nmX5 hown hK hX hS hm500 rfl 0 (by decide) lk_fieldLink_62 (fun _ h9 => h9) rfl (tyX5_ok 0 (by decide)) rfl rfl (Nat.le_of_ble_eq_true rfl) dX5_weight_2 (fun H locs hX hS => ?_)
  obtain ⟨M_1, hM_1⟩ : ∃ zM : xM, zM = xu M 500 (ad 500, .inr (7, [.int (nI 0), .int (nI nc), .ref (ad 501), .ref (ad 502), .ref (ad 503), .ref (ad 504), .ref (ad 505), .ref (ad 506), .ref (ad 507), .ref (ad 508), .ref (ad 509), .int rn, .int (nI pn), .ref (ad 510), .ref (ad 511), .ref (ad 512), .ref (ad 513), .int (nI jc), .ref (ad 514), .ref (ad 515), .ref (ad 516), .long up, .long dn])) := ⟨_, rfl⟩
  have hX : xw G.1 vwCl A M_1 H := by rw [hM_1]; exact hX
  have hm501 : M_1 501 = some (ad 501, .inl (G.2 0, 51, .inl mS)) := by rw [hM_1, xu_n (by omega)]; exact hm501
  have hm502 : M_1 502 = some (ad 502, .inl (G.2 0, 408, .inl mT)) := by rw [hM_1, xu_n (by omega)]; exact hm502
  have hm503 : M_1 503 = some (ad 503, .inl (G.2 0, 408, .inl mK)) := by rw [hM_1, xu_n (by omega)]; exact hm503
  have hm504 : M_1 504 = some (ad 504, .inl (G.2 0, 51, .inl (fun k => nI (mC k)))) := by rw [hM_1, xu_n (by omega)]; exact hm504
  have hm505 : M_1 505 = some (ad 505, .inl (G.2 2, 51, .inl mD)) := by rw [hM_1, xu_n (by omega)]; exact hm505
  have hm506 : M_1 506 = some (ad 506, .inl (G.2 1, 51, .inr (.inl mF))) := by rw [hM_1, xu_n (by omega)]; exact hm506
  have hm507 : M_1 507 = some (ad 507, .inl (G.2 1, 51, .inr (.inl mO))) := by rw [hM_1, xu_n (by omega)]; exact hm507
  have hm508 : M_1 508 = some (ad 508, .inl (G.2 0, 51, .inl (fun k => nI (mP k)))) := by rw [hM_1, xu_n (by omega)]; exact hm508
  have hm509 : M_1 509 = some (ad 509, .inl (G.2 1, 4, .inr (.inl (fun k => lN (wn k))))) := by rw [hM_1, xu_n (by omega)]; exact hm509
  have hm510 : M_1 510 = some (ad 510, .inl (G.2 0, 700, .inl (fun k => nI (o1 k)))) := by rw [hM_1, xu_n (by omega)]; exact hm510
  have hm511 : M_1 511 = some (ad 511, .inl (G.2 0, 700, .inl (fun k => nI (o2 k)))) := by rw [hM_1, xu_n (by omega)]; exact hm511
  have hm512 : M_1 512 = some (ad 512, .inl (G.2 1, 700, .inr (.inl (fun k => lN (u1 k))))) := by rw [hM_1, xu_n (by omega)]; exact hm512
  have hm513 : M_1 513 = some (ad 513, .inl (G.2 1, 700, .inr (.inl (fun k => lN (d1 k))))) := by rw [hM_1, xu_n (by omega)]; exact hm513
  have hm514 : M_1 514 = some (ad 514, .inl (G.2 0, 101, .inl (fun k => nI (jA k)))) := by rw [hM_1, xu_n (by omega)]; exact hm514
  have hm515 : M_1 515 = some (ad 515, .inl (G.2 0, 101, .inl (fun k => nI (jB k)))) := by rw [hM_1, xu_n (by omega)]; exact hm515
  have hm516 : M_1 516 = some (ad 516, .inl (G.2 0, 700, .inl (fun k => nI (mx k)))) := by rw [hM_1, xu_n (by omega)]; exact hm516
  have hm500 : M_1 500 = some (ad 500, .inr (7, [.int (nI 0), .int (nI nc), .ref (ad 501), .ref (ad 502), .ref (ad 503), .ref (ad 504), .ref (ad 505), .ref (ad 506), .ref (ad 507), .ref (ad 508), .ref (ad 509), .int rn, .int (nI pn), .ref (ad 510), .ref (ad 511), .ref (ad 512), .ref (ad 513), .int (nI jc), .ref (ad 514), .ref (ad 515), .ref (ad 516), .long up, .long dn])) := by rw [hM_1]; exact xu_s
  refine lv_iload_n hx hb dX5_weight_5 rfl (lv_at hl 1 rfl) ?_
  refine lv_if_lt (tgt := 44) hx hb dX5_weight_6 (by decide) (fun c_2 => ?_) (fun c_2 => ?_)
  · refine lv_iconst (v := nI 0) hx hb dX5_weight_44 (by decide) ?_
    exact x_iret hx hb hr hlocks hK hA hX hS dX5_weight_45 (⟨Or.inr ⟨Or.inl c_2, rfl, ⟨hm500, hm501, hm502, hm503, hm504, hm505, hm506, hm507, hm508, hm509, hm510, hm511, hm512, hm513, hm514, hm515, hm516⟩⟩, fun t ht => by rw [hM_1, xu_n (by omega)]⟩)
  · refine lv_iload_n hx hb dX5_weight_9 rfl (lv_at hl 1 rfl) ?_
    refine lv_iconst (v := nI 3) hx hb dX5_weight_10 (by decide) ?_
    refine lv_icmp_gt (tgt := 44) hx hb dX5_weight_11 (by decide) (fun c_3 => ?_) (fun c_3 => ?_)
    · refine lv_iconst (v := nI 0) hx hb dX5_weight_44 (by decide) ?_
      exact x_iret hx hb hr hlocks hK hA hX hS dX5_weight_45 (⟨Or.inr ⟨Or.inr (Or.inl (show nI 4 ≤ p0 by have q := c_3; rw [Int32.lt_iff_toInt_lt] at q; rw [Int32.le_iff_toInt_le]; rw [nI_toInt (by omega)] at *; omega)), rfl, ⟨hm500, hm501, hm502, hm503, hm504, hm505, hm506, hm507, hm508, hm509, hm510, hm511, hm512, hm513, hm514, hm515, hm516⟩⟩, fun t ht => by rw [hM_1, xu_n (by omega)]⟩)
    · refine lv_lload_n hx hb dX5_weight_14 rfl (lv_at hl 2 rfl) ?_
      refine lv_lconst (v := lN 0) hx hb dX5_weight_15 rfl ?_
      refine W.lcmp hx hb dX5_weight_16 ?_
      refine x_lc_lt (tgt := 44) hx hb dX5_weight_17 (by decide) (fun c_4 => ?_) (fun c_4 => ?_)
      · refine lv_iconst (v := nI 0) hx hb dX5_weight_44 (by decide) ?_
        exact x_iret hx hb hr hlocks hK hA hX hS dX5_weight_45 (⟨Or.inr ⟨Or.inr (Or.inr (Or.inl c_4)), rfl, ⟨hm500, hm501, hm502, hm503, hm504, hm505, hm506, hm507, hm508, hm509, hm510, hm511, hm512, hm513, hm514, hm515, hm516⟩⟩, fun t ht => by rw [hM_1, xu_n (by omega)]⟩)
      · refine lv_lload_n hx hb dX5_weight_20 rfl (lv_at hl 2 rfl) ?_
        refine lv_ldc2 (v := 100) hx hb hown lk_constantLong_77 dX5_weight_21 ?_
        refine x_rl (y := lN 100) rfl ?_
        refine W.lcmp hx hb dX5_weight_24 ?_
        refine x_lc_gt (tgt := 44) hx hb dX5_weight_25 (by decide) (fun c_5 => ?_) (fun c_5 => ?_)
        · refine lv_iconst (v := nI 0) hx hb dX5_weight_44 (by decide) ?_
          exact x_iret hx hb hr hlocks hK hA hX hS dX5_weight_45 (⟨Or.inr ⟨Or.inr (Or.inr (Or.inr (Or.inl c_5))), rfl, ⟨hm500, hm501, hm502, hm503, hm504, hm505, hm506, hm507, hm508, hm509, hm510, hm511, hm512, hm513, hm514, hm515, hm516⟩⟩, fun t ht => by rw [hM_1, xu_n (by omega)]⟩)
        · refine lv_lload hx hb dX5_weight_28 (lv_at hl 3 rfl) ?_
          refine lv_lconst (v := lN 1) hx hb dX5_weight_30 rfl ?_
          refine W.lcmp hx hb dX5_weight_31 ?_
          refine x_lc_lt (tgt := 44) hx hb dX5_weight_32 (by decide) (fun c_6 => ?_) (fun c_6 => ?_)
          · refine lv_iconst (v := nI 0) hx hb dX5_weight_44 (by decide) ?_
            exact x_iret hx hb hr hlocks hK hA hX hS dX5_weight_45 (⟨Or.inr ⟨Or.inr (Or.inr (Or.inr (Or.inr (Or.inl c_6)))), rfl, ⟨hm500, hm501, hm502, hm503, hm504, hm505, hm506, hm507, hm508, hm509, hm510, hm511, hm512, hm513, hm514, hm515, hm516⟩⟩, fun t ht => by rw [hM_1, xu_n (by omega)]⟩)
          · refine lv_lload hx hb dX5_weight_35 (lv_at hl 3 rfl) ?_
            refine lv_ldc2 (v := 10) hx hb hown lk_constantLong_79 dX5_weight_37 ?_
            refine x_rl (y := lN 10) rfl ?_
            refine W.lcmp hx hb dX5_weight_40 ?_
            refine x_lc_le (tgt := 46) hx hb dX5_weight_41 (by decide) (fun c_7 => ?_) (fun c_7 => ?_)
            · have h4 : ¬ nI 4 ≤ p0 := fun q => c_3 (by rw [Int32.lt_iff_toInt_lt]; rw [Int32.le_iff_toInt_le] at q; rw [nI_toInt (by omega)] at *; omega)
              obtain ⟨kk, hk, ek⟩ := x_in (n := 4) (by omega) c_2 h4
              obtain ⟨u, hu, eu⟩ := x_l64 (n := 100) (by omega) c_4 (x_le_nlt c_5)
              have hd0 : ¬ p2 < lN 0 := fun q => c_6 (by rw [Int64.lt_iff_toInt_lt] at q ⊢; rw [lN_toInt (by omega)] at *; omega)
              obtain ⟨d, hd, ed⟩ := x_l64 (n := 10) (by omega) hd0 c_7
              have hd1 : 1 ≤ d := Nat.le_of_not_lt (fun q => c_6 (by rw [ed]; exact (pk_lLT (by omega) (by omega)).mpr q))
              subst ek eu ed
              refine lv_aload_n hx hb dX5_weight_46 rfl (lv_at hl 0 rfl) ?_
              refine x_get (ci := 7) (v := .ref (ad 509)) (C := RX5) (T := TX5) (N := 23) hx hb hts inX5 hown hK hX hm500 rfl 10 (by decide) lk_fieldLink_38 (fun _ h9 => h9) rfl dX5_weight_47 ?_
              refine lv_iload_n hx hb dX5_weight_50 rfl (lv_at hl 1 rfl) ?_
              refine lv_ldc2 (v := 2520) hx hb hown lk_constantLong_36 dX5_weight_51 ?_
              refine x_rl (y := lN 2520) rfl ?_
              refine lv_lload hx hb dX5_weight_54 (lv_at hl 3 rfl) ?_
              refine lv_ldiv hx hb dX5_weight_56 (by rw [show (0 : Int64) = lN 0 from rfl, pk_lEQ (by omega) (by omega)]; omega) ?_
              refine x_rl (pk_lDiv (by omega) (by omega) (by omega)) ?_
              refine lv_lload_n hx hb dX5_weight_57 rfl (lv_at hl 2 rfl) ?_
              refine lv_lmul hx hb dX5_weight_58 ?_
              refine x_rl (lN_mul _ _) ?_
              refine x_lsN hx hb hK hX hS hm509 (by omega) (by decide) dX5_weight_59 (fun H locs hX hS => ?_)
              rw [updL_n] at hX
              obtain ⟨M_8, hM_8⟩ : ∃ zM : xM, zM = xu M_1 509 (ad 509, .inl (G.2 1, 4, .inr (.inl (fun k => lN ((va_up wn kk ((2520 / d) * u)) k))))) := ⟨_, rfl⟩
              have hX : xw G.1 vwCl A M_8 H := by rw [hM_8]; exact hX
              have hm500 : M_8 500 = some (ad 500, .inr (7, [.int (nI 0), .int (nI nc), .ref (ad 501), .ref (ad 502), .ref (ad 503), .ref (ad 504), .ref (ad 505), .ref (ad 506), .ref (ad 507), .ref (ad 508), .ref (ad 509), .int rn, .int (nI pn), .ref (ad 510), .ref (ad 511), .ref (ad 512), .ref (ad 513), .int (nI jc), .ref (ad 514), .ref (ad 515), .ref (ad 516), .long up, .long dn])) := by rw [hM_8, xu_n (by omega)]; exact hm500
              have hm501 : M_8 501 = some (ad 501, .inl (G.2 0, 51, .inl mS)) := by rw [hM_8, xu_n (by omega)]; exact hm501
              have hm502 : M_8 502 = some (ad 502, .inl (G.2 0, 408, .inl mT)) := by rw [hM_8, xu_n (by omega)]; exact hm502
              have hm503 : M_8 503 = some (ad 503, .inl (G.2 0, 408, .inl mK)) := by rw [hM_8, xu_n (by omega)]; exact hm503
              have hm504 : M_8 504 = some (ad 504, .inl (G.2 0, 51, .inl (fun k => nI (mC k)))) := by rw [hM_8, xu_n (by omega)]; exact hm504
              have hm505 : M_8 505 = some (ad 505, .inl (G.2 2, 51, .inl mD)) := by rw [hM_8, xu_n (by omega)]; exact hm505
              have hm506 : M_8 506 = some (ad 506, .inl (G.2 1, 51, .inr (.inl mF))) := by rw [hM_8, xu_n (by omega)]; exact hm506
              have hm507 : M_8 507 = some (ad 507, .inl (G.2 1, 51, .inr (.inl mO))) := by rw [hM_8, xu_n (by omega)]; exact hm507
              have hm508 : M_8 508 = some (ad 508, .inl (G.2 0, 51, .inl (fun k => nI (mP k)))) := by rw [hM_8, xu_n (by omega)]; exact hm508
              have hm510 : M_8 510 = some (ad 510, .inl (G.2 0, 700, .inl (fun k => nI (o1 k)))) := by rw [hM_8, xu_n (by omega)]; exact hm510
              have hm511 : M_8 511 = some (ad 511, .inl (G.2 0, 700, .inl (fun k => nI (o2 k)))) := by rw [hM_8, xu_n (by omega)]; exact hm511
              have hm512 : M_8 512 = some (ad 512, .inl (G.2 1, 700, .inr (.inl (fun k => lN (u1 k))))) := by rw [hM_8, xu_n (by omega)]; exact hm512
              have hm513 : M_8 513 = some (ad 513, .inl (G.2 1, 700, .inr (.inl (fun k => lN (d1 k))))) := by rw [hM_8, xu_n (by omega)]; exact hm513
              have hm514 : M_8 514 = some (ad 514, .inl (G.2 0, 101, .inl (fun k => nI (jA k)))) := by rw [hM_8, xu_n (by omega)]; exact hm514
              have hm515 : M_8 515 = some (ad 515, .inl (G.2 0, 101, .inl (fun k => nI (jB k)))) := by rw [hM_8, xu_n (by omega)]; exact hm515
              have hm516 : M_8 516 = some (ad 516, .inl (G.2 0, 700, .inl (fun k => nI (mx k)))) := by rw [hM_8, xu_n (by omega)]; exact hm516
              have hm509 : M_8 509 = some (ad 509, .inl (G.2 1, 4, .inr (.inl (fun k => lN ((va_up wn kk ((2520 / d) * u)) k))))) := by rw [hM_8]; exact xu_s
              refine lv_iconst (v := nI 1) hx hb dX5_weight_60 (by decide) ?_
              exact x_iret hx hb hr hlocks hK hA hX hS dX5_weight_61 (⟨Or.inl ⟨kk, u, d, ⟨hk, hu, hd1, hd⟩, ⟨rfl, rfl, rfl⟩, rfl, ⟨hm500, hm501, hm502, hm503, hm504, hm505, hm506, hm507, hm508, hm509, hm510, hm511, hm512, hm513, hm514, hm515, hm516⟩⟩, fun t ht => by rw [hM_8, xu_n (by omega), hM_1, xu_n (by omega)]⟩)
            · refine lv_iconst (v := nI 0) hx hb dX5_weight_44 (by decide) ?_
              exact x_iret hx hb hr hlocks hK hA hX hS dX5_weight_45 (⟨Or.inr ⟨Or.inr (Or.inr (Or.inr (Or.inr (Or.inr (c_7))))), rfl, ⟨hm500, hm501, hm502, hm503, hm504, hm505, hm506, hm507, hm508, hm509, hm510, hm511, hm512, hm513, hm514, hm515, hm516⟩⟩, fun t ht => by rw [hM_1, xu_n (by omega)]⟩)

abbrev rmX5_pair : Room := { frames := 1, cells := 0, slots := 0, locals := 21 }
set_option maxHeartbeats 4000000 in
set_option maxRecDepth 100000 in
/-- pair -/
theorem ctX5_pair (l : Launch) (G : xG) (A : Nat → Prop) (M : xM) {ad : Nat → Nat} {th : Int32} {nc : Nat} {mS : Nat → Int32} {mT : Nat → Int32} {mK : Nat → Int32} {mC : Nat → Nat} {mD : Nat → Int32} {mF : Nat → Int64} {mO : Nat → Int64} {mP : Nat → Nat} {wn : Nat → Nat} {rn : Int32} {pn : Nat} {o1 : Nat → Nat} {o2 : Nat → Nat} {u1 : Nat → Nat} {d1 : Nat → Nat} {jc : Nat} {jA : Nat → Nat} {jB : Nat → Nat} {mx : Nat → Nat} {up : Int64} {dn : Int64} (hR : xMod G M ad th nc mS mT mK mC mD mF mO mP wn rn pn o1 o2 u1 d1 jc jA jB mx up dn) (p0 p1 : Int32) (hpn : pn ≤ 625) : Met l yX5_pair wsX5_pair rmX5_pair (va_Pc ([.ref (ad 500), .int p0, .int p1] : List Value) (xPc G A M)) (va_Qi (fun r M1 => ((∃ i, i < pn ∧ p0 = nI i ∧ (p1 = 0 ∨ p1 = nI 1) ∧ r = if p1 = nI 1 then nI (o2 i) else nI (o1 i)) ∨ (¬ ((¬ p0 < 0 ∧ ¬ nI pn ≤ p0) ∧ (p1 = 0 ∨ p1 = nI 1)) ∧ r = nI 0)) ∧ xMod G M1 ad (nI 0) nc mS mT mK mC mD mF mO mP wn rn pn o1 o2 u1 d1 jc jA jB mx up dn ∧ (∀ t, t < 500 ∨ 516 < t → M1 t = M t)) (xPc G A) A) 0 0 A := by
  refine x_met (cc := cX5_pair) (maxL := 3) (ret := (some .int)) RX5 (by decide) rfl (Nat.le_of_ble_eq_true rfl) rfl ?_
  intro p e s m below meth c hx hb hr hts hown hlocks hml hin hK hA hX ls hl
  have inX5 : ∀ w ∈ wsX50, w ∈ wsX5_pair := by decide +kernel
  have lk_fieldLink_62 := hts (.fieldLink RX5 62 "ReconcileModel" "thrown" "I") (by decide +kernel)
  have lk_fieldLink_44 := hts (.fieldLink RX5 44 "ReconcileModel" "twos" "[I") (by decide +kernel)
  have lk_fieldLink_41 := hts (.fieldLink RX5 41 "ReconcileModel" "ones" "[I") (by decide +kernel)
  have hS : va_S A s.heap s.heap [] := va_S.rf
  have hl : lv_has ls 3 [(0, .ref (ad 500)), (1, .int p0), (2, .int p1)] := hl
  obtain ⟨hm500, hm501, hm502, hm503, hm504, hm505, hm506, hm507, hm508, hm509, hm510, hm511, hm512, hm513, hm514, hm515, hm516⟩ := id hR
  refine lv_aload_n hx hb dX5_pair_0 rfl (lv_at hl 0 rfl) ?_
  refine lv_iconst (v := nI 0) hx hb dX5_pair_1 (by decide) ?_
  refine x_put (ci := 7) (v := .int (nI 0)) (C := RX5) (T := TX5) (N := 23) hx hb hts inX5 tyX5 tyX5_ok nmX5 hown hK hX hS hm500 rfl 0 (by decide) lk_fieldLink_62 (fun _ h9 => h9) rfl (tyX5_ok 0 (by decide)) rfl rfl (Nat.le_of_ble_eq_true rfl) dX5_pair_2 (fun H locs hX hS => ?_)
  obtain ⟨M_1, hM_1⟩ : ∃ zM : xM, zM = xu M 500 (ad 500, .inr (7, [.int (nI 0), .int (nI nc), .ref (ad 501), .ref (ad 502), .ref (ad 503), .ref (ad 504), .ref (ad 505), .ref (ad 506), .ref (ad 507), .ref (ad 508), .ref (ad 509), .int rn, .int (nI pn), .ref (ad 510), .ref (ad 511), .ref (ad 512), .ref (ad 513), .int (nI jc), .ref (ad 514), .ref (ad 515), .ref (ad 516), .long up, .long dn])) := ⟨_, rfl⟩
  have hX : xw G.1 vwCl A M_1 H := by rw [hM_1]; exact hX
  have hm501 : M_1 501 = some (ad 501, .inl (G.2 0, 51, .inl mS)) := by rw [hM_1, xu_n (by omega)]; exact hm501
  have hm502 : M_1 502 = some (ad 502, .inl (G.2 0, 408, .inl mT)) := by rw [hM_1, xu_n (by omega)]; exact hm502
  have hm503 : M_1 503 = some (ad 503, .inl (G.2 0, 408, .inl mK)) := by rw [hM_1, xu_n (by omega)]; exact hm503
  have hm504 : M_1 504 = some (ad 504, .inl (G.2 0, 51, .inl (fun k => nI (mC k)))) := by rw [hM_1, xu_n (by omega)]; exact hm504
  have hm505 : M_1 505 = some (ad 505, .inl (G.2 2, 51, .inl mD)) := by rw [hM_1, xu_n (by omega)]; exact hm505
  have hm506 : M_1 506 = some (ad 506, .inl (G.2 1, 51, .inr (.inl mF))) := by rw [hM_1, xu_n (by omega)]; exact hm506
  have hm507 : M_1 507 = some (ad 507, .inl (G.2 1, 51, .inr (.inl mO))) := by rw [hM_1, xu_n (by omega)]; exact hm507
  have hm508 : M_1 508 = some (ad 508, .inl (G.2 0, 51, .inl (fun k => nI (mP k)))) := by rw [hM_1, xu_n (by omega)]; exact hm508
  have hm509 : M_1 509 = some (ad 509, .inl (G.2 1, 4, .inr (.inl (fun k => lN (wn k))))) := by rw [hM_1, xu_n (by omega)]; exact hm509
  have hm510 : M_1 510 = some (ad 510, .inl (G.2 0, 700, .inl (fun k => nI (o1 k)))) := by rw [hM_1, xu_n (by omega)]; exact hm510
  have hm511 : M_1 511 = some (ad 511, .inl (G.2 0, 700, .inl (fun k => nI (o2 k)))) := by rw [hM_1, xu_n (by omega)]; exact hm511
  have hm512 : M_1 512 = some (ad 512, .inl (G.2 1, 700, .inr (.inl (fun k => lN (u1 k))))) := by rw [hM_1, xu_n (by omega)]; exact hm512
  have hm513 : M_1 513 = some (ad 513, .inl (G.2 1, 700, .inr (.inl (fun k => lN (d1 k))))) := by rw [hM_1, xu_n (by omega)]; exact hm513
  have hm514 : M_1 514 = some (ad 514, .inl (G.2 0, 101, .inl (fun k => nI (jA k)))) := by rw [hM_1, xu_n (by omega)]; exact hm514
  have hm515 : M_1 515 = some (ad 515, .inl (G.2 0, 101, .inl (fun k => nI (jB k)))) := by rw [hM_1, xu_n (by omega)]; exact hm515
  have hm516 : M_1 516 = some (ad 516, .inl (G.2 0, 700, .inl (fun k => nI (mx k)))) := by rw [hM_1, xu_n (by omega)]; exact hm516
  have hm500 : M_1 500 = some (ad 500, .inr (7, [.int (nI 0), .int (nI nc), .ref (ad 501), .ref (ad 502), .ref (ad 503), .ref (ad 504), .ref (ad 505), .ref (ad 506), .ref (ad 507), .ref (ad 508), .ref (ad 509), .int rn, .int (nI pn), .ref (ad 510), .ref (ad 511), .ref (ad 512), .ref (ad 513), .int (nI jc), .ref (ad 514), .ref (ad 515), .ref (ad 516), .long up, .long dn])) := by rw [hM_1]; exact xu_s
  refine lv_aload_n hx hb dX5_pair_5 rfl (lv_at hl 0 rfl) ?_
  refine lv_iload_n hx hb dX5_pair_6 rfl (lv_at hl 1 rfl) ?_
  refine x_calli (x_runV (q := (RX5, TX5, 23)) (As := [.int p0]) (rest := []) ⟨hx, hb, hml, hown, hts⟩ (ctX5_isPair l G A M_1 ⟨hm500, hm501, hm502, hm503, hm504, hm505, hm506, hm507, hm508, hm509, hm510, hm511, hm512, hm513, hm514, hm515, hm516⟩ p0 hpn) (cwV 1 hts gX5_pair_X5_isPair rfl rfl rfl (by decide +kernel) ⟨Nat.le_of_ble_eq_true rfl, Nat.le_of_ble_eq_true rfl⟩) hK hA hX hS hm500 rfl rfl hl.1 rfl (lv_room (Nat.le_of_ble_eq_true rfl)) dX5_pair_7 ⟨by decide, by decide⟩) hS (fun r_2 M_3 H locs hp hX hS => ?_)
  obtain ⟨hM_, hq_r_2⟩ := hp
  rw [hM_] at hX
  rcases hq_r_2 with ⟨i, hi, ep, er⟩ | ⟨ep, er⟩
  · rw [er]
    subst ep
    refine lv_if_eq (tgt := 22) hx hb dX5_pair_10 (by decide) (fun c_4 => ?_) (fun c_4 => ?_)
    · have c_4 : 1 = 0 := (nI_eq (a := 1) (b := 0) (by omega) (by omega)).mp c_4
      exact absurd c_4 (by omega)
    · have c_4 : ¬ (1 = 0) := fun q => c_4 ((nI_eq (a := 1) (b := 0) (by omega) (by omega)).mpr q)
      refine lv_iload_n hx hb dX5_pair_13 rfl (lv_at hl 2 rfl) ?_
      refine lv_if_lt (tgt := 22) hx hb dX5_pair_14 (by decide) (fun c_5 => ?_) (fun c_5 => ?_)
      · refine lv_iconst (v := nI 0) hx hb dX5_pair_22 (by decide) ?_
        refine lv_goto (tgt := 45) hx hb dX5_pair_23 (by decide) ?_
        exact x_iret hx hb hr hlocks hK hA hX hS dX5_pair_45 (⟨Or.inr ⟨fun q => (x_side0 q.2).1 c_5, rfl⟩, ⟨hm500, hm501, hm502, hm503, hm504, hm505, hm506, hm507, hm508, hm509, hm510, hm511, hm512, hm513, hm514, hm515, hm516⟩, fun t ht => by rw [hM_1, xu_n (by omega)]⟩)
      · refine lv_iload_n hx hb dX5_pair_17 rfl (lv_at hl 2 rfl) ?_
        refine lv_iconst (v := nI 1) hx hb dX5_pair_18 (by decide) ?_
        refine lv_icmp_le (tgt := 26) hx hb dX5_pair_19 (by decide) (fun c_6 => ?_) (fun c_6 => ?_)
        · refine lv_iload_n hx hb dX5_pair_26 rfl (lv_at hl 2 rfl) ?_
          refine lv_if_ne (tgt := 39) hx hb dX5_pair_27 (by decide) (fun c_7 => ?_) (fun c_7 => ?_)
          · refine lv_aload_n hx hb dX5_pair_39 rfl (lv_at hl 0 rfl) ?_
            refine x_get (ci := 7) (v := .ref (ad 511)) (C := RX5) (T := TX5) (N := 23) hx hb hts inX5 hown hK hX hm500 rfl 14 (by decide) lk_fieldLink_44 (fun _ h9 => h9) rfl dX5_pair_40 ?_
            refine lv_iload_n hx hb dX5_pair_43 rfl (lv_at hl 1 rfl) ?_
            refine x_iN hx hb hK hX hm511 (by omega) (by decide) dX5_pair_44 ?_
            exact x_iret hx hb hr hlocks hK hA hX hS dX5_pair_45 (⟨Or.inl ⟨i, hi, rfl, x_side c_5 (x_nlt.mpr c_6), by rw [if_pos ((x_side c_5 (x_nlt.mpr c_6)).resolve_left c_7)]⟩, ⟨hm500, hm501, hm502, hm503, hm504, hm505, hm506, hm507, hm508, hm509, hm510, hm511, hm512, hm513, hm514, hm515, hm516⟩, fun t ht => by rw [hM_1, xu_n (by omega)]⟩)
          · refine lv_aload_n hx hb dX5_pair_30 rfl (lv_at hl 0 rfl) ?_
            refine x_get (ci := 7) (v := .ref (ad 510)) (C := RX5) (T := TX5) (N := 23) hx hb hts inX5 hown hK hX hm500 rfl 13 (by decide) lk_fieldLink_41 (fun _ h9 => h9) rfl dX5_pair_31 ?_
            refine lv_iload_n hx hb dX5_pair_34 rfl (lv_at hl 1 rfl) ?_
            refine x_iN hx hb hK hX hm510 (by omega) (by decide) dX5_pair_35 ?_
            refine lv_goto (tgt := 45) hx hb dX5_pair_36 (by decide) ?_
            exact x_iret hx hb hr hlocks hK hA hX hS dX5_pair_45 (⟨Or.inl ⟨i, hi, rfl, x_side c_5 (x_nlt.mpr c_6), by rw [c_7, if_neg (by decide)]⟩, ⟨hm500, hm501, hm502, hm503, hm504, hm505, hm506, hm507, hm508, hm509, hm510, hm511, hm512, hm513, hm514, hm515, hm516⟩, fun t ht => by rw [hM_1, xu_n (by omega)]⟩)
        · refine lv_iconst (v := nI 0) hx hb dX5_pair_22 (by decide) ?_
          refine lv_goto (tgt := 45) hx hb dX5_pair_23 (by decide) ?_
          exact x_iret hx hb hr hlocks hK hA hX hS dX5_pair_45 (⟨Or.inr ⟨fun q => (x_side0 q.2).2 (x_nle.mp c_6), rfl⟩, ⟨hm500, hm501, hm502, hm503, hm504, hm505, hm506, hm507, hm508, hm509, hm510, hm511, hm512, hm513, hm514, hm515, hm516⟩, fun t ht => by rw [hM_1, xu_n (by omega)]⟩)
  · rw [er]
    refine lv_if_eq (tgt := 22) hx hb dX5_pair_10 (by decide) (fun c_8 => ?_) (fun c_8 => ?_)
    · have c_8 : 0 = 0 := (nI_eq (a := 0) (b := 0) (by omega) (by omega)).mp c_8
      refine lv_iconst (v := nI 0) hx hb dX5_pair_22 (by decide) ?_
      refine lv_goto (tgt := 45) hx hb dX5_pair_23 (by decide) ?_
      exact x_iret hx hb hr hlocks hK hA hX hS dX5_pair_45 (⟨Or.inr ⟨fun q => ep q.1, rfl⟩, ⟨hm500, hm501, hm502, hm503, hm504, hm505, hm506, hm507, hm508, hm509, hm510, hm511, hm512, hm513, hm514, hm515, hm516⟩, fun t ht => by rw [hM_1, xu_n (by omega)]⟩)
    · have c_8 : ¬ (0 = 0) := fun q => c_8 ((nI_eq (a := 0) (b := 0) (by omega) (by omega)).mpr q)
      exact absurd c_8 (by omega)

abbrev rmX5_index : Room := { frames := 1, cells := 0, slots := 0, locals := 21 }
set_option maxHeartbeats 4000000 in
set_option maxRecDepth 100000 in
/-- index -/
theorem ctX5_index (l : Launch) (G : xG) (A : Nat → Prop) (M : xM) {ad : Nat → Nat} {th : Int32} {nc : Nat} {mS : Nat → Int32} {mT : Nat → Int32} {mK : Nat → Int32} {mC : Nat → Nat} {mD : Nat → Int32} {mF : Nat → Int64} {mO : Nat → Int64} {mP : Nat → Nat} {wn : Nat → Nat} {rn : Int32} {pn : Nat} {o1 : Nat → Nat} {o2 : Nat → Nat} {u1 : Nat → Nat} {d1 : Nat → Nat} {jc : Nat} {jA : Nat → Nat} {jB : Nat → Nat} {mx : Nat → Nat} {up : Int64} {dn : Int64} (hR : xMod G M ad th nc mS mT mK mC mD mF mO mP wn rn pn o1 o2 u1 d1 jc jA jB mx up dn) (p0 p1 : Int32) (hpn : pn ≤ 625) : Met l yX5_index wsX5_index rmX5_index (va_Pc ([.ref (ad 500), .int p0, .int p1] : List Value) (xPc G A M)) (va_Qi (fun r M1 => ((∃ i, i < pn ∧ p0 = nI i ∧ (r = if p1 = nI 1 then nI (o2 i) else nI (o1 i)) ∧ xMod G M1 ad (nI 0) nc mS mT mK mC mD mF mO mP wn rn pn o1 o2 u1 d1 jc jA jB mx up dn) ∨ (¬ (¬ p0 < 0 ∧ ¬ nI pn ≤ p0) ∧ xMod G M1 ad (nI 1) nc mS mT mK mC mD mF mO mP wn rn pn o1 o2 u1 d1 jc jA jB mx up dn)) ∧ (∀ t, t < 500 ∨ 516 < t → M1 t = M t)) (xPc G A) A) 0 0 A := by
  refine x_met (cc := cX5_index) (maxL := 3) (ret := (some .int)) RX5 (by decide) rfl (Nat.le_of_ble_eq_true rfl) rfl ?_
  intro p e s m below meth c hx hb hr hts hown hlocks hml hin hK hA hX ls hl
  have inX5 : ∀ w ∈ wsX50, w ∈ wsX5_index := by decide +kernel
  have lk_fieldLink_62 := hts (.fieldLink RX5 62 "ReconcileModel" "thrown" "I") (by decide +kernel)
  have lk_fieldLink_41 := hts (.fieldLink RX5 41 "ReconcileModel" "ones" "[I") (by decide +kernel)
  have lk_fieldLink_44 := hts (.fieldLink RX5 44 "ReconcileModel" "twos" "[I") (by decide +kernel)
  have hS : va_S A s.heap s.heap [] := va_S.rf
  have hl : lv_has ls 3 [(0, .ref (ad 500)), (1, .int p0), (2, .int p1)] := hl
  obtain ⟨hm500, hm501, hm502, hm503, hm504, hm505, hm506, hm507, hm508, hm509, hm510, hm511, hm512, hm513, hm514, hm515, hm516⟩ := id hR
  refine lv_aload_n hx hb dX5_index_0 rfl (lv_at hl 0 rfl) ?_
  refine lv_iconst (v := nI 0) hx hb dX5_index_1 (by decide) ?_
  refine x_put (ci := 7) (v := .int (nI 0)) (C := RX5) (T := TX5) (N := 23) hx hb hts inX5 tyX5 tyX5_ok nmX5 hown hK hX hS hm500 rfl 0 (by decide) lk_fieldLink_62 (fun _ h9 => h9) rfl (tyX5_ok 0 (by decide)) rfl rfl (Nat.le_of_ble_eq_true rfl) dX5_index_2 (fun H locs hX hS => ?_)
  obtain ⟨M_1, hM_1⟩ : ∃ zM : xM, zM = xu M 500 (ad 500, .inr (7, [.int (nI 0), .int (nI nc), .ref (ad 501), .ref (ad 502), .ref (ad 503), .ref (ad 504), .ref (ad 505), .ref (ad 506), .ref (ad 507), .ref (ad 508), .ref (ad 509), .int rn, .int (nI pn), .ref (ad 510), .ref (ad 511), .ref (ad 512), .ref (ad 513), .int (nI jc), .ref (ad 514), .ref (ad 515), .ref (ad 516), .long up, .long dn])) := ⟨_, rfl⟩
  have hX : xw G.1 vwCl A M_1 H := by rw [hM_1]; exact hX
  have hm501 : M_1 501 = some (ad 501, .inl (G.2 0, 51, .inl mS)) := by rw [hM_1, xu_n (by omega)]; exact hm501
  have hm502 : M_1 502 = some (ad 502, .inl (G.2 0, 408, .inl mT)) := by rw [hM_1, xu_n (by omega)]; exact hm502
  have hm503 : M_1 503 = some (ad 503, .inl (G.2 0, 408, .inl mK)) := by rw [hM_1, xu_n (by omega)]; exact hm503
  have hm504 : M_1 504 = some (ad 504, .inl (G.2 0, 51, .inl (fun k => nI (mC k)))) := by rw [hM_1, xu_n (by omega)]; exact hm504
  have hm505 : M_1 505 = some (ad 505, .inl (G.2 2, 51, .inl mD)) := by rw [hM_1, xu_n (by omega)]; exact hm505
  have hm506 : M_1 506 = some (ad 506, .inl (G.2 1, 51, .inr (.inl mF))) := by rw [hM_1, xu_n (by omega)]; exact hm506
  have hm507 : M_1 507 = some (ad 507, .inl (G.2 1, 51, .inr (.inl mO))) := by rw [hM_1, xu_n (by omega)]; exact hm507
  have hm508 : M_1 508 = some (ad 508, .inl (G.2 0, 51, .inl (fun k => nI (mP k)))) := by rw [hM_1, xu_n (by omega)]; exact hm508
  have hm509 : M_1 509 = some (ad 509, .inl (G.2 1, 4, .inr (.inl (fun k => lN (wn k))))) := by rw [hM_1, xu_n (by omega)]; exact hm509
  have hm510 : M_1 510 = some (ad 510, .inl (G.2 0, 700, .inl (fun k => nI (o1 k)))) := by rw [hM_1, xu_n (by omega)]; exact hm510
  have hm511 : M_1 511 = some (ad 511, .inl (G.2 0, 700, .inl (fun k => nI (o2 k)))) := by rw [hM_1, xu_n (by omega)]; exact hm511
  have hm512 : M_1 512 = some (ad 512, .inl (G.2 1, 700, .inr (.inl (fun k => lN (u1 k))))) := by rw [hM_1, xu_n (by omega)]; exact hm512
  have hm513 : M_1 513 = some (ad 513, .inl (G.2 1, 700, .inr (.inl (fun k => lN (d1 k))))) := by rw [hM_1, xu_n (by omega)]; exact hm513
  have hm514 : M_1 514 = some (ad 514, .inl (G.2 0, 101, .inl (fun k => nI (jA k)))) := by rw [hM_1, xu_n (by omega)]; exact hm514
  have hm515 : M_1 515 = some (ad 515, .inl (G.2 0, 101, .inl (fun k => nI (jB k)))) := by rw [hM_1, xu_n (by omega)]; exact hm515
  have hm516 : M_1 516 = some (ad 516, .inl (G.2 0, 700, .inl (fun k => nI (mx k)))) := by rw [hM_1, xu_n (by omega)]; exact hm516
  have hm500 : M_1 500 = some (ad 500, .inr (7, [.int (nI 0), .int (nI nc), .ref (ad 501), .ref (ad 502), .ref (ad 503), .ref (ad 504), .ref (ad 505), .ref (ad 506), .ref (ad 507), .ref (ad 508), .ref (ad 509), .int rn, .int (nI pn), .ref (ad 510), .ref (ad 511), .ref (ad 512), .ref (ad 513), .int (nI jc), .ref (ad 514), .ref (ad 515), .ref (ad 516), .long up, .long dn])) := by rw [hM_1]; exact xu_s
  refine lv_aload_n hx hb dX5_index_5 rfl (lv_at hl 0 rfl) ?_
  refine lv_iload_n hx hb dX5_index_6 rfl (lv_at hl 1 rfl) ?_
  refine x_calli (x_runV (q := (RX5, TX5, 23)) (As := [.int p0]) (rest := []) ⟨hx, hb, hml, hown, hts⟩ (ctX5_isPair l G A M_1 ⟨hm500, hm501, hm502, hm503, hm504, hm505, hm506, hm507, hm508, hm509, hm510, hm511, hm512, hm513, hm514, hm515, hm516⟩ p0 hpn) (cwV 1 hts gX5_index_X5_isPair rfl rfl rfl (by decide +kernel) ⟨Nat.le_of_ble_eq_true rfl, Nat.le_of_ble_eq_true rfl⟩) hK hA hX hS hm500 rfl rfl hl.1 rfl (lv_room (Nat.le_of_ble_eq_true rfl)) dX5_index_7 ⟨by decide, by decide⟩) hS (fun r_2 M_3 H locs hp hX hS => ?_)
  obtain ⟨hM_, hq_r_2⟩ := hp
  rw [hM_] at hX
  rcases hq_r_2 with ⟨i, hi, ep, er⟩ | ⟨ep, er⟩
  · rw [er]
    subst ep
    refine lv_if_ne (tgt := 20) hx hb dX5_index_10 (by decide) (fun c_4 => ?_) (fun c_4 => ?_)
    · have c_4 : ¬ (1 = 0) := fun q => c_4 ((nI_eq (a := 1) (b := 0) (by omega) (by omega)).mpr q)
      refine lv_iload_n hx hb dX5_index_20 rfl (lv_at hl 2 rfl) ?_
      refine lv_iconst (v := nI 1) hx hb dX5_index_21 (by decide) ?_
      refine lv_icmp_ne (tgt := 34) hx hb dX5_index_22 (by decide) (fun c_5 => ?_) (fun c_5 => ?_)
      · refine lv_aload_n hx hb dX5_index_34 rfl (lv_at hl 0 rfl) ?_
        refine x_get (ci := 7) (v := .ref (ad 510)) (C := RX5) (T := TX5) (N := 23) hx hb hts inX5 hown hK hX hm500 rfl 13 (by decide) lk_fieldLink_41 (fun _ h9 => h9) rfl dX5_index_35 ?_
        refine lv_iload_n hx hb dX5_index_38 rfl (lv_at hl 1 rfl) ?_
        refine x_iN hx hb hK hX hm510 (by omega) (by decide) dX5_index_39 ?_
        exact x_iret hx hb hr hlocks hK hA hX hS dX5_index_40 (⟨Or.inl ⟨i, hi, rfl, by rw [if_neg c_5], ⟨hm500, hm501, hm502, hm503, hm504, hm505, hm506, hm507, hm508, hm509, hm510, hm511, hm512, hm513, hm514, hm515, hm516⟩⟩, fun t ht => by rw [hM_1, xu_n (by omega)]⟩)
      · refine lv_aload_n hx hb dX5_index_25 rfl (lv_at hl 0 rfl) ?_
        refine x_get (ci := 7) (v := .ref (ad 511)) (C := RX5) (T := TX5) (N := 23) hx hb hts inX5 hown hK hX hm500 rfl 14 (by decide) lk_fieldLink_44 (fun _ h9 => h9) rfl dX5_index_26 ?_
        refine lv_iload_n hx hb dX5_index_29 rfl (lv_at hl 1 rfl) ?_
        refine x_iN hx hb hK hX hm511 (by omega) (by decide) dX5_index_30 ?_
        refine lv_goto (tgt := 40) hx hb dX5_index_31 (by decide) ?_
        exact x_iret hx hb hr hlocks hK hA hX hS dX5_index_40 (⟨Or.inl ⟨i, hi, rfl, by rw [if_pos c_5], ⟨hm500, hm501, hm502, hm503, hm504, hm505, hm506, hm507, hm508, hm509, hm510, hm511, hm512, hm513, hm514, hm515, hm516⟩⟩, fun t ht => by rw [hM_1, xu_n (by omega)]⟩)
    · have c_4 : 1 = 0 := (nI_eq (a := 1) (b := 0) (by omega) (by omega)).mp c_4
      exact absurd c_4 (by omega)
  · rw [er]
    refine lv_if_ne (tgt := 20) hx hb dX5_index_10 (by decide) (fun c_6 => ?_) (fun c_6 => ?_)
    · have c_6 : ¬ (0 = 0) := fun q => c_6 ((nI_eq (a := 0) (b := 0) (by omega) (by omega)).mpr q)
      exact absurd c_6 (by omega)
    · have c_6 : 0 = 0 := (nI_eq (a := 0) (b := 0) (by omega) (by omega)).mp c_6
      refine lv_aload_n hx hb dX5_index_13 rfl (lv_at hl 0 rfl) ?_
      refine lv_iconst (v := nI 1) hx hb dX5_index_14 (by decide) ?_
      refine x_put (ci := 7) (v := .int (nI 1)) (C := RX5) (T := TX5) (N := 23) hx hb hts inX5 tyX5 tyX5_ok nmX5 hown hK hX hS hm500 rfl 0 (by decide) lk_fieldLink_62 (fun _ h9 => h9) rfl (tyX5_ok 0 (by decide)) rfl rfl (Nat.le_of_ble_eq_true rfl) dX5_index_15 (fun H locs hX hS => ?_)
      obtain ⟨M_7, hM_7⟩ : ∃ zM : xM, zM = xu M_1 500 (ad 500, .inr (7, [.int (nI 1), .int (nI nc), .ref (ad 501), .ref (ad 502), .ref (ad 503), .ref (ad 504), .ref (ad 505), .ref (ad 506), .ref (ad 507), .ref (ad 508), .ref (ad 509), .int rn, .int (nI pn), .ref (ad 510), .ref (ad 511), .ref (ad 512), .ref (ad 513), .int (nI jc), .ref (ad 514), .ref (ad 515), .ref (ad 516), .long up, .long dn])) := ⟨_, rfl⟩
      have hX : xw G.1 vwCl A M_7 H := by rw [hM_7]; exact hX
      have hm501 : M_7 501 = some (ad 501, .inl (G.2 0, 51, .inl mS)) := by rw [hM_7, xu_n (by omega)]; exact hm501
      have hm502 : M_7 502 = some (ad 502, .inl (G.2 0, 408, .inl mT)) := by rw [hM_7, xu_n (by omega)]; exact hm502
      have hm503 : M_7 503 = some (ad 503, .inl (G.2 0, 408, .inl mK)) := by rw [hM_7, xu_n (by omega)]; exact hm503
      have hm504 : M_7 504 = some (ad 504, .inl (G.2 0, 51, .inl (fun k => nI (mC k)))) := by rw [hM_7, xu_n (by omega)]; exact hm504
      have hm505 : M_7 505 = some (ad 505, .inl (G.2 2, 51, .inl mD)) := by rw [hM_7, xu_n (by omega)]; exact hm505
      have hm506 : M_7 506 = some (ad 506, .inl (G.2 1, 51, .inr (.inl mF))) := by rw [hM_7, xu_n (by omega)]; exact hm506
      have hm507 : M_7 507 = some (ad 507, .inl (G.2 1, 51, .inr (.inl mO))) := by rw [hM_7, xu_n (by omega)]; exact hm507
      have hm508 : M_7 508 = some (ad 508, .inl (G.2 0, 51, .inl (fun k => nI (mP k)))) := by rw [hM_7, xu_n (by omega)]; exact hm508
      have hm509 : M_7 509 = some (ad 509, .inl (G.2 1, 4, .inr (.inl (fun k => lN (wn k))))) := by rw [hM_7, xu_n (by omega)]; exact hm509
      have hm510 : M_7 510 = some (ad 510, .inl (G.2 0, 700, .inl (fun k => nI (o1 k)))) := by rw [hM_7, xu_n (by omega)]; exact hm510
      have hm511 : M_7 511 = some (ad 511, .inl (G.2 0, 700, .inl (fun k => nI (o2 k)))) := by rw [hM_7, xu_n (by omega)]; exact hm511
      have hm512 : M_7 512 = some (ad 512, .inl (G.2 1, 700, .inr (.inl (fun k => lN (u1 k))))) := by rw [hM_7, xu_n (by omega)]; exact hm512
      have hm513 : M_7 513 = some (ad 513, .inl (G.2 1, 700, .inr (.inl (fun k => lN (d1 k))))) := by rw [hM_7, xu_n (by omega)]; exact hm513
      have hm514 : M_7 514 = some (ad 514, .inl (G.2 0, 101, .inl (fun k => nI (jA k)))) := by rw [hM_7, xu_n (by omega)]; exact hm514
      have hm515 : M_7 515 = some (ad 515, .inl (G.2 0, 101, .inl (fun k => nI (jB k)))) := by rw [hM_7, xu_n (by omega)]; exact hm515
      have hm516 : M_7 516 = some (ad 516, .inl (G.2 0, 700, .inl (fun k => nI (mx k)))) := by rw [hM_7, xu_n (by omega)]; exact hm516
      have hm500 : M_7 500 = some (ad 500, .inr (7, [.int (nI 1), .int (nI nc), .ref (ad 501), .ref (ad 502), .ref (ad 503), .ref (ad 504), .ref (ad 505), .ref (ad 506), .ref (ad 507), .ref (ad 508), .ref (ad 509), .int rn, .int (nI pn), .ref (ad 510), .ref (ad 511), .ref (ad 512), .ref (ad 513), .int (nI jc), .ref (ad 514), .ref (ad 515), .ref (ad 516), .long up, .long dn])) := by rw [hM_7]; exact xu_s
      refine lv_iconst (v := nI 0) hx hb dX5_index_18 (by decide) ?_
      exact x_iret hx hb hr hlocks hK hA hX hS dX5_index_19 (⟨Or.inr ⟨ep, ⟨hm500, hm501, hm502, hm503, hm504, hm505, hm506, hm507, hm508, hm509, hm510, hm511, hm512, hm513, hm514, hm515, hm516⟩⟩, fun t ht => by rw [hM_7, xu_n (by omega), hM_1, xu_n (by omega)]⟩)
