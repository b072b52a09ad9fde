/-! the constructor of the reference -/
def wn0 : Nat → Nat := va_up (va_up (va_up (va_up (fun _ => 0) 0 2520) 1 2520) 2 2520) 3 2520

abbrev rmX5_init : Room := { frames := 1, cells := 16, slots := 4842, locals := 12 }
set_option maxHeartbeats 4000000 in
set_option maxRecDepth 100000 in
/-- ReconcileModel() -/
theorem ctX5_init (l : Launch) (G : xG) (A : Nat → Prop) (M : xM) {a : Nat} (hm500 : M 500 = some (a, .inr (7, [.int (nI 0), .int (nI 0), .null, .null, .null, .null, .null, .null, .null, .null, .null, .int (nI 0), .int (nI 0), .null, .null, .null, .null, .int (nI 0), .null, .null, .null, .long (lN 0), .long (lN 0)]))) : Met l yX5_init wsX5_init rmX5_init (va_Pc ([.ref a] : List Value) (xPc G A M)) (va_Qv (fun M1 => ∃ ad : Nat → Nat, ad 500 = a ∧ xMod G M1 ad (nI 0) 0 (fun _ => 0) (fun _ => 0) (fun _ => 0) (fun _ => 0) (fun _ => 0) (fun _ => 0) (fun _ => 0) (fun _ => 0) wn0 (nI 0) 0 (fun _ => 0) (fun _ => 0) (fun _ => 0) (fun _ => 0) 0 (fun _ => 0) (fun _ => 0) (fun _ => 0) (lN 0) (lN 0) ∧ (∀ t, t < 500 ∨ 516 < t → M1 t = M t)) (xPc G A) A) 16 4842 A := by
  refine x_met (cc := cX5_init) (maxL := 1) (ret := none) RX5 (by decide) rfl (Nat.le_of_ble_eq_true rfl) rfl ?_
  intro p e s m below meth c hx hb hr hts hown hlocks hml hin hK hA hX ls hl
  have inX5 : ∀ w ∈ wsX50, w ∈ wsX5_init := by decide +kernel
  have lk_methodLink_1 := hts (.methodLink RX5 1 objectInit) (by decide +kernel)
  have lk_fieldLink_7 := hts (.fieldLink RX5 7 "ReconcileModel" "sides" "[I") (by decide +kernel)
  have lk_fieldLink_13 := hts (.fieldLink RX5 13 "ReconcileModel" "tokens" "[I") (by decide +kernel)
  have lk_fieldLink_16 := hts (.fieldLink RX5 16 "ReconcileModel" "tokenKinds" "[I") (by decide +kernel)
  have lk_fieldLink_19 := hts (.fieldLink RX5 19 "ReconcileModel" "counts" "[I") (by decide +kernel)
  have lk_fieldLink_22 := hts (.fieldLink RX5 22 "ReconcileModel" "dated" "[Z") (by decide +kernel)
  have lk_fieldLink_26 := hts (.fieldLink RX5 26 "ReconcileModel" "froms" "[J") (by decide +kernel)
  have lk_fieldLink_30 := hts (.fieldLink RX5 30 "ReconcileModel" "tos" "[J") (by decide +kernel)
  have lk_fieldLink_33 := hts (.fieldLink RX5 33 "ReconcileModel" "partners" "[I") (by decide +kernel)
  have lk_constantLong_36 := hts (.constantLong RX5 36 (2520)) (by decide +kernel)
  have lk_fieldLink_38 := hts (.fieldLink RX5 38 "ReconcileModel" "weights" "[J") (by decide +kernel)
  have lk_fieldLink_41 := hts (.fieldLink RX5 41 "ReconcileModel" "ones" "[I") (by decide +kernel)
  have lk_fieldLink_44 := hts (.fieldLink RX5 44 "ReconcileModel" "twos" "[I") (by decide +kernel)
  have lk_fieldLink_47 := hts (.fieldLink RX5 47 "ReconcileModel" "ups" "[J") (by decide +kernel)
  have lk_fieldLink_50 := hts (.fieldLink RX5 50 "ReconcileModel" "downs" "[J") (by decide +kernel)
  have lk_fieldLink_53 := hts (.fieldLink RX5 53 "ReconcileModel" "joinA" "[I") (by decide +kernel)
  have lk_fieldLink_56 := hts (.fieldLink RX5 56 "ReconcileModel" "joinB" "[I") (by decide +kernel)
  have lk_fieldLink_59 := hts (.fieldLink RX5 59 "ReconcileModel" "mixed" "[I") (by decide +kernel)
  have hS : va_S A s.heap s.heap [] := va_S.rf
  have hl : lv_has ls 1 [(0, .ref a)] := hl
  refine lv_aload_n hx hb dX5_init_0 rfl (lv_at hl 0 rfl) ?_
  refine W.objInit hx hb hown lk_methodLink_1 (hts (.instanceMethod objectInit) (by decide +kernel)) (hts (.code objectInit ⟨#[0xb1]⟩ 1 none) (List.mem_of_getElem? (i := 3) rfl)) rfl (by rw [hml]; exact hl.1) rfl dX5_init_1 (Nat.le_of_ble_eq_true rfl) (Nat.le_of_ble_eq_true rfl) ?_
  refine W.eq (g2 := F0 m 4 ls []) rfl ?_
  refine lv_aload_n hx hb dX5_init_4 rfl (lv_at hl 0 rfl) ?_
  refine lv_bipush (v := nI 51) hx hb dX5_init_5 (by decide) ?_
  refine x_newa (atype := .int) (ty := .int) (k := 0) (N' := 51) (a0 := (51, .inl (fun _ => 0))) hx hb (hts (.arrayClass .int) (by decide +kernel)) rfl (fun _ h => by cases h) hK hX hS hA rfl (fun _ => rfl) rfl (by omega) (Nat.le_of_ble_eq_true rfl) (Nat.le_of_ble_eq_true rfl) (Nat.le_of_ble_eq_true rfl) dX5_init_7 (501) (fun q_1 H hX hS => ?_)
  obtain ⟨M_2, hM_2⟩ : ∃ zM : xM, zM = xu M 501 (q_1, .inl (G.2 0, 51, .inl (fun _ => 0))) := ⟨_, rfl⟩
  have hX : xw G.1 vwCl A M_2 H := by rw [hM_2]; exact hX
  have hm500 : M_2 500 = some (a, .inr (7, [.int (nI 0), .int (nI 0), .null, .null, .null, .null, .null, .null, .null, .null, .null, .int (nI 0), .int (nI 0), .null, .null, .null, .null, .int (nI 0), .null, .null, .null, .long (lN 0), .long (lN 0)])) := by rw [hM_2, xu_n (by omega)]; exact hm500
  have hm501 : M_2 501 = some (q_1, .inl (G.2 0, 51, .inl (fun _ => 0))) := by rw [hM_2]; exact xu_s
  refine x_putF (ci := 7) (v := .ref q_1) (C := RX5) (T := TX5) (N := 23) hx hb hts inX5 tyX5 tyX5_ok nmX5 hown hK hX hS hm500 rfl 2 (by decide) lk_fieldLink_7 (fun _ h9 => h9) rfl hin rfl (tyX5_ok 2 (by decide)) rfl rfl (Nat.le_of_ble_eq_true rfl) dX5_init_9 (fun H locs hX hS => ?_)
  obtain ⟨M_3, hM_3⟩ : ∃ zM : xM, zM = xu M_2 500 (a, .inr (7, [.int (nI 0), .int (nI 0), .ref q_1, .null, .null, .null, .null, .null, .null, .null, .null, .int (nI 0), .int (nI 0), .null, .null, .null, .null, .int (nI 0), .null, .null, .null, .long (lN 0), .long (lN 0)])) := ⟨_, rfl⟩
  have hX : xw G.1 vwCl A M_3 H := by rw [hM_3]; exact hX
  have hm501 : M_3 501 = some (q_1, .inl (G.2 0, 51, .inl (fun _ => 0))) := by rw [hM_3, xu_n (by omega)]; exact hm501
  have hm500 : M_3 500 = some (a, .inr (7, [.int (nI 0), .int (nI 0), .ref q_1, .null, .null, .null, .null, .null, .null, .null, .null, .int (nI 0), .int (nI 0), .null, .null, .null, .null, .int (nI 0), .null, .null, .null, .long (lN 0), .long (lN 0)])) := by rw [hM_3]; exact xu_s
  refine lv_aload_n hx hb dX5_init_12 rfl (lv_at hl 0 rfl) ?_
  refine lv_sipush (v := nI 408) hx hb dX5_init_13 (by decide) ?_
  refine x_newa (atype := .int) (ty := .int) (k := 0) (N' := 408) (a0 := (408, .inl (fun _ => 0))) hx hb (hts (.arrayClass .int) (by decide +kernel)) rfl (fun _ h => by cases h) hK hX hS hA rfl (fun _ => rfl) rfl (by omega) (Nat.le_of_ble_eq_true rfl) (Nat.le_of_ble_eq_true rfl) (Nat.le_of_ble_eq_true rfl) dX5_init_16 (502) (fun q_4 H hX hS => ?_)
  obtain ⟨M_5, hM_5⟩ : ∃ zM : xM, zM = xu M_3 502 (q_4, .inl (G.2 0, 408, .inl (fun _ => 0))) := ⟨_, rfl⟩
  have hX : xw G.1 vwCl A M_5 H := by rw [hM_5]; exact hX
  have hm500 : M_5 500 = some (a, .inr (7, [.int (nI 0), .int (nI 0), .ref q_1, .null, .null, .null, .null, .null, .null, .null, .null, .int (nI 0), .int (nI 0), .null, .null, .null, .null, .int (nI 0), .null, .null, .null, .long (lN 0), .long (lN 0)])) := by rw [hM_5, xu_n (by omega)]; exact hm500
  have hm501 : M_5 501 = some (q_1, .inl (G.2 0, 51, .inl (fun _ => 0))) := by rw [hM_5, xu_n (by omega)]; exact hm501
  have hm502 : M_5 502 = some (q_4, .inl (G.2 0, 408, .inl (fun _ => 0))) := by rw [hM_5]; exact xu_s
  refine x_putF (ci := 7) (v := .ref q_4) (C := RX5) (T := TX5) (N := 23) hx hb hts inX5 tyX5 tyX5_ok nmX5 hown hK hX hS hm500 rfl 3 (by decide) lk_fieldLink_13 (fun _ h9 => h9) rfl hin rfl (tyX5_ok 3 (by decide)) rfl rfl (Nat.le_of_ble_eq_true rfl) dX5_init_18 (fun H locs hX hS => ?_)
  obtain ⟨M_6, hM_6⟩ : ∃ zM : xM, zM = xu M_5 500 (a, .inr (7, [.int (nI 0), .int (nI 0), .ref q_1, .ref q_4, .null, .null, .null, .null, .null, .null, .null, .int (nI 0), .int (nI 0), .null, .null, .null, .null, .int (nI 0), .null, .null, .null, .long (lN 0), .long (lN 0)])) := ⟨_, rfl⟩
  have hX : xw G.1 vwCl A M_6 H := by rw [hM_6]; exact hX
  have hm501 : M_6 501 = some (q_1, .inl (G.2 0, 51, .inl (fun _ => 0))) := by rw [hM_6, xu_n (by omega)]; exact hm501
  have hm502 : M_6 502 = some (q_4, .inl (G.2 0, 408, .inl (fun _ => 0))) := by rw [hM_6, xu_n (by omega)]; exact hm502
  have hm500 : M_6 500 = some (a, .inr (7, [.int (nI 0), .int (nI 0), .ref q_1, .ref q_4, .null, .null, .null, .null, .null, .null, .null, .int (nI 0), .int (nI 0), .null, .null, .null, .null, .int (nI 0), .null, .null, .null, .long (lN 0), .long (lN 0)])) := by rw [hM_6]; exact xu_s
  refine lv_aload_n hx hb dX5_init_21 rfl (lv_at hl 0 rfl) ?_
  refine lv_sipush (v := nI 408) hx hb dX5_init_22 (by decide) ?_
  refine x_newa (atype := .int) (ty := .int) (k := 0) (N' := 408) (a0 := (408, .inl (fun _ => 0))) hx hb (hts (.arrayClass .int) (by decide +kernel)) rfl (fun _ h => by cases h) hK hX hS hA rfl (fun _ => rfl) rfl (by omega) (Nat.le_of_ble_eq_true rfl) (Nat.le_of_ble_eq_true rfl) (Nat.le_of_ble_eq_true rfl) dX5_init_25 (503) (fun q_7 H hX hS => ?_)
  obtain ⟨M_8, hM_8⟩ : ∃ zM : xM, zM = xu M_6 503 (q_7, .inl (G.2 0, 408, .inl (fun _ => 0))) := ⟨_, rfl⟩
  have hX : xw G.1 vwCl A M_8 H := by rw [hM_8]; exact hX
  have hm500 : M_8 500 = some (a, .inr (7, [.int (nI 0), .int (nI 0), .ref q_1, .ref q_4, .null, .null, .null, .null, .null, .null, .null, .int (nI 0), .int (nI 0), .null, .null, .null, .null, .int (nI 0), .null, .null, .null, .long (lN 0), .long (lN 0)])) := by rw [hM_8, xu_n (by omega)]; exact hm500
  have hm501 : M_8 501 = some (q_1, .inl (G.2 0, 51, .inl (fun _ => 0))) := by rw [hM_8, xu_n (by omega)]; exact hm501
  have hm502 : M_8 502 = some (q_4, .inl (G.2 0, 408, .inl (fun _ => 0))) := by rw [hM_8, xu_n (by omega)]; exact hm502
  have hm503 : M_8 503 = some (q_7, .inl (G.2 0, 408, .inl (fun _ => 0))) := by rw [hM_8]; exact xu_s
  refine x_putF (ci := 7) (v := .ref q_7) (C := RX5) (T := TX5) (N := 23) hx hb hts inX5 tyX5 tyX5_ok nmX5 hown hK hX hS hm500 rfl 4 (by decide) lk_fieldLink_16 (fun _ h9 => h9) rfl hin rfl (tyX5_ok 4 (by decide)) rfl rfl (Nat.le_of_ble_eq_true rfl) dX5_init_27 (fun H locs hX hS => ?_)
  obtain ⟨M_9, hM_9⟩ : ∃ zM : xM, zM = xu M_8 500 (a, .inr (7, [.int (nI 0), .int (nI 0), .ref q_1, .ref q_4, .ref q_7, .null, .null, .null, .null, .null, .null, .int (nI 0), .int (nI 0), .null, .null, .null, .null, .int (nI 0), .null, .null, .null, .long (lN 0), .long (lN 0)])) := ⟨_, rfl⟩
  have hX : xw G.1 vwCl A M_9 H := by rw [hM_9]; exact hX
  have hm501 : M_9 501 = some (q_1, .inl (G.2 0, 51, .inl (fun _ => 0))) := by rw [hM_9, xu_n (by omega)]; exact hm501
  have hm502 : M_9 502 = some (q_4, .inl (G.2 0, 408, .inl (fun _ => 0))) := by rw [hM_9, xu_n (by omega)]; exact hm502
  have hm503 : M_9 503 = some (q_7, .inl (G.2 0, 408, .inl (fun _ => 0))) := by rw [hM_9, xu_n (by omega)]; exact hm503
  have hm500 : M_9 500 = some (a, .inr (7, [.int (nI 0), .int (nI 0), .ref q_1, .ref q_4, .ref q_7, .null, .null, .null, .null, .null, .null, .int (nI 0), .int (nI 0), .null, .null, .null, .null, .int (nI 0), .null, .null, .null, .long (lN 0), .long (lN 0)])) := by rw [hM_9]; exact xu_s
  refine lv_aload_n hx hb dX5_init_30 rfl (lv_at hl 0 rfl) ?_
  refine lv_bipush (v := nI 51) hx hb dX5_init_31 (by decide) ?_
  refine x_newa (atype := .int) (ty := .int) (k := 0) (N' := 51) (a0 := (51, .inl (fun k => nI ((fun _ => 0) k)))) hx hb (hts (.arrayClass .int) (by decide +kernel)) rfl (fun _ h => by cases h) hK hX hS hA rfl (fun _ => rfl) rfl (by omega) (Nat.le_of_ble_eq_true rfl) (Nat.le_of_ble_eq_true rfl) (Nat.le_of_ble_eq_true rfl) dX5_init_33 (504) (fun q_10 H hX hS => ?_)
  obtain ⟨M_11, hM_11⟩ : ∃ zM : xM, zM = xu M_9 504 (q_10, .inl (G.2 0, 51, .inl (fun k => nI ((fun _ => 0) k)))) := ⟨_, rfl⟩
  have hX : xw G.1 vwCl A M_11 H := by rw [hM_11]; exact hX
  have hm500 : M_11 500 = some (a, .inr (7, [.int (nI 0), .int (nI 0), .ref q_1, .ref q_4, .ref q_7, .null, .null, .null, .null, .null, .null, .int (nI 0), .int (nI 0), .null, .null, .null, .null, .int (nI 0), .null, .null, .null, .long (lN 0), .long (lN 0)])) := by rw [hM_11, xu_n (by omega)]; exact hm500
  have hm501 : M_11 501 = some (q_1, .inl (G.2 0, 51, .inl (fun _ => 0))) := by rw [hM_11, xu_n (by omega)]; exact hm501
  have hm502 : M_11 502 = some (q_4, .inl (G.2 0, 408, .inl (fun _ => 0))) := by rw [hM_11, xu_n (by omega)]; exact hm502
  have hm503 : M_11 503 = some (q_7, .inl (G.2 0, 408, .inl (fun _ => 0))) := by rw [hM_11, xu_n (by omega)]; exact hm503
  have hm504 : M_11 504 = some (q_10, .inl (G.2 0, 51, .inl (fun k => nI ((fun _ => 0) k)))) := by rw [hM_11]; exact xu_s
  refine x_putF (ci := 7) (v := .ref q_10) (C := RX5) (T := TX5) (N := 23) hx hb hts inX5 tyX5 tyX5_ok nmX5 hown hK hX hS hm500 rfl 5 (by decide) lk_fieldLink_19 (fun _ h9 => h9) rfl hin rfl (tyX5_ok 5 (by decide)) rfl rfl (Nat.le_of_ble_eq_true rfl) dX5_init_35 (fun H locs hX hS => ?_)
  obtain ⟨M_12, hM_12⟩ : ∃ zM : xM, zM = xu M_11 500 (a, .inr (7, [.int (nI 0), .int (nI 0), .ref q_1, .ref q_4, .ref q_7, .ref q_10, .null, .null, .null, .null, .null, .int (nI 0), .int (nI 0), .null, .null, .null, .null, .int (nI 0), .null, .null, .null, .long (lN 0), .long (lN 0)])) := ⟨_, rfl⟩
  have hX : xw G.1 vwCl A M_12 H := by rw [hM_12]; exact hX
  have hm501 : M_12 501 = some (q_1, .inl (G.2 0, 51, .inl (fun _ => 0))) := by rw [hM_12, xu_n (by omega)]; exact hm501
  have hm502 : M_12 502 = some (q_4, .inl (G.2 0, 408, .inl (fun _ => 0))) := by rw [hM_12, xu_n (by omega)]; exact hm502
  have hm503 : M_12 503 = some (q_7, .inl (G.2 0, 408, .inl (fun _ => 0))) := by rw [hM_12, xu_n (by omega)]; exact hm503
  have hm504 : M_12 504 = some (q_10, .inl (G.2 0, 51, .inl (fun k => nI ((fun _ => 0) k)))) := by rw [hM_12, xu_n (by omega)]; exact hm504
  have hm500 : M_12 500 = some (a, .inr (7, [.int (nI 0), .int (nI 0), .ref q_1, .ref q_4, .ref q_7, .ref q_10, .null, .null, .null, .null, .null, .int (nI 0), .int (nI 0), .null, .null, .null, .null, .int (nI 0), .null, .null, .null, .long (lN 0), .long (lN 0)])) := by rw [hM_12]; exact xu_s
  refine lv_aload_n hx hb dX5_init_38 rfl (lv_at hl 0 rfl) ?_
  refine lv_bipush (v := nI 51) hx hb dX5_init_39 (by decide) ?_
  refine x_newa (atype := .boolean) (ty := .boolean) (k := 2) (N' := 51) (a0 := (51, .inl (fun _ => 0))) hx hb (hts (.arrayClass .boolean) (by decide +kernel)) rfl (fun _ h => by cases h) hK hX hS hA rfl (fun _ => rfl) rfl (by omega) (Nat.le_of_ble_eq_true rfl) (Nat.le_of_ble_eq_true rfl) (Nat.le_of_ble_eq_true rfl) dX5_init_41 (505) (fun q_13 H hX hS => ?_)
  obtain ⟨M_14, hM_14⟩ : ∃ zM : xM, zM = xu M_12 505 (q_13, .inl (G.2 2, 51, .inl (fun _ => 0))) := ⟨_, rfl⟩
  have hX : xw G.1 vwCl A M_14 H := by rw [hM_14]; exact hX
  have hm500 : M_14 500 = some (a, .inr (7, [.int (nI 0), .int (nI 0), .ref q_1, .ref q_4, .ref q_7, .ref q_10, .null, .null, .null, .null, .null, .int (nI 0), .int (nI 0), .null, .null, .null, .null, .int (nI 0), .null, .null, .null, .long (lN 0), .long (lN 0)])) := by rw [hM_14, xu_n (by omega)]; exact hm500
  have hm501 : M_14 501 = some (q_1, .inl (G.2 0, 51, .inl (fun _ => 0))) := by rw [hM_14, xu_n (by omega)]; exact hm501
  have hm502 : M_14 502 = some (q_4, .inl (G.2 0, 408, .inl (fun _ => 0))) := by rw [hM_14, xu_n (by omega)]; exact hm502
  have hm503 : M_14 503 = some (q_7, .inl (G.2 0, 408, .inl (fun _ => 0))) := by rw [hM_14, xu_n (by omega)]; exact hm503
  have hm504 : M_14 504 = some (q_10, .inl (G.2 0, 51, .inl (fun k => nI ((fun _ => 0) k)))) := by rw [hM_14, xu_n (by omega)]; exact hm504
  have hm505 : M_14 505 = some (q_13, .inl (G.2 2, 51, .inl (fun _ => 0))) := by rw [hM_14]; exact xu_s
  refine x_putF (ci := 7) (v := .ref q_13) (C := RX5) (T := TX5) (N := 23) hx hb hts inX5 tyX5 tyX5_ok nmX5 hown hK hX hS hm500 rfl 6 (by decide) lk_fieldLink_22 (fun _ h9 => h9) rfl hin rfl (tyX5_ok 6 (by decide)) rfl rfl (Nat.le_of_ble_eq_true rfl) dX5_init_43 (fun H locs hX hS => ?_)
  obtain ⟨M_15, hM_15⟩ : ∃ zM : xM, zM = xu M_14 500 (a, .inr (7, [.int (nI 0), .int (nI 0), .ref q_1, .ref q_4, .ref q_7, .ref q_10, .ref q_13, .null, .null, .null, .null, .int (nI 0), .int (nI 0), .null, .null, .null, .null, .int (nI 0), .null, .null, .null, .long (lN 0), .long (lN 0)])) := ⟨_, rfl⟩
  have hX : xw G.1 vwCl A M_15 H := by rw [hM_15]; exact hX
  have hm501 : M_15 501 = some (q_1, .inl (G.2 0, 51, .inl (fun _ => 0))) := by rw [hM_15, xu_n (by omega)]; exact hm501
  have hm502 : M_15 502 = some (q_4, .inl (G.2 0, 408, .inl (fun _ => 0))) := by rw [hM_15, xu_n (by omega)]; exact hm502
  have hm503 : M_15 503 = some (q_7, .inl (G.2 0, 408, .inl (fun _ => 0))) := by rw [hM_15, xu_n (by omega)]; exact hm503
  have hm504 : M_15 504 = some (q_10, .inl (G.2 0, 51, .inl (fun k => nI ((fun _ => 0) k)))) := by rw [hM_15, xu_n (by omega)]; exact hm504
  have hm505 : M_15 505 = some (q_13, .inl (G.2 2, 51, .inl (fun _ => 0))) := by rw [hM_15, xu_n (by omega)]; exact hm505
  have hm500 : M_15 500 = some (a, .inr (7, [.int (nI 0), .int (nI 0), .ref q_1, .ref q_4, .ref q_7, .ref q_10, .ref q_13, .null, .null, .null, .null, .int (nI 0), .int (nI 0), .null, .null, .null, .null, .int (nI 0), .null, .null, .null, .long (lN 0), .long (lN 0)])) := by rw [hM_15]; exact xu_s
  refine lv_aload_n hx hb dX5_init_46 rfl (lv_at hl 0 rfl) ?_
  refine lv_bipush (v := nI 51) hx hb dX5_init_47 (by decide) ?_
  refine x_newa (atype := .long) (ty := .long) (k := 1) (N' := 51) (a0 := (51, .inr (.inl (fun _ => 0)))) hx hb (hts (.arrayClass .long) (by decide +kernel)) rfl (fun _ h => by cases h) hK hX hS hA rfl (fun _ => rfl) rfl (by omega) (Nat.le_of_ble_eq_true rfl) (Nat.le_of_ble_eq_true rfl) (Nat.le_of_ble_eq_true rfl) dX5_init_49 (506) (fun q_16 H hX hS => ?_)
  obtain ⟨M_17, hM_17⟩ : ∃ zM : xM, zM = xu M_15 506 (q_16, .inl (G.2 1, 51, .inr (.inl (fun _ => 0)))) := ⟨_, rfl⟩
  have hX : xw G.1 vwCl A M_17 H := by rw [hM_17]; exact hX
  have hm500 : M_17 500 = some (a, .inr (7, [.int (nI 0), .int (nI 0), .ref q_1, .ref q_4, .ref q_7, .ref q_10, .ref q_13, .null, .null, .null, .null, .int (nI 0), .int (nI 0), .null, .null, .null, .null, .int (nI 0), .null, .null, .null, .long (lN 0), .long (lN 0)])) := by rw [hM_17, xu_n (by omega)]; exact hm500
  have hm501 : M_17 501 = some (q_1, .inl (G.2 0, 51, .inl (fun _ => 0))) := by rw [hM_17, xu_n (by omega)]; exact hm501
  have hm502 : M_17 502 = some (q_4, .inl (G.2 0, 408, .inl (fun _ => 0))) := by rw [hM_17, xu_n (by omega)]; exact hm502
  have hm503 : M_17 503 = some (q_7, .inl (G.2 0, 408, .inl (fun _ => 0))) := by rw [hM_17, xu_n (by omega)]; exact hm503
  have hm504 : M_17 504 = some (q_10, .inl (G.2 0, 51, .inl (fun k => nI ((fun _ => 0) k)))) := by rw [hM_17, xu_n (by omega)]; exact hm504
  have hm505 : M_17 505 = some (q_13, .inl (G.2 2, 51, .inl (fun _ => 0))) := by rw [hM_17, xu_n (by omega)]; exact hm505
  have hm506 : M_17 506 = some (q_16, .inl (G.2 1, 51, .inr (.inl (fun _ => 0)))) := by rw [hM_17]; exact xu_s
  refine x_putF (ci := 7) (v := .ref q_16) (C := RX5) (T := TX5) (N := 23) hx hb hts inX5 tyX5 tyX5_ok nmX5 hown hK hX hS hm500 rfl 7 (by decide) lk_fieldLink_26 (fun _ h9 => h9) rfl hin rfl (tyX5_ok 7 (by decide)) rfl rfl (Nat.le_of_ble_eq_true rfl) dX5_init_51 (fun H locs hX hS => ?_)
  obtain ⟨M_18, hM_18⟩ : ∃ zM : xM, zM = xu M_17 500 (a, .inr (7, [.int (nI 0), .int (nI 0), .ref q_1, .ref q_4, .ref q_7, .ref q_10, .ref q_13, .ref q_16, .null, .null, .null, .int (nI 0), .int (nI 0), .null, .null, .null, .null, .int (nI 0), .null, .null, .null, .long (lN 0), .long (lN 0)])) := ⟨_, rfl⟩
  have hX : xw G.1 vwCl A M_18 H := by rw [hM_18]; exact hX
  have hm501 : M_18 501 = some (q_1, .inl (G.2 0, 51, .inl (fun _ => 0))) := by rw [hM_18, xu_n (by omega)]; exact hm501
  have hm502 : M_18 502 = some (q_4, .inl (G.2 0, 408, .inl (fun _ => 0))) := by rw [hM_18, xu_n (by omega)]; exact hm502
  have hm503 : M_18 503 = some (q_7, .inl (G.2 0, 408, .inl (fun _ => 0))) := by rw [hM_18, xu_n (by omega)]; exact hm503
  have hm504 : M_18 504 = some (q_10, .inl (G.2 0, 51, .inl (fun k => nI ((fun _ => 0) k)))) := by rw [hM_18, xu_n (by omega)]; exact hm504
  have hm505 : M_18 505 = some (q_13, .inl (G.2 2, 51, .inl (fun _ => 0))) := by rw [hM_18, xu_n (by omega)]; exact hm505
  have hm506 : M_18 506 = some (q_16, .inl (G.2 1, 51, .inr (.inl (fun _ => 0)))) := by rw [hM_18, xu_n (by omega)]; exact hm506
  have hm500 : M_18 500 = some (a, .inr (7, [.int (nI 0), .int (nI 0), .ref q_1, .ref q_4, .ref q_7, .ref q_10, .ref q_13, .ref q_16, .null, .null, .null, .int (nI 0), .int (nI 0), .null, .null, .null, .null, .int (nI 0), .null, .null, .null, .long (lN 0), .long (lN 0)])) := by rw [hM_18]; exact xu_s
  refine lv_aload_n hx hb dX5_init_54 rfl (lv_at hl 0 rfl) ?_
  refine lv_bipush (v := nI 51) hx hb dX5_init_55 (by decide) ?_
  refine x_newa (atype := .long) (ty := .long) (k := 1) (N' := 51) (a0 := (51, .inr (.inl (fun _ => 0)))) hx hb (hts (.arrayClass .long) (by decide +kernel)) rfl (fun _ h => by cases h) hK hX hS hA rfl (fun _ => rfl) rfl (by omega) (Nat.le_of_ble_eq_true rfl) (Nat.le_of_ble_eq_true rfl) (Nat.le_of_ble_eq_true rfl) dX5_init_57 (507) (fun q_19 H hX hS => ?_)
  obtain ⟨M_20, hM_20⟩ : ∃ zM : xM, zM = xu M_18 507 (q_19, .inl (G.2 1, 51, .inr (.inl (fun _ => 0)))) := ⟨_, rfl⟩
  have hX : xw G.1 vwCl A M_20 H := by rw [hM_20]; exact hX
  have hm500 : M_20 500 = some (a, .inr (7, [.int (nI 0), .int (nI 0), .ref q_1, .ref q_4, .ref q_7, .ref q_10, .ref q_13, .ref q_16, .null, .null, .null, .int (nI 0), .int (nI 0), .null, .null, .null, .null, .int (nI 0), .null, .null, .null, .long (lN 0), .long (lN 0)])) := by rw [hM_20, xu_n (by omega)]; exact hm500
  have hm501 : M_20 501 = some (q_1, .inl (G.2 0, 51, .inl (fun _ => 0))) := by rw [hM_20, xu_n (by omega)]; exact hm501
  have hm502 : M_20 502 = some (q_4, .inl (G.2 0, 408, .inl (fun _ => 0))) := by rw [hM_20, xu_n (by omega)]; exact hm502
  have hm503 : M_20 503 = some (q_7, .inl (G.2 0, 408, .inl (fun _ => 0))) := by rw [hM_20, xu_n (by omega)]; exact hm503
  have hm504 : M_20 504 = some (q_10, .inl (G.2 0, 51, .inl (fun k => nI ((fun _ => 0) k)))) := by rw [hM_20, xu_n (by omega)]; exact hm504
  have hm505 : M_20 505 = some (q_13, .inl (G.2 2, 51, .inl (fun _ => 0))) := by rw [hM_20, xu_n (by omega)]; exact hm505
  have hm506 : M_20 506 = some (q_16, .inl (G.2 1, 51, .inr (.inl (fun _ => 0)))) := by rw [hM_20, xu_n (by omega)]; exact hm506
  have hm507 : M_20 507 = some (q_19, .inl (G.2 1, 51, .inr (.inl (fun _ => 0)))) := by rw [hM_20]; exact xu_s
  refine x_putF (ci := 7) (v := .ref q_19) (C := RX5) (T := TX5) (N := 23) hx hb hts inX5 tyX5 tyX5_ok nmX5 hown hK hX hS hm500 rfl 8 (by decide) lk_fieldLink_30 (fun _ h9 => h9) rfl hin rfl (tyX5_ok 8 (by decide)) rfl rfl (Nat.le_of_ble_eq_true rfl) dX5_init_59 (fun H locs hX hS => ?_)
  obtain ⟨M_21, hM_21⟩ : ∃ zM : xM, zM = xu M_20 500 (a, .inr (7, [.int (nI 0), .int (nI 0), .ref q_1, .ref q_4, .ref q_7, .ref q_10, .ref q_13, .ref q_16, .ref q_19, .null, .null, .int (nI 0), .int (nI 0), .null, .null, .null, .null, .int (nI 0), .null, .null, .null, .long (lN 0), .long (lN 0)])) := ⟨_, rfl⟩
  have hX : xw G.1 vwCl A M_21 H := by rw [hM_21]; exact hX
  have hm501 : M_21 501 = some (q_1, .inl (G.2 0, 51, .inl (fun _ => 0))) := by rw [hM_21, xu_n (by omega)]; exact hm501
  have hm502 : M_21 502 = some (q_4, .inl (G.2 0, 408, .inl (fun _ => 0))) := by rw [hM_21, xu_n (by omega)]; exact hm502
  have hm503 : M_21 503 = some (q_7, .inl (G.2 0, 408, .inl (fun _ => 0))) := by rw [hM_21, xu_n (by omega)]; exact hm503
  have hm504 : M_21 504 = some (q_10, .inl (G.2 0, 51, .inl (fun k => nI ((fun _ => 0) k)))) := by rw [hM_21, xu_n (by omega)]; exact hm504
  have hm505 : M_21 505 = some (q_13, .inl (G.2 2, 51, .inl (fun _ => 0))) := by rw [hM_21, xu_n (by omega)]; exact hm505
  have hm506 : M_21 506 = some (q_16, .inl (G.2 1, 51, .inr (.inl (fun _ => 0)))) := by rw [hM_21, xu_n (by omega)]; exact hm506
  have hm507 : M_21 507 = some (q_19, .inl (G.2 1, 51, .inr (.inl (fun _ => 0)))) := by rw [hM_21, xu_n (by omega)]; exact hm507
  have hm500 : M_21 500 = some (a, .inr (7, [.int (nI 0), .int (nI 0), .ref q_1, .ref q_4, .ref q_7, .ref q_10, .ref q_13, .ref q_16, .ref q_19, .null, .null, .int (nI 0), .int (nI 0), .null, .null, .null, .null, .int (nI 0), .null, .null, .null, .long (lN 0), .long (lN 0)])) := by rw [hM_21]; exact xu_s
  refine lv_aload_n hx hb dX5_init_62 rfl (lv_at hl 0 rfl) ?_
  refine lv_bipush (v := nI 51) hx hb dX5_init_63 (by decide) ?_
  refine x_newa (atype := .int) (ty := .int) (k := 0) (N' := 51) (a0 := (51, .inl (fun k => nI ((fun _ => 0) k)))) hx hb (hts (.arrayClass .int) (by decide +kernel)) rfl (fun _ h => by cases h) hK hX hS hA rfl (fun _ => rfl) rfl (by omega) (Nat.le_of_ble_eq_true rfl) (Nat.le_of_ble_eq_true rfl) (Nat.le_of_ble_eq_true rfl) dX5_init_65 (508) (fun q_22 H hX hS => ?_)
  obtain ⟨M_23, hM_23⟩ : ∃ zM : xM, zM = xu M_21 508 (q_22, .inl (G.2 0, 51, .inl (fun k => nI ((fun _ => 0) k)))) := ⟨_, rfl⟩
  have hX : xw G.1 vwCl A M_23 H := by rw [hM_23]; exact hX
  have hm500 : M_23 500 = some (a, .inr (7, [.int (nI 0), .int (nI 0), .ref q_1, .ref q_4, .ref q_7, .ref q_10, .ref q_13, .ref q_16, .ref q_19, .null, .null, .int (nI 0), .int (nI 0), .null, .null, .null, .null, .int (nI 0), .null, .null, .null, .long (lN 0), .long (lN 0)])) := by rw [hM_23, xu_n (by omega)]; exact hm500
  have hm501 : M_23 501 = some (q_1, .inl (G.2 0, 51, .inl (fun _ => 0))) := by rw [hM_23, xu_n (by omega)]; exact hm501
  have hm502 : M_23 502 = some (q_4, .inl (G.2 0, 408, .inl (fun _ => 0))) := by rw [hM_23, xu_n (by omega)]; exact hm502
  have hm503 : M_23 503 = some (q_7, .inl (G.2 0, 408, .inl (fun _ => 0))) := by rw [hM_23, xu_n (by omega)]; exact hm503
  have hm504 : M_23 504 = some (q_10, .inl (G.2 0, 51, .inl (fun k => nI ((fun _ => 0) k)))) := by rw [hM_23, xu_n (by omega)]; exact hm504
  have hm505 : M_23 505 = some (q_13, .inl (G.2 2, 51, .inl (fun _ => 0))) := by rw [hM_23, xu_n (by omega)]; exact hm505
  have hm506 : M_23 506 = some (q_16, .inl (G.2 1, 51, .inr (.inl (fun _ => 0)))) := by rw [hM_23, xu_n (by omega)]; exact hm506
  have hm507 : M_23 507 = some (q_19, .inl (G.2 1, 51, .inr (.inl (fun _ => 0)))) := by rw [hM_23, xu_n (by omega)]; exact hm507
  have hm508 : M_23 508 = some (q_22, .inl (G.2 0, 51, .inl (fun k => nI ((fun _ => 0) k)))) := by rw [hM_23]; exact xu_s
  refine x_putF (ci := 7) (v := .ref q_22) (C := RX5) (T := TX5) (N := 23) hx hb hts inX5 tyX5 tyX5_ok nmX5 hown hK hX hS hm500 rfl 9 (by decide) lk_fieldLink_33 (fun _ h9 => h9) rfl hin rfl (tyX5_ok 9 (by decide)) rfl rfl (Nat.le_of_ble_eq_true rfl) dX5_init_67 (fun H locs hX hS => ?_)
  obtain ⟨M_24, hM_24⟩ : ∃ zM : xM, zM = xu M_23 500 (a, .inr (7, [.int (nI 0), .int (nI 0), .ref q_1, .ref q_4, .ref q_7, .ref q_10, .ref q_13, .ref q_16, .ref q_19, .ref q_22, .null, .int (nI 0), .int (nI 0), .null, .null, .null, .null, .int (nI 0), .null, .null, .null, .long (lN 0), .long (lN 0)])) := ⟨_, rfl⟩
  have hX : xw G.1 vwCl A M_24 H := by rw [hM_24]; exact hX
  have hm501 : M_24 501 = some (q_1, .inl (G.2 0, 51, .inl (fun _ => 0))) := by rw [hM_24, xu_n (by omega)]; exact hm501
  have hm502 : M_24 502 = some (q_4, .inl (G.2 0, 408, .inl (fun _ => 0))) := by rw [hM_24, xu_n (by omega)]; exact hm502
  have hm503 : M_24 503 = some (q_7, .inl (G.2 0, 408, .inl (fun _ => 0))) := by rw [hM_24, xu_n (by omega)]; exact hm503
  have hm504 : M_24 504 = some (q_10, .inl (G.2 0, 51, .inl (fun k => nI ((fun _ => 0) k)))) := by rw [hM_24, xu_n (by omega)]; exact hm504
  have hm505 : M_24 505 = some (q_13, .inl (G.2 2, 51, .inl (fun _ => 0))) := by rw [hM_24, xu_n (by omega)]; exact hm505
  have hm506 : M_24 506 = some (q_16, .inl (G.2 1, 51, .inr (.inl (fun _ => 0)))) := by rw [hM_24, xu_n (by omega)]; exact hm506
  have hm507 : M_24 507 = some (q_19, .inl (G.2 1, 51, .inr (.inl (fun _ => 0)))) := by rw [hM_24, xu_n (by omega)]; exact hm507
  have hm508 : M_24 508 = some (q_22, .inl (G.2 0, 51, .inl (fun k => nI ((fun _ => 0) k)))) := by rw [hM_24, xu_n (by omega)]; exact hm508
  have hm500 : M_24 500 = some (a, .inr (7, [.int (nI 0), .int (nI 0), .ref q_1, .ref q_4, .ref q_7, .ref q_10, .ref q_13, .ref q_16, .ref q_19, .ref q_22, .null, .int (nI 0), .int (nI 0), .null, .null, .null, .null, .int (nI 0), .null, .null, .null, .long (lN 0), .long (lN 0)])) := by rw [hM_24]; exact xu_s
  refine lv_aload_n hx hb dX5_init_70 rfl (lv_at hl 0 rfl) ?_
  refine lv_iconst (v := nI 4) hx hb dX5_init_71 (by decide) ?_
  refine x_newa (atype := .long) (ty := .long) (k := 1) (N' := 4) (a0 := (4, .inr (.inl (fun k => lN ((fun _ => 0) k))))) hx hb (hts (.arrayClass .long) (by decide +kernel)) rfl (fun _ h => by cases h) hK hX hS hA rfl (fun _ => rfl) rfl (by omega) (Nat.le_of_ble_eq_true rfl) (Nat.le_of_ble_eq_true rfl) (Nat.le_of_ble_eq_true rfl) dX5_init_72 (509) (fun q_25 H hX hS => ?_)
  obtain ⟨M_26, hM_26⟩ : ∃ zM : xM, zM = xu M_24 509 (q_25, .inl (G.2 1, 4, .inr (.inl (fun k => lN ((fun _ => 0) k))))) := ⟨_, rfl⟩
  have hX : xw G.1 vwCl A M_26 H := by rw [hM_26]; exact hX
  have hm500 : M_26 500 = some (a, .inr (7, [.int (nI 0), .int (nI 0), .ref q_1, .ref q_4, .ref q_7, .ref q_10, .ref q_13, .ref q_16, .ref q_19, .ref q_22, .null, .int (nI 0), .int (nI 0), .null, .null, .null, .null, .int (nI 0), .null, .null, .null, .long (lN 0), .long (lN 0)])) := by rw [hM_26, xu_n (by omega)]; exact hm500
  have hm501 : M_26 501 = some (q_1, .inl (G.2 0, 51, .inl (fun _ => 0))) := by rw [hM_26, xu_n (by omega)]; exact hm501
  have hm502 : M_26 502 = some (q_4, .inl (G.2 0, 408, .inl (fun _ => 0))) := by rw [hM_26, xu_n (by omega)]; exact hm502
  have hm503 : M_26 503 = some (q_7, .inl (G.2 0, 408, .inl (fun _ => 0))) := by rw [hM_26, xu_n (by omega)]; exact hm503
  have hm504 : M_26 504 = some (q_10, .inl (G.2 0, 51, .inl (fun k => nI ((fun _ => 0) k)))) := by rw [hM_26, xu_n (by omega)]; exact hm504
  have hm505 : M_26 505 = some (q_13, .inl (G.2 2, 51, .inl (fun _ => 0))) := by rw [hM_26, xu_n (by omega)]; exact hm505
  have hm506 : M_26 506 = some (q_16, .inl (G.2 1, 51, .inr (.inl (fun _ => 0)))) := by rw [hM_26, xu_n (by omega)]; exact hm506
  have hm507 : M_26 507 = some (q_19, .inl (G.2 1, 51, .inr (.inl (fun _ => 0)))) := by rw [hM_26, xu_n (by omega)]; exact hm507
  have hm508 : M_26 508 = some (q_22, .inl (G.2 0, 51, .inl (fun k => nI ((fun _ => 0) k)))) := by rw [hM_26, xu_n (by omega)]; exact hm508
  have hm509 : M_26 509 = some (q_25, .inl (G.2 1, 4, .inr (.inl (fun k => lN ((fun _ => 0) k))))) := by rw [hM_26]; exact xu_s
  refine lv_dup hx hb dX5_init_74 rfl ?_
  refine lv_iconst (v := nI 0) hx hb dX5_init_75 (by decide) ?_
  refine lv_ldc2 (v := 2520) hx hb hown lk_constantLong_36 dX5_init_76 ?_
  refine x_rl (y := lN 2520) rfl ?_
  refine x_lsN hx hb hK hX hS hm509 (by omega) (by decide) dX5_init_79 (fun H locs hX hS => ?_)
  rw [updL_n] at hX
  obtain ⟨M_27, hM_27⟩ : ∃ zM : xM, zM = xu M_26 509 (q_25, .inl (G.2 1, 4, .inr (.inl (fun k => lN ((va_up (fun _ => 0) 0 2520) k))))) := ⟨_, rfl⟩
  have hX : xw G.1 vwCl A M_27 H := by rw [hM_27]; exact hX
  have hm500 : M_27 500 = some (a, .inr (7, [.int (nI 0), .int (nI 0), .ref q_1, .ref q_4, .ref q_7, .ref q_10, .ref q_13, .ref q_16, .ref q_19, .ref q_22, .null, .int (nI 0), .int (nI 0), .null, .null, .null, .null, .int (nI 0), .null, .null, .null, .long (lN 0), .long (lN 0)])) := by rw [hM_27, xu_n (by omega)]; exact hm500
  have hm501 : M_27 501 = some (q_1, .inl (G.2 0, 51, .inl (fun _ => 0))) := by rw [hM_27, xu_n (by omega)]; exact hm501
  have hm502 : M_27 502 = some (q_4, .inl (G.2 0, 408, .inl (fun _ => 0))) := by rw [hM_27, xu_n (by omega)]; exact hm502
  have hm503 : M_27 503 = some (q_7, .inl (G.2 0, 408, .inl (fun _ => 0))) := by rw [hM_27, xu_n (by omega)]; exact hm503
  have hm504 : M_27 504 = some (q_10, .inl (G.2 0, 51, .inl (fun k => nI ((fun _ => 0) k)))) := by rw [hM_27, xu_n (by omega)]; exact hm504
  have hm505 : M_27 505 = some (q_13, .inl (G.2 2, 51, .inl (fun _ => 0))) := by rw [hM_27, xu_n (by omega)]; exact hm505
  have hm506 : M_27 506 = some (q_16, .inl (G.2 1, 51, .inr (.inl (fun _ => 0)))) := by rw [hM_27, xu_n (by omega)]; exact hm506
  have hm507 : M_27 507 = some (q_19, .inl (G.2 1, 51, .inr (.inl (fun _ => 0)))) := by rw [hM_27, xu_n (by omega)]; exact hm507
  have hm508 : M_27 508 = some (q_22, .inl (G.2 0, 51, .inl (fun k => nI ((fun _ => 0) k)))) := by rw [hM_27, xu_n (by omega)]; exact hm508
  have hm509 : M_27 509 = some (q_25, .inl (G.2 1, 4, .inr (.inl (fun k => lN ((va_up (fun _ => 0) 0 2520) k))))) := by rw [hM_27]; exact xu_s
  refine lv_dup hx hb dX5_init_80 rfl ?_
  refine lv_iconst (v := nI 1) hx hb dX5_init_81 (by decide) ?_
  refine lv_ldc2 (v := 2520) hx hb hown lk_constantLong_36 dX5_init_82 ?_
  refine x_rl (y := lN 2520) rfl ?_
  refine x_lsN hx hb hK hX hS hm509 (by omega) (by decide) dX5_init_85 (fun H locs hX hS => ?_)
  rw [updL_n] at hX
  obtain ⟨M_28, hM_28⟩ : ∃ zM : xM, zM = xu M_27 509 (q_25, .inl (G.2 1, 4, .inr (.inl (fun k => lN ((va_up (va_up (fun _ => 0) 0 2520) 1 2520) k))))) := ⟨_, rfl⟩
  have hX : xw G.1 vwCl A M_28 H := by rw [hM_28]; exact hX
  have hm500 : M_28 500 = some (a, .inr (7, [.int (nI 0), .int (nI 0), .ref q_1, .ref q_4, .ref q_7, .ref q_10, .ref q_13, .ref q_16, .ref q_19, .ref q_22, .null, .int (nI 0), .int (nI 0), .null, .null, .null, .null, .int (nI 0), .null, .null, .null, .long (lN 0), .long (lN 0)])) := by rw [hM_28, xu_n (by omega)]; exact hm500
  have hm501 : M_28 501 = some (q_1, .inl (G.2 0, 51, .inl (fun _ => 0))) := by rw [hM_28, xu_n (by omega)]; exact hm501
  have hm502 : M_28 502 = some (q_4, .inl (G.2 0, 408, .inl (fun _ => 0))) := by rw [hM_28, xu_n (by omega)]; exact hm502
  have hm503 : M_28 503 = some (q_7, .inl (G.2 0, 408, .inl (fun _ => 0))) := by rw [hM_28, xu_n (by omega)]; exact hm503
  have hm504 : M_28 504 = some (q_10, .inl (G.2 0, 51, .inl (fun k => nI ((fun _ => 0) k)))) := by rw [hM_28, xu_n (by omega)]; exact hm504
  have hm505 : M_28 505 = some (q_13, .inl (G.2 2, 51, .inl (fun _ => 0))) := by rw [hM_28, xu_n (by omega)]; exact hm505
  have hm506 : M_28 506 = some (q_16, .inl (G.2 1, 51, .inr (.inl (fun _ => 0)))) := by rw [hM_28, xu_n (by omega)]; exact hm506
  have hm507 : M_28 507 = some (q_19, .inl (G.2 1, 51, .inr (.inl (fun _ => 0)))) := by rw [hM_28, xu_n (by omega)]; exact hm507
  have hm508 : M_28 508 = some (q_22, .inl (G.2 0, 51, .inl (fun k => nI ((fun _ => 0) k)))) := by rw [hM_28, xu_n (by omega)]; exact hm508
  have hm509 : M_28 509 = some (q_25, .inl (G.2 1, 4, .inr (.inl (fun k => lN ((va_up (va_up (fun _ => 0) 0 2520) 1 2520) k))))) := by rw [hM_28]; exact xu_s
  refine lv_dup hx hb dX5_init_86 rfl ?_
  refine lv_iconst (v := nI 2) hx hb dX5_init_87 (by decide) ?_
  refine lv_ldc2 (v := 2520) hx hb hown lk_constantLong_36 dX5_init_88 ?_
  refine x_rl (y := lN 2520) rfl ?_
  refine x_lsN hx hb hK hX hS hm509 (by omega) (by decide) dX5_init_91 (fun H locs hX hS => ?_)
  rw [updL_n] at hX
  obtain ⟨M_29, hM_29⟩ : ∃ zM : xM, zM = xu M_28 509 (q_25, .inl (G.2 1, 4, .inr (.inl (fun k => lN ((va_up (va_up (va_up (fun _ => 0) 0 2520) 1 2520) 2 2520) k))))) := ⟨_, rfl⟩
  have hX : xw G.1 vwCl A M_29 H := by rw [hM_29]; exact hX
  have hm500 : M_29 500 = some (a, .inr (7, [.int (nI 0), .int (nI 0), .ref q_1, .ref q_4, .ref q_7, .ref q_10, .ref q_13, .ref q_16, .ref q_19, .ref q_22, .null, .int (nI 0), .int (nI 0), .null, .null, .null, .null, .int (nI 0), .null, .null, .null, .long (lN 0), .long (lN 0)])) := by rw [hM_29, xu_n (by omega)]; exact hm500
  have hm501 : M_29 501 = some (q_1, .inl (G.2 0, 51, .inl (fun _ => 0))) := by rw [hM_29, xu_n (by omega)]; exact hm501
  have hm502 : M_29 502 = some (q_4, .inl (G.2 0, 408, .inl (fun _ => 0))) := by rw [hM_29, xu_n (by omega)]; exact hm502
  have hm503 : M_29 503 = some (q_7, .inl (G.2 0, 408, .inl (fun _ => 0))) := by rw [hM_29, xu_n (by omega)]; exact hm503
  have hm504 : M_29 504 = some (q_10, .inl (G.2 0, 51, .inl (fun k => nI ((fun _ => 0) k)))) := by rw [hM_29, xu_n (by omega)]; exact hm504
  have hm505 : M_29 505 = some (q_13, .inl (G.2 2, 51, .inl (fun _ => 0))) := by rw [hM_29, xu_n (by omega)]; exact hm505
  have hm506 : M_29 506 = some (q_16, .inl (G.2 1, 51, .inr (.inl (fun _ => 0)))) := by rw [hM_29, xu_n (by omega)]; exact hm506
  have hm507 : M_29 507 = some (q_19, .inl (G.2 1, 51, .inr (.inl (fun _ => 0)))) := by rw [hM_29, xu_n (by omega)]; exact hm507
  have hm508 : M_29 508 = some (q_22, .inl (G.2 0, 51, .inl (fun k => nI ((fun _ => 0) k)))) := by rw [hM_29, xu_n (by omega)]; exact hm508
  have hm509 : M_29 509 = some (q_25, .inl (G.2 1, 4, .inr (.inl (fun k => lN ((va_up (va_up (va_up (fun _ => 0) 0 2520) 1 2520) 2 2520) k))))) := by rw [hM_29]; exact xu_s
  refine lv_dup hx hb dX5_init_92 rfl ?_
  refine lv_iconst (v := nI 3) hx hb dX5_init_93 (by decide) ?_
  refine lv_ldc2 (v := 2520) hx hb hown lk_constantLong_36 dX5_init_94 ?_
  refine x_rl (y := lN 2520) rfl ?_
  refine x_lsN hx hb hK hX hS hm509 (by omega) (by decide) dX5_init_97 (fun H locs hX hS => ?_)
  rw [updL_n] at hX
  obtain ⟨M_30, hM_30⟩ : ∃ zM : xM, zM = xu M_29 509 (q_25, .inl (G.2 1, 4, .inr (.inl (fun k => lN ((va_up (va_up (va_up (va_up (fun _ => 0) 0 2520) 1 2520) 2 2520) 3 2520) k))))) := ⟨_, rfl⟩
  have hX : xw G.1 vwCl A M_30 H := by rw [hM_30]; exact hX
  have hm500 : M_30 500 = some (a, .inr (7, [.int (nI 0), .int (nI 0), .ref q_1, .ref q_4, .ref q_7, .ref q_10, .ref q_13, .ref q_16, .ref q_19, .ref q_22, .null, .int (nI 0), .int (nI 0), .null, .null, .null, .null, .int (nI 0), .null, .null, .null, .long (lN 0), .long (lN 0)])) := by rw [hM_30, xu_n (by omega)]; exact hm500
  have hm501 : M_30 501 = some (q_1, .inl (G.2 0, 51, .inl (fun _ => 0))) := by rw [hM_30, xu_n (by omega)]; exact hm501
  have hm502 : M_30 502 = some (q_4, .inl (G.2 0, 408, .inl (fun _ => 0))) := by rw [hM_30, xu_n (by omega)]; exact hm502
  have hm503 : M_30 503 = some (q_7, .inl (G.2 0, 408, .inl (fun _ => 0))) := by rw [hM_30, xu_n (by omega)]; exact hm503
  have hm504 : M_30 504 = some (q_10, .inl (G.2 0, 51, .inl (fun k => nI ((fun _ => 0) k)))) := by rw [hM_30, xu_n (by omega)]; exact hm504
  have hm505 : M_30 505 = some (q_13, .inl (G.2 2, 51, .inl (fun _ => 0))) := by rw [hM_30, xu_n (by omega)]; exact hm505
  have hm506 : M_30 506 = some (q_16, .inl (G.2 1, 51, .inr (.inl (fun _ => 0)))) := by rw [hM_30, xu_n (by omega)]; exact hm506
  have hm507 : M_30 507 = some (q_19, .inl (G.2 1, 51, .inr (.inl (fun _ => 0)))) := by rw [hM_30, xu_n (by omega)]; exact hm507
  have hm508 : M_30 508 = some (q_22, .inl (G.2 0, 51, .inl (fun k => nI ((fun _ => 0) k)))) := by rw [hM_30, xu_n (by omega)]; exact hm508
  have hm509 : M_30 509 = some (q_25, .inl (G.2 1, 4, .inr (.inl (fun k => lN ((va_up (va_up (va_up (va_up (fun _ => 0) 0 2520) 1 2520) 2 2520) 3 2520) k))))) := by rw [hM_30]; exact xu_s
  refine x_putF (ci := 7) (v := .ref q_25) (C := RX5) (T := TX5) (N := 23) hx hb hts inX5 tyX5 tyX5_ok nmX5 hown hK hX hS hm500 rfl 10 (by decide) lk_fieldLink_38 (fun _ h9 => h9) rfl hin rfl (tyX5_ok 10 (by decide)) rfl rfl (Nat.le_of_ble_eq_true rfl) dX5_init_98 (fun H locs hX hS => ?_)
  obtain ⟨M_31, hM_31⟩ : ∃ zM : xM, zM = xu M_30 500 (a, .inr (7, [.int (nI 0), .int (nI 0), .ref q_1, .ref q_4, .ref q_7, .ref q_10, .ref q_13, .ref q_16, .ref q_19, .ref q_22, .ref q_25, .int (nI 0), .int (nI 0), .null, .null, .null, .null, .int (nI 0), .null, .null, .null, .long (lN 0), .long (lN 0)])) := ⟨_, rfl⟩
  have hX : xw G.1 vwCl A M_31 H := by rw [hM_31]; exact hX
  have hm501 : M_31 501 = some (q_1, .inl (G.2 0, 51, .inl (fun _ => 0))) := by rw [hM_31, xu_n (by omega)]; exact hm501
  have hm502 : M_31 502 = some (q_4, .inl (G.2 0, 408, .inl (fun _ => 0))) := by rw [hM_31, xu_n (by omega)]; exact hm502
  have hm503 : M_31 503 = some (q_7, .inl (G.2 0, 408, .inl (fun _ => 0))) := by rw [hM_31, xu_n (by omega)]; exact hm503
  have hm504 : M_31 504 = some (q_10, .inl (G.2 0, 51, .inl (fun k => nI ((fun _ => 0) k)))) := by rw [hM_31, xu_n (by omega)]; exact hm504
  have hm505 : M_31 505 = some (q_13, .inl (G.2 2, 51, .inl (fun _ => 0))) := by rw [hM_31, xu_n (by omega)]; exact hm505
  have hm506 : M_31 506 = some (q_16, .inl (G.2 1, 51, .inr (.inl (fun _ => 0)))) := by rw [hM_31, xu_n (by omega)]; exact hm506
  have hm507 : M_31 507 = some (q_19, .inl (G.2 1, 51, .inr (.inl (fun _ => 0)))) := by rw [hM_31, xu_n (by omega)]; exact hm507
  have hm508 : M_31 508 = some (q_22, .inl (G.2 0, 51, .inl (fun k => nI ((fun _ => 0) k)))) := by rw [hM_31, xu_n (by omega)]; exact hm508
  have hm509 : M_31 509 = some (q_25, .inl (G.2 1, 4, .inr (.inl (fun k => lN ((va_up (va_up (va_up (va_up (fun _ => 0) 0 2520) 1 2520) 2 2520) 3 2520) k))))) := by rw [hM_31, xu_n (by omega)]; exact hm509
  have hm500 : M_31 500 = some (a, .inr (7, [.int (nI 0), .int (nI 0), .ref q_1, .ref q_4, .ref q_7, .ref q_10, .ref q_13, .ref q_16, .ref q_19, .ref q_22, .ref q_25, .int (nI 0), .int (nI 0), .null, .null, .null, .null, .int (nI 0), .null, .null, .null, .long (lN 0), .long (lN 0)])) := by rw [hM_31]; exact xu_s
  refine lv_aload_n hx hb dX5_init_101 rfl (lv_at hl 0 rfl) ?_
  refine lv_sipush (v := nI 700) hx hb dX5_init_102 (by decide) ?_
  refine x_newa (atype := .int) (ty := .int) (k := 0) (N' := 700) (a0 := (700, .inl (fun k => nI ((fun _ => 0) k)))) hx hb (hts (.arrayClass .int) (by decide +kernel)) rfl (fun _ h => by cases h) hK hX hS hA rfl (fun _ => rfl) rfl (by omega) (Nat.le_of_ble_eq_true rfl) (Nat.le_of_ble_eq_true rfl) (Nat.le_of_ble_eq_true rfl) dX5_init_105 (510) (fun q_32 H hX hS => ?_)
  obtain ⟨M_33, hM_33⟩ : ∃ zM : xM, zM = xu M_31 510 (q_32, .inl (G.2 0, 700, .inl (fun k => nI ((fun _ => 0) k)))) := ⟨_, rfl⟩
  have hX : xw G.1 vwCl A M_33 H := by rw [hM_33]; exact hX
  have hm500 : M_33 500 = some (a, .inr (7, [.int (nI 0), .int (nI 0), .ref q_1, .ref q_4, .ref q_7, .ref q_10, .ref q_13, .ref q_16, .ref q_19, .ref q_22, .ref q_25, .int (nI 0), .int (nI 0), .null, .null, .null, .null, .int (nI 0), .null, .null, .null, .long (lN 0), .long (lN 0)])) := by rw [hM_33, xu_n (by omega)]; exact hm500
  have hm501 : M_33 501 = some (q_1, .inl (G.2 0, 51, .inl (fun _ => 0))) := by rw [hM_33, xu_n (by omega)]; exact hm501
  have hm502 : M_33 502 = some (q_4, .inl (G.2 0, 408, .inl (fun _ => 0))) := by rw [hM_33, xu_n (by omega)]; exact hm502
  have hm503 : M_33 503 = some (q_7, .inl (G.2 0, 408, .inl (fun _ => 0))) := by rw [hM_33, xu_n (by omega)]; exact hm503
  have hm504 : M_33 504 = some (q_10, .inl (G.2 0, 51, .inl (fun k => nI ((fun _ => 0) k)))) := by rw [hM_33, xu_n (by omega)]; exact hm504
  have hm505 : M_33 505 = some (q_13, .inl (G.2 2, 51, .inl (fun _ => 0))) := by rw [hM_33, xu_n (by omega)]; exact hm505
  have hm506 : M_33 506 = some (q_16, .inl (G.2 1, 51, .inr (.inl (fun _ => 0)))) := by rw [hM_33, xu_n (by omega)]; exact hm506
  have hm507 : M_33 507 = some (q_19, .inl (G.2 1, 51, .inr (.inl (fun _ => 0)))) := by rw [hM_33, xu_n (by omega)]; exact hm507
  have hm508 : M_33 508 = some (q_22, .inl (G.2 0, 51, .inl (fun k => nI ((fun _ => 0) k)))) := by rw [hM_33, xu_n (by omega)]; exact hm508
  have hm509 : M_33 509 = some (q_25, .inl (G.2 1, 4, .inr (.inl (fun k => lN ((va_up (va_up (va_up (va_up (fun _ => 0) 0 2520) 1 2520) 2 2520) 3 2520) k))))) := by rw [hM_33, xu_n (by omega)]; exact hm509
  have hm510 : M_33 510 = some (q_32, .inl (G.2 0, 700, .inl (fun k => nI ((fun _ => 0) k)))) := by rw [hM_33]; exact xu_s
  refine x_putF (ci := 7) (v := .ref q_32) (C := RX5) (T := TX5) (N := 23) hx hb hts inX5 tyX5 tyX5_ok nmX5 hown hK hX hS hm500 rfl 13 (by decide) lk_fieldLink_41 (fun _ h9 => h9) rfl hin rfl (tyX5_ok 13 (by decide)) rfl rfl (Nat.le_of_ble_eq_true rfl) dX5_init_107 (fun H locs hX hS => ?_)
  obtain ⟨M_34, hM_34⟩ : ∃ zM : xM, zM = xu M_33 500 (a, .inr (7, [.int (nI 0), .int (nI 0), .ref q_1, .ref q_4, .ref q_7, .ref q_10, .ref q_13, .ref q_16, .ref q_19, .ref q_22, .ref q_25, .int (nI 0), .int (nI 0), .ref q_32, .null, .null, .null, .int (nI 0), .null, .null, .null, .long (lN 0), .long (lN 0)])) := ⟨_, rfl⟩
  have hX : xw G.1 vwCl A M_34 H := by rw [hM_34]; exact hX
  have hm501 : M_34 501 = some (q_1, .inl (G.2 0, 51, .inl (fun _ => 0))) := by rw [hM_34, xu_n (by omega)]; exact hm501
  have hm502 : M_34 502 = some (q_4, .inl (G.2 0, 408, .inl (fun _ => 0))) := by rw [hM_34, xu_n (by omega)]; exact hm502
  have hm503 : M_34 503 = some (q_7, .inl (G.2 0, 408, .inl (fun _ => 0))) := by rw [hM_34, xu_n (by omega)]; exact hm503
  have hm504 : M_34 504 = some (q_10, .inl (G.2 0, 51, .inl (fun k => nI ((fun _ => 0) k)))) := by rw [hM_34, xu_n (by omega)]; exact hm504
  have hm505 : M_34 505 = some (q_13, .inl (G.2 2, 51, .inl (fun _ => 0))) := by rw [hM_34, xu_n (by omega)]; exact hm505
  have hm506 : M_34 506 = some (q_16, .inl (G.2 1, 51, .inr (.inl (fun _ => 0)))) := by rw [hM_34, xu_n (by omega)]; exact hm506
  have hm507 : M_34 507 = some (q_19, .inl (G.2 1, 51, .inr (.inl (fun _ => 0)))) := by rw [hM_34, xu_n (by omega)]; exact hm507
  have hm508 : M_34 508 = some (q_22, .inl (G.2 0, 51, .inl (fun k => nI ((fun _ => 0) k)))) := by rw [hM_34, xu_n (by omega)]; exact hm508
  have hm509 : M_34 509 = some (q_25, .inl (G.2 1, 4, .inr (.inl (fun k => lN ((va_up (va_up (va_up (va_up (fun _ => 0) 0 2520) 1 2520) 2 2520) 3 2520) k))))) := by rw [hM_34, xu_n (by omega)]; exact hm509
  have hm510 : M_34 510 = some (q_32, .inl (G.2 0, 700, .inl (fun k => nI ((fun _ => 0) k)))) := by rw [hM_34, xu_n (by omega)]; exact hm510
  have hm500 : M_34 500 = some (a, .inr (7, [.int (nI 0), .int (nI 0), .ref q_1, .ref q_4, .ref q_7, .ref q_10, .ref q_13, .ref q_16, .ref q_19, .ref q_22, .ref q_25, .int (nI 0), .int (nI 0), .ref q_32, .null, .null, .null, .int (nI 0), .null, .null, .null, .long (lN 0), .long (lN 0)])) := by rw [hM_34]; exact xu_s
  refine lv_aload_n hx hb dX5_init_110 rfl (lv_at hl 0 rfl) ?_
  refine lv_sipush (v := nI 700) hx hb dX5_init_111 (by decide) ?_
  refine x_newa (atype := .int) (ty := .int) (k := 0) (N' := 700) (a0 := (700, .inl (fun k => nI ((fun _ => 0) k)))) hx hb (hts (.arrayClass .int) (by decide +kernel)) rfl (fun _ h => by cases h) hK hX hS hA rfl (fun _ => rfl) rfl (by omega) (Nat.le_of_ble_eq_true rfl) (Nat.le_of_ble_eq_true rfl) (Nat.le_of_ble_eq_true rfl) dX5_init_114 (511) (fun q_35 H hX hS => ?_)
  obtain ⟨M_36, hM_36⟩ : ∃ zM : xM, zM = xu M_34 511 (q_35, .inl (G.2 0, 700, .inl (fun k => nI ((fun _ => 0) k)))) := ⟨_, rfl⟩
  have hX : xw G.1 vwCl A M_36 H := by rw [hM_36]; exact hX
  have hm500 : M_36 500 = some (a, .inr (7, [.int (nI 0), .int (nI 0), .ref q_1, .ref q_4, .ref q_7, .ref q_10, .ref q_13, .ref q_16, .ref q_19, .ref q_22, .ref q_25, .int (nI 0), .int (nI 0), .ref q_32, .null, .null, .null, .int (nI 0), .null, .null, .null, .long (lN 0), .long (lN 0)])) := by rw [hM_36, xu_n (by omega)]; exact hm500
  have hm501 : M_36 501 = some (q_1, .inl (G.2 0, 51, .inl (fun _ => 0))) := by rw [hM_36, xu_n (by omega)]; exact hm501
  have hm502 : M_36 502 = some (q_4, .inl (G.2 0, 408, .inl (fun _ => 0))) := by rw [hM_36, xu_n (by omega)]; exact hm502
  have hm503 : M_36 503 = some (q_7, .inl (G.2 0, 408, .inl (fun _ => 0))) := by rw [hM_36, xu_n (by omega)]; exact hm503
  have hm504 : M_36 504 = some (q_10, .inl (G.2 0, 51, .inl (fun k => nI ((fun _ => 0) k)))) := by rw [hM_36, xu_n (by omega)]; exact hm504
  have hm505 : M_36 505 = some (q_13, .inl (G.2 2, 51, .inl (fun _ => 0))) := by rw [hM_36, xu_n (by omega)]; exact hm505
  have hm506 : M_36 506 = some (q_16, .inl (G.2 1, 51, .inr (.inl (fun _ => 0)))) := by rw [hM_36, xu_n (by omega)]; exact hm506
  have hm507 : M_36 507 = some (q_19, .inl (G.2 1, 51, .inr (.inl (fun _ => 0)))) := by rw [hM_36, xu_n (by omega)]; exact hm507
  have hm508 : M_36 508 = some (q_22, .inl (G.2 0, 51, .inl (fun k => nI ((fun _ => 0) k)))) := by rw [hM_36, xu_n (by omega)]; exact hm508
  have hm509 : M_36 509 = some (q_25, .inl (G.2 1, 4, .inr (.inl (fun k => lN ((va_up (va_up (va_up (va_up (fun _ => 0) 0 2520) 1 2520) 2 2520) 3 2520) k))))) := by rw [hM_36, xu_n (by omega)]; exact hm509
  have hm510 : M_36 510 = some (q_32, .inl (G.2 0, 700, .inl (fun k => nI ((fun _ => 0) k)))) := by rw [hM_36, xu_n (by omega)]; exact hm510
  have hm511 : M_36 511 = some (q_35, .inl (G.2 0, 700, .inl (fun k => nI ((fun _ => 0) k)))) := by rw [hM_36]; exact xu_s
  refine x_putF (ci := 7) (v := .ref q_35) (C := RX5) (T := TX5) (N := 23) hx hb hts inX5 tyX5 tyX5_ok nmX5 hown hK hX hS hm500 rfl 14 (by decide) lk_fieldLink_44 (fun _ h9 => h9) rfl hin rfl (tyX5_ok 14 (by decide)) rfl rfl (Nat.le_of_ble_eq_true rfl) dX5_init_116 (fun H locs hX hS => ?_)
  obtain ⟨M_37, hM_37⟩ : ∃ zM : xM, zM = xu M_36 500 (a, .inr (7, [.int (nI 0), .int (nI 0), .ref q_1, .ref q_4, .ref q_7, .ref q_10, .ref q_13, .ref q_16, .ref q_19, .ref q_22, .ref q_25, .int (nI 0), .int (nI 0), .ref q_32, .ref q_35, .null, .null, .int (nI 0), .null, .null, .null, .long (lN 0), .long (lN 0)])) := ⟨_, rfl⟩
  have hX : xw G.1 vwCl A M_37 H := by rw [hM_37]; exact hX
  have hm501 : M_37 501 = some (q_1, .inl (G.2 0, 51, .inl (fun _ => 0))) := by rw [hM_37, xu_n (by omega)]; exact hm501
  have hm502 : M_37 502 = some (q_4, .inl (G.2 0, 408, .inl (fun _ => 0))) := by rw [hM_37, xu_n (by omega)]; exact hm502
  have hm503 : M_37 503 = some (q_7, .inl (G.2 0, 408, .inl (fun _ => 0))) := by rw [hM_37, xu_n (by omega)]; exact hm503
  have hm504 : M_37 504 = some (q_10, .inl (G.2 0, 51, .inl (fun k => nI ((fun _ => 0) k)))) := by rw [hM_37, xu_n (by omega)]; exact hm504
  have hm505 : M_37 505 = some (q_13, .inl (G.2 2, 51, .inl (fun _ => 0))) := by rw [hM_37, xu_n (by omega)]; exact hm505
  have hm506 : M_37 506 = some (q_16, .inl (G.2 1, 51, .inr (.inl (fun _ => 0)))) := by rw [hM_37, xu_n (by omega)]; exact hm506
  have hm507 : M_37 507 = some (q_19, .inl (G.2 1, 51, .inr (.inl (fun _ => 0)))) := by rw [hM_37, xu_n (by omega)]; exact hm507
  have hm508 : M_37 508 = some (q_22, .inl (G.2 0, 51, .inl (fun k => nI ((fun _ => 0) k)))) := by rw [hM_37, xu_n (by omega)]; exact hm508
  have hm509 : M_37 509 = some (q_25, .inl (G.2 1, 4, .inr (.inl (fun k => lN ((va_up (va_up (va_up (va_up (fun _ => 0) 0 2520) 1 2520) 2 2520) 3 2520) k))))) := by rw [hM_37, xu_n (by omega)]; exact hm509
  have hm510 : M_37 510 = some (q_32, .inl (G.2 0, 700, .inl (fun k => nI ((fun _ => 0) k)))) := by rw [hM_37, xu_n (by omega)]; exact hm510
  have hm511 : M_37 511 = some (q_35, .inl (G.2 0, 700, .inl (fun k => nI ((fun _ => 0) k)))) := by rw [hM_37, xu_n (by omega)]; exact hm511
  have hm500 : M_37 500 = some (a, .inr (7, [.int (nI 0), .int (nI 0), .ref q_1, .ref q_4, .ref q_7, .ref q_10, .ref q_13, .ref q_16, .ref q_19, .ref q_22, .ref q_25, .int (nI 0), .int (nI 0), .ref q_32, .ref q_35, .null, .null, .int (nI 0), .null, .null, .null, .long (lN 0), .long (lN 0)])) := by rw [hM_37]; exact xu_s
  refine lv_aload_n hx hb dX5_init_119 rfl (lv_at hl 0 rfl) ?_
  refine lv_sipush (v := nI 700) hx hb dX5_init_120 (by decide) ?_
  refine x_newa (atype := .long) (ty := .long) (k := 1) (N' := 700) (a0 := (700, .inr (.inl (fun k => lN ((fun _ => 0) k))))) hx hb (hts (.arrayClass .long) (by decide +kernel)) rfl (fun _ h => by cases h) hK hX hS hA rfl (fun _ => rfl) rfl (by omega) (Nat.le_of_ble_eq_true rfl) (Nat.le_of_ble_eq_true rfl) (Nat.le_of_ble_eq_true rfl) dX5_init_123 (512) (fun q_38 H hX hS => ?_)
  obtain ⟨M_39, hM_39⟩ : ∃ zM : xM, zM = xu M_37 512 (q_38, .inl (G.2 1, 700, .inr (.inl (fun k => lN ((fun _ => 0) k))))) := ⟨_, rfl⟩
  have hX : xw G.1 vwCl A M_39 H := by rw [hM_39]; exact hX
  have hm500 : M_39 500 = some (a, .inr (7, [.int (nI 0), .int (nI 0), .ref q_1, .ref q_4, .ref q_7, .ref q_10, .ref q_13, .ref q_16, .ref q_19, .ref q_22, .ref q_25, .int (nI 0), .int (nI 0), .ref q_32, .ref q_35, .null, .null, .int (nI 0), .null, .null, .null, .long (lN 0), .long (lN 0)])) := by rw [hM_39, xu_n (by omega)]; exact hm500
  have hm501 : M_39 501 = some (q_1, .inl (G.2 0, 51, .inl (fun _ => 0))) := by rw [hM_39, xu_n (by omega)]; exact hm501
  have hm502 : M_39 502 = some (q_4, .inl (G.2 0, 408, .inl (fun _ => 0))) := by rw [hM_39, xu_n (by omega)]; exact hm502
  have hm503 : M_39 503 = some (q_7, .inl (G.2 0, 408, .inl (fun _ => 0))) := by rw [hM_39, xu_n (by omega)]; exact hm503
  have hm504 : M_39 504 = some (q_10, .inl (G.2 0, 51, .inl (fun k => nI ((fun _ => 0) k)))) := by rw [hM_39, xu_n (by omega)]; exact hm504
  have hm505 : M_39 505 = some (q_13, .inl (G.2 2, 51, .inl (fun _ => 0))) := by rw [hM_39, xu_n (by omega)]; exact hm505
  have hm506 : M_39 506 = some (q_16, .inl (G.2 1, 51, .inr (.inl (fun _ => 0)))) := by rw [hM_39, xu_n (by omega)]; exact hm506
  have hm507 : M_39 507 = some (q_19, .inl (G.2 1, 51, .inr (.inl (fun _ => 0)))) := by rw [hM_39, xu_n (by omega)]; exact hm507
  have hm508 : M_39 508 = some (q_22, .inl (G.2 0, 51, .inl (fun k => nI ((fun _ => 0) k)))) := by rw [hM_39, xu_n (by omega)]; exact hm508
  have hm509 : M_39 509 = some (q_25, .inl (G.2 1, 4, .inr (.inl (fun k => lN ((va_up (va_up (va_up (va_up (fun _ => 0) 0 2520) 1 2520) 2 2520) 3 2520) k))))) := by rw [hM_39, xu_n (by omega)]; exact hm509
  have hm510 : M_39 510 = some (q_32, .inl (G.2 0, 700, .inl (fun k => nI ((fun _ => 0) k)))) := by rw [hM_39, xu_n (by omega)]; exact hm510
  have hm511 : M_39 511 = some (q_35, .inl (G.2 0, 700, .inl (fun k => nI ((fun _ => 0) k)))) := by rw [hM_39, xu_n (by omega)]; exact hm511
  have hm512 : M_39 512 = some (q_38, .inl (G.2 1, 700, .inr (.inl (fun k => lN ((fun _ => 0) k))))) := by rw [hM_39]; exact xu_s
  refine x_putF (ci := 7) (v := .ref q_38) (C := RX5) (T := TX5) (N := 23) hx hb hts inX5 tyX5 tyX5_ok nmX5 hown hK hX hS hm500 rfl 15 (by decide) lk_fieldLink_47 (fun _ h9 => h9) rfl hin rfl (tyX5_ok 15 (by decide)) rfl rfl (Nat.le_of_ble_eq_true rfl) dX5_init_125 (fun H locs hX hS => ?_)
  obtain ⟨M_40, hM_40⟩ : ∃ zM : xM, zM = xu M_39 500 (a, .inr (7, [.int (nI 0), .int (nI 0), .ref q_1, .ref q_4, .ref q_7, .ref q_10, .ref q_13, .ref q_16, .ref q_19, .ref q_22, .ref q_25, .int (nI 0), .int (nI 0), .ref q_32, .ref q_35, .ref q_38, .null, .int (nI 0), .null, .null, .null, .long (lN 0), .long (lN 0)])) := ⟨_, rfl⟩
  have hX : xw G.1 vwCl A M_40 H := by rw [hM_40]; exact hX
  have hm501 : M_40 501 = some (q_1, .inl (G.2 0, 51, .inl (fun _ => 0))) := by rw [hM_40, xu_n (by omega)]; exact hm501
  have hm502 : M_40 502 = some (q_4, .inl (G.2 0, 408, .inl (fun _ => 0))) := by rw [hM_40, xu_n (by omega)]; exact hm502
  have hm503 : M_40 503 = some (q_7, .inl (G.2 0, 408, .inl (fun _ => 0))) := by rw [hM_40, xu_n (by omega)]; exact hm503
  have hm504 : M_40 504 = some (q_10, .inl (G.2 0, 51, .inl (fun k => nI ((fun _ => 0) k)))) := by rw [hM_40, xu_n (by omega)]; exact hm504
  have hm505 : M_40 505 = some (q_13, .inl (G.2 2, 51, .inl (fun _ => 0))) := by rw [hM_40, xu_n (by omega)]; exact hm505
  have hm506 : M_40 506 = some (q_16, .inl (G.2 1, 51, .inr (.inl (fun _ => 0)))) := by rw [hM_40, xu_n (by omega)]; exact hm506
  have hm507 : M_40 507 = some (q_19, .inl (G.2 1, 51, .inr (.inl (fun _ => 0)))) := by rw [hM_40, xu_n (by omega)]; exact hm507
  have hm508 : M_40 508 = some (q_22, .inl (G.2 0, 51, .inl (fun k => nI ((fun _ => 0) k)))) := by rw [hM_40, xu_n (by omega)]; exact hm508
  have hm509 : M_40 509 = some (q_25, .inl (G.2 1, 4, .inr (.inl (fun k => lN ((va_up (va_up (va_up (va_up (fun _ => 0) 0 2520) 1 2520) 2 2520) 3 2520) k))))) := by rw [hM_40, xu_n (by omega)]; exact hm509
  have hm510 : M_40 510 = some (q_32, .inl (G.2 0, 700, .inl (fun k => nI ((fun _ => 0) k)))) := by rw [hM_40, xu_n (by omega)]; exact hm510
  have hm511 : M_40 511 = some (q_35, .inl (G.2 0, 700, .inl (fun k => nI ((fun _ => 0) k)))) := by rw [hM_40, xu_n (by omega)]; exact hm511
  have hm512 : M_40 512 = some (q_38, .inl (G.2 1, 700, .inr (.inl (fun k => lN ((fun _ => 0) k))))) := by rw [hM_40, xu_n (by omega)]; exact hm512
  have hm500 : M_40 500 = some (a, .inr (7, [.int (nI 0), .int (nI 0), .ref q_1, .ref q_4, .ref q_7, .ref q_10, .ref q_13, .ref q_16, .ref q_19, .ref q_22, .ref q_25, .int (nI 0), .int (nI 0), .ref q_32, .ref q_35, .ref q_38, .null, .int (nI 0), .null, .null, .null, .long (lN 0), .long (lN 0)])) := by rw [hM_40]; exact xu_s
  refine lv_aload_n hx hb dX5_init_128 rfl (lv_at hl 0 rfl) ?_
  refine lv_sipush (v := nI 700) hx hb dX5_init_129 (by decide) ?_
  refine x_newa (atype := .long) (ty := .long) (k := 1) (N' := 700) (a0 := (700, .inr (.inl (fun k => lN ((fun _ => 0) k))))) hx hb (hts (.arrayClass .long) (by decide +kernel)) rfl (fun _ h => by cases h) hK hX hS hA rfl (fun _ => rfl) rfl (by omega) (Nat.le_of_ble_eq_true rfl) (Nat.le_of_ble_eq_true rfl) (Nat.le_of_ble_eq_true rfl) dX5_init_132 (513) (fun q_41 H hX hS => ?_)
  obtain ⟨M_42, hM_42⟩ : ∃ zM : xM, zM = xu M_40 513 (q_41, .inl (G.2 1, 700, .inr (.inl (fun k => lN ((fun _ => 0) k))))) := ⟨_, rfl⟩
  have hX : xw G.1 vwCl A M_42 H := by rw [hM_42]; exact hX
  have hm500 : M_42 500 = some (a, .inr (7, [.int (nI 0), .int (nI 0), .ref q_1, .ref q_4, .ref q_7, .ref q_10, .ref q_13, .ref q_16, .ref q_19, .ref q_22, .ref q_25, .int (nI 0), .int (nI 0), .ref q_32, .ref q_35, .ref q_38, .null, .int (nI 0), .null, .null, .null, .long (lN 0), .long (lN 0)])) := by rw [hM_42, xu_n (by omega)]; exact hm500
  have hm501 : M_42 501 = some (q_1, .inl (G.2 0, 51, .inl (fun _ => 0))) := by rw [hM_42, xu_n (by omega)]; exact hm501
  have hm502 : M_42 502 = some (q_4, .inl (G.2 0, 408, .inl (fun _ => 0))) := by rw [hM_42, xu_n (by omega)]; exact hm502
  have hm503 : M_42 503 = some (q_7, .inl (G.2 0, 408, .inl (fun _ => 0))) := by rw [hM_42, xu_n (by omega)]; exact hm503
  have hm504 : M_42 504 = some (q_10, .inl (G.2 0, 51, .inl (fun k => nI ((fun _ => 0) k)))) := by rw [hM_42, xu_n (by omega)]; exact hm504
  have hm505 : M_42 505 = some (q_13, .inl (G.2 2, 51, .inl (fun _ => 0))) := by rw [hM_42, xu_n (by omega)]; exact hm505
  have hm506 : M_42 506 = some (q_16, .inl (G.2 1, 51, .inr (.inl (fun _ => 0)))) := by rw [hM_42, xu_n (by omega)]; exact hm506
  have hm507 : M_42 507 = some (q_19, .inl (G.2 1, 51, .inr (.inl (fun _ => 0)))) := by rw [hM_42, xu_n (by omega)]; exact hm507
  have hm508 : M_42 508 = some (q_22, .inl (G.2 0, 51, .inl (fun k => nI ((fun _ => 0) k)))) := by rw [hM_42, xu_n (by omega)]; exact hm508
  have hm509 : M_42 509 = some (q_25, .inl (G.2 1, 4, .inr (.inl (fun k => lN ((va_up (va_up (va_up (va_up (fun _ => 0) 0 2520) 1 2520) 2 2520) 3 2520) k))))) := by rw [hM_42, xu_n (by omega)]; exact hm509
  have hm510 : M_42 510 = some (q_32, .inl (G.2 0, 700, .inl (fun k => nI ((fun _ => 0) k)))) := by rw [hM_42, xu_n (by omega)]; exact hm510
  have hm511 : M_42 511 = some (q_35, .inl (G.2 0, 700, .inl (fun k => nI ((fun _ => 0) k)))) := by rw [hM_42, xu_n (by omega)]; exact hm511
  have hm512 : M_42 512 = some (q_38, .inl (G.2 1, 700, .inr (.inl (fun k => lN ((fun _ => 0) k))))) := by rw [hM_42, xu_n (by omega)]; exact hm512
  have hm513 : M_42 513 = some (q_41, .inl (G.2 1, 700, .inr (.inl (fun k => lN ((fun _ => 0) k))))) := by rw [hM_42]; exact xu_s
  refine x_putF (ci := 7) (v := .ref q_41) (C := RX5) (T := TX5) (N := 23) hx hb hts inX5 tyX5 tyX5_ok nmX5 hown hK hX hS hm500 rfl 16 (by decide) lk_fieldLink_50 (fun _ h9 => h9) rfl hin rfl (tyX5_ok 16 (by decide)) rfl rfl (Nat.le_of_ble_eq_true rfl) dX5_init_134 (fun H locs hX hS => ?_)
  obtain ⟨M_43, hM_43⟩ : ∃ zM : xM, zM = xu M_42 500 (a, .inr (7, [.int (nI 0), .int (nI 0), .ref q_1, .ref q_4, .ref q_7, .ref q_10, .ref q_13, .ref q_16, .ref q_19, .ref q_22, .ref q_25, .int (nI 0), .int (nI 0), .ref q_32, .ref q_35, .ref q_38, .ref q_41, .int (nI 0), .null, .null, .null, .long (lN 0), .long (lN 0)])) := ⟨_, rfl⟩
  have hX : xw G.1 vwCl A M_43 H := by rw [hM_43]; exact hX
  have hm501 : M_43 501 = some (q_1, .inl (G.2 0, 51, .inl (fun _ => 0))) := by rw [hM_43, xu_n (by omega)]; exact hm501
  have hm502 : M_43 502 = some (q_4, .inl (G.2 0, 408, .inl (fun _ => 0))) := by rw [hM_43, xu_n (by omega)]; exact hm502
  have hm503 : M_43 503 = some (q_7, .inl (G.2 0, 408, .inl (fun _ => 0))) := by rw [hM_43, xu_n (by omega)]; exact hm503
  have hm504 : M_43 504 = some (q_10, .inl (G.2 0, 51, .inl (fun k => nI ((fun _ => 0) k)))) := by rw [hM_43, xu_n (by omega)]; exact hm504
  have hm505 : M_43 505 = some (q_13, .inl (G.2 2, 51, .inl (fun _ => 0))) := by rw [hM_43, xu_n (by omega)]; exact hm505
  have hm506 : M_43 506 = some (q_16, .inl (G.2 1, 51, .inr (.inl (fun _ => 0)))) := by rw [hM_43, xu_n (by omega)]; exact hm506
  have hm507 : M_43 507 = some (q_19, .inl (G.2 1, 51, .inr (.inl (fun _ => 0)))) := by rw [hM_43, xu_n (by omega)]; exact hm507
  have hm508 : M_43 508 = some (q_22, .inl (G.2 0, 51, .inl (fun k => nI ((fun _ => 0) k)))) := by rw [hM_43, xu_n (by omega)]; exact hm508
  have hm509 : M_43 509 = some (q_25, .inl (G.2 1, 4, .inr (.inl (fun k => lN ((va_up (va_up (va_up (va_up (fun _ => 0) 0 2520) 1 2520) 2 2520) 3 2520) k))))) := by rw [hM_43, xu_n (by omega)]; exact hm509
  have hm510 : M_43 510 = some (q_32, .inl (G.2 0, 700, .inl (fun k => nI ((fun _ => 0) k)))) := by rw [hM_43, xu_n (by omega)]; exact hm510
  have hm511 : M_43 511 = some (q_35, .inl (G.2 0, 700, .inl (fun k => nI ((fun _ => 0) k)))) := by rw [hM_43, xu_n (by omega)]; exact hm511
  have hm512 : M_43 512 = some (q_38, .inl (G.2 1, 700, .inr (.inl (fun k => lN ((fun _ => 0) k))))) := by rw [hM_43, xu_n (by omega)]; exact hm512
  have hm513 : M_43 513 = some (q_41, .inl (G.2 1, 700, .inr (.inl (fun k => lN ((fun _ => 0) k))))) := by rw [hM_43, xu_n (by omega)]; exact hm513
  have hm500 : M_43 500 = some (a, .inr (7, [.int (nI 0), .int (nI 0), .ref q_1, .ref q_4, .ref q_7, .ref q_10, .ref q_13, .ref q_16, .ref q_19, .ref q_22, .ref q_25, .int (nI 0), .int (nI 0), .ref q_32, .ref q_35, .ref q_38, .ref q_41, .int (nI 0), .null, .null, .null, .long (lN 0), .long (lN 0)])) := by rw [hM_43]; exact xu_s
  refine lv_aload_n hx hb dX5_init_137 rfl (lv_at hl 0 rfl) ?_
  refine lv_bipush (v := nI 101) hx hb dX5_init_138 (by decide) ?_
  refine x_newa (atype := .int) (ty := .int) (k := 0) (N' := 101) (a0 := (101, .inl (fun k => nI ((fun _ => 0) k)))) hx hb (hts (.arrayClass .int) (by decide +kernel)) rfl (fun _ h => by cases h) hK hX hS hA rfl (fun _ => rfl) rfl (by omega) (Nat.le_of_ble_eq_true rfl) (Nat.le_of_ble_eq_true rfl) (Nat.le_of_ble_eq_true rfl) dX5_init_140 (514) (fun q_44 H hX hS => ?_)
  obtain ⟨M_45, hM_45⟩ : ∃ zM : xM, zM = xu M_43 514 (q_44, .inl (G.2 0, 101, .inl (fun k => nI ((fun _ => 0) k)))) := ⟨_, rfl⟩
  have hX : xw G.1 vwCl A M_45 H := by rw [hM_45]; exact hX
  have hm500 : M_45 500 = some (a, .inr (7, [.int (nI 0), .int (nI 0), .ref q_1, .ref q_4, .ref q_7, .ref q_10, .ref q_13, .ref q_16, .ref q_19, .ref q_22, .ref q_25, .int (nI 0), .int (nI 0), .ref q_32, .ref q_35, .ref q_38, .ref q_41, .int (nI 0), .null, .null, .null, .long (lN 0), .long (lN 0)])) := by rw [hM_45, xu_n (by omega)]; exact hm500
  have hm501 : M_45 501 = some (q_1, .inl (G.2 0, 51, .inl (fun _ => 0))) := by rw [hM_45, xu_n (by omega)]; exact hm501
  have hm502 : M_45 502 = some (q_4, .inl (G.2 0, 408, .inl (fun _ => 0))) := by rw [hM_45, xu_n (by omega)]; exact hm502
  have hm503 : M_45 503 = some (q_7, .inl (G.2 0, 408, .inl (fun _ => 0))) := by rw [hM_45, xu_n (by omega)]; exact hm503
  have hm504 : M_45 504 = some (q_10, .inl (G.2 0, 51, .inl (fun k => nI ((fun _ => 0) k)))) := by rw [hM_45, xu_n (by omega)]; exact hm504
  have hm505 : M_45 505 = some (q_13, .inl (G.2 2, 51, .inl (fun _ => 0))) := by rw [hM_45, xu_n (by omega)]; exact hm505
  have hm506 : M_45 506 = some (q_16, .inl (G.2 1, 51, .inr (.inl (fun _ => 0)))) := by rw [hM_45, xu_n (by omega)]; exact hm506
  have hm507 : M_45 507 = some (q_19, .inl (G.2 1, 51, .inr (.inl (fun _ => 0)))) := by rw [hM_45, xu_n (by omega)]; exact hm507
  have hm508 : M_45 508 = some (q_22, .inl (G.2 0, 51, .inl (fun k => nI ((fun _ => 0) k)))) := by rw [hM_45, xu_n (by omega)]; exact hm508
  have hm509 : M_45 509 = some (q_25, .inl (G.2 1, 4, .inr (.inl (fun k => lN ((va_up (va_up (va_up (va_up (fun _ => 0) 0 2520) 1 2520) 2 2520) 3 2520) k))))) := by rw [hM_45, xu_n (by omega)]; exact hm509
  have hm510 : M_45 510 = some (q_32, .inl (G.2 0, 700, .inl (fun k => nI ((fun _ => 0) k)))) := by rw [hM_45, xu_n (by omega)]; exact hm510
  have hm511 : M_45 511 = some (q_35, .inl (G.2 0, 700, .inl (fun k => nI ((fun _ => 0) k)))) := by rw [hM_45, xu_n (by omega)]; exact hm511
  have hm512 : M_45 512 = some (q_38, .inl (G.2 1, 700, .inr (.inl (fun k => lN ((fun _ => 0) k))))) := by rw [hM_45, xu_n (by omega)]; exact hm512
  have hm513 : M_45 513 = some (q_41, .inl (G.2 1, 700, .inr (.inl (fun k => lN ((fun _ => 0) k))))) := by rw [hM_45, xu_n (by omega)]; exact hm513
  have hm514 : M_45 514 = some (q_44, .inl (G.2 0, 101, .inl (fun k => nI ((fun _ => 0) k)))) := by rw [hM_45]; exact xu_s
  refine x_putF (ci := 7) (v := .ref q_44) (C := RX5) (T := TX5) (N := 23) hx hb hts inX5 tyX5 tyX5_ok nmX5 hown hK hX hS hm500 rfl 18 (by decide) lk_fieldLink_53 (fun _ h9 => h9) rfl hin rfl (tyX5_ok 18 (by decide)) rfl rfl (Nat.le_of_ble_eq_true rfl) dX5_init_142 (fun H locs hX hS => ?_)
  obtain ⟨M_46, hM_46⟩ : ∃ zM : xM, zM = xu M_45 500 (a, .inr (7, [.int (nI 0), .int (nI 0), .ref q_1, .ref q_4, .ref q_7, .ref q_10, .ref q_13, .ref q_16, .ref q_19, .ref q_22, .ref q_25, .int (nI 0), .int (nI 0), .ref q_32, .ref q_35, .ref q_38, .ref q_41, .int (nI 0), .ref q_44, .null, .null, .long (lN 0), .long (lN 0)])) := ⟨_, rfl⟩
  have hX : xw G.1 vwCl A M_46 H := by rw [hM_46]; exact hX
  have hm501 : M_46 501 = some (q_1, .inl (G.2 0, 51, .inl (fun _ => 0))) := by rw [hM_46, xu_n (by omega)]; exact hm501
  have hm502 : M_46 502 = some (q_4, .inl (G.2 0, 408, .inl (fun _ => 0))) := by rw [hM_46, xu_n (by omega)]; exact hm502
  have hm503 : M_46 503 = some (q_7, .inl (G.2 0, 408, .inl (fun _ => 0))) := by rw [hM_46, xu_n (by omega)]; exact hm503
  have hm504 : M_46 504 = some (q_10, .inl (G.2 0, 51, .inl (fun k => nI ((fun _ => 0) k)))) := by rw [hM_46, xu_n (by omega)]; exact hm504
  have hm505 : M_46 505 = some (q_13, .inl (G.2 2, 51, .inl (fun _ => 0))) := by rw [hM_46, xu_n (by omega)]; exact hm505
  have hm506 : M_46 506 = some (q_16, .inl (G.2 1, 51, .inr (.inl (fun _ => 0)))) := by rw [hM_46, xu_n (by omega)]; exact hm506
  have hm507 : M_46 507 = some (q_19, .inl (G.2 1, 51, .inr (.inl (fun _ => 0)))) := by rw [hM_46, xu_n (by omega)]; exact hm507
  have hm508 : M_46 508 = some (q_22, .inl (G.2 0, 51, .inl (fun k => nI ((fun _ => 0) k)))) := by rw [hM_46, xu_n (by omega)]; exact hm508
  have hm509 : M_46 509 = some (q_25, .inl (G.2 1, 4, .inr (.inl (fun k => lN ((va_up (va_up (va_up (va_up (fun _ => 0) 0 2520) 1 2520) 2 2520) 3 2520) k))))) := by rw [hM_46, xu_n (by omega)]; exact hm509
  have hm510 : M_46 510 = some (q_32, .inl (G.2 0, 700, .inl (fun k => nI ((fun _ => 0) k)))) := by rw [hM_46, xu_n (by omega)]; exact hm510
  have hm511 : M_46 511 = some (q_35, .inl (G.2 0, 700, .inl (fun k => nI ((fun _ => 0) k)))) := by rw [hM_46, xu_n (by omega)]; exact hm511
  have hm512 : M_46 512 = some (q_38, .inl (G.2 1, 700, .inr (.inl (fun k => lN ((fun _ => 0) k))))) := by rw [hM_46, xu_n (by omega)]; exact hm512
  have hm513 : M_46 513 = some (q_41, .inl (G.2 1, 700, .inr (.inl (fun k => lN ((fun _ => 0) k))))) := by rw [hM_46, xu_n (by omega)]; exact hm513
  have hm514 : M_46 514 = some (q_44, .inl (G.2 0, 101, .inl (fun k => nI ((fun _ => 0) k)))) := by rw [hM_46, xu_n (by omega)]; exact hm514
  have hm500 : M_46 500 = some (a, .inr (7, [.int (nI 0), .int (nI 0), .ref q_1, .ref q_4, .ref q_7, .ref q_10, .ref q_13, .ref q_16, .ref q_19, .ref q_22, .ref q_25, .int (nI 0), .int (nI 0), .ref q_32, .ref q_35, .ref q_38, .ref q_41, .int (nI 0), .ref q_44, .null, .null, .long (lN 0), .long (lN 0)])) := by rw [hM_46]; exact xu_s
  refine lv_aload_n hx hb dX5_init_145 rfl (lv_at hl 0 rfl) ?_
  refine lv_bipush (v := nI 101) hx hb dX5_init_146 (by decide) ?_
  refine x_newa (atype := .int) (ty := .int) (k := 0) (N' := 101) (a0 := (101, .inl (fun k => nI ((fun _ => 0) k)))) hx hb (hts (.arrayClass .int) (by decide +kernel)) rfl (fun _ h => by cases h) hK hX hS hA rfl (fun _ => rfl) rfl (by omega) (Nat.le_of_ble_eq_true rfl) (Nat.le_of_ble_eq_true rfl) (Nat.le_of_ble_eq_true rfl) dX5_init_148 (515) (fun q_47 H hX hS => ?_)
  obtain ⟨M_48, hM_48⟩ : ∃ zM : xM, zM = xu M_46 515 (q_47, .inl (G.2 0, 101, .inl (fun k => nI ((fun _ => 0) k)))) := ⟨_, rfl⟩
  have hX : xw G.1 vwCl A M_48 H := by rw [hM_48]; exact hX
  have hm500 : M_48 500 = some (a, .inr (7, [.int (nI 0), .int (nI 0), .ref q_1, .ref q_4, .ref q_7, .ref q_10, .ref q_13, .ref q_16, .ref q_19, .ref q_22, .ref q_25, .int (nI 0), .int (nI 0), .ref q_32, .ref q_35, .ref q_38, .ref q_41, .int (nI 0), .ref q_44, .null, .null, .long (lN 0), .long (lN 0)])) := by rw [hM_48, xu_n (by omega)]; exact hm500
  have hm501 : M_48 501 = some (q_1, .inl (G.2 0, 51, .inl (fun _ => 0))) := by rw [hM_48, xu_n (by omega)]; exact hm501
  have hm502 : M_48 502 = some (q_4, .inl (G.2 0, 408, .inl (fun _ => 0))) := by rw [hM_48, xu_n (by omega)]; exact hm502
  have hm503 : M_48 503 = some (q_7, .inl (G.2 0, 408, .inl (fun _ => 0))) := by rw [hM_48, xu_n (by omega)]; exact hm503
  have hm504 : M_48 504 = some (q_10, .inl (G.2 0, 51, .inl (fun k => nI ((fun _ => 0) k)))) := by rw [hM_48, xu_n (by omega)]; exact hm504
  have hm505 : M_48 505 = some (q_13, .inl (G.2 2, 51, .inl (fun _ => 0))) := by rw [hM_48, xu_n (by omega)]; exact hm505
  have hm506 : M_48 506 = some (q_16, .inl (G.2 1, 51, .inr (.inl (fun _ => 0)))) := by rw [hM_48, xu_n (by omega)]; exact hm506
  have hm507 : M_48 507 = some (q_19, .inl (G.2 1, 51, .inr (.inl (fun _ => 0)))) := by rw [hM_48, xu_n (by omega)]; exact hm507
  have hm508 : M_48 508 = some (q_22, .inl (G.2 0, 51, .inl (fun k => nI ((fun _ => 0) k)))) := by rw [hM_48, xu_n (by omega)]; exact hm508
  have hm509 : M_48 509 = some (q_25, .inl (G.2 1, 4, .inr (.inl (fun k => lN ((va_up (va_up (va_up (va_up (fun _ => 0) 0 2520) 1 2520) 2 2520) 3 2520) k))))) := by rw [hM_48, xu_n (by omega)]; exact hm509
  have hm510 : M_48 510 = some (q_32, .inl (G.2 0, 700, .inl (fun k => nI ((fun _ => 0) k)))) := by rw [hM_48, xu_n (by omega)]; exact hm510
  have hm511 : M_48 511 = some (q_35, .inl (G.2 0, 700, .inl (fun k => nI ((fun _ => 0) k)))) := by rw [hM_48, xu_n (by omega)]; exact hm511
  have hm512 : M_48 512 = some (q_38, .inl (G.2 1, 700, .inr (.inl (fun k => lN ((fun _ => 0) k))))) := by rw [hM_48, xu_n (by omega)]; exact hm512
  have hm513 : M_48 513 = some (q_41, .inl (G.2 1, 700, .inr (.inl (fun k => lN ((fun _ => 0) k))))) := by rw [hM_48, xu_n (by omega)]; exact hm513
  have hm514 : M_48 514 = some (q_44, .inl (G.2 0, 101, .inl (fun k => nI ((fun _ => 0) k)))) := by rw [hM_48, xu_n (by omega)]; exact hm514
  have hm515 : M_48 515 = some (q_47, .inl (G.2 0, 101, .inl (fun k => nI ((fun _ => 0) k)))) := by rw [hM_48]; exact xu_s
  refine x_putF (ci := 7) (v := .ref q_47) (C := RX5) (T := TX5) (N := 23) hx hb hts inX5 tyX5 tyX5_ok nmX5 hown hK hX hS hm500 rfl 19 (by decide) lk_fieldLink_56 (fun _ h9 => h9) rfl hin rfl (tyX5_ok 19 (by decide)) rfl rfl (Nat.le_of_ble_eq_true rfl) dX5_init_150 (fun H locs hX hS => ?_)
  obtain ⟨M_49, hM_49⟩ : ∃ zM : xM, zM = xu M_48 500 (a, .inr (7, [.int (nI 0), .int (nI 0), .ref q_1, .ref q_4, .ref q_7, .ref q_10, .ref q_13, .ref q_16, .ref q_19, .ref q_22, .ref q_25, .int (nI 0), .int (nI 0), .ref q_32, .ref q_35, .ref q_38, .ref q_41, .int (nI 0), .ref q_44, .ref q_47, .null, .long (lN 0), .long (lN 0)])) := ⟨_, rfl⟩
  have hX : xw G.1 vwCl A M_49 H := by rw [hM_49]; exact hX
  have hm501 : M_49 501 = some (q_1, .inl (G.2 0, 51, .inl (fun _ => 0))) := by rw [hM_49, xu_n (by omega)]; exact hm501
  have hm502 : M_49 502 = some (q_4, .inl (G.2 0, 408, .inl (fun _ => 0))) := by rw [hM_49, xu_n (by omega)]; exact hm502
  have hm503 : M_49 503 = some (q_7, .inl (G.2 0, 408, .inl (fun _ => 0))) := by rw [hM_49, xu_n (by omega)]; exact hm503
  have hm504 : M_49 504 = some (q_10, .inl (G.2 0, 51, .inl (fun k => nI ((fun _ => 0) k)))) := by rw [hM_49, xu_n (by omega)]; exact hm504
  have hm505 : M_49 505 = some (q_13, .inl (G.2 2, 51, .inl (fun _ => 0))) := by rw [hM_49, xu_n (by omega)]; exact hm505
  have hm506 : M_49 506 = some (q_16, .inl (G.2 1, 51, .inr (.inl (fun _ => 0)))) := by rw [hM_49, xu_n (by omega)]; exact hm506
  have hm507 : M_49 507 = some (q_19, .inl (G.2 1, 51, .inr (.inl (fun _ => 0)))) := by rw [hM_49, xu_n (by omega)]; exact hm507
  have hm508 : M_49 508 = some (q_22, .inl (G.2 0, 51, .inl (fun k => nI ((fun _ => 0) k)))) := by rw [hM_49, xu_n (by omega)]; exact hm508
  have hm509 : M_49 509 = some (q_25, .inl (G.2 1, 4, .inr (.inl (fun k => lN ((va_up (va_up (va_up (va_up (fun _ => 0) 0 2520) 1 2520) 2 2520) 3 2520) k))))) := by rw [hM_49, xu_n (by omega)]; exact hm509
  have hm510 : M_49 510 = some (q_32, .inl (G.2 0, 700, .inl (fun k => nI ((fun _ => 0) k)))) := by rw [hM_49, xu_n (by omega)]; exact hm510
  have hm511 : M_49 511 = some (q_35, .inl (G.2 0, 700, .inl (fun k => nI ((fun _ => 0) k)))) := by rw [hM_49, xu_n (by omega)]; exact hm511
  have hm512 : M_49 512 = some (q_38, .inl (G.2 1, 700, .inr (.inl (fun k => lN ((fun _ => 0) k))))) := by rw [hM_49, xu_n (by omega)]; exact hm512
  have hm513 : M_49 513 = some (q_41, .inl (G.2 1, 700, .inr (.inl (fun k => lN ((fun _ => 0) k))))) := by rw [hM_49, xu_n (by omega)]; exact hm513
  have hm514 : M_49 514 = some (q_44, .inl (G.2 0, 101, .inl (fun k => nI ((fun _ => 0) k)))) := by rw [hM_49, xu_n (by omega)]; exact hm514
  have hm515 : M_49 515 = some (q_47, .inl (G.2 0, 101, .inl (fun k => nI ((fun _ => 0) k)))) := by rw [hM_49, xu_n (by omega)]; exact hm515
  have hm500 : M_49 500 = some (a, .inr (7, [.int (nI 0), .int (nI 0), .ref q_1, .ref q_4, .ref q_7, .ref q_10, .ref q_13, .ref q_16, .ref q_19, .ref q_22, .ref q_25, .int (nI 0), .int (nI 0), .ref q_32, .ref q_35, .ref q_38, .ref q_41, .int (nI 0), .ref q_44, .ref q_47, .null, .long (lN 0), .long (lN 0)])) := by rw [hM_49]; exact xu_s
  refine lv_aload_n hx hb dX5_init_153 rfl (lv_at hl 0 rfl) ?_
  refine lv_sipush (v := nI 700) hx hb dX5_init_154 (by decide) ?_
  refine x_newa (atype := .int) (ty := .int) (k := 0) (N' := 700) (a0 := (700, .inl (fun k => nI ((fun _ => 0) k)))) hx hb (hts (.arrayClass .int) (by decide +kernel)) rfl (fun _ h => by cases h) hK hX hS hA rfl (fun _ => rfl) rfl (by omega) (Nat.le_of_ble_eq_true rfl) (Nat.le_of_ble_eq_true rfl) (Nat.le_of_ble_eq_true rfl) dX5_init_157 (516) (fun q_50 H hX hS => ?_)
  obtain ⟨M_51, hM_51⟩ : ∃ zM : xM, zM = xu M_49 516 (q_50, .inl (G.2 0, 700, .inl (fun k => nI ((fun _ => 0) k)))) := ⟨_, rfl⟩
  have hX : xw G.1 vwCl A M_51 H := by rw [hM_51]; exact hX
  have hm500 : M_51 500 = some (a, .inr (7, [.int (nI 0), .int (nI 0), .ref q_1, .ref q_4, .ref q_7, .ref q_10, .ref q_13, .ref q_16, .ref q_19, .ref q_22, .ref q_25, .int (nI 0), .int (nI 0), .ref q_32, .ref q_35, .ref q_38, .ref q_41, .int (nI 0), .ref q_44, .ref q_47, .null, .long (lN 0), .long (lN 0)])) := by rw [hM_51, xu_n (by omega)]; exact hm500
  have hm501 : M_51 501 = some (q_1, .inl (G.2 0, 51, .inl (fun _ => 0))) := by rw [hM_51, xu_n (by omega)]; exact hm501
  have hm502 : M_51 502 = some (q_4, .inl (G.2 0, 408, .inl (fun _ => 0))) := by rw [hM_51, xu_n (by omega)]; exact hm502
  have hm503 : M_51 503 = some (q_7, .inl (G.2 0, 408, .inl (fun _ => 0))) := by rw [hM_51, xu_n (by omega)]; exact hm503
  have hm504 : M_51 504 = some (q_10, .inl (G.2 0, 51, .inl (fun k => nI ((fun _ => 0) k)))) := by rw [hM_51, xu_n (by omega)]; exact hm504
  have hm505 : M_51 505 = some (q_13, .inl (G.2 2, 51, .inl (fun _ => 0))) := by rw [hM_51, xu_n (by omega)]; exact hm505
  have hm506 : M_51 506 = some (q_16, .inl (G.2 1, 51, .inr (.inl (fun _ => 0)))) := by rw [hM_51, xu_n (by omega)]; exact hm506
  have hm507 : M_51 507 = some (q_19, .inl (G.2 1, 51, .inr (.inl (fun _ => 0)))) := by rw [hM_51, xu_n (by omega)]; exact hm507
  have hm508 : M_51 508 = some (q_22, .inl (G.2 0, 51, .inl (fun k => nI ((fun _ => 0) k)))) := by rw [hM_51, xu_n (by omega)]; exact hm508
  have hm509 : M_51 509 = some (q_25, .inl (G.2 1, 4, .inr (.inl (fun k => lN ((va_up (va_up (va_up (va_up (fun _ => 0) 0 2520) 1 2520) 2 2520) 3 2520) k))))) := by rw [hM_51, xu_n (by omega)]; exact hm509
  have hm510 : M_51 510 = some (q_32, .inl (G.2 0, 700, .inl (fun k => nI ((fun _ => 0) k)))) := by rw [hM_51, xu_n (by omega)]; exact hm510
  have hm511 : M_51 511 = some (q_35, .inl (G.2 0, 700, .inl (fun k => nI ((fun _ => 0) k)))) := by rw [hM_51, xu_n (by omega)]; exact hm511
  have hm512 : M_51 512 = some (q_38, .inl (G.2 1, 700, .inr (.inl (fun k => lN ((fun _ => 0) k))))) := by rw [hM_51, xu_n (by omega)]; exact hm512
  have hm513 : M_51 513 = some (q_41, .inl (G.2 1, 700, .inr (.inl (fun k => lN ((fun _ => 0) k))))) := by rw [hM_51, xu_n (by omega)]; exact hm513
  have hm514 : M_51 514 = some (q_44, .inl (G.2 0, 101, .inl (fun k => nI ((fun _ => 0) k)))) := by rw [hM_51, xu_n (by omega)]; exact hm514
  have hm515 : M_51 515 = some (q_47, .inl (G.2 0, 101, .inl (fun k => nI ((fun _ => 0) k)))) := by rw [hM_51, xu_n (by omega)]; exact hm515
  have hm516 : M_51 516 = some (q_50, .inl (G.2 0, 700, .inl (fun k => nI ((fun _ => 0) k)))) := by rw [hM_51]; exact xu_s
  refine x_putF (ci := 7) (v := .ref q_50) (C := RX5) (T := TX5) (N := 23) hx hb hts inX5 tyX5 tyX5_ok nmX5 hown hK hX hS hm500 rfl 20 (by decide) lk_fieldLink_59 (fun _ h9 => h9) rfl hin rfl (tyX5_ok 20 (by decide)) rfl rfl (Nat.le_of_ble_eq_true rfl) dX5_init_159 (fun H locs hX hS => ?_)
  obtain ⟨M_52, hM_52⟩ : ∃ zM : xM, zM = xu M_51 500 (a, .inr (7, [.int (nI 0), .int (nI 0), .ref q_1, .ref q_4, .ref q_7, .ref q_10, .ref q_13, .ref q_16, .ref q_19, .ref q_22, .ref q_25, .int (nI 0), .int (nI 0), .ref q_32, .ref q_35, .ref q_38, .ref q_41, .int (nI 0), .ref q_44, .ref q_47, .ref q_50, .long (lN 0), .long (lN 0)])) := ⟨_, rfl⟩
  have hX : xw G.1 vwCl A M_52 H := by rw [hM_52]; exact hX
  have hm501 : M_52 501 = some (q_1, .inl (G.2 0, 51, .inl (fun _ => 0))) := by rw [hM_52, xu_n (by omega)]; exact hm501
  have hm502 : M_52 502 = some (q_4, .inl (G.2 0, 408, .inl (fun _ => 0))) := by rw [hM_52, xu_n (by omega)]; exact hm502
  have hm503 : M_52 503 = some (q_7, .inl (G.2 0, 408, .inl (fun _ => 0))) := by rw [hM_52, xu_n (by omega)]; exact hm503
  have hm504 : M_52 504 = some (q_10, .inl (G.2 0, 51, .inl (fun k => nI ((fun _ => 0) k)))) := by rw [hM_52, xu_n (by omega)]; exact hm504
  have hm505 : M_52 505 = some (q_13, .inl (G.2 2, 51, .inl (fun _ => 0))) := by rw [hM_52, xu_n (by omega)]; exact hm505
  have hm506 : M_52 506 = some (q_16, .inl (G.2 1, 51, .inr (.inl (fun _ => 0)))) := by rw [hM_52, xu_n (by omega)]; exact hm506
  have hm507 : M_52 507 = some (q_19, .inl (G.2 1, 51, .inr (.inl (fun _ => 0)))) := by rw [hM_52, xu_n (by omega)]; exact hm507
  have hm508 : M_52 508 = some (q_22, .inl (G.2 0, 51, .inl (fun k => nI ((fun _ => 0) k)))) := by rw [hM_52, xu_n (by omega)]; exact hm508
  have hm509 : M_52 509 = some (q_25, .inl (G.2 1, 4, .inr (.inl (fun k => lN ((va_up (va_up (va_up (va_up (fun _ => 0) 0 2520) 1 2520) 2 2520) 3 2520) k))))) := by rw [hM_52, xu_n (by omega)]; exact hm509
  have hm510 : M_52 510 = some (q_32, .inl (G.2 0, 700, .inl (fun k => nI ((fun _ => 0) k)))) := by rw [hM_52, xu_n (by omega)]; exact hm510
  have hm511 : M_52 511 = some (q_35, .inl (G.2 0, 700, .inl (fun k => nI ((fun _ => 0) k)))) := by rw [hM_52, xu_n (by omega)]; exact hm511
  have hm512 : M_52 512 = some (q_38, .inl (G.2 1, 700, .inr (.inl (fun k => lN ((fun _ => 0) k))))) := by rw [hM_52, xu_n (by omega)]; exact hm512
  have hm513 : M_52 513 = some (q_41, .inl (G.2 1, 700, .inr (.inl (fun k => lN ((fun _ => 0) k))))) := by rw [hM_52, xu_n (by omega)]; exact hm513
  have hm514 : M_52 514 = some (q_44, .inl (G.2 0, 101, .inl (fun k => nI ((fun _ => 0) k)))) := by rw [hM_52, xu_n (by omega)]; exact hm514
  have hm515 : M_52 515 = some (q_47, .inl (G.2 0, 101, .inl (fun k => nI ((fun _ => 0) k)))) := by rw [hM_52, xu_n (by omega)]; exact hm515
  have hm516 : M_52 516 = some (q_50, .inl (G.2 0, 700, .inl (fun k => nI ((fun _ => 0) k)))) := by rw [hM_52, xu_n (by omega)]; exact hm516
  have hm500 : M_52 500 = some (a, .inr (7, [.int (nI 0), .int (nI 0), .ref q_1, .ref q_4, .ref q_7, .ref q_10, .ref q_13, .ref q_16, .ref q_19, .ref q_22, .ref q_25, .int (nI 0), .int (nI 0), .ref q_32, .ref q_35, .ref q_38, .ref q_41, .int (nI 0), .ref q_44, .ref q_47, .ref q_50, .long (lN 0), .long (lN 0)])) := by rw [hM_52]; exact xu_s
  refine W.widen (k := 16) (n := 4842) (by omega) (by omega) ?_
  exact x_vret hx hb hr hlocks hK hA hX hS dX5_init_162 (⟨fun t => if t = 500 then a else if t = 501 then q_1 else if t = 502 then q_4 else if t = 503 then q_7 else if t = 504 then q_10 else if t = 505 then q_13 else if t = 506 then q_16 else if t = 507 then q_19 else if t = 508 then q_22 else if t = 509 then q_25 else if t = 510 then q_32 else if t = 511 then q_35 else if t = 512 then q_38 else if t = 513 then q_41 else if t = 514 then q_44 else if t = 515 then q_47 else if t = 516 then q_50 else 0, rfl, ⟨hm500, hm501, hm502, hm503, hm504, hm505, hm506, hm507, hm508, hm509, hm510, hm511, hm512, hm513, hm514, hm515, hm516⟩, fun t ht => by rw [hM_52, xu_n (by omega), hM_51, xu_n (by omega), hM_49, xu_n (by omega), hM_48, xu_n (by omega), hM_46, xu_n (by omega), hM_45, xu_n (by omega), hM_43, xu_n (by omega), hM_42, xu_n (by omega), hM_40, xu_n (by omega), hM_39, xu_n (by omega), hM_37, xu_n (by omega), hM_36, xu_n (by omega), hM_34, xu_n (by omega), hM_33, xu_n (by omega), hM_31, xu_n (by omega), hM_30, xu_n (by omega), hM_29, xu_n (by omega), hM_28, xu_n (by omega), hM_27, xu_n (by omega), hM_26, xu_n (by omega), hM_24, xu_n (by omega), hM_23, xu_n (by omega), hM_21, xu_n (by omega), hM_20, xu_n (by omega), hM_18, xu_n (by omega), hM_17, xu_n (by omega), hM_15, xu_n (by omega), hM_14, xu_n (by omega), hM_12, xu_n (by omega), hM_11, xu_n (by omega), hM_9, xu_n (by omega), hM_8, xu_n (by omega), hM_6, xu_n (by omega), hM_5, xu_n (by omega), hM_3, xu_n (by omega), hM_2, xu_n (by omega)]⟩)
