abbrev rmX3_init : Room := { frames := 1, cells := 2, slots := 16, locals := 12 }
set_option maxHeartbeats 4000000 in
set_option maxRecDepth 100000 in
/-- Name(side) -/
theorem ctX3_init (l : Launch) (G : xG) (A : Nat → Prop) (M : xM) {t a : Nat} (hcN : M t = some (a, .inr (5, [.int (nI 0), .int (nI 0), .null, .null, .int (nI 0), .int (nI 0), .long (lN 0), .long (lN 0)]))) (p0 : Int32) : Met l yX3_init wsX3_init rmX3_init (va_Pc ([.ref a, .int p0] : List Value) (xPc G A M)) (va_Qv (fun M1 => ∃ q1 q2 : Nat, M1 = xu (xu (xu M (t + 1) (q1, .inl (G.2 0, 8, .inl (fun _ => 0)))) (t + 2) (q2, .inl (G.2 0, 8, .inl (fun _ => 0)))) t (a, .inr (5, [.int p0, .int (nI 0), .ref q1, .ref q2, .int (nI 0), .int (nI 0), .long (lN 0), .long (lN 0)]))) (xPc G A) A) 2 16 A := by
  refine x_met (cc := cX3_init) (maxL := 2) (ret := none) RX3 (by decide) rfl (Nat.le_of_ble_eq_true rfl) rfl ?_
  intro p e s m below meth c hx hb hr hts hown hlocks hml hin hK hA hX ls hl
  have inX3 : ∀ w ∈ wsX30, w ∈ wsX3_init := by decide +kernel
  have lk_methodLink_3 := hts (.methodLink RX3 3 objectInit) (by decide +kernel)
  have lk_fieldLink_9 := hts (.fieldLink RX3 9 "Reconcile$Name" "joined" "Z") (by decide +kernel)
  have lk_fieldLink_15 := hts (.fieldLink RX3 15 "Reconcile$Name" "tokens" "[I") (by decide +kernel)
  have lk_fieldLink_19 := hts (.fieldLink RX3 19 "Reconcile$Name" "kinds" "[I") (by decide +kernel)
  have lk_fieldLink_22 := hts (.fieldLink RX3 22 "Reconcile$Name" "tokenCount" "I") (by decide +kernel)
  have lk_fieldLink_26 := hts (.fieldLink RX3 26 "Reconcile$Name" "dated" "Z") (by decide +kernel)
  have lk_fieldLink_29 := hts (.fieldLink RX3 29 "Reconcile$Name" "firstDay" "J") (by decide +kernel)
  have lk_fieldLink_33 := hts (.fieldLink RX3 33 "Reconcile$Name" "lastDay" "J") (by decide +kernel)
  have lk_fieldLink_36 := hts (.fieldLink RX3 36 "Reconcile$Name" "side" "I") (by decide +kernel)
  have hS : va_S A s.heap s.heap [] := va_S.rf
  have hl : lv_has ls 2 [(0, .ref a), (1, .int p0)] := hl
  refine lv_aload_n hx hb dX3_init_0 rfl (lv_at hl 0 rfl) ?_
  refine W.objInit hx hb hown lk_methodLink_3 (hts (.instanceMethod objectInit) (by decide +kernel)) (hts (.code objectInit ⟨#[0xb1]⟩ 1 none) (List.mem_of_getElem? (i := 3) rfl)) rfl (by rw [hml]; exact hl.1) rfl dX3_init_1 (Nat.le_of_ble_eq_true rfl) (Nat.le_of_ble_eq_true rfl) ?_
  refine W.eq (g2 := F0 m 4 ls []) rfl ?_
  refine lv_aload_n hx hb dX3_init_4 rfl (lv_at hl 0 rfl) ?_
  refine lv_iconst (v := nI 0) hx hb dX3_init_5 (by decide) ?_
  refine x_put (ci := 5) (v := .int (nI 0)) (C := RX3) (T := TX3) (N := 8) hx hb hts inX3 tyX3 tyX3_ok nmX3 hown hK hX hS hcN rfl 1 (by decide) lk_fieldLink_9 (fun _ h9 => h9) rfl (tyX3_ok 1 (by decide)) rfl rfl (Nat.le_of_ble_eq_true rfl) dX3_init_6 (fun H locs hX hS => ?_)
  obtain ⟨M_1, hM_1⟩ : ∃ zM : xM, zM = xu M t (a, .inr (5, [.int (nI 0), .int (nI 0), .null, .null, .int (nI 0), .int (nI 0), .long (lN 0), .long (lN 0)])) := ⟨_, rfl⟩
  have hX : xw G.1 vwCl A M_1 H := by rw [hM_1]; exact hX
  have hcN : M_1 t = some (a, .inr (5, [.int (nI 0), .int (nI 0), .null, .null, .int (nI 0), .int (nI 0), .long (lN 0), .long (lN 0)])) := by rw [hM_1]; exact xu_s
  refine lv_aload_n hx hb dX3_init_9 rfl (lv_at hl 0 rfl) ?_
  refine lv_bipush (v := nI 8) hx hb dX3_init_10 (by decide) ?_
  refine x_newa (atype := .int) (ty := .int) (k := 0) (N' := 8) (a0 := (8, .inl (fun _ => 0))) hx hb (hts (.arrayClass .int) (by decide +kernel)) rfl (fun _ h => by cases h) hK hX hS hA rfl (fun _ => rfl) rfl (by omega) (Nat.le_of_ble_eq_true rfl) (Nat.le_of_ble_eq_true rfl) (Nat.le_of_ble_eq_true rfl) dX3_init_12 (t + 1) (fun q_2 H hX hS => ?_)
  obtain ⟨M_3, hM_3⟩ : ∃ zM : xM, zM = xu M_1 (t + 1) (q_2, .inl (G.2 0, 8, .inl (fun _ => 0))) := ⟨_, rfl⟩
  have hX : xw G.1 vwCl A M_3 H := by rw [hM_3]; exact hX
  have hcN : M_3 t = some (a, .inr (5, [.int (nI 0), .int (nI 0), .null, .null, .int (nI 0), .int (nI 0), .long (lN 0), .long (lN 0)])) := by rw [hM_3, xu_n (by omega)]; exact hcN
  have hcT : M_3 (t + 1) = some (q_2, .inl (G.2 0, 8, .inl (fun _ => 0))) := by rw [hM_3]; exact xu_s
  refine x_putF (ci := 5) (v := .ref q_2) (C := RX3) (T := TX3) (N := 8) hx hb hts inX3 tyX3 tyX3_ok nmX3 hown hK hX hS hcN rfl 2 (by decide) lk_fieldLink_15 (fun _ h9 => h9) rfl hin rfl (tyX3_ok 2 (by decide)) rfl rfl (Nat.le_of_ble_eq_true rfl) dX3_init_14 (fun H locs hX hS => ?_)
  obtain ⟨M_4, hM_4⟩ : ∃ zM : xM, zM = xu M_3 t (a, .inr (5, [.int (nI 0), .int (nI 0), .ref q_2, .null, .int (nI 0), .int (nI 0), .long (lN 0), .long (lN 0)])) := ⟨_, rfl⟩
  have hX : xw G.1 vwCl A M_4 H := by rw [hM_4]; exact hX
  have hcT : M_4 (t + 1) = some (q_2, .inl (G.2 0, 8, .inl (fun _ => 0))) := by rw [hM_4, xu_n (by omega)]; exact hcT
  have hcN : M_4 t = some (a, .inr (5, [.int (nI 0), .int (nI 0), .ref q_2, .null, .int (nI 0), .int (nI 0), .long (lN 0), .long (lN 0)])) := by rw [hM_4]; exact xu_s
  refine lv_aload_n hx hb dX3_init_17 rfl (lv_at hl 0 rfl) ?_
  refine lv_bipush (v := nI 8) hx hb dX3_init_18 (by decide) ?_
  refine x_newa (atype := .int) (ty := .int) (k := 0) (N' := 8) (a0 := (8, .inl (fun _ => 0))) hx hb (hts (.arrayClass .int) (by decide +kernel)) rfl (fun _ h => by cases h) hK hX hS hA rfl (fun _ => rfl) rfl (by omega) (Nat.le_of_ble_eq_true rfl) (Nat.le_of_ble_eq_true rfl) (Nat.le_of_ble_eq_true rfl) dX3_init_20 (t + 2) (fun q_5 H hX hS => ?_)
  obtain ⟨M_6, hM_6⟩ : ∃ zM : xM, zM = xu M_4 (t + 2) (q_5, .inl (G.2 0, 8, .inl (fun _ => 0))) := ⟨_, rfl⟩
  have hX : xw G.1 vwCl A M_6 H := by rw [hM_6]; exact hX
  have hcN : M_6 t = some (a, .inr (5, [.int (nI 0), .int (nI 0), .ref q_2, .null, .int (nI 0), .int (nI 0), .long (lN 0), .long (lN 0)])) := by rw [hM_6, xu_n (by omega)]; exact hcN
  have hcT : M_6 (t + 1) = some (q_2, .inl (G.2 0, 8, .inl (fun _ => 0))) := by rw [hM_6, xu_n (by omega)]; exact hcT
  have hcK : M_6 (t + 2) = some (q_5, .inl (G.2 0, 8, .inl (fun _ => 0))) := by rw [hM_6]; exact xu_s
  refine x_putF (ci := 5) (v := .ref q_5) (C := RX3) (T := TX3) (N := 8) hx hb hts inX3 tyX3 tyX3_ok nmX3 hown hK hX hS hcN rfl 3 (by decide) lk_fieldLink_19 (fun _ h9 => h9) rfl hin rfl (tyX3_ok 3 (by decide)) rfl rfl (Nat.le_of_ble_eq_true rfl) dX3_init_22 (fun H locs hX hS => ?_)
  obtain ⟨M_7, hM_7⟩ : ∃ zM : xM, zM = xu M_6 t (a, .inr (5, [.int (nI 0), .int (nI 0), .ref q_2, .ref q_5, .int (nI 0), .int (nI 0), .long (lN 0), .long (lN 0)])) := ⟨_, rfl⟩
  have hX : xw G.1 vwCl A M_7 H := by rw [hM_7]; exact hX
  have hcT : M_7 (t + 1) = some (q_2, .inl (G.2 0, 8, .inl (fun _ => 0))) := by rw [hM_7, xu_n (by omega)]; exact hcT
  have hcK : M_7 (t + 2) = some (q_5, .inl (G.2 0, 8, .inl (fun _ => 0))) := by rw [hM_7, xu_n (by omega)]; exact hcK
  have hcN : M_7 t = some (a, .inr (5, [.int (nI 0), .int (nI 0), .ref q_2, .ref q_5, .int (nI 0), .int (nI 0), .long (lN 0), .long (lN 0)])) := by rw [hM_7]; exact xu_s
  refine lv_aload_n hx hb dX3_init_25 rfl (lv_at hl 0 rfl) ?_
  refine lv_iconst (v := nI 0) hx hb dX3_init_26 (by decide) ?_
  refine x_put (ci := 5) (v := .int (nI 0)) (C := RX3) (T := TX3) (N := 8) hx hb hts inX3 tyX3 tyX3_ok nmX3 hown hK hX hS hcN rfl 4 (by decide) lk_fieldLink_22 (fun _ h9 => h9) rfl (tyX3_ok 4 (by decide)) rfl rfl (Nat.le_of_ble_eq_true rfl) dX3_init_27 (fun H locs hX hS => ?_)
  obtain ⟨M_8, hM_8⟩ : ∃ zM : xM, zM = xu M_7 t (a, .inr (5, [.int (nI 0), .int (nI 0), .ref q_2, .ref q_5, .int (nI 0), .int (nI 0), .long (lN 0), .long (lN 0)])) := ⟨_, rfl⟩
  have hX : xw G.1 vwCl A M_8 H := by rw [hM_8]; exact hX
  have hcT : M_8 (t + 1) = some (q_2, .inl (G.2 0, 8, .inl (fun _ => 0))) := by rw [hM_8, xu_n (by omega)]; exact hcT
  have hcK : M_8 (t + 2) = some (q_5, .inl (G.2 0, 8, .inl (fun _ => 0))) := by rw [hM_8, xu_n (by omega)]; exact hcK
  have hcN : M_8 t = some (a, .inr (5, [.int (nI 0), .int (nI 0), .ref q_2, .ref q_5, .int (nI 0), .int (nI 0), .long (lN 0), .long (lN 0)])) := by rw [hM_8]; exact xu_s
  refine lv_aload_n hx hb dX3_init_30 rfl (lv_at hl 0 rfl) ?_
  refine lv_iconst (v := nI 0) hx hb dX3_init_31 (by decide) ?_
  refine x_put (ci := 5) (v := .int (nI 0)) (C := RX3) (T := TX3) (N := 8) hx hb hts inX3 tyX3 tyX3_ok nmX3 hown hK hX hS hcN rfl 5 (by decide) lk_fieldLink_26 (fun _ h9 => h9) rfl (tyX3_ok 5 (by decide)) rfl rfl (Nat.le_of_ble_eq_true rfl) dX3_init_32 (fun H locs hX hS => ?_)
  obtain ⟨M_9, hM_9⟩ : ∃ zM : xM, zM = xu M_8 t (a, .inr (5, [.int (nI 0), .int (nI 0), .ref q_2, .ref q_5, .int (nI 0), .int (nI 0), .long (lN 0), .long (lN 0)])) := ⟨_, rfl⟩
  have hX : xw G.1 vwCl A M_9 H := by rw [hM_9]; exact hX
  have hcT : M_9 (t + 1) = some (q_2, .inl (G.2 0, 8, .inl (fun _ => 0))) := by rw [hM_9, xu_n (by omega)]; exact hcT
  have hcK : M_9 (t + 2) = some (q_5, .inl (G.2 0, 8, .inl (fun _ => 0))) := by rw [hM_9, xu_n (by omega)]; exact hcK
  have hcN : M_9 t = some (a, .inr (5, [.int (nI 0), .int (nI 0), .ref q_2, .ref q_5, .int (nI 0), .int (nI 0), .long (lN 0), .long (lN 0)])) := by rw [hM_9]; exact xu_s
  refine lv_aload_n hx hb dX3_init_35 rfl (lv_at hl 0 rfl) ?_
  refine lv_lconst (v := lN 0) hx hb dX3_init_36 rfl ?_
  refine x_put (ci := 5) (v := .long (lN 0)) (C := RX3) (T := TX3) (N := 8) hx hb hts inX3 tyX3 tyX3_ok nmX3 hown hK hX hS hcN rfl 6 (by decide) lk_fieldLink_29 (fun _ h9 => h9) rfl (tyX3_ok 6 (by decide)) rfl rfl (Nat.le_of_ble_eq_true rfl) dX3_init_37 (fun H locs hX hS => ?_)
  obtain ⟨M_10, hM_10⟩ : ∃ zM : xM, zM = xu M_9 t (a, .inr (5, [.int (nI 0), .int (nI 0), .ref q_2, .ref q_5, .int (nI 0), .int (nI 0), .long (lN 0), .long (lN 0)])) := ⟨_, rfl⟩
  have hX : xw G.1 vwCl A M_10 H := by rw [hM_10]; exact hX
  have hcT : M_10 (t + 1) = some (q_2, .inl (G.2 0, 8, .inl (fun _ => 0))) := by rw [hM_10, xu_n (by omega)]; exact hcT
  have hcK : M_10 (t + 2) = some (q_5, .inl (G.2 0, 8, .inl (fun _ => 0))) := by rw [hM_10, xu_n (by omega)]; exact hcK
  have hcN : M_10 t = some (a, .inr (5, [.int (nI 0), .int (nI 0), .ref q_2, .ref q_5, .int (nI 0), .int (nI 0), .long (lN 0), .long (lN 0)])) := by rw [hM_10]; exact xu_s
  refine lv_aload_n hx hb dX3_init_40 rfl (lv_at hl 0 rfl) ?_
  refine lv_lconst (v := lN 0) hx hb dX3_init_41 rfl ?_
  refine x_put (ci := 5) (v := .long (lN 0)) (C := RX3) (T := TX3) (N := 8) hx hb hts inX3 tyX3 tyX3_ok nmX3 hown hK hX hS hcN rfl 7 (by decide) lk_fieldLink_33 (fun _ h9 => h9) rfl (tyX3_ok 7 (by decide)) rfl rfl (Nat.le_of_ble_eq_true rfl) dX3_init_42 (fun H locs hX hS => ?_)
  obtain ⟨M_11, hM_11⟩ : ∃ zM : xM, zM = xu M_10 t (a, .inr (5, [.int (nI 0), .int (nI 0), .ref q_2, .ref q_5, .int (nI 0), .int (nI 0), .long (lN 0), .long (lN 0)])) := ⟨_, rfl⟩
  have hX : xw G.1 vwCl A M_11 H := by rw [hM_11]; exact hX
  have hcT : M_11 (t + 1) = some (q_2, .inl (G.2 0, 8, .inl (fun _ => 0))) := by rw [hM_11, xu_n (by omega)]; exact hcT
  have hcK : M_11 (t + 2) = some (q_5, .inl (G.2 0, 8, .inl (fun _ => 0))) := by rw [hM_11, xu_n (by omega)]; exact hcK
  have hcN : M_11 t = some (a, .inr (5, [.int (nI 0), .int (nI 0), .ref q_2, .ref q_5, .int (nI 0), .int (nI 0), .long (lN 0), .long (lN 0)])) := by rw [hM_11]; exact xu_s
  refine lv_aload_n hx hb dX3_init_45 rfl (lv_at hl 0 rfl) ?_
  refine lv_iload_n hx hb dX3_init_46 rfl (lv_at hl 1 rfl) ?_
  refine x_putF (ci := 5) (v := .int p0) (C := RX3) (T := TX3) (N := 8) hx hb hts inX3 tyX3 tyX3_ok nmX3 hown hK hX hS hcN rfl 0 (by decide) lk_fieldLink_36 (fun _ h9 => h9) rfl hin rfl (tyX3_ok 0 (by decide)) rfl rfl (Nat.le_of_ble_eq_true rfl) dX3_init_47 (fun H locs hX hS => ?_)
  obtain ⟨M_12, hM_12⟩ : ∃ zM : xM, zM = xu M_11 t (a, .inr (5, [.int p0, .int (nI 0), .ref q_2, .ref q_5, .int (nI 0), .int (nI 0), .long (lN 0), .long (lN 0)])) := ⟨_, rfl⟩
  have hX : xw G.1 vwCl A M_12 H := by rw [hM_12]; exact hX
  have hcT : M_12 (t + 1) = some (q_2, .inl (G.2 0, 8, .inl (fun _ => 0))) := by rw [hM_12, xu_n (by omega)]; exact hcT
  have hcK : M_12 (t + 2) = some (q_5, .inl (G.2 0, 8, .inl (fun _ => 0))) := by rw [hM_12, xu_n (by omega)]; exact hcK
  have hcN : M_12 t = some (a, .inr (5, [.int p0, .int (nI 0), .ref q_2, .ref q_5, .int (nI 0), .int (nI 0), .long (lN 0), .long (lN 0)])) := by rw [hM_12]; exact xu_s
  refine W.widen (k := 2) (n := 16) (by omega) (by omega) ?_
  exact x_vret hx hb hr hlocks hK hA hX hS dX3_init_50 (⟨q_2, q_5, by rw [hM_12, hM_11, hM_10, hM_9, hM_8, hM_7, hM_6, hM_4, hM_3, hM_1, x_uc (t := t) (t' := t + 1) (by omega)]; simp only [x_uu]; rw [x_uc (t := t) (t' := t + 2) (by omega)]; simp only [x_uu]⟩)
