/-! Listing -/
theorem upd_n {f : Nat → Nat} {i x : Nat} : upd (fun k => nI (f k)) i (nI x) = fun k => nI (va_up f i x k) := by
  funext j
  by_cases h : j = i
  · subst h; simp [upd, va_up]
  · simp [upd, va_up, h]
theorem updL_n {f : Nat → Nat} {i x : Nat} : vp_updL (fun k => lN (f k)) i (lN x) = fun k => lN (va_up f i x k) := by
  funext j
  by_cases h : j = i
  · subst h; simp [vp_updL, va_up]
  · simp [vp_updL, va_up, h]
def xClr (pr : Nat → Nat) (i : Nat) : Nat → Nat := fun k => if k < i then 0 else pr k
theorem xClr_0 {pr : Nat → Nat} : xClr pr 0 = pr := by funext k; simp [xClr]
theorem xClr_s {pr : Nat → Nat} {i : Nat} : va_up (xClr pr i) i 0 = xClr pr (i + 1) := by
  funext k
  simp only [va_up, xClr]
  by_cases h : k = i
  · rw [if_pos h, if_pos (by omega)]
  · rw [if_neg h]
    by_cases h2 : k < i
    · rw [if_pos h2, if_pos (by omega)]
    · rw [if_neg h2, if_neg (by omega)]
def xScan (P : Nat → Bool) (v : Nat → Int32) (k : Int32) : Nat → Nat → Nat → Int32
  | 0, _, _ => 0
  | f + 1, i, b => if P i then (if nI b = k then v i else xScan P v k f (i + 1) (b + 1)) else xScan P v k f (i + 1) b
theorem xScan_hit {P : Nat → Bool} {v : Nat → Int32} {k : Int32} {f i b : Nat} (h : P i = true) (h2 : nI b = k) (hf : 0 < f) : xScan P v k f i b = v i := by
  obtain ⟨g, rfl⟩ : ∃ g, f = g + 1 := ⟨f - 1, by omega⟩
  simp only [xScan, h, if_true, h2]
theorem xScan_miss {P : Nat → Bool} {v : Nat → Int32} {k : Int32} {f i b : Nat} (h : P i = true) (h2 : ¬ nI b = k) (hf : 0 < f) : xScan P v k f i b = xScan P v k (f - 1) (i + 1) (b + 1) := by
  obtain ⟨g, rfl⟩ : ∃ g, f = g + 1 := ⟨f - 1, by omega⟩
  simp only [xScan, h, if_true, h2, if_false, Nat.add_sub_cancel]
theorem xScan_pass {P : Nat → Bool} {v : Nat → Int32} {k : Int32} {f i b : Nat} (h : P i = false) (hf : 0 < f) : xScan P v k f i b = xScan P v k (f - 1) (i + 1) b := by
  obtain ⟨g, rfl⟩ : ∃ g, f = g + 1 := ⟨f - 1, by omega⟩
  simp only [xScan, h, Bool.false_eq_true, if_false, Nat.add_sub_cancel]
theorem xScan_0 {P : Nat → Bool} {v : Nat → Int32} {k : Int32} {f i b : Nat} (hf : f = 0) : xScan P v k f i b = 0 := by subst hf; rfl
def xGt (ab bl : Nat → Nat) (r o : Nat) : Prop := ab o * bl r < ab r * bl o
def xBest (zs os ab bl od : Nat → Nat) (p n : Nat) : Prop := ∀ q, q < n → ¬ ((zs (od q) = zs (od p) ∨ os (od q) = os (od p)) ∧ xGt ab bl (od q) (od p))
theorem x_mulb {a b : Nat} (ha : a < 1000000000) (hb : b < 1000000000) : a * b < 1000000000000000000 := by
  have h : a * b ≤ 999999999 * 999999999 := Nat.mul_le_mul (by omega) (by omega)
  omega

abbrev rmX2_init : Room := { frames := 1, cells := 7, slots := 3801, locals := 12 }
set_option maxHeartbeats 4000000 in
set_option maxRecDepth 100000 in
/-- Listing() -/
theorem ctX2_init (l : Launch) (G : xG) (A : Nat → Prop) (M : xM) {a4 : Nat} (hcL : M 4 = some (a4, .inr (4, [.int (nI 0), .int (nI 0), .null, .null, .null, .null, .null, .null, .null]))) : Met l yX2_init wsX2_init rmX2_init (va_Pc ([.ref a4] : List Value) (xPc G A M)) (va_Qv (fun M1 => ∃ q6 q7 q8 q9 q10 q11 q12 : Nat, M1 = xu (xu (xu (xu (xu (xu (xu (xu M 6 (q6, .inl (G.2 0, 625, .inl (fun k => nI ((fun _ => 0) k))))) 7 (q7, .inl (G.2 0, 625, .inl (fun k => nI ((fun _ => 0) k))))) 8 (q8, .inl (G.2 1, 625, .inr (.inl (fun k => lN ((fun _ => 0) k)))))) 9 (q9, .inl (G.2 1, 625, .inr (.inl (fun k => lN ((fun _ => 0) k)))))) 10 (q10, .inl (G.2 0, 625, .inl (fun k => nI ((fun _ => 0) k))))) 11 (q11, .inl (G.2 0, 625, .inl (fun k => nI ((fun _ => 0) k))))) 12 (q12, .inl (G.2 2, 51, .inl (fun k => nI ((fun _ => 0) k))))) 4 (a4, .inr (4, [.int (nI 0), .int (nI 0), .ref q6, .ref q7, .ref q8, .ref q9, .ref q10, .ref q11, .ref q12]))) (xPc G A) A) 7 3801 A := by
  refine x_met (cc := cX2_init) (maxL := 1) (ret := none) RX2 (by decide) rfl (Nat.le_of_ble_eq_true rfl) rfl ?_
  intro p e s m below meth c hx hb hr hts hown hlocks hml hin hK hA hX ls hl
  have inX2 : ∀ w ∈ wsX20, w ∈ wsX2_init := by decide +kernel
  have lk_methodLink_3 := hts (.methodLink RX2 3 objectInit) (by decide +kernel)
  have lk_fieldLink_9 := hts (.fieldLink RX2 9 "Reconcile$Listing" "begun" "Z") (by decide +kernel)
  have lk_fieldLink_15 := hts (.fieldLink RX2 15 "Reconcile$Listing" "count" "I") (by decide +kernel)
  have lk_fieldLink_19 := hts (.fieldLink RX2 19 "Reconcile$Listing" "zeros" "[I") (by decide +kernel)
  have lk_fieldLink_23 := hts (.fieldLink RX2 23 "Reconcile$Listing" "ones" "[I") (by decide +kernel)
  have lk_fieldLink_26 := hts (.fieldLink RX2 26 "Reconcile$Listing" "aboves" "[J") (by decide +kernel)
  have lk_fieldLink_30 := hts (.fieldLink RX2 30 "Reconcile$Listing" "belows" "[J") (by decide +kernel)
  have lk_fieldLink_33 := hts (.fieldLink RX2 33 "Reconcile$Listing" "order" "[I") (by decide +kernel)
  have lk_fieldLink_36 := hts (.fieldLink RX2 36 "Reconcile$Listing" "spare" "[I") (by decide +kernel)
  have lk_fieldLink_39 := hts (.fieldLink RX2 39 "Reconcile$Listing" "paired" "[Z") (by decide +kernel)
  have hS : va_S A s.heap s.heap [] := va_S.rf
  have hl : lv_has ls 1 [(0, .ref a4)] := hl
  refine lv_aload_n hx hb dX2_init_0 rfl (lv_at hl 0 rfl) ?_
  refine W.objInit hx hb hown lk_methodLink_3 (hts (.instanceMethod objectInit) (by decide +kernel)) (hts (.code objectInit ⟨#[0xb1]⟩ 1 none) (List.mem_of_getElem? (i := 3) rfl)) rfl (by rw [hml]; exact hl.1) rfl dX2_init_1 (Nat.le_of_ble_eq_true rfl) (Nat.le_of_ble_eq_true rfl) ?_
  refine W.eq (g2 := F0 m 4 ls []) rfl ?_
  refine lv_aload_n hx hb dX2_init_4 rfl (lv_at hl 0 rfl) ?_
  refine lv_iconst (v := nI 0) hx hb dX2_init_5 (by decide) ?_
  refine x_put (ci := 4) (v := .int (nI 0)) (C := RX2) (T := TX2) (N := 9) hx hb hts inX2 tyX2 tyX2_ok nmX2 hown hK hX hS hcL rfl 0 (by decide) lk_fieldLink_9 (fun _ h9 => h9) rfl (tyX2_ok 0 (by decide)) rfl rfl (Nat.le_of_ble_eq_true rfl) dX2_init_6 (fun H locs hX hS => ?_)
  obtain ⟨M_1, hM_1⟩ : ∃ zM : xM, zM = xu M 4 (a4, .inr (4, [.int (nI 0), .int (nI 0), .null, .null, .null, .null, .null, .null, .null])) := ⟨_, rfl⟩
  have hX : xw G.1 vwCl A M_1 H := by rw [hM_1]; exact hX
  have hcL : M_1 4 = some (a4, .inr (4, [.int (nI 0), .int (nI 0), .null, .null, .null, .null, .null, .null, .null])) := by rw [hM_1]; exact xu_s
  refine lv_aload_n hx hb dX2_init_9 rfl (lv_at hl 0 rfl) ?_
  refine lv_iconst (v := nI 0) hx hb dX2_init_10 (by decide) ?_
  refine x_put (ci := 4) (v := .int (nI 0)) (C := RX2) (T := TX2) (N := 9) hx hb hts inX2 tyX2 tyX2_ok nmX2 hown hK hX hS hcL rfl 1 (by decide) lk_fieldLink_15 (fun _ h9 => h9) rfl (tyX2_ok 1 (by decide)) rfl rfl (Nat.le_of_ble_eq_true rfl) dX2_init_11 (fun H locs hX hS => ?_)
  obtain ⟨M_2, hM_2⟩ : ∃ zM : xM, zM = xu M_1 4 (a4, .inr (4, [.int (nI 0), .int (nI 0), .null, .null, .null, .null, .null, .null, .null])) := ⟨_, rfl⟩
  have hX : xw G.1 vwCl A M_2 H := by rw [hM_2]; exact hX
  have hcL : M_2 4 = some (a4, .inr (4, [.int (nI 0), .int (nI 0), .null, .null, .null, .null, .null, .null, .null])) := by rw [hM_2]; exact xu_s
  refine lv_aload_n hx hb dX2_init_14 rfl (lv_at hl 0 rfl) ?_
  refine lv_sipush (v := nI 625) hx hb dX2_init_15 (by decide) ?_
  refine x_newa (atype := .int) (ty := .int) (k := 0) (N' := 625) (a0 := (625, .inl (fun k => nI ((fun _ => 0) k)))) hx hb (hts (.arrayClass .int) (by decide +kernel)) rfl (fun _ h => by cases h) hK hX hS hA rfl (fun _ => rfl) rfl (by omega) (Nat.le_of_ble_eq_true rfl) (Nat.le_of_ble_eq_true rfl) (Nat.le_of_ble_eq_true rfl) dX2_init_18 (6) (fun q_3 H hX hS => ?_)
  obtain ⟨M_4, hM_4⟩ : ∃ zM : xM, zM = xu M_2 6 (q_3, .inl (G.2 0, 625, .inl (fun k => nI ((fun _ => 0) k)))) := ⟨_, rfl⟩
  have hX : xw G.1 vwCl A M_4 H := by rw [hM_4]; exact hX
  have hcL : M_4 4 = some (a4, .inr (4, [.int (nI 0), .int (nI 0), .null, .null, .null, .null, .null, .null, .null])) := by rw [hM_4, xu_n (by omega)]; exact hcL
  have hc6 : M_4 6 = some (q_3, .inl (G.2 0, 625, .inl (fun k => nI ((fun _ => 0) k)))) := by rw [hM_4]; exact xu_s
  refine x_putF (ci := 4) (v := .ref q_3) (C := RX2) (T := TX2) (N := 9) hx hb hts inX2 tyX2 tyX2_ok nmX2 hown hK hX hS hcL rfl 2 (by decide) lk_fieldLink_19 (fun _ h9 => h9) rfl hin rfl (tyX2_ok 2 (by decide)) rfl rfl (Nat.le_of_ble_eq_true rfl) dX2_init_20 (fun H locs hX hS => ?_)
  obtain ⟨M_5, hM_5⟩ : ∃ zM : xM, zM = xu M_4 4 (a4, .inr (4, [.int (nI 0), .int (nI 0), .ref q_3, .null, .null, .null, .null, .null, .null])) := ⟨_, rfl⟩
  have hX : xw G.1 vwCl A M_5 H := by rw [hM_5]; exact hX
  have hc6 : M_5 6 = some (q_3, .inl (G.2 0, 625, .inl (fun k => nI ((fun _ => 0) k)))) := by rw [hM_5, xu_n (by omega)]; exact hc6
  have hcL : M_5 4 = some (a4, .inr (4, [.int (nI 0), .int (nI 0), .ref q_3, .null, .null, .null, .null, .null, .null])) := by rw [hM_5]; exact xu_s
  refine lv_aload_n hx hb dX2_init_23 rfl (lv_at hl 0 rfl) ?_
  refine lv_sipush (v := nI 625) hx hb dX2_init_24 (by decide) ?_
  refine x_newa (atype := .int) (ty := .int) (k := 0) (N' := 625) (a0 := (625, .inl (fun k => nI ((fun _ => 0) k)))) hx hb (hts (.arrayClass .int) (by decide +kernel)) rfl (fun _ h => by cases h) hK hX hS hA rfl (fun _ => rfl) rfl (by omega) (Nat.le_of_ble_eq_true rfl) (Nat.le_of_ble_eq_true rfl) (Nat.le_of_ble_eq_true rfl) dX2_init_27 (7) (fun q_6 H hX hS => ?_)
  obtain ⟨M_7, hM_7⟩ : ∃ zM : xM, zM = xu M_5 7 (q_6, .inl (G.2 0, 625, .inl (fun k => nI ((fun _ => 0) k)))) := ⟨_, rfl⟩
  have hX : xw G.1 vwCl A M_7 H := by rw [hM_7]; exact hX
  have hcL : M_7 4 = some (a4, .inr (4, [.int (nI 0), .int (nI 0), .ref q_3, .null, .null, .null, .null, .null, .null])) := by rw [hM_7, xu_n (by omega)]; exact hcL
  have hc6 : M_7 6 = some (q_3, .inl (G.2 0, 625, .inl (fun k => nI ((fun _ => 0) k)))) := by rw [hM_7, xu_n (by omega)]; exact hc6
  have hc7 : M_7 7 = some (q_6, .inl (G.2 0, 625, .inl (fun k => nI ((fun _ => 0) k)))) := by rw [hM_7]; exact xu_s
  refine x_putF (ci := 4) (v := .ref q_6) (C := RX2) (T := TX2) (N := 9) hx hb hts inX2 tyX2 tyX2_ok nmX2 hown hK hX hS hcL rfl 3 (by decide) lk_fieldLink_23 (fun _ h9 => h9) rfl hin rfl (tyX2_ok 3 (by decide)) rfl rfl (Nat.le_of_ble_eq_true rfl) dX2_init_29 (fun H locs hX hS => ?_)
  obtain ⟨M_8, hM_8⟩ : ∃ zM : xM, zM = xu M_7 4 (a4, .inr (4, [.int (nI 0), .int (nI 0), .ref q_3, .ref q_6, .null, .null, .null, .null, .null])) := ⟨_, rfl⟩
  have hX : xw G.1 vwCl A M_8 H := by rw [hM_8]; exact hX
  have hc6 : M_8 6 = some (q_3, .inl (G.2 0, 625, .inl (fun k => nI ((fun _ => 0) k)))) := by rw [hM_8, xu_n (by omega)]; exact hc6
  have hc7 : M_8 7 = some (q_6, .inl (G.2 0, 625, .inl (fun k => nI ((fun _ => 0) k)))) := by rw [hM_8, xu_n (by omega)]; exact hc7
  have hcL : M_8 4 = some (a4, .inr (4, [.int (nI 0), .int (nI 0), .ref q_3, .ref q_6, .null, .null, .null, .null, .null])) := by rw [hM_8]; exact xu_s
  refine lv_aload_n hx hb dX2_init_32 rfl (lv_at hl 0 rfl) ?_
  refine lv_sipush (v := nI 625) hx hb dX2_init_33 (by decide) ?_
  refine x_newa (atype := .long) (ty := .long) (k := 1) (N' := 625) (a0 := (625, .inr (.inl (fun k => lN ((fun _ => 0) k))))) hx hb (hts (.arrayClass .long) (by decide +kernel)) rfl (fun _ h => by cases h) hK hX hS hA rfl (fun _ => rfl) rfl (by omega) (Nat.le_of_ble_eq_true rfl) (Nat.le_of_ble_eq_true rfl) (Nat.le_of_ble_eq_true rfl) dX2_init_36 (8) (fun q_9 H hX hS => ?_)
  obtain ⟨M_10, hM_10⟩ : ∃ zM : xM, zM = xu M_8 8 (q_9, .inl (G.2 1, 625, .inr (.inl (fun k => lN ((fun _ => 0) k))))) := ⟨_, rfl⟩
  have hX : xw G.1 vwCl A M_10 H := by rw [hM_10]; exact hX
  have hcL : M_10 4 = some (a4, .inr (4, [.int (nI 0), .int (nI 0), .ref q_3, .ref q_6, .null, .null, .null, .null, .null])) := by rw [hM_10, xu_n (by omega)]; exact hcL
  have hc6 : M_10 6 = some (q_3, .inl (G.2 0, 625, .inl (fun k => nI ((fun _ => 0) k)))) := by rw [hM_10, xu_n (by omega)]; exact hc6
  have hc7 : M_10 7 = some (q_6, .inl (G.2 0, 625, .inl (fun k => nI ((fun _ => 0) k)))) := by rw [hM_10, xu_n (by omega)]; exact hc7
  have hc8 : M_10 8 = some (q_9, .inl (G.2 1, 625, .inr (.inl (fun k => lN ((fun _ => 0) k))))) := by rw [hM_10]; exact xu_s
  refine x_putF (ci := 4) (v := .ref q_9) (C := RX2) (T := TX2) (N := 9) hx hb hts inX2 tyX2 tyX2_ok nmX2 hown hK hX hS hcL rfl 4 (by decide) lk_fieldLink_26 (fun _ h9 => h9) rfl hin rfl (tyX2_ok 4 (by decide)) rfl rfl (Nat.le_of_ble_eq_true rfl) dX2_init_38 (fun H locs hX hS => ?_)
  obtain ⟨M_11, hM_11⟩ : ∃ zM : xM, zM = xu M_10 4 (a4, .inr (4, [.int (nI 0), .int (nI 0), .ref q_3, .ref q_6, .ref q_9, .null, .null, .null, .null])) := ⟨_, rfl⟩
  have hX : xw G.1 vwCl A M_11 H := by rw [hM_11]; exact hX
  have hc6 : M_11 6 = some (q_3, .inl (G.2 0, 625, .inl (fun k => nI ((fun _ => 0) k)))) := by rw [hM_11, xu_n (by omega)]; exact hc6
  have hc7 : M_11 7 = some (q_6, .inl (G.2 0, 625, .inl (fun k => nI ((fun _ => 0) k)))) := by rw [hM_11, xu_n (by omega)]; exact hc7
  have hc8 : M_11 8 = some (q_9, .inl (G.2 1, 625, .inr (.inl (fun k => lN ((fun _ => 0) k))))) := by rw [hM_11, xu_n (by omega)]; exact hc8
  have hcL : M_11 4 = some (a4, .inr (4, [.int (nI 0), .int (nI 0), .ref q_3, .ref q_6, .ref q_9, .null, .null, .null, .null])) := by rw [hM_11]; exact xu_s
  refine lv_aload_n hx hb dX2_init_41 rfl (lv_at hl 0 rfl) ?_
  refine lv_sipush (v := nI 625) hx hb dX2_init_42 (by decide) ?_
  refine x_newa (atype := .long) (ty := .long) (k := 1) (N' := 625) (a0 := (625, .inr (.inl (fun k => lN ((fun _ => 0) k))))) hx hb (hts (.arrayClass .long) (by decide +kernel)) rfl (fun _ h => by cases h) hK hX hS hA rfl (fun _ => rfl) rfl (by omega) (Nat.le_of_ble_eq_true rfl) (Nat.le_of_ble_eq_true rfl) (Nat.le_of_ble_eq_true rfl) dX2_init_45 (9) (fun q_12 H hX hS => ?_)
  obtain ⟨M_13, hM_13⟩ : ∃ zM : xM, zM = xu M_11 9 (q_12, .inl (G.2 1, 625, .inr (.inl (fun k => lN ((fun _ => 0) k))))) := ⟨_, rfl⟩
  have hX : xw G.1 vwCl A M_13 H := by rw [hM_13]; exact hX
  have hcL : M_13 4 = some (a4, .inr (4, [.int (nI 0), .int (nI 0), .ref q_3, .ref q_6, .ref q_9, .null, .null, .null, .null])) := by rw [hM_13, xu_n (by omega)]; exact hcL
  have hc6 : M_13 6 = some (q_3, .inl (G.2 0, 625, .inl (fun k => nI ((fun _ => 0) k)))) := by rw [hM_13, xu_n (by omega)]; exact hc6
  have hc7 : M_13 7 = some (q_6, .inl (G.2 0, 625, .inl (fun k => nI ((fun _ => 0) k)))) := by rw [hM_13, xu_n (by omega)]; exact hc7
  have hc8 : M_13 8 = some (q_9, .inl (G.2 1, 625, .inr (.inl (fun k => lN ((fun _ => 0) k))))) := by rw [hM_13, xu_n (by omega)]; exact hc8
  have hc9 : M_13 9 = some (q_12, .inl (G.2 1, 625, .inr (.inl (fun k => lN ((fun _ => 0) k))))) := by rw [hM_13]; exact xu_s
  refine x_putF (ci := 4) (v := .ref q_12) (C := RX2) (T := TX2) (N := 9) hx hb hts inX2 tyX2 tyX2_ok nmX2 hown hK hX hS hcL rfl 5 (by decide) lk_fieldLink_30 (fun _ h9 => h9) rfl hin rfl (tyX2_ok 5 (by decide)) rfl rfl (Nat.le_of_ble_eq_true rfl) dX2_init_47 (fun H locs hX hS => ?_)
  obtain ⟨M_14, hM_14⟩ : ∃ zM : xM, zM = xu M_13 4 (a4, .inr (4, [.int (nI 0), .int (nI 0), .ref q_3, .ref q_6, .ref q_9, .ref q_12, .null, .null, .null])) := ⟨_, rfl⟩
  have hX : xw G.1 vwCl A M_14 H := by rw [hM_14]; exact hX
  have hc6 : M_14 6 = some (q_3, .inl (G.2 0, 625, .inl (fun k => nI ((fun _ => 0) k)))) := by rw [hM_14, xu_n (by omega)]; exact hc6
  have hc7 : M_14 7 = some (q_6, .inl (G.2 0, 625, .inl (fun k => nI ((fun _ => 0) k)))) := by rw [hM_14, xu_n (by omega)]; exact hc7
  have hc8 : M_14 8 = some (q_9, .inl (G.2 1, 625, .inr (.inl (fun k => lN ((fun _ => 0) k))))) := by rw [hM_14, xu_n (by omega)]; exact hc8
  have hc9 : M_14 9 = some (q_12, .inl (G.2 1, 625, .inr (.inl (fun k => lN ((fun _ => 0) k))))) := by rw [hM_14, xu_n (by omega)]; exact hc9
  have hcL : M_14 4 = some (a4, .inr (4, [.int (nI 0), .int (nI 0), .ref q_3, .ref q_6, .ref q_9, .ref q_12, .null, .null, .null])) := by rw [hM_14]; exact xu_s
  refine lv_aload_n hx hb dX2_init_50 rfl (lv_at hl 0 rfl) ?_
  refine lv_sipush (v := nI 625) hx hb dX2_init_51 (by decide) ?_
  refine x_newa (atype := .int) (ty := .int) (k := 0) (N' := 625) (a0 := (625, .inl (fun k => nI ((fun _ => 0) k)))) hx hb (hts (.arrayClass .int) (by decide +kernel)) rfl (fun _ h => by cases h) hK hX hS hA rfl (fun _ => rfl) rfl (by omega) (Nat.le_of_ble_eq_true rfl) (Nat.le_of_ble_eq_true rfl) (Nat.le_of_ble_eq_true rfl) dX2_init_54 (10) (fun q_15 H hX hS => ?_)
  obtain ⟨M_16, hM_16⟩ : ∃ zM : xM, zM = xu M_14 10 (q_15, .inl (G.2 0, 625, .inl (fun k => nI ((fun _ => 0) k)))) := ⟨_, rfl⟩
  have hX : xw G.1 vwCl A M_16 H := by rw [hM_16]; exact hX
  have hcL : M_16 4 = some (a4, .inr (4, [.int (nI 0), .int (nI 0), .ref q_3, .ref q_6, .ref q_9, .ref q_12, .null, .null, .null])) := by rw [hM_16, xu_n (by omega)]; exact hcL
  have hc6 : M_16 6 = some (q_3, .inl (G.2 0, 625, .inl (fun k => nI ((fun _ => 0) k)))) := by rw [hM_16, xu_n (by omega)]; exact hc6
  have hc7 : M_16 7 = some (q_6, .inl (G.2 0, 625, .inl (fun k => nI ((fun _ => 0) k)))) := by rw [hM_16, xu_n (by omega)]; exact hc7
  have hc8 : M_16 8 = some (q_9, .inl (G.2 1, 625, .inr (.inl (fun k => lN ((fun _ => 0) k))))) := by rw [hM_16, xu_n (by omega)]; exact hc8
  have hc9 : M_16 9 = some (q_12, .inl (G.2 1, 625, .inr (.inl (fun k => lN ((fun _ => 0) k))))) := by rw [hM_16, xu_n (by omega)]; exact hc9
  have hc10 : M_16 10 = some (q_15, .inl (G.2 0, 625, .inl (fun k => nI ((fun _ => 0) k)))) := by rw [hM_16]; exact xu_s
  refine x_putF (ci := 4) (v := .ref q_15) (C := RX2) (T := TX2) (N := 9) hx hb hts inX2 tyX2 tyX2_ok nmX2 hown hK hX hS hcL rfl 6 (by decide) lk_fieldLink_33 (fun _ h9 => h9) rfl hin rfl (tyX2_ok 6 (by decide)) rfl rfl (Nat.le_of_ble_eq_true rfl) dX2_init_56 (fun H locs hX hS => ?_)
  obtain ⟨M_17, hM_17⟩ : ∃ zM : xM, zM = xu M_16 4 (a4, .inr (4, [.int (nI 0), .int (nI 0), .ref q_3, .ref q_6, .ref q_9, .ref q_12, .ref q_15, .null, .null])) := ⟨_, rfl⟩
  have hX : xw G.1 vwCl A M_17 H := by rw [hM_17]; exact hX
  have hc6 : M_17 6 = some (q_3, .inl (G.2 0, 625, .inl (fun k => nI ((fun _ => 0) k)))) := by rw [hM_17, xu_n (by omega)]; exact hc6
  have hc7 : M_17 7 = some (q_6, .inl (G.2 0, 625, .inl (fun k => nI ((fun _ => 0) k)))) := by rw [hM_17, xu_n (by omega)]; exact hc7
  have hc8 : M_17 8 = some (q_9, .inl (G.2 1, 625, .inr (.inl (fun k => lN ((fun _ => 0) k))))) := by rw [hM_17, xu_n (by omega)]; exact hc8
  have hc9 : M_17 9 = some (q_12, .inl (G.2 1, 625, .inr (.inl (fun k => lN ((fun _ => 0) k))))) := by rw [hM_17, xu_n (by omega)]; exact hc9
  have hc10 : M_17 10 = some (q_15, .inl (G.2 0, 625, .inl (fun k => nI ((fun _ => 0) k)))) := by rw [hM_17, xu_n (by omega)]; exact hc10
  have hcL : M_17 4 = some (a4, .inr (4, [.int (nI 0), .int (nI 0), .ref q_3, .ref q_6, .ref q_9, .ref q_12, .ref q_15, .null, .null])) := by rw [hM_17]; exact xu_s
  refine lv_aload_n hx hb dX2_init_59 rfl (lv_at hl 0 rfl) ?_
  refine lv_sipush (v := nI 625) hx hb dX2_init_60 (by decide) ?_
  refine x_newa (atype := .int) (ty := .int) (k := 0) (N' := 625) (a0 := (625, .inl (fun k => nI ((fun _ => 0) k)))) hx hb (hts (.arrayClass .int) (by decide +kernel)) rfl (fun _ h => by cases h) hK hX hS hA rfl (fun _ => rfl) rfl (by omega) (Nat.le_of_ble_eq_true rfl) (Nat.le_of_ble_eq_true rfl) (Nat.le_of_ble_eq_true rfl) dX2_init_63 (11) (fun q_18 H hX hS => ?_)
  obtain ⟨M_19, hM_19⟩ : ∃ zM : xM, zM = xu M_17 11 (q_18, .inl (G.2 0, 625, .inl (fun k => nI ((fun _ => 0) k)))) := ⟨_, rfl⟩
  have hX : xw G.1 vwCl A M_19 H := by rw [hM_19]; exact hX
  have hcL : M_19 4 = some (a4, .inr (4, [.int (nI 0), .int (nI 0), .ref q_3, .ref q_6, .ref q_9, .ref q_12, .ref q_15, .null, .null])) := by rw [hM_19, xu_n (by omega)]; exact hcL
  have hc6 : M_19 6 = some (q_3, .inl (G.2 0, 625, .inl (fun k => nI ((fun _ => 0) k)))) := by rw [hM_19, xu_n (by omega)]; exact hc6
  have hc7 : M_19 7 = some (q_6, .inl (G.2 0, 625, .inl (fun k => nI ((fun _ => 0) k)))) := by rw [hM_19, xu_n (by omega)]; exact hc7
  have hc8 : M_19 8 = some (q_9, .inl (G.2 1, 625, .inr (.inl (fun k => lN ((fun _ => 0) k))))) := by rw [hM_19, xu_n (by omega)]; exact hc8
  have hc9 : M_19 9 = some (q_12, .inl (G.2 1, 625, .inr (.inl (fun k => lN ((fun _ => 0) k))))) := by rw [hM_19, xu_n (by omega)]; exact hc9
  have hc10 : M_19 10 = some (q_15, .inl (G.2 0, 625, .inl (fun k => nI ((fun _ => 0) k)))) := by rw [hM_19, xu_n (by omega)]; exact hc10
  have hc11 : M_19 11 = some (q_18, .inl (G.2 0, 625, .inl (fun k => nI ((fun _ => 0) k)))) := by rw [hM_19]; exact xu_s
  refine x_putF (ci := 4) (v := .ref q_18) (C := RX2) (T := TX2) (N := 9) hx hb hts inX2 tyX2 tyX2_ok nmX2 hown hK hX hS hcL rfl 7 (by decide) lk_fieldLink_36 (fun _ h9 => h9) rfl hin rfl (tyX2_ok 7 (by decide)) rfl rfl (Nat.le_of_ble_eq_true rfl) dX2_init_65 (fun H locs hX hS => ?_)
  obtain ⟨M_20, hM_20⟩ : ∃ zM : xM, zM = xu M_19 4 (a4, .inr (4, [.int (nI 0), .int (nI 0), .ref q_3, .ref q_6, .ref q_9, .ref q_12, .ref q_15, .ref q_18, .null])) := ⟨_, rfl⟩
  have hX : xw G.1 vwCl A M_20 H := by rw [hM_20]; exact hX
  have hc6 : M_20 6 = some (q_3, .inl (G.2 0, 625, .inl (fun k => nI ((fun _ => 0) k)))) := by rw [hM_20, xu_n (by omega)]; exact hc6
  have hc7 : M_20 7 = some (q_6, .inl (G.2 0, 625, .inl (fun k => nI ((fun _ => 0) k)))) := by rw [hM_20, xu_n (by omega)]; exact hc7
  have hc8 : M_20 8 = some (q_9, .inl (G.2 1, 625, .inr (.inl (fun k => lN ((fun _ => 0) k))))) := by rw [hM_20, xu_n (by omega)]; exact hc8
  have hc9 : M_20 9 = some (q_12, .inl (G.2 1, 625, .inr (.inl (fun k => lN ((fun _ => 0) k))))) := by rw [hM_20, xu_n (by omega)]; exact hc9
  have hc10 : M_20 10 = some (q_15, .inl (G.2 0, 625, .inl (fun k => nI ((fun _ => 0) k)))) := by rw [hM_20, xu_n (by omega)]; exact hc10
  have hc11 : M_20 11 = some (q_18, .inl (G.2 0, 625, .inl (fun k => nI ((fun _ => 0) k)))) := by rw [hM_20, xu_n (by omega)]; exact hc11
  have hcL : M_20 4 = some (a4, .inr (4, [.int (nI 0), .int (nI 0), .ref q_3, .ref q_6, .ref q_9, .ref q_12, .ref q_15, .ref q_18, .null])) := by rw [hM_20]; exact xu_s
  refine lv_aload_n hx hb dX2_init_68 rfl (lv_at hl 0 rfl) ?_
  refine lv_bipush (v := nI 51) hx hb dX2_init_69 (by decide) ?_
  refine x_newa (atype := .boolean) (ty := .boolean) (k := 2) (N' := 51) (a0 := (51, .inl (fun k => nI ((fun _ => 0) k)))) hx hb (hts (.arrayClass .boolean) (by decide +kernel)) rfl (fun _ h => by cases h) hK hX hS hA rfl (fun _ => rfl) rfl (by omega) (Nat.le_of_ble_eq_true rfl) (Nat.le_of_ble_eq_true rfl) (Nat.le_of_ble_eq_true rfl) dX2_init_71 (12) (fun q_21 H hX hS => ?_)
  obtain ⟨M_22, hM_22⟩ : ∃ zM : xM, zM = xu M_20 12 (q_21, .inl (G.2 2, 51, .inl (fun k => nI ((fun _ => 0) k)))) := ⟨_, rfl⟩
  have hX : xw G.1 vwCl A M_22 H := by rw [hM_22]; exact hX
  have hcL : M_22 4 = some (a4, .inr (4, [.int (nI 0), .int (nI 0), .ref q_3, .ref q_6, .ref q_9, .ref q_12, .ref q_15, .ref q_18, .null])) := by rw [hM_22, xu_n (by omega)]; exact hcL
  have hc6 : M_22 6 = some (q_3, .inl (G.2 0, 625, .inl (fun k => nI ((fun _ => 0) k)))) := by rw [hM_22, xu_n (by omega)]; exact hc6
  have hc7 : M_22 7 = some (q_6, .inl (G.2 0, 625, .inl (fun k => nI ((fun _ => 0) k)))) := by rw [hM_22, xu_n (by omega)]; exact hc7
  have hc8 : M_22 8 = some (q_9, .inl (G.2 1, 625, .inr (.inl (fun k => lN ((fun _ => 0) k))))) := by rw [hM_22, xu_n (by omega)]; exact hc8
  have hc9 : M_22 9 = some (q_12, .inl (G.2 1, 625, .inr (.inl (fun k => lN ((fun _ => 0) k))))) := by rw [hM_22, xu_n (by omega)]; exact hc9
  have hc10 : M_22 10 = some (q_15, .inl (G.2 0, 625, .inl (fun k => nI ((fun _ => 0) k)))) := by rw [hM_22, xu_n (by omega)]; exact hc10
  have hc11 : M_22 11 = some (q_18, .inl (G.2 0, 625, .inl (fun k => nI ((fun _ => 0) k)))) := by rw [hM_22, xu_n (by omega)]; exact hc11
  have hc12 : M_22 12 = some (q_21, .inl (G.2 2, 51, .inl (fun k => nI ((fun _ => 0) k)))) := by rw [hM_22]; exact xu_s
  refine x_putF (ci := 4) (v := .ref q_21) (C := RX2) (T := TX2) (N := 9) hx hb hts inX2 tyX2 tyX2_ok nmX2 hown hK hX hS hcL rfl 8 (by decide) lk_fieldLink_39 (fun _ h9 => h9) rfl hin rfl (tyX2_ok 8 (by decide)) rfl rfl (Nat.le_of_ble_eq_true rfl) dX2_init_73 (fun H locs hX hS => ?_)
  obtain ⟨M_23, hM_23⟩ : ∃ zM : xM, zM = xu M_22 4 (a4, .inr (4, [.int (nI 0), .int (nI 0), .ref q_3, .ref q_6, .ref q_9, .ref q_12, .ref q_15, .ref q_18, .ref q_21])) := ⟨_, rfl⟩
  have hX : xw G.1 vwCl A M_23 H := by rw [hM_23]; exact hX
  have hc6 : M_23 6 = some (q_3, .inl (G.2 0, 625, .inl (fun k => nI ((fun _ => 0) k)))) := by rw [hM_23, xu_n (by omega)]; exact hc6
  have hc7 : M_23 7 = some (q_6, .inl (G.2 0, 625, .inl (fun k => nI ((fun _ => 0) k)))) := by rw [hM_23, xu_n (by omega)]; exact hc7
  have hc8 : M_23 8 = some (q_9, .inl (G.2 1, 625, .inr (.inl (fun k => lN ((fun _ => 0) k))))) := by rw [hM_23, xu_n (by omega)]; exact hc8
  have hc9 : M_23 9 = some (q_12, .inl (G.2 1, 625, .inr (.inl (fun k => lN ((fun _ => 0) k))))) := by rw [hM_23, xu_n (by omega)]; exact hc9
  have hc10 : M_23 10 = some (q_15, .inl (G.2 0, 625, .inl (fun k => nI ((fun _ => 0) k)))) := by rw [hM_23, xu_n (by omega)]; exact hc10
  have hc11 : M_23 11 = some (q_18, .inl (G.2 0, 625, .inl (fun k => nI ((fun _ => 0) k)))) := by rw [hM_23, xu_n (by omega)]; exact hc11
  have hc12 : M_23 12 = some (q_21, .inl (G.2 2, 51, .inl (fun k => nI ((fun _ => 0) k)))) := by rw [hM_23, xu_n (by omega)]; exact hc12
  have hcL : M_23 4 = some (a4, .inr (4, [.int (nI 0), .int (nI 0), .ref q_3, .ref q_6, .ref q_9, .ref q_12, .ref q_15, .ref q_18, .ref q_21])) := by rw [hM_23]; exact xu_s
  refine W.widen (k := 7) (n := 3801) (by omega) (by omega) ?_
  exact x_vret hx hb hr hlocks hK hA hX hS dX2_init_76 (⟨q_3, q_6, q_9, q_12, q_15, q_18, q_21, by rw [hM_23, hM_22, hM_20, hM_19, hM_17, hM_16, hM_14, hM_13, hM_11, hM_10, hM_8, hM_7, hM_5, hM_4, hM_2, hM_1]; simp only [x_uu]; rw [x_uc (t := 4) (t' := 6) (by omega)]; simp only [x_uu]; rw [x_uc (t := 4) (t' := 7) (by omega)]; simp only [x_uu]; rw [x_uc (t := 4) (t' := 8) (by omega)]; simp only [x_uu]; rw [x_uc (t := 4) (t' := 9) (by omega)]; simp only [x_uu]; rw [x_uc (t := 4) (t' := 10) (by omega)]; simp only [x_uu]; rw [x_uc (t := 4) (t' := 11) (by omega)]; simp only [x_uu]; rw [x_uc (t := 4) (t' := 12) (by omega)]; simp only [x_uu]⟩)

abbrev rmX2_size : Room := { frames := 0, cells := 0, slots := 0, locals := 0 }
set_option maxHeartbeats 4000000 in
set_option maxRecDepth 100000 in
/-- Listing.size -/
theorem ctX2_size (l : Launch) (G : xG) (A : Nat → Prop) (M : xM) {bg : Int32} {cn a4 a6 a7 a8 a9 a10 a11 a12 : Nat} {zs os ab bl od sp pr : Nat → Nat} (hcL : M 4 = some (a4, .inr (4, [.int bg, .int (nI cn), .ref a6, .ref a7, .ref a8, .ref a9, .ref a10, .ref a11, .ref a12]))) (hc6 : M 6 = some (a6, .inl (G.2 0, 625, .inl (fun k => nI (zs k))))) (hc7 : M 7 = some (a7, .inl (G.2 0, 625, .inl (fun k => nI (os k))))) (hc8 : M 8 = some (a8, .inl (G.2 1, 625, .inr (.inl (fun k => lN (ab k)))))) (hc9 : M 9 = some (a9, .inl (G.2 1, 625, .inr (.inl (fun k => lN (bl k)))))) (hc10 : M 10 = some (a10, .inl (G.2 0, 625, .inl (fun k => nI (od k))))) (hc11 : M 11 = some (a11, .inl (G.2 0, 625, .inl (fun k => nI (sp k))))) (hc12 : M 12 = some (a12, .inl (G.2 2, 51, .inl (fun k => nI (pr k))))) (hcn : cn ≤ 625) : Met l yX2_size wsX2_size rmX2_size (va_Pc ([.ref a4] : List Value) (xPc G A M)) (va_Qi (fun r M1 => M1 = M ∧ r = nI cn) (xPc G A) A) 0 0 A := by
  refine x_met (cc := cX2_size) (maxL := 1) (ret := (some .int)) RX2 (by decide) rfl (Nat.le_of_ble_eq_true rfl) rfl ?_
  intro p e s m below meth c hx hb hr hts hown hlocks hml hin hK hA hX ls hl
  have inX2 : ∀ w ∈ wsX20, w ∈ wsX2_size := by decide +kernel
  have lk_fieldLink_15 := hts (.fieldLink RX2 15 "Reconcile$Listing" "count" "I") (by decide +kernel)
  have hS : va_S A s.heap s.heap [] := va_S.rf
  have hl : lv_has ls 1 [(0, .ref a4)] := hl
  refine lv_aload_n hx hb dX2_size_0 rfl (lv_at hl 0 rfl) ?_
  refine x_get (ci := 4) (v := .int (nI cn)) (C := RX2) (T := TX2) (N := 9) hx hb hts inX2 hown hK hX hcL rfl 1 (by decide) lk_fieldLink_15 (fun _ h9 => h9) rfl dX2_size_1 ?_
  exact x_iret hx hb hr hlocks hK hA hX hS dX2_size_4 (⟨rfl, rfl⟩)

abbrev rmX2_holds : Room := { frames := 0, cells := 0, slots := 0, locals := 0 }
set_option maxHeartbeats 4000000 in
set_option maxRecDepth 100000 in
/-- Listing.holds -/
theorem ctX2_holds (l : Launch) (G : xG) (A : Nat → Prop) (M : xM) {bg : Int32} {cn a4 a6 a7 a8 a9 a10 a11 a12 : Nat} {zs os ab bl od sp pr : Nat → Nat} (hcL : M 4 = some (a4, .inr (4, [.int bg, .int (nI cn), .ref a6, .ref a7, .ref a8, .ref a9, .ref a10, .ref a11, .ref a12]))) (hc6 : M 6 = some (a6, .inl (G.2 0, 625, .inl (fun k => nI (zs k))))) (hc7 : M 7 = some (a7, .inl (G.2 0, 625, .inl (fun k => nI (os k))))) (hc8 : M 8 = some (a8, .inl (G.2 1, 625, .inr (.inl (fun k => lN (ab k)))))) (hc9 : M 9 = some (a9, .inl (G.2 1, 625, .inr (.inl (fun k => lN (bl k)))))) (hc10 : M 10 = some (a10, .inl (G.2 0, 625, .inl (fun k => nI (od k))))) (hc11 : M 11 = some (a11, .inl (G.2 0, 625, .inl (fun k => nI (sp k))))) (hc12 : M 12 = some (a12, .inl (G.2 2, 51, .inl (fun k => nI (pr k))))) (hcn : cn ≤ 625) (p0 : Int32) : Met l yX2_holds wsX2_holds rmX2_holds (va_Pc ([.ref a4, .int p0] : List Value) (xPc G A M)) (va_Qi (fun r M1 => M1 = M ∧ r = if ¬ p0 < 0 ∧ ¬ nI cn ≤ p0 then 1 else 0) (xPc G A) A) 0 0 A := by
  refine x_met (cc := cX2_holds) (maxL := 2) (ret := (some .boolean)) RX2 (by decide) rfl (Nat.le_of_ble_eq_true rfl) rfl ?_
  intro p e s m below meth c hx hb hr hts hown hlocks hml hin hK hA hX ls hl
  have inX2 : ∀ w ∈ wsX20, w ∈ wsX2_holds := by decide +kernel
  have lk_fieldLink_15 := hts (.fieldLink RX2 15 "Reconcile$Listing" "count" "I") (by decide +kernel)
  have hS : va_S A s.heap s.heap [] := va_S.rf
  have hl : lv_has ls 2 [(0, .ref a4), (1, .int p0)] := hl
  refine lv_iload_n hx hb dX2_holds_0 rfl (lv_at hl 1 rfl) ?_
  refine lv_if_lt (tgt := 16) hx hb dX2_holds_1 (by decide) (fun c_1 => ?_) (fun c_1 => ?_)
  · refine lv_iconst (v := nI 0) hx hb dX2_holds_16 (by decide) ?_
    exact x_zret hx hb hr hlocks hK hA hX hS dX2_holds_17 rfl (⟨rfl, by split <;> first | rfl | (rename_i q; exfalso; first | omega | exact q (by and_intros <;> first | assumption | omega) | exact absurd q.1 (by assumption) | exact absurd q.2 (by assumption) | exact absurd q.2.1 (by assumption) | exact absurd q.2.2 (by assumption) | exact absurd (by assumption) q.1 | exact absurd (by assumption) q.2 | exact absurd (by assumption) q.2.1 | exact absurd (by assumption) q.2.2 | exact absurd q.1.1 (by assumption) | exact absurd q.1.2 (by assumption))⟩)
  · refine lv_iload_n hx hb dX2_holds_4 rfl (lv_at hl 1 rfl) ?_
    refine lv_aload_n hx hb dX2_holds_5 rfl (lv_at hl 0 rfl) ?_
    refine x_get (ci := 4) (v := .int (nI cn)) (C := RX2) (T := TX2) (N := 9) hx hb hts inX2 hown hK hX hcL rfl 1 (by decide) lk_fieldLink_15 (fun _ h9 => h9) rfl dX2_holds_6 ?_
    refine lv_icmp_ge (tgt := 16) hx hb dX2_holds_9 (by decide) (fun c_2 => ?_) (fun c_2 => ?_)
    · refine lv_iconst (v := nI 0) hx hb dX2_holds_16 (by decide) ?_
      exact x_zret hx hb hr hlocks hK hA hX hS dX2_holds_17 rfl (⟨rfl, by split <;> first | rfl | (rename_i q; exfalso; first | omega | exact q (by and_intros <;> first | assumption | omega) | exact absurd q.1 (by assumption) | exact absurd q.2 (by assumption) | exact absurd q.2.1 (by assumption) | exact absurd q.2.2 (by assumption) | exact absurd (by assumption) q.1 | exact absurd (by assumption) q.2 | exact absurd (by assumption) q.2.1 | exact absurd (by assumption) q.2.2 | exact absurd q.1.1 (by assumption) | exact absurd q.1.2 (by assumption))⟩)
    · refine lv_iconst (v := nI 1) hx hb dX2_holds_12 (by decide) ?_
      refine lv_goto (tgt := 17) hx hb dX2_holds_13 (by decide) ?_
      exact x_zret hx hb hr hlocks hK hA hX hS dX2_holds_17 rfl (⟨rfl, by split <;> first | rfl | (rename_i q; exfalso; first | omega | exact q (by and_intros <;> first | assumption | omega) | exact absurd q.1 (by assumption) | exact absurd q.2 (by assumption) | exact absurd q.2.1 (by assumption) | exact absurd q.2.2 (by assumption) | exact absurd (by assumption) q.1 | exact absurd (by assumption) q.2 | exact absurd (by assumption) q.2.1 | exact absurd (by assumption) q.2.2 | exact absurd q.1.1 (by assumption) | exact absurd q.1.2 (by assumption))⟩)

abbrev rmX2_hasName : Room := { frames := 0, cells := 0, slots := 0, locals := 0 }
set_option maxHeartbeats 4000000 in
set_option maxRecDepth 100000 in
/-- Listing.hasName -/
theorem ctX2_hasName (l : Launch) (G : xG) (A : Nat → Prop) (M : xM) {bg : Int32} {cn a4 a6 a7 a8 a9 a10 a11 a12 : Nat} {zs os ab bl od sp pr : Nat → Nat} (hcL : M 4 = some (a4, .inr (4, [.int bg, .int (nI cn), .ref a6, .ref a7, .ref a8, .ref a9, .ref a10, .ref a11, .ref a12]))) (hc6 : M 6 = some (a6, .inl (G.2 0, 625, .inl (fun k => nI (zs k))))) (hc7 : M 7 = some (a7, .inl (G.2 0, 625, .inl (fun k => nI (os k))))) (hc8 : M 8 = some (a8, .inl (G.2 1, 625, .inr (.inl (fun k => lN (ab k)))))) (hc9 : M 9 = some (a9, .inl (G.2 1, 625, .inr (.inl (fun k => lN (bl k)))))) (hc10 : M 10 = some (a10, .inl (G.2 0, 625, .inl (fun k => nI (od k))))) (hc11 : M 11 = some (a11, .inl (G.2 0, 625, .inl (fun k => nI (sp k))))) (hc12 : M 12 = some (a12, .inl (G.2 2, 51, .inl (fun k => nI (pr k))))) (hcn : cn ≤ 625) (nn : Nat) (hnn : nn ≤ 50) (hpr : ∀ j, j ≤ 50 → pr j ≤ 1) : Met l yX2_hasName wsX2_hasName rmX2_hasName (va_Pc ([.ref a4, .int (nI nn)] : List Value) (xPc G A M)) (va_Qi (fun r M1 => M1 = M ∧ r = if pr nn = 0 then 0 else 1) (xPc G A) A) 0 0 A := by
  refine x_met (cc := cX2_hasName) (maxL := 2) (ret := (some .boolean)) RX2 (by decide) rfl (Nat.le_of_ble_eq_true rfl) rfl ?_
  intro p e s m below meth c hx hb hr hts hown hlocks hml hin hK hA hX ls hl
  have inX2 : ∀ w ∈ wsX20, w ∈ wsX2_hasName := by decide +kernel
  have lk_fieldLink_39 := hts (.fieldLink RX2 39 "Reconcile$Listing" "paired" "[Z") (by decide +kernel)
  have hS : va_S A s.heap s.heap [] := va_S.rf
  have hl : lv_has ls 2 [(0, .ref a4), (1, .int (nI nn))] := hl
  have hprn := hpr nn hnn
  refine lv_iload_n hx hb dX2_hasName_0 rfl (lv_at hl 1 rfl) ?_
  refine lv_if_lt (tgt := 23) hx hb dX2_hasName_1 (by decide) (fun c_1 => ?_) (fun c_1 => ?_)
  · have c_1 : nn < 0 := (nI_ltI (a := nn) (b := 0) (by omega) (by omega)).mp c_1
    exact absurd c_1 (by omega)
  · have c_1 : ¬ (nn < 0) := fun q => c_1 ((nI_ltI (a := nn) (b := 0) (by omega) (by omega)).mpr q)
    refine lv_iload_n hx hb dX2_hasName_4 rfl (lv_at hl 1 rfl) ?_
    refine lv_bipush (v := nI 50) hx hb dX2_hasName_5 (by decide) ?_
    refine lv_icmp_gt (tgt := 23) hx hb dX2_hasName_7 (by decide) (fun c_2 => ?_) (fun c_2 => ?_)
    · have c_2 : 50 < nn := (nI_ltI (by omega) (by omega)).mp c_2
      exact absurd c_2 (by omega)
    · have c_2 : ¬ (50 < nn) := fun q => c_2 ((nI_ltI (by omega) (by omega)).mpr q)
      refine lv_aload_n hx hb dX2_hasName_10 rfl (lv_at hl 0 rfl) ?_
      refine x_get (ci := 4) (v := .ref a12) (C := RX2) (T := TX2) (N := 9) hx hb hts inX2 hown hK hX hcL rfl 8 (by decide) lk_fieldLink_39 (fun _ h9 => h9) rfl dX2_hasName_11 ?_
      refine lv_iload_n hx hb dX2_hasName_14 rfl (lv_at hl 1 rfl) ?_
      refine x_zN hx hb hK hX hc12 (by omega) (by decide) dX2_hasName_15 ?_
      refine lv_if_eq (tgt := 23) hx hb dX2_hasName_16 (by decide) (fun c_3 => ?_) (fun c_3 => ?_)
      · have c_3 : (pr nn) = 0 := (nI_eq (a := (pr nn)) (b := 0) (by omega) (by omega)).mp c_3
        refine lv_iconst (v := nI 0) hx hb dX2_hasName_23 (by decide) ?_
        exact x_zret hx hb hr hlocks hK hA hX hS dX2_hasName_24 rfl (⟨rfl, by split <;> first | rfl | (rename_i q; exfalso; omega)⟩)
      · have c_3 : ¬ ((pr nn) = 0) := fun q => c_3 ((nI_eq (a := (pr nn)) (b := 0) (by omega) (by omega)).mpr q)
        refine lv_iconst (v := nI 1) hx hb dX2_hasName_19 (by decide) ?_
        refine lv_goto (tgt := 24) hx hb dX2_hasName_20 (by decide) ?_
        exact x_zret hx hb hr hlocks hK hA hX hS dX2_hasName_24 rfl (⟨rfl, by split <;> first | rfl | (rename_i q; exfalso; omega)⟩)

abbrev rmX2_nameAt : Room := { frames := 0, cells := 0, slots := 0, locals := 0 }
set_option maxHeartbeats 4000000 in
set_option maxRecDepth 100000 in
/-- Listing.nameAt -/
theorem ctX2_nameAt (l : Launch) (G : xG) (A : Nat → Prop) (M : xM) {bg : Int32} {cn a4 a6 a7 a8 a9 a10 a11 a12 : Nat} {zs os ab bl od sp pr : Nat → Nat} (hcL : M 4 = some (a4, .inr (4, [.int bg, .int (nI cn), .ref a6, .ref a7, .ref a8, .ref a9, .ref a10, .ref a11, .ref a12]))) (hc6 : M 6 = some (a6, .inl (G.2 0, 625, .inl (fun k => nI (zs k))))) (hc7 : M 7 = some (a7, .inl (G.2 0, 625, .inl (fun k => nI (os k))))) (hc8 : M 8 = some (a8, .inl (G.2 1, 625, .inr (.inl (fun k => lN (ab k)))))) (hc9 : M 9 = some (a9, .inl (G.2 1, 625, .inr (.inl (fun k => lN (bl k)))))) (hc10 : M 10 = some (a10, .inl (G.2 0, 625, .inl (fun k => nI (od k))))) (hc11 : M 11 = some (a11, .inl (G.2 0, 625, .inl (fun k => nI (sp k))))) (hc12 : M 12 = some (a12, .inl (G.2 2, 51, .inl (fun k => nI (pr k))))) (hcn : cn ≤ 625) (ip : Nat) (p1 : Int32) (hip : ip < 625) (hod : od ip < 625) : Met l yX2_nameAt wsX2_nameAt rmX2_nameAt (va_Pc ([.ref a4, .int (nI ip), .int p1] : List Value) (xPc G A M)) (va_Qi (fun r M1 => M1 = M ∧ r = if p1 = nI 1 then nI (os (od ip)) else nI (zs (od ip))) (xPc G A) A) 0 0 A := by
  refine x_met (cc := cX2_nameAt) (maxL := 4) (ret := (some .int)) RX2 (by decide) rfl (Nat.le_of_ble_eq_true rfl) rfl ?_
  intro p e s m below meth c hx hb hr hts hown hlocks hml hin hK hA hX ls hl
  have inX2 : ∀ w ∈ wsX20, w ∈ wsX2_nameAt := by decide +kernel
  have lk_fieldLink_33 := hts (.fieldLink RX2 33 "Reconcile$Listing" "order" "[I") (by decide +kernel)
  have lk_fieldLink_19 := hts (.fieldLink RX2 19 "Reconcile$Listing" "zeros" "[I") (by decide +kernel)
  have lk_fieldLink_23 := hts (.fieldLink RX2 23 "Reconcile$Listing" "ones" "[I") (by decide +kernel)
  have hS : va_S A s.heap s.heap [] := va_S.rf
  have hl : lv_has ls 4 [(0, .ref a4), (1, .int (nI ip)), (2, .int p1)] := hl
  have hod2 : od ip < 625 := hod
  refine lv_aload_n hx hb dX2_nameAt_0 rfl (lv_at hl 0 rfl) ?_
  refine x_get (ci := 4) (v := .ref a10) (C := RX2) (T := TX2) (N := 9) hx hb hts inX2 hown hK hX hcL rfl 6 (by decide) lk_fieldLink_33 (fun _ h9 => h9) rfl dX2_nameAt_1 ?_
  refine lv_iload_n hx hb dX2_nameAt_4 rfl (lv_at hl 1 rfl) ?_
  refine x_iN hx hb hK hX hc10 (by omega) (by decide) dX2_nameAt_5 ?_
  refine lv_istore_n (lv' := [(3, .int (nI (od ip))), (0, .ref a4), (1, .int (nI ip)), (2, .int p1)]) hx hb dX2_nameAt_6 rfl hl (by decide) rfl (fun ls hl => ?_)
  refine lv_iload_n hx hb dX2_nameAt_7 rfl (lv_at hl 3 rfl) ?_
  refine lv_iconst (v := nI 1) hx hb dX2_nameAt_8 (by decide) ?_
  refine lv_icmp_ne (tgt := 21) hx hb dX2_nameAt_9 (by decide) (fun c_1 => ?_) (fun c_1 => ?_)
  · refine lv_aload_n hx hb dX2_nameAt_21 rfl (lv_at hl 1 rfl) ?_
    refine x_get (ci := 4) (v := .ref a6) (C := RX2) (T := TX2) (N := 9) hx hb hts inX2 hown hK hX hcL rfl 2 (by decide) lk_fieldLink_19 (fun _ h9 => h9) rfl dX2_nameAt_22 ?_
    refine lv_iload_n hx hb dX2_nameAt_25 rfl (lv_at hl 0 rfl) ?_
    refine x_iN hx hb hK hX hc6 (by omega) (by decide) dX2_nameAt_26 ?_
    exact x_iret hx hb hr hlocks hK hA hX hS dX2_nameAt_27 (⟨rfl, by rw [if_neg c_1]⟩)
  · refine lv_aload_n hx hb dX2_nameAt_12 rfl (lv_at hl 1 rfl) ?_
    refine x_get (ci := 4) (v := .ref a7) (C := RX2) (T := TX2) (N := 9) hx hb hts inX2 hown hK hX hcL rfl 3 (by decide) lk_fieldLink_23 (fun _ h9 => h9) rfl dX2_nameAt_13 ?_
    refine lv_iload_n hx hb dX2_nameAt_16 rfl (lv_at hl 0 rfl) ?_
    refine x_iN hx hb hK hX hc7 (by omega) (by decide) dX2_nameAt_17 ?_
    refine lv_goto (tgt := 27) hx hb dX2_nameAt_18 (by decide) ?_
    exact x_iret hx hb hr hlocks hK hA hX hS dX2_nameAt_27 (⟨rfl, by rw [if_pos c_1]⟩)

abbrev rmX2_isGreater : Room := { frames := 0, cells := 0, slots := 0, locals := 0 }
set_option maxHeartbeats 4000000 in
set_option maxRecDepth 100000 in
/-- Listing.isGreater -/
theorem ctX2_isGreater (l : Launch) (G : xG) (A : Nat → Prop) (M : xM) {bg : Int32} {cn a4 a6 a7 a8 a9 a10 a11 a12 : Nat} {zs os ab bl od sp pr : Nat → Nat} (hcL : M 4 = some (a4, .inr (4, [.int bg, .int (nI cn), .ref a6, .ref a7, .ref a8, .ref a9, .ref a10, .ref a11, .ref a12]))) (hc6 : M 6 = some (a6, .inl (G.2 0, 625, .inl (fun k => nI (zs k))))) (hc7 : M 7 = some (a7, .inl (G.2 0, 625, .inl (fun k => nI (os k))))) (hc8 : M 8 = some (a8, .inl (G.2 1, 625, .inr (.inl (fun k => lN (ab k)))))) (hc9 : M 9 = some (a9, .inl (G.2 1, 625, .inr (.inl (fun k => lN (bl k)))))) (hc10 : M 10 = some (a10, .inl (G.2 0, 625, .inl (fun k => nI (od k))))) (hc11 : M 11 = some (a11, .inl (G.2 0, 625, .inl (fun k => nI (sp k))))) (hc12 : M 12 = some (a12, .inl (G.2 2, 51, .inl (fun k => nI (pr k))))) (hcn : cn ≤ 625) (ra rb : Nat) (hra : ra < 625) (hrb : rb < 625) (hA1 : ab ra < 1000000000) (hA2 : ab rb < 1000000000) (hB1 : bl ra < 1000000000) (hB2 : bl rb < 1000000000) : Met l yX2_isGreater wsX2_isGreater rmX2_isGreater (va_Pc ([.ref a4, .int (nI ra), .int (nI rb)] : List Value) (xPc G A M)) (va_Qi (fun r M1 => M1 = M ∧ (r = 0 ∧ ¬ xGt ab bl ra rb ∨ r = 1 ∧ xGt ab bl ra rb)) (xPc G A) A) 0 0 A := by
  refine x_met (cc := cX2_isGreater) (maxL := 3) (ret := (some .boolean)) RX2 (by decide) rfl (Nat.le_of_ble_eq_true rfl) rfl ?_
  intro p e s m below meth c hx hb hr hts hown hlocks hml hin hK hA hX ls hl
  have inX2 : ∀ w ∈ wsX20, w ∈ wsX2_isGreater := by decide +kernel
  have lk_fieldLink_26 := hts (.fieldLink RX2 26 "Reconcile$Listing" "aboves" "[J") (by decide +kernel)
  have lk_fieldLink_30 := hts (.fieldLink RX2 30 "Reconcile$Listing" "belows" "[J") (by decide +kernel)
  have hS : va_S A s.heap s.heap [] := va_S.rf
  have hl : lv_has ls 3 [(0, .ref a4), (1, .int (nI ra)), (2, .int (nI rb))] := hl
  have hm1 := x_mulb hA1 hB2
  have hm2 := x_mulb hA2 hB1
  refine lv_aload_n hx hb dX2_isGreater_0 rfl (lv_at hl 0 rfl) ?_
  refine x_get (ci := 4) (v := .ref a8) (C := RX2) (T := TX2) (N := 9) hx hb hts inX2 hown hK hX hcL rfl 4 (by decide) lk_fieldLink_26 (fun _ h9 => h9) rfl dX2_isGreater_1 ?_
  refine lv_iload_n hx hb dX2_isGreater_4 rfl (lv_at hl 1 rfl) ?_
  refine x_lN hx hb hK hX hc8 (by omega) (by decide) dX2_isGreater_5 ?_
  refine lv_aload_n hx hb dX2_isGreater_6 rfl (lv_at hl 0 rfl) ?_
  refine x_get (ci := 4) (v := .ref a9) (C := RX2) (T := TX2) (N := 9) hx hb hts inX2 hown hK hX hcL rfl 5 (by decide) lk_fieldLink_30 (fun _ h9 => h9) rfl dX2_isGreater_7 ?_
  refine lv_iload_n hx hb dX2_isGreater_10 rfl (lv_at hl 2 rfl) ?_
  refine x_lN hx hb hK hX hc9 (by omega) (by decide) dX2_isGreater_11 ?_
  refine lv_lmul hx hb dX2_isGreater_12 ?_
  refine x_rl (lN_mul _ _) ?_
  refine lv_aload_n hx hb dX2_isGreater_13 rfl (lv_at hl 0 rfl) ?_
  refine x_get (ci := 4) (v := .ref a8) (C := RX2) (T := TX2) (N := 9) hx hb hts inX2 hown hK hX hcL rfl 4 (by decide) lk_fieldLink_26 (fun _ h9 => h9) rfl dX2_isGreater_14 ?_
  refine lv_iload_n hx hb dX2_isGreater_17 rfl (lv_at hl 2 rfl) ?_
  refine x_lN hx hb hK hX hc8 (by omega) (by decide) dX2_isGreater_18 ?_
  refine lv_aload_n hx hb dX2_isGreater_19 rfl (lv_at hl 0 rfl) ?_
  refine x_get (ci := 4) (v := .ref a9) (C := RX2) (T := TX2) (N := 9) hx hb hts inX2 hown hK hX hcL rfl 5 (by decide) lk_fieldLink_30 (fun _ h9 => h9) rfl dX2_isGreater_20 ?_
  refine lv_iload_n hx hb dX2_isGreater_23 rfl (lv_at hl 1 rfl) ?_
  refine x_lN hx hb hK hX hc9 (by omega) (by decide) dX2_isGreater_24 ?_
  refine lv_lmul hx hb dX2_isGreater_25 ?_
  refine x_rl (lN_mul _ _) ?_
  refine W.lcmp hx hb dX2_isGreater_26 ?_
  refine x_lc_le (tgt := 34) hx hb dX2_isGreater_27 (by decide) (fun c_1 => ?_) (fun c_1 => ?_)
  · have c_1 : ((ab ra) * (bl rb)) ≤ ((ab rb) * (bl ra)) := (pk_lLE (by omega) (by omega)).mp c_1
    refine lv_iconst (v := nI 0) hx hb dX2_isGreater_34 (by decide) ?_
    exact x_zret hx hb hr hlocks hK hA hX hS dX2_isGreater_35 rfl (⟨rfl, Or.inl ⟨rfl, fun q => by unfold xGt at q; omega⟩⟩)
  · have c_1 : ¬ (((ab ra) * (bl rb)) ≤ ((ab rb) * (bl ra))) := fun q => c_1 ((pk_lLE (by omega) (by omega)).mpr q)
    refine lv_iconst (v := nI 1) hx hb dX2_isGreater_30 (by decide) ?_
    refine lv_goto (tgt := 35) hx hb dX2_isGreater_31 (by decide) ?_
    exact x_zret hx hb hr hlocks hK hA hX hS dX2_isGreater_35 rfl (⟨rfl, Or.inr ⟨rfl, by unfold xGt; omega⟩⟩)

abbrev rmX2_begin : Room := { frames := 0, cells := 0, slots := 0, locals := 0 }
set_option maxHeartbeats 4000000 in
set_option maxRecDepth 100000 in
/-- Listing.begin -/
theorem ctX2_begin (l : Launch) (G : xG) (A : Nat → Prop) (M : xM) {bg : Int32} {cn a4 a6 a7 a8 a9 a10 a11 a12 : Nat} {zs os ab bl od sp pr : Nat → Nat} (hcL : M 4 = some (a4, .inr (4, [.int bg, .int (nI cn), .ref a6, .ref a7, .ref a8, .ref a9, .ref a10, .ref a11, .ref a12]))) (hc6 : M 6 = some (a6, .inl (G.2 0, 625, .inl (fun k => nI (zs k))))) (hc7 : M 7 = some (a7, .inl (G.2 0, 625, .inl (fun k => nI (os k))))) (hc8 : M 8 = some (a8, .inl (G.2 1, 625, .inr (.inl (fun k => lN (ab k)))))) (hc9 : M 9 = some (a9, .inl (G.2 1, 625, .inr (.inl (fun k => lN (bl k)))))) (hc10 : M 10 = some (a10, .inl (G.2 0, 625, .inl (fun k => nI (od k))))) (hc11 : M 11 = some (a11, .inl (G.2 0, 625, .inl (fun k => nI (sp k))))) (hc12 : M 12 = some (a12, .inl (G.2 2, 51, .inl (fun k => nI (pr k))))) (hcn : cn ≤ 625) : Met l yX2_begin wsX2_begin rmX2_begin (va_Pc ([.ref a4] : List Value) (xPc G A M)) (va_Qv (fun M1 => M1 = xu (xu M 4 (a4, .inr (4, [.int (nI 1), .int (nI 0), .ref a6, .ref a7, .ref a8, .ref a9, .ref a10, .ref a11, .ref a12]))) 12 (a12, .inl (G.2 2, 51, .inl (fun k => nI (xClr pr 51 k))))) (xPc G A) A) 0 0 A := by
  refine x_met (cc := cX2_begin) (maxL := 2) (ret := none) RX2 (by decide) rfl (Nat.le_of_ble_eq_true rfl) rfl ?_
  intro p e s m below meth c hx hb hr hts hown hlocks hml hin hK hA hX ls hl
  have inX2 : ∀ w ∈ wsX20, w ∈ wsX2_begin := by decide +kernel
  have lk_fieldLink_9 := hts (.fieldLink RX2 9 "Reconcile$Listing" "begun" "Z") (by decide +kernel)
  have lk_fieldLink_15 := hts (.fieldLink RX2 15 "Reconcile$Listing" "count" "I") (by decide +kernel)
  have lk_fieldLink_39 := hts (.fieldLink RX2 39 "Reconcile$Listing" "paired" "[Z") (by decide +kernel)
  have hS : va_S A s.heap s.heap [] := va_S.rf
  have hl : lv_has ls 2 [(0, .ref a4)] := hl
  refine lv_aload_n hx hb dX2_begin_0 rfl (lv_at hl 0 rfl) ?_
  refine lv_iconst (v := nI 1) hx hb dX2_begin_1 (by decide) ?_
  refine x_put (ci := 4) (v := .int (nI 1)) (C := RX2) (T := TX2) (N := 9) hx hb hts inX2 tyX2 tyX2_ok nmX2 hown hK hX hS hcL rfl 0 (by decide) lk_fieldLink_9 (fun _ h9 => h9) rfl (tyX2_ok 0 (by decide)) rfl rfl (Nat.le_of_ble_eq_true rfl) dX2_begin_2 (fun H locs hX hS => ?_)
  obtain ⟨M_1, hM_1⟩ : ∃ zM : xM, zM = xu M 4 (a4, .inr (4, [.int (nI 1), .int (nI cn), .ref a6, .ref a7, .ref a8, .ref a9, .ref a10, .ref a11, .ref a12])) := ⟨_, rfl⟩
  have hX : xw G.1 vwCl A M_1 H := by rw [hM_1]; exact hX
  have hc6 : M_1 6 = some (a6, .inl (G.2 0, 625, .inl (fun k => nI (zs k)))) := by rw [hM_1, xu_n (by omega)]; exact hc6
  have hc7 : M_1 7 = some (a7, .inl (G.2 0, 625, .inl (fun k => nI (os k)))) := by rw [hM_1, xu_n (by omega)]; exact hc7
  have hc8 : M_1 8 = some (a8, .inl (G.2 1, 625, .inr (.inl (fun k => lN (ab k))))) := by rw [hM_1, xu_n (by omega)]; exact hc8
  have hc9 : M_1 9 = some (a9, .inl (G.2 1, 625, .inr (.inl (fun k => lN (bl k))))) := by rw [hM_1, xu_n (by omega)]; exact hc9
  have hc10 : M_1 10 = some (a10, .inl (G.2 0, 625, .inl (fun k => nI (od k)))) := by rw [hM_1, xu_n (by omega)]; exact hc10
  have hc11 : M_1 11 = some (a11, .inl (G.2 0, 625, .inl (fun k => nI (sp k)))) := by rw [hM_1, xu_n (by omega)]; exact hc11
  have hc12 : M_1 12 = some (a12, .inl (G.2 2, 51, .inl (fun k => nI (pr k)))) := by rw [hM_1, xu_n (by omega)]; exact hc12
  have hcL : M_1 4 = some (a4, .inr (4, [.int (nI 1), .int (nI cn), .ref a6, .ref a7, .ref a8, .ref a9, .ref a10, .ref a11, .ref a12])) := by rw [hM_1]; exact xu_s
  refine lv_aload_n hx hb dX2_begin_5 rfl (lv_at hl 0 rfl) ?_
  refine lv_iconst (v := nI 0) hx hb dX2_begin_6 (by decide) ?_
  refine x_put (ci := 4) (v := .int (nI 0)) (C := RX2) (T := TX2) (N := 9) hx hb hts inX2 tyX2 tyX2_ok nmX2 hown hK hX hS hcL rfl 1 (by decide) lk_fieldLink_15 (fun _ h9 => h9) rfl (tyX2_ok 1 (by decide)) rfl rfl (Nat.le_of_ble_eq_true rfl) dX2_begin_7 (fun H locs hX hS => ?_)
  obtain ⟨M_2, hM_2⟩ : ∃ zM : xM, zM = xu M_1 4 (a4, .inr (4, [.int (nI 1), .int (nI 0), .ref a6, .ref a7, .ref a8, .ref a9, .ref a10, .ref a11, .ref a12])) := ⟨_, rfl⟩
  have hX : xw G.1 vwCl A M_2 H := by rw [hM_2]; exact hX
  have hc6 : M_2 6 = some (a6, .inl (G.2 0, 625, .inl (fun k => nI (zs k)))) := by rw [hM_2, xu_n (by omega)]; exact hc6
  have hc7 : M_2 7 = some (a7, .inl (G.2 0, 625, .inl (fun k => nI (os k)))) := by rw [hM_2, xu_n (by omega)]; exact hc7
  have hc8 : M_2 8 = some (a8, .inl (G.2 1, 625, .inr (.inl (fun k => lN (ab k))))) := by rw [hM_2, xu_n (by omega)]; exact hc8
  have hc9 : M_2 9 = some (a9, .inl (G.2 1, 625, .inr (.inl (fun k => lN (bl k))))) := by rw [hM_2, xu_n (by omega)]; exact hc9
  have hc10 : M_2 10 = some (a10, .inl (G.2 0, 625, .inl (fun k => nI (od k)))) := by rw [hM_2, xu_n (by omega)]; exact hc10
  have hc11 : M_2 11 = some (a11, .inl (G.2 0, 625, .inl (fun k => nI (sp k)))) := by rw [hM_2, xu_n (by omega)]; exact hc11
  have hc12 : M_2 12 = some (a12, .inl (G.2 2, 51, .inl (fun k => nI (pr k)))) := by rw [hM_2, xu_n (by omega)]; exact hc12
  have hcL : M_2 4 = some (a4, .inr (4, [.int (nI 1), .int (nI 0), .ref a6, .ref a7, .ref a8, .ref a9, .ref a10, .ref a11, .ref a12])) := by rw [hM_2]; exact xu_s
  refine lv_iconst (v := nI 0) hx hb dX2_begin_10 (by decide) ?_
  refine lv_istore_n (lv' := [(1, .int (nI 0)), (0, .ref a4)]) hx hb dX2_begin_11 rfl hl (by decide) rfl (fun ls hl => ?_)
  have loop : ∀ (n : Nat) (i : Nat) (M9 : xM) (H : Heap) (locs : List Loc) (ls : Array Slot), 51 < i + n → (i ≤ 51) → M9 = xu M_2 12 (a12, .inl (G.2 2, 51, .inl (fun k => nI (xClr pr i k)))) → xw G.1 vwCl A M9 H → va_S A s.heap H locs → lv_has ls 2 [(1, .int (nI i)), (0, .ref a4)] → W p l e rmX2_begin s m ([.ref a4] : List Value).toArray below meth c H locs 0 0 (MQ below (va_Qv (fun M1 => M1 = xu (xu M 4 (a4, .inr (4, [.int (nI 1), .int (nI 0), .ref a6, .ref a7, .ref a8, .ref a9, .ref a10, .ref a11, .ref a12]))) 12 (a12, .inl (G.2 2, 51, .inl (fun k => nI (xClr pr 51 k))))) (xPc G A) A) ([.ref a4] : List Value).toArray s 0 0 A) (F0 m 12 ls []) := by
    intro n
    induction n with
    | zero => intro i M9 H locs ls hn0 hi; exact absurd hn0 (by omega)
    | succ n ih =>
      intro i M9 H locs ls hn0 hi hM9 hX hS hl
      have hcL : M9 4 = some (a4, .inr (4, [.int (nI 1), .int (nI 0), .ref a6, .ref a7, .ref a8, .ref a9, .ref a10, .ref a11, .ref a12])) := by rw [hM9, xu_n (by omega)]; exact hcL
      have hc6 : M9 6 = some (a6, .inl (G.2 0, 625, .inl (fun k => nI (zs k)))) := by rw [hM9, xu_n (by omega)]; exact hc6
      have hc7 : M9 7 = some (a7, .inl (G.2 0, 625, .inl (fun k => nI (os k)))) := by rw [hM9, xu_n (by omega)]; exact hc7
      have hc8 : M9 8 = some (a8, .inl (G.2 1, 625, .inr (.inl (fun k => lN (ab k))))) := by rw [hM9, xu_n (by omega)]; exact hc8
      have hc9 : M9 9 = some (a9, .inl (G.2 1, 625, .inr (.inl (fun k => lN (bl k))))) := by rw [hM9, xu_n (by omega)]; exact hc9
      have hc10 : M9 10 = some (a10, .inl (G.2 0, 625, .inl (fun k => nI (od k)))) := by rw [hM9, xu_n (by omega)]; exact hc10
      have hc11 : M9 11 = some (a11, .inl (G.2 0, 625, .inl (fun k => nI (sp k)))) := by rw [hM9, xu_n (by omega)]; exact hc11
      have hc12 : M9 12 = some (a12, .inl (G.2 2, 51, .inl (fun k => nI (xClr pr i k)))) := by rw [hM9]; exact xu_s
      refine lv_iload_n hx hb dX2_begin_12 rfl (lv_at hl 0 rfl) ?_
      refine lv_bipush (v := nI 50) hx hb dX2_begin_13 (by decide) ?_
      refine lv_icmp_gt (tgt := 31) hx hb dX2_begin_15 (by decide) (fun c_3 => ?_) (fun c_3 => ?_)
      · have c_3 : 50 < i := (nI_ltI (by omega) (by omega)).mp c_3
        exact x_vret hx hb hr hlocks hK hA hX hS dX2_begin_31 (by rw [hM9, show i = 51 by omega, hM_2, hM_1, x_uu])
      · have c_3 : ¬ (50 < i) := fun q => c_3 ((nI_ltI (by omega) (by omega)).mpr q)
        refine lv_aload_n hx hb dX2_begin_18 rfl (lv_at hl 1 rfl) ?_
        refine x_get (ci := 4) (v := .ref a12) (C := RX2) (T := TX2) (N := 9) hx hb hts inX2 hown hK hX hcL rfl 8 (by decide) lk_fieldLink_39 (fun _ h9 => h9) rfl dX2_begin_19 ?_
        refine lv_iload_n hx hb dX2_begin_22 rfl (lv_at hl 0 rfl) ?_
        refine lv_iconst (v := nI 0) hx hb dX2_begin_23 (by decide) ?_
        refine x_zsN (x' := nI 0) hx hb hK hX hS (by decide) hc12 (by omega) (by decide) dX2_begin_24 (fun H locs hX hS => ?_)
        rw [upd_n] at hX
        obtain ⟨M_4, hM_4⟩ : ∃ zM : xM, zM = xu M9 12 (a12, .inl (G.2 2, 51, .inl (fun k => nI ((va_up (xClr pr i) i 0) k)))) := ⟨_, rfl⟩
        have hX : xw G.1 vwCl A M_4 H := by rw [hM_4]; exact hX
        have hcL : M_4 4 = some (a4, .inr (4, [.int (nI 1), .int (nI 0), .ref a6, .ref a7, .ref a8, .ref a9, .ref a10, .ref a11, .ref a12])) := by rw [hM_4, xu_n (by omega)]; exact hcL
        have hc6 : M_4 6 = some (a6, .inl (G.2 0, 625, .inl (fun k => nI (zs k)))) := by rw [hM_4, xu_n (by omega)]; exact hc6
        have hc7 : M_4 7 = some (a7, .inl (G.2 0, 625, .inl (fun k => nI (os k)))) := by rw [hM_4, xu_n (by omega)]; exact hc7
        have hc8 : M_4 8 = some (a8, .inl (G.2 1, 625, .inr (.inl (fun k => lN (ab k))))) := by rw [hM_4, xu_n (by omega)]; exact hc8
        have hc9 : M_4 9 = some (a9, .inl (G.2 1, 625, .inr (.inl (fun k => lN (bl k))))) := by rw [hM_4, xu_n (by omega)]; exact hc9
        have hc10 : M_4 10 = some (a10, .inl (G.2 0, 625, .inl (fun k => nI (od k)))) := by rw [hM_4, xu_n (by omega)]; exact hc10
        have hc11 : M_4 11 = some (a11, .inl (G.2 0, 625, .inl (fun k => nI (sp k)))) := by rw [hM_4, xu_n (by omega)]; exact hc11
        have hc12 : M_4 12 = some (a12, .inl (G.2 2, 51, .inl (fun k => nI ((va_up (xClr pr i) i 0) k)))) := by rw [hM_4]; exact xu_s
        refine lv_iinc (v := nI (i + 1)) (lv' := [(1, .int (nI (i + 1))), (0, .ref a4)]) hx hb dX2_begin_25 hl (k := 0) rfl (show nI i + Int32.ofInt 1 = _ from nI_add _ 1) (by decide) rfl (fun ls hl => ?_)
        refine lv_goto (tgt := 12) hx hb dX2_begin_28 (by decide) ?_
        exact ih (i + 1) M_4 _ _ ls (by omega) (by omega) (by rw [hM_4, hM9, x_uu, xClr_s]) hX hS (lv_sub hl [0, 1] rfl)
  exact loop 52 0 M_2 _ _ ls (by omega) (by omega) (by rw [xClr_0]; exact (x_us hc12).symm) hX hS (lv_sub hl [0, 1] rfl)

abbrev rmX2_add : Room := { frames := 0, cells := 0, slots := 0, locals := 0 }
set_option maxHeartbeats 4000000 in
set_option maxRecDepth 100000 in
/-- Listing.add -/
theorem ctX2_add (l : Launch) (G : xG) (A : Nat → Prop) (M : xM) {bg : Int32} {cn a4 a6 a7 a8 a9 a10 a11 a12 : Nat} {zs os ab bl od sp pr : Nat → Nat} (hcL : M 4 = some (a4, .inr (4, [.int bg, .int (nI cn), .ref a6, .ref a7, .ref a8, .ref a9, .ref a10, .ref a11, .ref a12]))) (hc6 : M 6 = some (a6, .inl (G.2 0, 625, .inl (fun k => nI (zs k))))) (hc7 : M 7 = some (a7, .inl (G.2 0, 625, .inl (fun k => nI (os k))))) (hc8 : M 8 = some (a8, .inl (G.2 1, 625, .inr (.inl (fun k => lN (ab k)))))) (hc9 : M 9 = some (a9, .inl (G.2 1, 625, .inr (.inl (fun k => lN (bl k)))))) (hc10 : M 10 = some (a10, .inl (G.2 0, 625, .inl (fun k => nI (od k))))) (hc11 : M 11 = some (a11, .inl (G.2 0, 625, .inl (fun k => nI (sp k))))) (hc12 : M 12 = some (a12, .inl (G.2 2, 51, .inl (fun k => nI (pr k))))) (hcn : cn ≤ 625) {a5 an bn : Nat} (hcF : M 5 = some (a5, .inr (2, [.long (lN an), .long (lN bn)]))) (z o : Nat) (hz : z ≤ 50) (ho : o ≤ 50) (hlt : cn < 625) : Met l yX2_add wsX2_add rmX2_add (va_Pc ([.ref a4, .int (nI z), .int (nI o), .ref a5] : List Value) (xPc G A M)) (va_Qv (fun M1 => M1 = xu (xu (xu (xu (xu (xu (xu M 6 (a6, .inl (G.2 0, 625, .inl (fun k => nI ((va_up zs cn z) k))))) 7 (a7, .inl (G.2 0, 625, .inl (fun k => nI ((va_up os cn o) k))))) 8 (a8, .inl (G.2 1, 625, .inr (.inl (fun k => lN ((va_up ab cn an) k)))))) 9 (a9, .inl (G.2 1, 625, .inr (.inl (fun k => lN ((va_up bl cn bn) k)))))) 10 (a10, .inl (G.2 0, 625, .inl (fun k => nI ((va_up od cn cn) k))))) 12 (a12, .inl (G.2 2, 51, .inl (fun k => nI ((va_up (va_up pr z 1) o 1) k))))) 4 (a4, .inr (4, [.int bg, .int (nI (cn + 1)), .ref a6, .ref a7, .ref a8, .ref a9, .ref a10, .ref a11, .ref a12]))) (xPc G A) A) 0 0 A := by
  refine x_met (cc := cX2_add) (maxL := 4) (ret := none) RX2 (by decide) rfl (Nat.le_of_ble_eq_true rfl) rfl ?_
  intro p e s m below meth c hx hb hr hts hown hlocks hml hin hK hA hX ls hl
  have inX0 : ∀ w ∈ wsX00, w ∈ wsX2_add := by decide +kernel
  have inX2 : ∀ w ∈ wsX20, w ∈ wsX2_add := by decide +kernel
  have lk_fieldLink_15 := hts (.fieldLink RX2 15 "Reconcile$Listing" "count" "I") (by decide +kernel)
  have lk_fieldLink_19 := hts (.fieldLink RX2 19 "Reconcile$Listing" "zeros" "[I") (by decide +kernel)
  have lk_fieldLink_23 := hts (.fieldLink RX2 23 "Reconcile$Listing" "ones" "[I") (by decide +kernel)
  have lk_fieldLink_26 := hts (.fieldLink RX2 26 "Reconcile$Listing" "aboves" "[J") (by decide +kernel)
  have lk_fieldLink_43 := hts (.fieldLink RX2 43 "Reconcile$Fraction" "above" "J") (by decide +kernel)
  have lk_fieldLink_30 := hts (.fieldLink RX2 30 "Reconcile$Listing" "belows" "[J") (by decide +kernel)
  have lk_fieldLink_49 := hts (.fieldLink RX2 49 "Reconcile$Fraction" "below" "J") (by decide +kernel)
  have lk_fieldLink_33 := hts (.fieldLink RX2 33 "Reconcile$Listing" "order" "[I") (by decide +kernel)
  have lk_fieldLink_39 := hts (.fieldLink RX2 39 "Reconcile$Listing" "paired" "[Z") (by decide +kernel)
  have hS : va_S A s.heap s.heap [] := va_S.rf
  have hl : lv_has ls 4 [(0, .ref a4), (1, .int (nI z)), (2, .int (nI o)), (3, .ref a5)] := hl
  refine lv_aload_n hx hb dX2_add_0 rfl (lv_at hl 0 rfl) ?_
  refine x_get (ci := 4) (v := .int (nI cn)) (C := RX2) (T := TX2) (N := 9) hx hb hts inX2 hown hK hX hcL rfl 1 (by decide) lk_fieldLink_15 (fun _ h9 => h9) rfl dX2_add_1 ?_
  refine lv_sipush (v := nI 625) hx hb dX2_add_4 (by decide) ?_
  refine lv_icmp_lt (tgt := 11) hx hb dX2_add_7 (by decide) (fun c_1 => ?_) (fun c_1 => ?_)
  · have c_1 : cn < 625 := (nI_ltI (by omega) (by omega)).mp c_1
    refine lv_aload_n hx hb dX2_add_11 rfl (lv_at hl 0 rfl) ?_
    refine x_get (ci := 4) (v := .ref a6) (C := RX2) (T := TX2) (N := 9) hx hb hts inX2 hown hK hX hcL rfl 2 (by decide) lk_fieldLink_19 (fun _ h9 => h9) rfl dX2_add_12 ?_
    refine lv_aload_n hx hb dX2_add_15 rfl (lv_at hl 0 rfl) ?_
    refine x_get (ci := 4) (v := .int (nI cn)) (C := RX2) (T := TX2) (N := 9) hx hb hts inX2 hown hK hX hcL rfl 1 (by decide) lk_fieldLink_15 (fun _ h9 => h9) rfl dX2_add_16 ?_
    refine lv_iload_n hx hb dX2_add_19 rfl (lv_at hl 1 rfl) ?_
    refine x_isN hx hb hK hX hS hc6 (by omega) (by decide) dX2_add_20 (fun H locs hX hS => ?_)
    rw [upd_n] at hX
    obtain ⟨M_2, hM_2⟩ : ∃ zM : xM, zM = xu M 6 (a6, .inl (G.2 0, 625, .inl (fun k => nI ((va_up zs cn z) k)))) := ⟨_, rfl⟩
    have hX : xw G.1 vwCl A M_2 H := by rw [hM_2]; exact hX
    have hcL : M_2 4 = some (a4, .inr (4, [.int bg, .int (nI cn), .ref a6, .ref a7, .ref a8, .ref a9, .ref a10, .ref a11, .ref a12])) := by rw [hM_2, xu_n (by omega)]; exact hcL
    have hc7 : M_2 7 = some (a7, .inl (G.2 0, 625, .inl (fun k => nI (os k)))) := by rw [hM_2, xu_n (by omega)]; exact hc7
    have hc8 : M_2 8 = some (a8, .inl (G.2 1, 625, .inr (.inl (fun k => lN (ab k))))) := by rw [hM_2, xu_n (by omega)]; exact hc8
    have hc9 : M_2 9 = some (a9, .inl (G.2 1, 625, .inr (.inl (fun k => lN (bl k))))) := by rw [hM_2, xu_n (by omega)]; exact hc9
    have hc10 : M_2 10 = some (a10, .inl (G.2 0, 625, .inl (fun k => nI (od k)))) := by rw [hM_2, xu_n (by omega)]; exact hc10
    have hc11 : M_2 11 = some (a11, .inl (G.2 0, 625, .inl (fun k => nI (sp k)))) := by rw [hM_2, xu_n (by omega)]; exact hc11
    have hc12 : M_2 12 = some (a12, .inl (G.2 2, 51, .inl (fun k => nI (pr k)))) := by rw [hM_2, xu_n (by omega)]; exact hc12
    have hcF : M_2 5 = some (a5, .inr (2, [.long (lN an), .long (lN bn)])) := by rw [hM_2, xu_n (by omega)]; exact hcF
    have hc6 : M_2 6 = some (a6, .inl (G.2 0, 625, .inl (fun k => nI ((va_up zs cn z) k)))) := by rw [hM_2]; exact xu_s
    refine lv_aload_n hx hb dX2_add_21 rfl (lv_at hl 0 rfl) ?_
    refine x_get (ci := 4) (v := .ref a7) (C := RX2) (T := TX2) (N := 9) hx hb hts inX2 hown hK hX hcL rfl 3 (by decide) lk_fieldLink_23 (fun _ h9 => h9) rfl dX2_add_22 ?_
    refine lv_aload_n hx hb dX2_add_25 rfl (lv_at hl 0 rfl) ?_
    refine x_get (ci := 4) (v := .int (nI cn)) (C := RX2) (T := TX2) (N := 9) hx hb hts inX2 hown hK hX hcL rfl 1 (by decide) lk_fieldLink_15 (fun _ h9 => h9) rfl dX2_add_26 ?_
    refine lv_iload_n hx hb dX2_add_29 rfl (lv_at hl 2 rfl) ?_
    refine x_isN hx hb hK hX hS hc7 (by omega) (by decide) dX2_add_30 (fun H locs hX hS => ?_)
    rw [upd_n] at hX
    obtain ⟨M_3, hM_3⟩ : ∃ zM : xM, zM = xu M_2 7 (a7, .inl (G.2 0, 625, .inl (fun k => nI ((va_up os cn o) k)))) := ⟨_, rfl⟩
    have hX : xw G.1 vwCl A M_3 H := by rw [hM_3]; exact hX
    have hcL : M_3 4 = some (a4, .inr (4, [.int bg, .int (nI cn), .ref a6, .ref a7, .ref a8, .ref a9, .ref a10, .ref a11, .ref a12])) := by rw [hM_3, xu_n (by omega)]; exact hcL
    have hc6 : M_3 6 = some (a6, .inl (G.2 0, 625, .inl (fun k => nI ((va_up zs cn z) k)))) := by rw [hM_3, xu_n (by omega)]; exact hc6
    have hc8 : M_3 8 = some (a8, .inl (G.2 1, 625, .inr (.inl (fun k => lN (ab k))))) := by rw [hM_3, xu_n (by omega)]; exact hc8
    have hc9 : M_3 9 = some (a9, .inl (G.2 1, 625, .inr (.inl (fun k => lN (bl k))))) := by rw [hM_3, xu_n (by omega)]; exact hc9
    have hc10 : M_3 10 = some (a10, .inl (G.2 0, 625, .inl (fun k => nI (od k)))) := by rw [hM_3, xu_n (by omega)]; exact hc10
    have hc11 : M_3 11 = some (a11, .inl (G.2 0, 625, .inl (fun k => nI (sp k)))) := by rw [hM_3, xu_n (by omega)]; exact hc11
    have hc12 : M_3 12 = some (a12, .inl (G.2 2, 51, .inl (fun k => nI (pr k)))) := by rw [hM_3, xu_n (by omega)]; exact hc12
    have hcF : M_3 5 = some (a5, .inr (2, [.long (lN an), .long (lN bn)])) := by rw [hM_3, xu_n (by omega)]; exact hcF
    have hc7 : M_3 7 = some (a7, .inl (G.2 0, 625, .inl (fun k => nI ((va_up os cn o) k)))) := by rw [hM_3]; exact xu_s
    refine lv_aload_n hx hb dX2_add_31 rfl (lv_at hl 0 rfl) ?_
    refine x_get (ci := 4) (v := .ref a8) (C := RX2) (T := TX2) (N := 9) hx hb hts inX2 hown hK hX hcL rfl 4 (by decide) lk_fieldLink_26 (fun _ h9 => h9) rfl dX2_add_32 ?_
    refine lv_aload_n hx hb dX2_add_35 rfl (lv_at hl 0 rfl) ?_
    refine x_get (ci := 4) (v := .int (nI cn)) (C := RX2) (T := TX2) (N := 9) hx hb hts inX2 hown hK hX hcL rfl 1 (by decide) lk_fieldLink_15 (fun _ h9 => h9) rfl dX2_add_36 ?_
    refine lv_aload_n hx hb dX2_add_39 rfl (lv_at hl 3 rfl) ?_
    refine x_get (ci := 2) (v := .long (lN an)) (C := RX0) (T := TX0) (N := 2) hx hb hts inX0 hown hK hX hcF rfl 0 (by decide) lk_fieldLink_43 (fun _ h9 => h9) rfl dX2_add_40 ?_
    refine x_lsN hx hb hK hX hS hc8 (by omega) (by decide) dX2_add_43 (fun H locs hX hS => ?_)
    rw [updL_n] at hX
    obtain ⟨M_4, hM_4⟩ : ∃ zM : xM, zM = xu M_3 8 (a8, .inl (G.2 1, 625, .inr (.inl (fun k => lN ((va_up ab cn an) k))))) := ⟨_, rfl⟩
    have hX : xw G.1 vwCl A M_4 H := by rw [hM_4]; exact hX
    have hcL : M_4 4 = some (a4, .inr (4, [.int bg, .int (nI cn), .ref a6, .ref a7, .ref a8, .ref a9, .ref a10, .ref a11, .ref a12])) := by rw [hM_4, xu_n (by omega)]; exact hcL
    have hc6 : M_4 6 = some (a6, .inl (G.2 0, 625, .inl (fun k => nI ((va_up zs cn z) k)))) := by rw [hM_4, xu_n (by omega)]; exact hc6
    have hc7 : M_4 7 = some (a7, .inl (G.2 0, 625, .inl (fun k => nI ((va_up os cn o) k)))) := by rw [hM_4, xu_n (by omega)]; exact hc7
    have hc9 : M_4 9 = some (a9, .inl (G.2 1, 625, .inr (.inl (fun k => lN (bl k))))) := by rw [hM_4, xu_n (by omega)]; exact hc9
    have hc10 : M_4 10 = some (a10, .inl (G.2 0, 625, .inl (fun k => nI (od k)))) := by rw [hM_4, xu_n (by omega)]; exact hc10
    have hc11 : M_4 11 = some (a11, .inl (G.2 0, 625, .inl (fun k => nI (sp k)))) := by rw [hM_4, xu_n (by omega)]; exact hc11
    have hc12 : M_4 12 = some (a12, .inl (G.2 2, 51, .inl (fun k => nI (pr k)))) := by rw [hM_4, xu_n (by omega)]; exact hc12
    have hcF : M_4 5 = some (a5, .inr (2, [.long (lN an), .long (lN bn)])) := by rw [hM_4, xu_n (by omega)]; exact hcF
    have hc8 : M_4 8 = some (a8, .inl (G.2 1, 625, .inr (.inl (fun k => lN ((va_up ab cn an) k))))) := by rw [hM_4]; exact xu_s
    refine lv_aload_n hx hb dX2_add_44 rfl (lv_at hl 0 rfl) ?_
    refine x_get (ci := 4) (v := .ref a9) (C := RX2) (T := TX2) (N := 9) hx hb hts inX2 hown hK hX hcL rfl 5 (by decide) lk_fieldLink_30 (fun _ h9 => h9) rfl dX2_add_45 ?_
    refine lv_aload_n hx hb dX2_add_48 rfl (lv_at hl 0 rfl) ?_
    refine x_get (ci := 4) (v := .int (nI cn)) (C := RX2) (T := TX2) (N := 9) hx hb hts inX2 hown hK hX hcL rfl 1 (by decide) lk_fieldLink_15 (fun _ h9 => h9) rfl dX2_add_49 ?_
    refine lv_aload_n hx hb dX2_add_52 rfl (lv_at hl 3 rfl) ?_
    refine x_get (ci := 2) (v := .long (lN bn)) (C := RX0) (T := TX0) (N := 2) hx hb hts inX0 hown hK hX hcF rfl 1 (by decide) lk_fieldLink_49 (fun _ h9 => h9) rfl dX2_add_53 ?_
    refine x_lsN hx hb hK hX hS hc9 (by omega) (by decide) dX2_add_56 (fun H locs hX hS => ?_)
    rw [updL_n] at hX
    obtain ⟨M_5, hM_5⟩ : ∃ zM : xM, zM = xu M_4 9 (a9, .inl (G.2 1, 625, .inr (.inl (fun k => lN ((va_up bl cn bn) k))))) := ⟨_, rfl⟩
    have hX : xw G.1 vwCl A M_5 H := by rw [hM_5]; exact hX
    have hcL : M_5 4 = some (a4, .inr (4, [.int bg, .int (nI cn), .ref a6, .ref a7, .ref a8, .ref a9, .ref a10, .ref a11, .ref a12])) := by rw [hM_5, xu_n (by omega)]; exact hcL
    have hc6 : M_5 6 = some (a6, .inl (G.2 0, 625, .inl (fun k => nI ((va_up zs cn z) k)))) := by rw [hM_5, xu_n (by omega)]; exact hc6
    have hc7 : M_5 7 = some (a7, .inl (G.2 0, 625, .inl (fun k => nI ((va_up os cn o) k)))) := by rw [hM_5, xu_n (by omega)]; exact hc7
    have hc8 : M_5 8 = some (a8, .inl (G.2 1, 625, .inr (.inl (fun k => lN ((va_up ab cn an) k))))) := by rw [hM_5, xu_n (by omega)]; exact hc8
    have hc10 : M_5 10 = some (a10, .inl (G.2 0, 625, .inl (fun k => nI (od k)))) := by rw [hM_5, xu_n (by omega)]; exact hc10
    have hc11 : M_5 11 = some (a11, .inl (G.2 0, 625, .inl (fun k => nI (sp k)))) := by rw [hM_5, xu_n (by omega)]; exact hc11
    have hc12 : M_5 12 = some (a12, .inl (G.2 2, 51, .inl (fun k => nI (pr k)))) := by rw [hM_5, xu_n (by omega)]; exact hc12
    have hcF : M_5 5 = some (a5, .inr (2, [.long (lN an), .long (lN bn)])) := by rw [hM_5, xu_n (by omega)]; exact hcF
    have hc9 : M_5 9 = some (a9, .inl (G.2 1, 625, .inr (.inl (fun k => lN ((va_up bl cn bn) k))))) := by rw [hM_5]; exact xu_s
    refine lv_aload_n hx hb dX2_add_57 rfl (lv_at hl 0 rfl) ?_
    refine x_get (ci := 4) (v := .ref a10) (C := RX2) (T := TX2) (N := 9) hx hb hts inX2 hown hK hX hcL rfl 6 (by decide) lk_fieldLink_33 (fun _ h9 => h9) rfl dX2_add_58 ?_
    refine lv_aload_n hx hb dX2_add_61 rfl (lv_at hl 0 rfl) ?_
    refine x_get (ci := 4) (v := .int (nI cn)) (C := RX2) (T := TX2) (N := 9) hx hb hts inX2 hown hK hX hcL rfl 1 (by decide) lk_fieldLink_15 (fun _ h9 => h9) rfl dX2_add_62 ?_
    refine lv_aload_n hx hb dX2_add_65 rfl (lv_at hl 0 rfl) ?_
    refine x_get (ci := 4) (v := .int (nI cn)) (C := RX2) (T := TX2) (N := 9) hx hb hts inX2 hown hK hX hcL rfl 1 (by decide) lk_fieldLink_15 (fun _ h9 => h9) rfl dX2_add_66 ?_
    refine x_isN hx hb hK hX hS hc10 (by omega) (by decide) dX2_add_69 (fun H locs hX hS => ?_)
    rw [upd_n] at hX
    obtain ⟨M_6, hM_6⟩ : ∃ zM : xM, zM = xu M_5 10 (a10, .inl (G.2 0, 625, .inl (fun k => nI ((va_up od cn cn) k)))) := ⟨_, rfl⟩
    have hX : xw G.1 vwCl A M_6 H := by rw [hM_6]; exact hX
    have hcL : M_6 4 = some (a4, .inr (4, [.int bg, .int (nI cn), .ref a6, .ref a7, .ref a8, .ref a9, .ref a10, .ref a11, .ref a12])) := by rw [hM_6, xu_n (by omega)]; exact hcL
    have hc6 : M_6 6 = some (a6, .inl (G.2 0, 625, .inl (fun k => nI ((va_up zs cn z) k)))) := by rw [hM_6, xu_n (by omega)]; exact hc6
    have hc7 : M_6 7 = some (a7, .inl (G.2 0, 625, .inl (fun k => nI ((va_up os cn o) k)))) := by rw [hM_6, xu_n (by omega)]; exact hc7
    have hc8 : M_6 8 = some (a8, .inl (G.2 1, 625, .inr (.inl (fun k => lN ((va_up ab cn an) k))))) := by rw [hM_6, xu_n (by omega)]; exact hc8
    have hc9 : M_6 9 = some (a9, .inl (G.2 1, 625, .inr (.inl (fun k => lN ((va_up bl cn bn) k))))) := by rw [hM_6, xu_n (by omega)]; exact hc9
    have hc11 : M_6 11 = some (a11, .inl (G.2 0, 625, .inl (fun k => nI (sp k)))) := by rw [hM_6, xu_n (by omega)]; exact hc11
    have hc12 : M_6 12 = some (a12, .inl (G.2 2, 51, .inl (fun k => nI (pr k)))) := by rw [hM_6, xu_n (by omega)]; exact hc12
    have hcF : M_6 5 = some (a5, .inr (2, [.long (lN an), .long (lN bn)])) := by rw [hM_6, xu_n (by omega)]; exact hcF
    have hc10 : M_6 10 = some (a10, .inl (G.2 0, 625, .inl (fun k => nI ((va_up od cn cn) k)))) := by rw [hM_6]; exact xu_s
    refine lv_aload_n hx hb dX2_add_70 rfl (lv_at hl 0 rfl) ?_
    refine x_get (ci := 4) (v := .ref a12) (C := RX2) (T := TX2) (N := 9) hx hb hts inX2 hown hK hX hcL rfl 8 (by decide) lk_fieldLink_39 (fun _ h9 => h9) rfl dX2_add_71 ?_
    refine lv_iload_n hx hb dX2_add_74 rfl (lv_at hl 1 rfl) ?_
    refine lv_iconst (v := nI 1) hx hb dX2_add_75 (by decide) ?_
    refine x_zsN (x' := nI 1) hx hb hK hX hS (by decide) hc12 (by omega) (by decide) dX2_add_76 (fun H locs hX hS => ?_)
    rw [upd_n] at hX
    obtain ⟨M_7, hM_7⟩ : ∃ zM : xM, zM = xu M_6 12 (a12, .inl (G.2 2, 51, .inl (fun k => nI ((va_up pr z 1) k)))) := ⟨_, rfl⟩
    have hX : xw G.1 vwCl A M_7 H := by rw [hM_7]; exact hX
    have hcL : M_7 4 = some (a4, .inr (4, [.int bg, .int (nI cn), .ref a6, .ref a7, .ref a8, .ref a9, .ref a10, .ref a11, .ref a12])) := by rw [hM_7, xu_n (by omega)]; exact hcL
    have hc6 : M_7 6 = some (a6, .inl (G.2 0, 625, .inl (fun k => nI ((va_up zs cn z) k)))) := by rw [hM_7, xu_n (by omega)]; exact hc6
    have hc7 : M_7 7 = some (a7, .inl (G.2 0, 625, .inl (fun k => nI ((va_up os cn o) k)))) := by rw [hM_7, xu_n (by omega)]; exact hc7
    have hc8 : M_7 8 = some (a8, .inl (G.2 1, 625, .inr (.inl (fun k => lN ((va_up ab cn an) k))))) := by rw [hM_7, xu_n (by omega)]; exact hc8
    have hc9 : M_7 9 = some (a9, .inl (G.2 1, 625, .inr (.inl (fun k => lN ((va_up bl cn bn) k))))) := by rw [hM_7, xu_n (by omega)]; exact hc9
    have hc10 : M_7 10 = some (a10, .inl (G.2 0, 625, .inl (fun k => nI ((va_up od cn cn) k)))) := by rw [hM_7, xu_n (by omega)]; exact hc10
    have hc11 : M_7 11 = some (a11, .inl (G.2 0, 625, .inl (fun k => nI (sp k)))) := by rw [hM_7, xu_n (by omega)]; exact hc11
    have hcF : M_7 5 = some (a5, .inr (2, [.long (lN an), .long (lN bn)])) := by rw [hM_7, xu_n (by omega)]; exact hcF
    have hc12 : M_7 12 = some (a12, .inl (G.2 2, 51, .inl (fun k => nI ((va_up pr z 1) k)))) := by rw [hM_7]; exact xu_s
    refine lv_aload_n hx hb dX2_add_77 rfl (lv_at hl 0 rfl) ?_
    refine x_get (ci := 4) (v := .ref a12) (C := RX2) (T := TX2) (N := 9) hx hb hts inX2 hown hK hX hcL rfl 8 (by decide) lk_fieldLink_39 (fun _ h9 => h9) rfl dX2_add_78 ?_
    refine lv_iload_n hx hb dX2_add_81 rfl (lv_at hl 2 rfl) ?_
    refine lv_iconst (v := nI 1) hx hb dX2_add_82 (by decide) ?_
    refine x_zsN (x' := nI 1) hx hb hK hX hS (by decide) hc12 (by omega) (by decide) dX2_add_83 (fun H locs hX hS => ?_)
    rw [upd_n] at hX
    obtain ⟨M_8, hM_8⟩ : ∃ zM : xM, zM = xu M_7 12 (a12, .inl (G.2 2, 51, .inl (fun k => nI ((va_up (va_up pr z 1) o 1) k)))) := ⟨_, rfl⟩
    have hX : xw G.1 vwCl A M_8 H := by rw [hM_8]; exact hX
    have hcL : M_8 4 = some (a4, .inr (4, [.int bg, .int (nI cn), .ref a6, .ref a7, .ref a8, .ref a9, .ref a10, .ref a11, .ref a12])) := by rw [hM_8, xu_n (by omega)]; exact hcL
    have hc6 : M_8 6 = some (a6, .inl (G.2 0, 625, .inl (fun k => nI ((va_up zs cn z) k)))) := by rw [hM_8, xu_n (by omega)]; exact hc6
    have hc7 : M_8 7 = some (a7, .inl (G.2 0, 625, .inl (fun k => nI ((va_up os cn o) k)))) := by rw [hM_8, xu_n (by omega)]; exact hc7
    have hc8 : M_8 8 = some (a8, .inl (G.2 1, 625, .inr (.inl (fun k => lN ((va_up ab cn an) k))))) := by rw [hM_8, xu_n (by omega)]; exact hc8
    have hc9 : M_8 9 = some (a9, .inl (G.2 1, 625, .inr (.inl (fun k => lN ((va_up bl cn bn) k))))) := by rw [hM_8, xu_n (by omega)]; exact hc9
    have hc10 : M_8 10 = some (a10, .inl (G.2 0, 625, .inl (fun k => nI ((va_up od cn cn) k)))) := by rw [hM_8, xu_n (by omega)]; exact hc10
    have hc11 : M_8 11 = some (a11, .inl (G.2 0, 625, .inl (fun k => nI (sp k)))) := by rw [hM_8, xu_n (by omega)]; exact hc11
    have hcF : M_8 5 = some (a5, .inr (2, [.long (lN an), .long (lN bn)])) := by rw [hM_8, xu_n (by omega)]; exact hcF
    have hc12 : M_8 12 = some (a12, .inl (G.2 2, 51, .inl (fun k => nI ((va_up (va_up pr z 1) o 1) k)))) := by rw [hM_8]; exact xu_s
    refine lv_aload_n hx hb dX2_add_84 rfl (lv_at hl 0 rfl) ?_
    refine lv_dup hx hb dX2_add_85 rfl ?_
    refine x_get (ci := 4) (v := .int (nI cn)) (C := RX2) (T := TX2) (N := 9) hx hb hts inX2 hown hK hX hcL rfl 1 (by decide) lk_fieldLink_15 (fun _ h9 => h9) rfl dX2_add_86 ?_
    refine lv_iconst (v := nI 1) hx hb dX2_add_89 (by decide) ?_
    refine lv_iadd hx hb dX2_add_90 ?_
    refine x_ri (nI_add _ _) ?_
    refine x_put (ci := 4) (v := .int (nI (cn + 1))) (C := RX2) (T := TX2) (N := 9) hx hb hts inX2 tyX2 tyX2_ok nmX2 hown hK hX hS hcL rfl 1 (by decide) lk_fieldLink_15 (fun _ h9 => h9) rfl (tyX2_ok 1 (by decide)) rfl rfl (Nat.le_of_ble_eq_true rfl) dX2_add_91 (fun H locs hX hS => ?_)
    obtain ⟨M_9, hM_9⟩ : ∃ zM : xM, zM = xu M_8 4 (a4, .inr (4, [.int bg, .int (nI (cn + 1)), .ref a6, .ref a7, .ref a8, .ref a9, .ref a10, .ref a11, .ref a12])) := ⟨_, rfl⟩
    have hX : xw G.1 vwCl A M_9 H := by rw [hM_9]; exact hX
    have hc6 : M_9 6 = some (a6, .inl (G.2 0, 625, .inl (fun k => nI ((va_up zs cn z) k)))) := by rw [hM_9, xu_n (by omega)]; exact hc6
    have hc7 : M_9 7 = some (a7, .inl (G.2 0, 625, .inl (fun k => nI ((va_up os cn o) k)))) := by rw [hM_9, xu_n (by omega)]; exact hc7
    have hc8 : M_9 8 = some (a8, .inl (G.2 1, 625, .inr (.inl (fun k => lN ((va_up ab cn an) k))))) := by rw [hM_9, xu_n (by omega)]; exact hc8
    have hc9 : M_9 9 = some (a9, .inl (G.2 1, 625, .inr (.inl (fun k => lN ((va_up bl cn bn) k))))) := by rw [hM_9, xu_n (by omega)]; exact hc9
    have hc10 : M_9 10 = some (a10, .inl (G.2 0, 625, .inl (fun k => nI ((va_up od cn cn) k)))) := by rw [hM_9, xu_n (by omega)]; exact hc10
    have hc11 : M_9 11 = some (a11, .inl (G.2 0, 625, .inl (fun k => nI (sp k)))) := by rw [hM_9, xu_n (by omega)]; exact hc11
    have hc12 : M_9 12 = some (a12, .inl (G.2 2, 51, .inl (fun k => nI ((va_up (va_up pr z 1) o 1) k)))) := by rw [hM_9, xu_n (by omega)]; exact hc12
    have hcF : M_9 5 = some (a5, .inr (2, [.long (lN an), .long (lN bn)])) := by rw [hM_9, xu_n (by omega)]; exact hcF
    have hcL : M_9 4 = some (a4, .inr (4, [.int bg, .int (nI (cn + 1)), .ref a6, .ref a7, .ref a8, .ref a9, .ref a10, .ref a11, .ref a12])) := by rw [hM_9]; exact xu_s
    exact x_vret hx hb hr hlocks hK hA hX hS dX2_add_94 (by rw [hM_9, hM_8, hM_7, hM_6, hM_5, hM_4, hM_3, hM_2, x_uu])
  · have c_1 : ¬ (cn < 625) := fun q => c_1 ((nI_ltI (by omega) (by omega)).mpr q)
    exact absurd hlt c_1

abbrev rmX2_isBestOfBoth : Room := { frames := 1, cells := 0, slots := 0, locals := 22 }
set_option maxHeartbeats 4000000 in
set_option maxRecDepth 100000 in
/-- Listing.isBestOfBoth -/
theorem ctX2_isBestOfBoth (l : Launch) (G : xG) (A : Nat → Prop) (M : xM) {bg : Int32} {cn a4 a6 a7 a8 a9 a10 a11 a12 : Nat} {zs os ab bl od sp pr : Nat → Nat} (hcL : M 4 = some (a4, .inr (4, [.int bg, .int (nI cn), .ref a6, .ref a7, .ref a8, .ref a9, .ref a10, .ref a11, .ref a12]))) (hc6 : M 6 = some (a6, .inl (G.2 0, 625, .inl (fun k => nI (zs k))))) (hc7 : M 7 = some (a7, .inl (G.2 0, 625, .inl (fun k => nI (os k))))) (hc8 : M 8 = some (a8, .inl (G.2 1, 625, .inr (.inl (fun k => lN (ab k)))))) (hc9 : M 9 = some (a9, .inl (G.2 1, 625, .inr (.inl (fun k => lN (bl k)))))) (hc10 : M 10 = some (a10, .inl (G.2 0, 625, .inl (fun k => nI (od k))))) (hc11 : M 11 = some (a11, .inl (G.2 0, 625, .inl (fun k => nI (sp k))))) (hc12 : M 12 = some (a12, .inl (G.2 2, 51, .inl (fun k => nI (pr k))))) (hcn : cn ≤ 625) (ip : Nat) (hip : ip < cn) (hod : ∀ j, j < cn → od j < 625 ∧ ab (od j) < 1000000000 ∧ bl (od j) < 1000000000) (hzs : ∀ j, j < 625 → zs j < 1000) (hos : ∀ j, j < 625 → os j < 1000) : Met l yX2_isBestOfBoth wsX2_isBestOfBoth rmX2_isBestOfBoth (va_Pc ([.ref a4, .int (nI ip)] : List Value) (xPc G A M)) (va_Qi (fun r M1 => M1 = M ∧ (r = 0 ∧ ¬ xBest zs os ab bl od ip ip ∨ r = 1 ∧ xBest zs os ab bl od ip ip)) (xPc G A) A) 0 0 A := by
  refine x_met (cc := cX2_isBestOfBoth) (maxL := 6) (ret := (some .boolean)) RX2 (by decide) rfl (Nat.le_of_ble_eq_true rfl) rfl ?_
  intro p e s m below meth c hx hb hr hts hown hlocks hml hin hK hA hX ls hl
  have inX2 : ∀ w ∈ wsX20, w ∈ wsX2_isBestOfBoth := by decide +kernel
  have lk_fieldLink_33 := hts (.fieldLink RX2 33 "Reconcile$Listing" "order" "[I") (by decide +kernel)
  have lk_fieldLink_19 := hts (.fieldLink RX2 19 "Reconcile$Listing" "zeros" "[I") (by decide +kernel)
  have lk_fieldLink_23 := hts (.fieldLink RX2 23 "Reconcile$Listing" "ones" "[I") (by decide +kernel)
  have hS : va_S A s.heap s.heap [] := va_S.rf
  have hl : lv_has ls 6 [(0, .ref a4), (1, .int (nI ip))] := hl
  have ho1 := hod ip (by omega)
  have hzo := hzs (od ip) ho1.1
  have hoo := hos (od ip) ho1.1
  refine lv_aload_n hx hb dX2_isBestOfBoth_0 rfl (lv_at hl 0 rfl) ?_
  refine x_get (ci := 4) (v := .ref a10) (C := RX2) (T := TX2) (N := 9) hx hb hts inX2 hown hK hX hcL rfl 6 (by decide) lk_fieldLink_33 (fun _ h9 => h9) rfl dX2_isBestOfBoth_1 ?_
  refine lv_iload_n hx hb dX2_isBestOfBoth_4 rfl (lv_at hl 1 rfl) ?_
  refine x_iN hx hb hK hX hc10 (by omega) (by decide) dX2_isBestOfBoth_5 ?_
  refine lv_istore_n (lv' := [(2, .int (nI (od ip))), (0, .ref a4), (1, .int (nI ip))]) hx hb dX2_isBestOfBoth_6 rfl hl (by decide) rfl (fun ls hl => ?_)
  refine lv_iconst (v := nI 0) hx hb dX2_isBestOfBoth_7 (by decide) ?_
  refine lv_istore_n (lv' := [(3, .int (nI 0)), (2, .int (nI (od ip))), (0, .ref a4), (1, .int (nI ip))]) hx hb dX2_isBestOfBoth_8 rfl hl (by decide) rfl (fun ls hl => ?_)
  have loop : ∀ (n : Nat) (i : Nat) (H : Heap) (locs : List Loc) (ls : Array Slot), ip < i + n → (i ≤ ip) → (xBest zs os ab bl od ip i) → xw G.1 vwCl A M H → va_S A s.heap H locs → lv_has ls 6 [(3, .int (nI i)), (2, .int (nI (od ip))), (0, .ref a4), (1, .int (nI ip))] → W p l e rmX2_isBestOfBoth s m ([.ref a4, .int (nI ip)] : List Value).toArray below meth c H locs 0 0 (MQ below (va_Qi (fun r M1 => M1 = M ∧ (r = 0 ∧ ¬ xBest zs os ab bl od ip ip ∨ r = 1 ∧ xBest zs os ab bl od ip ip)) (xPc G A) A) ([.ref a4, .int (nI ip)] : List Value).toArray s 0 0 A) (F0 m 9 ls []) := by
    intro n
    induction n with
    | zero => intro i H locs ls hn0 hi hv; exact absurd hn0 (by omega)
    | succ n ih =>
      intro i H locs ls hn0 hi hv hX hS hl
      refine lv_iload_n hx hb dX2_isBestOfBoth_9 rfl (lv_at hl 0 rfl) ?_
      refine lv_iload_n hx hb dX2_isBestOfBoth_10 rfl (lv_at hl 3 rfl) ?_
      refine lv_icmp_ge (tgt := 84) hx hb dX2_isBestOfBoth_11 (by decide) (fun c_1 => ?_) (fun c_1 => ?_)
      · have c_1 : ip ≤ i := (nI_leI (by omega) (by omega)).mp c_1
        refine lv_iconst (v := nI 1) hx hb dX2_isBestOfBoth_84 (by decide) ?_
        exact x_zret hx hb hr hlocks hK hA hX hS dX2_isBestOfBoth_85 rfl (⟨rfl, Or.inr ⟨rfl, by rw [show i = ip by omega] at hv; exact hv⟩⟩)
      · have c_1 : ¬ (ip ≤ i) := fun q => c_1 ((nI_leI (by omega) (by omega)).mpr q)
        have ho2 := hod i (by omega)
        have hzi := hzs (od i) ho2.1
        have hoi := hos (od i) ho2.1
        refine lv_aload_n hx hb dX2_isBestOfBoth_14 rfl (lv_at hl 2 rfl) ?_
        refine x_get (ci := 4) (v := .ref a10) (C := RX2) (T := TX2) (N := 9) hx hb hts inX2 hown hK hX hcL rfl 6 (by decide) lk_fieldLink_33 (fun _ h9 => h9) rfl dX2_isBestOfBoth_15 ?_
        refine lv_iload_n hx hb dX2_isBestOfBoth_18 rfl (lv_at hl 0 rfl) ?_
        refine x_iN hx hb hK hX hc10 (by omega) (by decide) dX2_isBestOfBoth_19 ?_
        refine lv_istore (lv' := [(4, .int (nI (od i))), (3, .int (nI i)), (2, .int (nI (od ip))), (0, .ref a4), (1, .int (nI ip))]) hx hb dX2_isBestOfBoth_20 hl (by decide) rfl (fun ls hl => ?_)
        refine lv_aload_n hx hb dX2_isBestOfBoth_22 rfl (lv_at hl 3 rfl) ?_
        refine x_get (ci := 4) (v := .ref a6) (C := RX2) (T := TX2) (N := 9) hx hb hts inX2 hown hK hX hcL rfl 2 (by decide) lk_fieldLink_19 (fun _ h9 => h9) rfl dX2_isBestOfBoth_23 ?_
        refine lv_iload hx hb dX2_isBestOfBoth_26 (lv_at hl 0 rfl) ?_
        refine x_iN hx hb hK hX hc6 (by omega) (by decide) dX2_isBestOfBoth_28 ?_
        refine lv_aload_n hx hb dX2_isBestOfBoth_29 rfl (lv_at hl 3 rfl) ?_
        refine x_get (ci := 4) (v := .ref a6) (C := RX2) (T := TX2) (N := 9) hx hb hts inX2 hown hK hX hcL rfl 2 (by decide) lk_fieldLink_19 (fun _ h9 => h9) rfl dX2_isBestOfBoth_30 ?_
        refine lv_iload_n hx hb dX2_isBestOfBoth_33 rfl (lv_at hl 2 rfl) ?_
        refine x_iN hx hb hK hX hc6 (by omega) (by decide) dX2_isBestOfBoth_34 ?_
        refine lv_icmp_eq (tgt := 54) hx hb dX2_isBestOfBoth_35 (by decide) (fun c_2 => ?_) (fun c_2 => ?_)
        · have c_2 : (zs (od i)) = (zs (od ip)) := (nI_eq (by omega) (by omega)).mp c_2
          refine lv_iconst (v := nI 1) hx hb dX2_isBestOfBoth_54 (by decide) ?_
          refine lv_goto (tgt := 59) hx hb dX2_isBestOfBoth_55 (by decide) ?_
          refine lv_istore (lv' := [(5, .int (nI 1)), (4, .int (nI (od i))), (3, .int (nI i)), (2, .int (nI (od ip))), (0, .ref a4), (1, .int (nI ip))]) hx hb dX2_isBestOfBoth_59 hl (by decide) rfl (fun ls hl => ?_)
          refine lv_iload hx hb dX2_isBestOfBoth_61 (lv_at hl 0 rfl) ?_
          refine lv_if_eq (tgt := 78) hx hb dX2_isBestOfBoth_63 (by decide) (fun c_3 => ?_) (fun c_3 => ?_)
          · have c_3 : 1 = 0 := (nI_eq (a := 1) (b := 0) (by omega) (by omega)).mp c_3
            exact absurd c_3 (by decide)
          · have c_3 : ¬ (1 = 0) := fun q => c_3 ((nI_eq (a := 1) (b := 0) (by omega) (by omega)).mpr q)
            refine lv_aload_n hx hb dX2_isBestOfBoth_66 rfl (lv_at hl 4 rfl) ?_
            refine lv_iload hx hb dX2_isBestOfBoth_67 (lv_at hl 1 rfl) ?_
            refine lv_iload_n hx hb dX2_isBestOfBoth_69 rfl (lv_at hl 3 rfl) ?_
            refine x_calli (x_runV (q := (RX2, TX2, 9)) (As := [.int (nI (od i)), .int (nI (od ip))]) (rest := []) ⟨hx, hb, hml, hown, hts⟩ (ctX2_isGreater l G A M hcL hc6 hc7 hc8 hc9 hc10 hc11 hc12 hcn (od i) (od ip) ho2.1 ho1.1 ho2.2.1 ho1.2.1 ho2.2.2 ho1.2.2) (cwV 2 hts gX2_isBestOfBoth_X2_isGreater rfl rfl rfl (by decide +kernel) ⟨Nat.le_of_ble_eq_true rfl, Nat.le_of_ble_eq_true rfl⟩) hK hA hX hS hcL rfl rfl hl.1 rfl (lv_room (Nat.le_of_ble_eq_true rfl)) dX2_isBestOfBoth_70 ⟨by decide, by decide⟩) hS (fun r_4 M_5 H locs hp hX hS => ?_)
            obtain ⟨hM_, er_4⟩ := hp
            rw [hM_] at hX
            refine lv_if_eq (tgt := 78) hx hb dX2_isBestOfBoth_73 (by decide) (fun c_6 => ?_) (fun c_6 => ?_)
            · have hng : ¬ xGt ab bl (od i) (od ip) := by rcases er_4 with ⟨_, q⟩ | ⟨q, _⟩; exact q; rw [q] at c_6; exact absurd c_6 (by decide)
              refine lv_iinc (v := nI (i + 1)) (lv' := [(3, .int (nI (i + 1))), (5, .int (nI 1)), (4, .int (nI (od i))), (2, .int (nI (od ip))), (0, .ref a4), (1, .int (nI ip))]) hx hb dX2_isBestOfBoth_78 hl (k := 2) rfl (show nI i + Int32.ofInt 1 = _ from nI_add _ 1) (by decide) rfl (fun ls hl => ?_)
              refine lv_goto (tgt := 9) hx hb dX2_isBestOfBoth_81 (by decide) ?_
              exact ih (i + 1) _ _ ls (by omega) (by omega) (lt_s hv (fun q => hng q.2)) hX hS (lv_sub hl [0, 3, 4, 5] rfl)
            · have hg : xGt ab bl (od i) (od ip) := by rcases er_4 with ⟨q, _⟩ | ⟨_, q⟩; exact absurd q c_6; exact q
              refine lv_iconst (v := nI 0) hx hb dX2_isBestOfBoth_76 (by decide) ?_
              exact x_zret hx hb hr hlocks hK hA hX hS dX2_isBestOfBoth_77 rfl (⟨rfl, Or.inl ⟨rfl, fun q => q i (by omega) ⟨Or.inl c_2, hg⟩⟩⟩)
        · have c_2 : ¬ ((zs (od i)) = (zs (od ip))) := fun q => c_2 ((nI_eq (by omega) (by omega)).mpr q)
          refine lv_aload_n hx hb dX2_isBestOfBoth_38 rfl (lv_at hl 3 rfl) ?_
          refine x_get (ci := 4) (v := .ref a7) (C := RX2) (T := TX2) (N := 9) hx hb hts inX2 hown hK hX hcL rfl 3 (by decide) lk_fieldLink_23 (fun _ h9 => h9) rfl dX2_isBestOfBoth_39 ?_
          refine lv_iload hx hb dX2_isBestOfBoth_42 (lv_at hl 0 rfl) ?_
          refine x_iN hx hb hK hX hc7 (by omega) (by decide) dX2_isBestOfBoth_44 ?_
          refine lv_aload_n hx hb dX2_isBestOfBoth_45 rfl (lv_at hl 3 rfl) ?_
          refine x_get (ci := 4) (v := .ref a7) (C := RX2) (T := TX2) (N := 9) hx hb hts inX2 hown hK hX hcL rfl 3 (by decide) lk_fieldLink_23 (fun _ h9 => h9) rfl dX2_isBestOfBoth_46 ?_
          refine lv_iload_n hx hb dX2_isBestOfBoth_49 rfl (lv_at hl 2 rfl) ?_
          refine x_iN hx hb hK hX hc7 (by omega) (by decide) dX2_isBestOfBoth_50 ?_
          refine lv_icmp_ne (tgt := 58) hx hb dX2_isBestOfBoth_51 (by decide) (fun c_7 => ?_) (fun c_7 => ?_)
          · have c_7 : ¬ ((os (od i)) = (os (od ip))) := fun q => c_7 ((nI_eq (by omega) (by omega)).mpr q)
            refine lv_iconst (v := nI 0) hx hb dX2_isBestOfBoth_58 (by decide) ?_
            refine lv_istore (lv' := [(5, .int (nI 0)), (4, .int (nI (od i))), (3, .int (nI i)), (2, .int (nI (od ip))), (0, .ref a4), (1, .int (nI ip))]) hx hb dX2_isBestOfBoth_59 hl (by decide) rfl (fun ls hl => ?_)
            refine lv_iload hx hb dX2_isBestOfBoth_61 (lv_at hl 0 rfl) ?_
            refine lv_if_eq (tgt := 78) hx hb dX2_isBestOfBoth_63 (by decide) (fun c_8 => ?_) (fun c_8 => ?_)
            · have c_8 : 0 = 0 := (nI_eq (a := 0) (b := 0) (by omega) (by omega)).mp c_8
              refine lv_iinc (v := nI (i + 1)) (lv' := [(3, .int (nI (i + 1))), (5, .int (nI 0)), (4, .int (nI (od i))), (2, .int (nI (od ip))), (0, .ref a4), (1, .int (nI ip))]) hx hb dX2_isBestOfBoth_78 hl (k := 2) rfl (show nI i + Int32.ofInt 1 = _ from nI_add _ 1) (by decide) rfl (fun ls hl => ?_)
              refine lv_goto (tgt := 9) hx hb dX2_isBestOfBoth_81 (by decide) ?_
              exact ih (i + 1) _ _ ls (by omega) (by omega) (lt_s hv (fun q => q.1.elim (fun z => c_2 z) (fun z => c_7 z))) hX hS (lv_sub hl [0, 3, 4, 5] rfl)
            · have c_8 : ¬ (0 = 0) := fun q => c_8 ((nI_eq (a := 0) (b := 0) (by omega) (by omega)).mpr q)
              exact absurd c_8 (by decide)
          · have c_7 : (os (od i)) = (os (od ip)) := (nI_eq (by omega) (by omega)).mp c_7
            refine lv_iconst (v := nI 1) hx hb dX2_isBestOfBoth_54 (by decide) ?_
            refine lv_goto (tgt := 59) hx hb dX2_isBestOfBoth_55 (by decide) ?_
            refine lv_istore (lv' := [(5, .int (nI 1)), (4, .int (nI (od i))), (3, .int (nI i)), (2, .int (nI (od ip))), (0, .ref a4), (1, .int (nI ip))]) hx hb dX2_isBestOfBoth_59 hl (by decide) rfl (fun ls hl => ?_)
            refine lv_iload hx hb dX2_isBestOfBoth_61 (lv_at hl 0 rfl) ?_
            refine lv_if_eq (tgt := 78) hx hb dX2_isBestOfBoth_63 (by decide) (fun c_9 => ?_) (fun c_9 => ?_)
            · have c_9 : 1 = 0 := (nI_eq (a := 1) (b := 0) (by omega) (by omega)).mp c_9
              exact absurd c_9 (by decide)
            · have c_9 : ¬ (1 = 0) := fun q => c_9 ((nI_eq (a := 1) (b := 0) (by omega) (by omega)).mpr q)
              refine lv_aload_n hx hb dX2_isBestOfBoth_66 rfl (lv_at hl 4 rfl) ?_
              refine lv_iload hx hb dX2_isBestOfBoth_67 (lv_at hl 1 rfl) ?_
              refine lv_iload_n hx hb dX2_isBestOfBoth_69 rfl (lv_at hl 3 rfl) ?_
              refine x_calli (x_runV (q := (RX2, TX2, 9)) (As := [.int (nI (od i)), .int (nI (od ip))]) (rest := []) ⟨hx, hb, hml, hown, hts⟩ (ctX2_isGreater l G A M hcL hc6 hc7 hc8 hc9 hc10 hc11 hc12 hcn (od i) (od ip) ho2.1 ho1.1 ho2.2.1 ho1.2.1 ho2.2.2 ho1.2.2) (cwV 2 hts gX2_isBestOfBoth_X2_isGreater rfl rfl rfl (by decide +kernel) ⟨Nat.le_of_ble_eq_true rfl, Nat.le_of_ble_eq_true rfl⟩) hK hA hX hS hcL rfl rfl hl.1 rfl (lv_room (Nat.le_of_ble_eq_true rfl)) dX2_isBestOfBoth_70 ⟨by decide, by decide⟩) hS (fun r_10 M_11 H locs hp hX hS => ?_)
              obtain ⟨hM_, er_10⟩ := hp
              rw [hM_] at hX
              refine lv_if_eq (tgt := 78) hx hb dX2_isBestOfBoth_73 (by decide) (fun c_12 => ?_) (fun c_12 => ?_)
              · have hng : ¬ xGt ab bl (od i) (od ip) := by rcases er_10 with ⟨_, q⟩ | ⟨q, _⟩; exact q; rw [q] at c_12; exact absurd c_12 (by decide)
                refine lv_iinc (v := nI (i + 1)) (lv' := [(3, .int (nI (i + 1))), (5, .int (nI 1)), (4, .int (nI (od i))), (2, .int (nI (od ip))), (0, .ref a4), (1, .int (nI ip))]) hx hb dX2_isBestOfBoth_78 hl (k := 2) rfl (show nI i + Int32.ofInt 1 = _ from nI_add _ 1) (by decide) rfl (fun ls hl => ?_)
                refine lv_goto (tgt := 9) hx hb dX2_isBestOfBoth_81 (by decide) ?_
                exact ih (i + 1) _ _ ls (by omega) (by omega) (lt_s hv (fun q => hng q.2)) hX hS (lv_sub hl [0, 3, 4, 5] rfl)
              · have hg : xGt ab bl (od i) (od ip) := by rcases er_10 with ⟨q, _⟩ | ⟨_, q⟩; exact absurd q c_12; exact q
                refine lv_iconst (v := nI 0) hx hb dX2_isBestOfBoth_76 (by decide) ?_
                exact x_zret hx hb hr hlocks hK hA hX hS dX2_isBestOfBoth_77 rfl (⟨rfl, Or.inl ⟨rfl, fun q => q i (by omega) ⟨Or.inr c_7, hg⟩⟩⟩)
  exact loop (ip + 1) 0 _ _ ls (by omega) (by omega) (fun q hq => absurd hq (by omega)) hX hS (lv_sub hl [0, 1, 2, 3] rfl)

abbrev rmX2_partner : Room := { frames := 1, cells := 0, slots := 0, locals := 23 }
set_option maxHeartbeats 4000000 in
set_option maxRecDepth 100000 in
/-- Listing.partner -/
theorem ctX2_partner (l : Launch) (G : xG) (A : Nat → Prop) (M : xM) {bg : Int32} {cn a4 a6 a7 a8 a9 a10 a11 a12 : Nat} {zs os ab bl od sp pr : Nat → Nat} (hcL : M 4 = some (a4, .inr (4, [.int bg, .int (nI cn), .ref a6, .ref a7, .ref a8, .ref a9, .ref a10, .ref a11, .ref a12]))) (hc6 : M 6 = some (a6, .inl (G.2 0, 625, .inl (fun k => nI (zs k))))) (hc7 : M 7 = some (a7, .inl (G.2 0, 625, .inl (fun k => nI (os k))))) (hc8 : M 8 = some (a8, .inl (G.2 1, 625, .inr (.inl (fun k => lN (ab k)))))) (hc9 : M 9 = some (a9, .inl (G.2 1, 625, .inr (.inl (fun k => lN (bl k)))))) (hc10 : M 10 = some (a10, .inl (G.2 0, 625, .inl (fun k => nI (od k))))) (hc11 : M 11 = some (a11, .inl (G.2 0, 625, .inl (fun k => nI (sp k))))) (hc12 : M 12 = some (a12, .inl (G.2 2, 51, .inl (fun k => nI (pr k))))) (hcn : cn ≤ 625) (sd : Nat) (hsd : sd ≤ 1) (p1 p2 : Int32) (hod : ∀ j, j < cn → od j < 625) : Met l yX2_partner wsX2_partner rmX2_partner (va_Pc ([.ref a4, .int (nI sd), .int p1, .int p2] : List Value) (xPc G A M)) (va_Qi (fun r M1 => M1 = M ∧ r = xScan (fun j => decide ((if sd = 1 then nI (os (od j)) else nI (zs (od j))) = p1)) (fun j => if sd = 1 then nI (zs (od j)) else nI (os (od j))) p2 cn 0 0) (xPc G A) A) 0 0 A := by
  refine x_met (cc := cX2_partner) (maxL := 6) (ret := (some .int)) RX2 (by decide) rfl (Nat.le_of_ble_eq_true rfl) rfl ?_
  intro p e s m below meth c hx hb hr hts hown hlocks hml hin hK hA hX ls hl
  have inX2 : ∀ w ∈ wsX20, w ∈ wsX2_partner := by decide +kernel
  have lk_fieldLink_15 := hts (.fieldLink RX2 15 "Reconcile$Listing" "count" "I") (by decide +kernel)
  have hS : va_S A s.heap s.heap [] := va_S.rf
  have hl : lv_has ls 6 [(0, .ref a4), (1, .int (nI sd)), (2, .int p1), (3, .int p2)] := hl
  have esd : (nI sd = nI 1) = (sd = 1) := propext (nI_eq (by omega) (by omega))
  have esd2 : (nI (1 - sd) = nI 1) = ¬ (sd = 1) := propext ((nI_eq (by omega) (by omega)).trans (by omega))
  refine lv_iconst (v := nI 0) hx hb dX2_partner_0 (by decide) ?_
  refine lv_istore (lv' := [(4, .int (nI 0)), (0, .ref a4), (1, .int (nI sd)), (2, .int p1), (3, .int p2)]) hx hb dX2_partner_1 hl (by decide) rfl (fun ls hl => ?_)
  refine lv_iconst (v := nI 0) hx hb dX2_partner_3 (by decide) ?_
  refine lv_istore (lv' := [(5, .int (nI 0)), (4, .int (nI 0)), (0, .ref a4), (1, .int (nI sd)), (2, .int p1), (3, .int p2)]) hx hb dX2_partner_4 hl (by decide) rfl (fun ls hl => ?_)
  have loop : ∀ (n : Nat) (i : Nat) (b : Nat) (H : Heap) (locs : List Loc) (ls : Array Slot), cn < i + n → (i ≤ cn) → (b ≤ i) → (xScan (fun j => decide ((if sd = 1 then nI (os (od j)) else nI (zs (od j))) = p1)) (fun j => if sd = 1 then nI (zs (od j)) else nI (os (od j))) p2 (cn - i) i b = xScan (fun j => decide ((if sd = 1 then nI (os (od j)) else nI (zs (od j))) = p1)) (fun j => if sd = 1 then nI (zs (od j)) else nI (os (od j))) p2 cn 0 0) → xw G.1 vwCl A M H → va_S A s.heap H locs → lv_has ls 6 [(5, .int (nI i)), (4, .int (nI b)), (0, .ref a4), (1, .int (nI sd)), (2, .int p1), (3, .int p2)] → W p l e rmX2_partner s m ([.ref a4, .int (nI sd), .int p1, .int p2] : List Value).toArray below meth c H locs 0 0 (MQ below (va_Qi (fun r M1 => M1 = M ∧ r = xScan (fun j => decide ((if sd = 1 then nI (os (od j)) else nI (zs (od j))) = p1)) (fun j => if sd = 1 then nI (zs (od j)) else nI (os (od j))) p2 cn 0 0) (xPc G A) A) ([.ref a4, .int (nI sd), .int p1, .int p2] : List Value).toArray s 0 0 A) (F0 m 6 ls []) := by
    intro n
    induction n with
    | zero => intro i b H locs ls hn0 hi hb9 hv; exact absurd hn0 (by omega)
    | succ n ih =>
      intro i b H locs ls hn0 hi hb9 hv hX hS hl
      refine lv_iload hx hb dX2_partner_6 (lv_at hl 0 rfl) ?_
      refine lv_aload_n hx hb dX2_partner_8 rfl (lv_at hl 2 rfl) ?_
      refine x_get (ci := 4) (v := .int (nI cn)) (C := RX2) (T := TX2) (N := 9) hx hb hts inX2 hown hK hX hcL rfl 1 (by decide) lk_fieldLink_15 (fun _ h9 => h9) rfl dX2_partner_9 ?_
      refine lv_icmp_ge (tgt := 51) hx hb dX2_partner_12 (by decide) (fun c_1 => ?_) (fun c_1 => ?_)
      · have c_1 : cn ≤ i := (nI_leI (by omega) (by omega)).mp c_1
        refine lv_iconst (v := nI 0) hx hb dX2_partner_51 (by decide) ?_
        exact x_iret hx hb hr hlocks hK hA hX hS dX2_partner_52 (⟨rfl, by rw [← hv, xScan_0 (by omega)]; rfl⟩)
      · have c_1 : ¬ (cn ≤ i) := fun q => c_1 ((nI_leI (by omega) (by omega)).mpr q)
        refine lv_aload_n hx hb dX2_partner_15 rfl (lv_at hl 2 rfl) ?_
        refine lv_iload hx hb dX2_partner_16 (lv_at hl 0 rfl) ?_
        refine lv_iload_n hx hb dX2_partner_18 rfl (lv_at hl 3 rfl) ?_
        refine x_calli (x_runV (q := (RX2, TX2, 9)) (As := [.int (nI i), .int (nI sd)]) (rest := []) ⟨hx, hb, hml, hown, hts⟩ (ctX2_nameAt l G A M hcL hc6 hc7 hc8 hc9 hc10 hc11 hc12 hcn i (nI sd) (by omega) (hod i (by omega))) (cwV 2 hts gX2_partner_X2_nameAt rfl rfl rfl (by decide +kernel) ⟨Nat.le_of_ble_eq_true rfl, Nat.le_of_ble_eq_true rfl⟩) hK hA hX hS hcL rfl rfl hl.1 rfl (lv_room (Nat.le_of_ble_eq_true rfl)) dX2_partner_19 ⟨by decide, by decide⟩) hS (fun r_2 M_3 H locs hp hX hS => ?_)
        obtain ⟨hM_, er_2⟩ := hp
        rw [hM_] at hX
        simp only [esd] at er_2
        refine lv_iload_n hx hb dX2_partner_22 rfl (lv_at hl 4 rfl) ?_
        refine lv_icmp_ne (tgt := 45) hx hb dX2_partner_23 (by decide) (fun c_4 => ?_) (fun c_4 => ?_)
        · have hP : (fun j => decide ((if sd = 1 then nI (os (od j)) else nI (zs (od j))) = p1)) i = false := by show decide _ = false; rw [← er_2]; exact decide_eq_false c_4
          refine lv_iinc (v := nI (i + 1)) (lv' := [(5, .int (nI (i + 1))), (4, .int (nI b)), (0, .ref a4), (1, .int (nI sd)), (2, .int p1), (3, .int p2)]) hx hb dX2_partner_45 hl (k := 0) rfl (show nI i + Int32.ofInt 1 = _ from nI_add _ 1) (by decide) rfl (fun ls hl => ?_)
          refine lv_goto (tgt := 6) hx hb dX2_partner_48 (by decide) ?_
          exact ih (i + 1) b _ _ ls (by omega) (by omega) (by omega) (by have q := xScan_pass (P := (fun j => decide ((if sd = 1 then nI (os (od j)) else nI (zs (od j))) = p1))) (i := i) (v := (fun j => if sd = 1 then nI (zs (od j)) else nI (os (od j)))) (k := p2) (f := cn - i) (b := b) hP (by omega); rw [Nat.sub_sub] at q; exact q.symm.trans hv) hX hS (lv_sub hl [0, 1, 2, 3, 4, 5] rfl)
        · have hP : (fun j => decide ((if sd = 1 then nI (os (od j)) else nI (zs (od j))) = p1)) i = true := by show decide _ = true; rw [← er_2]; exact decide_eq_true c_4
          refine lv_iload hx hb dX2_partner_26 (lv_at hl 1 rfl) ?_
          refine lv_iload_n hx hb dX2_partner_28 rfl (lv_at hl 5 rfl) ?_
          refine lv_icmp_ne (tgt := 42) hx hb dX2_partner_29 (by decide) (fun c_5 => ?_) (fun c_5 => ?_)
          · refine lv_iinc (v := nI (b + 1)) (lv' := [(4, .int (nI (b + 1))), (5, .int (nI i)), (0, .ref a4), (1, .int (nI sd)), (2, .int p1), (3, .int p2)]) hx hb dX2_partner_42 hl (k := 1) rfl (show nI b + Int32.ofInt 1 = _ from nI_add _ 1) (by decide) rfl (fun ls hl => ?_)
            refine lv_iinc (v := nI (i + 1)) (lv' := [(5, .int (nI (i + 1))), (4, .int (nI (b + 1))), (0, .ref a4), (1, .int (nI sd)), (2, .int p1), (3, .int p2)]) hx hb dX2_partner_45 hl (k := 1) rfl (show nI i + Int32.ofInt 1 = _ from nI_add _ 1) (by decide) rfl (fun ls hl => ?_)
            refine lv_goto (tgt := 6) hx hb dX2_partner_48 (by decide) ?_
            exact ih (i + 1) (b + 1) _ _ ls (by omega) (by omega) (by omega) (by have q := xScan_miss (P := (fun j => decide ((if sd = 1 then nI (os (od j)) else nI (zs (od j))) = p1))) (i := i) (v := (fun j => if sd = 1 then nI (zs (od j)) else nI (os (od j)))) (k := p2) (f := cn - i) (b := b) hP c_5 (by omega); rw [Nat.sub_sub] at q; exact q.symm.trans hv) hX hS (lv_sub hl [0, 1, 2, 3, 4, 5] rfl)
          · refine lv_aload_n hx hb dX2_partner_32 rfl (lv_at hl 2 rfl) ?_
            refine lv_iload hx hb dX2_partner_33 (lv_at hl 0 rfl) ?_
            refine lv_iconst (v := nI 1) hx hb dX2_partner_35 (by decide) ?_
            refine lv_iload_n hx hb dX2_partner_36 rfl (lv_at hl 3 rfl) ?_
            refine lv_isub hx hb dX2_partner_37 ?_
            refine x_ri (pk_sub (by omega)) ?_
            refine x_calli (x_runV (q := (RX2, TX2, 9)) (As := [.int (nI i), .int (nI (1 - sd))]) (rest := []) ⟨hx, hb, hml, hown, hts⟩ (ctX2_nameAt l G A M hcL hc6 hc7 hc8 hc9 hc10 hc11 hc12 hcn i (nI (1 - sd)) (by omega) (hod i (by omega))) (cwV 2 hts gX2_partner_X2_nameAt rfl rfl rfl (by decide +kernel) ⟨Nat.le_of_ble_eq_true rfl, Nat.le_of_ble_eq_true rfl⟩) hK hA hX hS hcL rfl rfl hl.1 rfl (lv_room (Nat.le_of_ble_eq_true rfl)) dX2_partner_38 ⟨by decide, by decide⟩) hS (fun r_6 M_7 H locs hp hX hS => ?_)
            obtain ⟨hM_, er_6⟩ := hp
            rw [hM_] at hX
            simp only [esd2] at er_6
            exact x_iret hx hb hr hlocks hK hA hX hS dX2_partner_41 (⟨rfl, by rw [← hv, xScan_hit hP c_5 (by omega), er_6, ite_not]⟩)
  exact loop (cn + 1) 0 0 _ _ ls (by omega) (by omega) (by omega) rfl hX hS (lv_sub hl [0, 1, 2, 3, 4, 5] rfl)
