/-! Fraction, Join -/
theorem xSh_le {tk kd otk okd : Nat → Int32} {otc : Nat} {wn : Nat → Nat} : ∀ n, xSh tk kd otk okd otc wn n ≤ xAll kd wn n
  | 0 => Nat.le_refl _
  | n + 1 => by
    have h := xSh_le (tk := tk) (kd := kd) (otk := otk) (okd := okd) (otc := otc) (wn := wn) n
    simp only [xSh, xAll]
    split <;> omega
theorem xAll_le {kd : Nat → Int32} {wn : Nat → Nat} {B : Nat} (h : ∀ k, wn k ≤ B) : ∀ n, xAll kd wn n ≤ n * B
  | 0 => by simp [xAll]
  | n + 1 => by
    have h1 := xAll_le (kd := kd) h n
    have h2 := h (kd n).toNatClampNeg
    simp only [xAll, Nat.succ_mul]
    omega
theorem gd_step {g r i : Nat} (hr : 0 < r) (h : (g < 1099511627776 ∧ r < 1099511627776) ∧ (i = 0 ∨ (r < g ∧ r * g * 2 ^ i ≤ 2 ^ 81))) : (r < 1099511627776 ∧ g % r < 1099511627776) ∧ (i + 1 = 0 ∨ (g % r < r ∧ (g % r) * r * 2 ^ (i + 1) ≤ 2 ^ 81)) := by
  have hm : g % r < r := Nat.mod_lt _ hr
  refine ⟨⟨h.1.2, by omega⟩, Or.inr ⟨hm, ?_⟩⟩
  rcases h.2 with rfl | ⟨h1, h2⟩
  · have h3 : (g % r) * r ≤ 1099511627776 * 1099511627776 := Nat.mul_le_mul (by omega) (by omega)
    calc (g % r) * r * 2 ^ (0 + 1) ≤ (1099511627776 * 1099511627776) * 2 := Nat.mul_le_mul h3 (by decide)
      _ = 2 ^ 81 := by decide
  · have h4 : 2 * (g % r) ≤ g := by
      have h5 := Nat.div_add_mod g r
      have h6 : 1 ≤ g / r := (Nat.le_div_iff_mul_le hr).mpr (by omega)
      have h7 : r * 1 ≤ r * (g / r) := Nat.mul_le_mul_left r h6
      omega
    calc (g % r) * r * 2 ^ (i + 1) = (2 * (g % r)) * r * 2 ^ i := by rw [Nat.pow_succ]; ac_rfl
      _ ≤ g * r * 2 ^ i := Nat.mul_le_mul_right _ (Nat.mul_le_mul_right _ h4)
      _ = r * g * 2 ^ i := by rw [Nat.mul_comm g r]
      _ ≤ 2 ^ 81 := h2
theorem gd_end {g r i : Nat} (hi : i = 200) (hs : i = 0 ∨ (r < g ∧ r * g * 2 ^ i ≤ 2 ^ 81)) : r = 0 := by
  subst hi
  have h : r < g ∧ r * g * 2 ^ 200 ≤ 2 ^ 81 := hs.resolve_left (by decide)
  rcases Nat.eq_zero_or_pos r with q | q
  · exact q
  · exfalso
    have h1 : 1 ≤ r * g := Nat.mul_pos q (by omega)
    have h2 : 1 * 2 ^ 200 ≤ r * g * 2 ^ 200 := Nat.mul_le_mul_right _ h1
    have h3 : ¬ (1 * 2 ^ 200 ≤ 2 ^ 81) := by decide
    exact h3 (Nat.le_trans h2 h.2)

abbrev rmX0_init : Room := { frames := 1, cells := 0, slots := 0, locals := 12 }
set_option maxHeartbeats 4000000 in
set_option maxRecDepth 100000 in
/-- Fraction() -/
theorem ctX0_init (l : Launch) (G : xG) (A : Nat → Prop) (M : xM) {tf af : Nat} (hcF : M tf = some (af, .inr (2, [.long (lN 0), .long (lN 0)]))) : Met l yX0_init wsX0_init rmX0_init (va_Pc ([.ref af] : List Value) (xPc G A M)) (va_Qv (fun M1 => M1 = M) (xPc G A) A) 0 0 A := by
  refine x_met (cc := cX0_init) (maxL := 1) (ret := none) RX0 (by decide) rfl (Nat.le_of_ble_eq_true rfl) rfl ?_
  intro p e s m below meth c hx hb hr hts hown hlocks hml hin hK hA hX ls hl
  have inX0 : ∀ w ∈ wsX00, w ∈ wsX0_init := by decide +kernel
  have lk_methodLink_3 := hts (.methodLink RX0 3 objectInit) (by decide +kernel)
  have lk_fieldLink_9 := hts (.fieldLink RX0 9 "Reconcile$Fraction" "above" "J") (by decide +kernel)
  have lk_fieldLink_15 := hts (.fieldLink RX0 15 "Reconcile$Fraction" "below" "J") (by decide +kernel)
  have hS : va_S A s.heap s.heap [] := va_S.rf
  have hl : lv_has ls 1 [(0, .ref af)] := hl
  have hcF0 := hcF
  refine lv_aload_n hx hb dX0_init_0 rfl (lv_at hl 0 rfl) ?_
  refine W.objInit hx hb hown lk_methodLink_3 (hts (.instanceMethod objectInit) (by decide +kernel)) (hts (.code objectInit ⟨#[0xb1]⟩ 1 none) (List.mem_of_getElem? (i := 3) rfl)) rfl (by rw [hml]; exact hl.1) rfl dX0_init_1 (Nat.le_of_ble_eq_true rfl) (Nat.le_of_ble_eq_true rfl) ?_
  refine W.eq (g2 := F0 m 4 ls []) rfl ?_
  refine lv_aload_n hx hb dX0_init_4 rfl (lv_at hl 0 rfl) ?_
  refine lv_lconst (v := lN 0) hx hb dX0_init_5 rfl ?_
  refine x_put (ci := 2) (v := .long (lN 0)) (C := RX0) (T := TX0) (N := 2) hx hb hts inX0 tyX0 tyX0_ok nmX0 hown hK hX hS hcF rfl 0 (by decide) lk_fieldLink_9 (fun _ h9 => h9) rfl (tyX0_ok 0 (by decide)) rfl rfl (Nat.le_of_ble_eq_true rfl) dX0_init_6 (fun H locs hX hS => ?_)
  obtain ⟨M_1, hM_1⟩ : ∃ zM : xM, zM = xu M tf (af, .inr (2, [.long (lN 0), .long (lN 0)])) := ⟨_, rfl⟩
  have hX : xw G.1 vwCl A M_1 H := by rw [hM_1]; exact hX
  have hcF : M_1 tf = some (af, .inr (2, [.long (lN 0), .long (lN 0)])) := by rw [hM_1]; exact xu_s
  refine lv_aload_n hx hb dX0_init_9 rfl (lv_at hl 0 rfl) ?_
  refine lv_lconst (v := lN 0) hx hb dX0_init_10 rfl ?_
  refine x_put (ci := 2) (v := .long (lN 0)) (C := RX0) (T := TX0) (N := 2) hx hb hts inX0 tyX0 tyX0_ok nmX0 hown hK hX hS hcF rfl 1 (by decide) lk_fieldLink_15 (fun _ h9 => h9) rfl (tyX0_ok 1 (by decide)) rfl rfl (Nat.le_of_ble_eq_true rfl) dX0_init_11 (fun H locs hX hS => ?_)
  obtain ⟨M_2, hM_2⟩ : ∃ zM : xM, zM = xu M_1 tf (af, .inr (2, [.long (lN 0), .long (lN 0)])) := ⟨_, rfl⟩
  have hX : xw G.1 vwCl A M_2 H := by rw [hM_2]; exact hX
  have hcF : M_2 tf = some (af, .inr (2, [.long (lN 0), .long (lN 0)])) := by rw [hM_2]; exact xu_s
  exact x_vret hx hb hr hlocks hK hA hX hS dX0_init_14 (by rw [hM_2, hM_1, x_uu, x_us hcF0])

abbrev rmX0_exists : Room := { frames := 0, cells := 0, slots := 0, locals := 0 }
set_option maxHeartbeats 4000000 in
set_option maxRecDepth 100000 in
/-- Fraction.exists -/
theorem ctX0_exists (l : Launch) (G : xG) (A : Nat → Prop) (M : xM) {tf af an bn : Nat} (hcF : M tf = some (af, .inr (2, [.long (lN an), .long (lN bn)]))) (han : an < 1000000000) (hbn : bn < 1000000000) : Met l yX0_exists wsX0_exists rmX0_exists (va_Pc ([.ref af] : List Value) (xPc G A M)) (va_Qi (fun r M1 => M1 = M ∧ r = if 0 < bn then 1 else 0) (xPc G A) A) 0 0 A := by
  refine x_met (cc := cX0_exists) (maxL := 1) (ret := (some .boolean)) RX0 (by decide) rfl (Nat.le_of_ble_eq_true rfl) rfl ?_
  intro p e s m below meth c hx hb hr hts hown hlocks hml hin hK hA hX ls hl
  have inX0 : ∀ w ∈ wsX00, w ∈ wsX0_exists := by decide +kernel
  have lk_fieldLink_15 := hts (.fieldLink RX0 15 "Reconcile$Fraction" "below" "J") (by decide +kernel)
  have hS : va_S A s.heap s.heap [] := va_S.rf
  have hl : lv_has ls 1 [(0, .ref af)] := hl
  refine lv_aload_n hx hb dX0_exists_0 rfl (lv_at hl 0 rfl) ?_
  refine x_get (ci := 2) (v := .long (lN bn)) (C := RX0) (T := TX0) (N := 2) hx hb hts inX0 hown hK hX hcF rfl 1 (by decide) lk_fieldLink_15 (fun _ h9 => h9) rfl dX0_exists_1 ?_
  refine lv_lconst (v := lN 0) hx hb dX0_exists_4 rfl ?_
  refine W.lcmp hx hb dX0_exists_5 ?_
  refine x_lc_le (tgt := 13) hx hb dX0_exists_6 (by decide) (fun c_1 => ?_) (fun c_1 => ?_)
  · have c_1 : bn ≤ 0 := (pk_lLE (by omega) (by omega)).mp c_1
    refine lv_iconst (v := nI 0) hx hb dX0_exists_13 (by decide) ?_
    exact x_zret hx hb hr hlocks hK hA hX hS dX0_exists_14 rfl (⟨rfl, by split <;> first | rfl | (rename_i q; exfalso; first | omega | exact q (by and_intros <;> first | assumption | omega) | exact absurd q.1 (by assumption) | exact absurd q.2 (by assumption) | exact absurd q.2.1 (by assumption) | exact absurd q.2.2 (by assumption) | exact absurd (by assumption) q.1 | exact absurd (by assumption) q.2 | exact absurd (by assumption) q.2.1 | exact absurd (by assumption) q.2.2 | exact absurd q.1.1 (by assumption) | exact absurd q.1.2 (by assumption))⟩)
  · have c_1 : ¬ (bn ≤ 0) := fun q => c_1 ((pk_lLE (by omega) (by omega)).mpr q)
    refine lv_iconst (v := nI 1) hx hb dX0_exists_9 (by decide) ?_
    refine lv_goto (tgt := 14) hx hb dX0_exists_10 (by decide) ?_
    exact x_zret hx hb hr hlocks hK hA hX hS dX0_exists_14 rfl (⟨rfl, by split <;> first | rfl | (rename_i q; exfalso; first | omega | exact q (by and_intros <;> first | assumption | omega) | exact absurd q.1 (by assumption) | exact absurd q.2 (by assumption) | exact absurd q.2.1 (by assumption) | exact absurd q.2.2 (by assumption) | exact absurd (by assumption) q.1 | exact absurd (by assumption) q.2 | exact absurd (by assumption) q.2.1 | exact absurd (by assumption) q.2.2 | exact absurd q.1.1 (by assumption) | exact absurd q.1.2 (by assumption))⟩)

abbrev rmX0_isHalfAtLeast : Room := { frames := 0, cells := 0, slots := 0, locals := 0 }
set_option maxHeartbeats 4000000 in
set_option maxRecDepth 100000 in
/-- Fraction.isHalfAtLeast -/
theorem ctX0_isHalfAtLeast (l : Launch) (G : xG) (A : Nat → Prop) (M : xM) {tf af an bn : Nat} (hcF : M tf = some (af, .inr (2, [.long (lN an), .long (lN bn)]))) (han : an < 1000000000) (hbn : bn < 1000000000) : Met l yX0_isHalfAtLeast wsX0_isHalfAtLeast rmX0_isHalfAtLeast (va_Pc ([.ref af] : List Value) (xPc G A M)) (va_Qi (fun r M1 => M1 = M ∧ r = if bn ≤ 2 * an then 1 else 0) (xPc G A) A) 0 0 A := by
  refine x_met (cc := cX0_isHalfAtLeast) (maxL := 1) (ret := (some .boolean)) RX0 (by decide) rfl (Nat.le_of_ble_eq_true rfl) rfl ?_
  intro p e s m below meth c hx hb hr hts hown hlocks hml hin hK hA hX ls hl
  have inX0 : ∀ w ∈ wsX00, w ∈ wsX0_isHalfAtLeast := by decide +kernel
  have lk_constantLong_35 := hts (.constantLong RX0 35 (2)) (by decide +kernel)
  have lk_fieldLink_9 := hts (.fieldLink RX0 9 "Reconcile$Fraction" "above" "J") (by decide +kernel)
  have lk_fieldLink_15 := hts (.fieldLink RX0 15 "Reconcile$Fraction" "below" "J") (by decide +kernel)
  have hS : va_S A s.heap s.heap [] := va_S.rf
  have hl : lv_has ls 1 [(0, .ref af)] := hl
  refine lv_ldc2 (v := 2) hx hb hown lk_constantLong_35 dX0_isHalfAtLeast_0 ?_
  refine x_rl (y := lN 2) rfl ?_
  refine lv_aload_n hx hb dX0_isHalfAtLeast_3 rfl (lv_at hl 0 rfl) ?_
  refine x_get (ci := 2) (v := .long (lN an)) (C := RX0) (T := TX0) (N := 2) hx hb hts inX0 hown hK hX hcF rfl 0 (by decide) lk_fieldLink_9 (fun _ h9 => h9) rfl dX0_isHalfAtLeast_4 ?_
  refine lv_lmul hx hb dX0_isHalfAtLeast_7 ?_
  refine x_rl (lN_mul _ _) ?_
  refine lv_aload_n hx hb dX0_isHalfAtLeast_8 rfl (lv_at hl 0 rfl) ?_
  refine x_get (ci := 2) (v := .long (lN bn)) (C := RX0) (T := TX0) (N := 2) hx hb hts inX0 hown hK hX hcF rfl 1 (by decide) lk_fieldLink_15 (fun _ h9 => h9) rfl dX0_isHalfAtLeast_9 ?_
  refine W.lcmp hx hb dX0_isHalfAtLeast_12 ?_
  refine x_lc_lt (tgt := 20) hx hb dX0_isHalfAtLeast_13 (by decide) (fun c_1 => ?_) (fun c_1 => ?_)
  · have c_1 : (2 * an) < bn := (pk_lLT (by omega) (by omega)).mp c_1
    refine lv_iconst (v := nI 0) hx hb dX0_isHalfAtLeast_20 (by decide) ?_
    exact x_zret hx hb hr hlocks hK hA hX hS dX0_isHalfAtLeast_21 rfl (⟨rfl, by split <;> first | rfl | (rename_i q; exfalso; first | omega | exact q (by and_intros <;> first | assumption | omega) | exact absurd q.1 (by assumption) | exact absurd q.2 (by assumption) | exact absurd q.2.1 (by assumption) | exact absurd q.2.2 (by assumption) | exact absurd (by assumption) q.1 | exact absurd (by assumption) q.2 | exact absurd (by assumption) q.2.1 | exact absurd (by assumption) q.2.2 | exact absurd q.1.1 (by assumption) | exact absurd q.1.2 (by assumption))⟩)
  · have c_1 : ¬ ((2 * an) < bn) := fun q => c_1 ((pk_lLT (by omega) (by omega)).mpr q)
    refine lv_iconst (v := nI 1) hx hb dX0_isHalfAtLeast_16 (by decide) ?_
    refine lv_goto (tgt := 21) hx hb dX0_isHalfAtLeast_17 (by decide) ?_
    exact x_zret hx hb hr hlocks hK hA hX hS dX0_isHalfAtLeast_21 rfl (⟨rfl, by split <;> first | rfl | (rename_i q; exfalso; first | omega | exact q (by and_intros <;> first | assumption | omega) | exact absurd q.1 (by assumption) | exact absurd q.2 (by assumption) | exact absurd q.2.1 (by assumption) | exact absurd q.2.2 (by assumption) | exact absurd (by assumption) q.1 | exact absurd (by assumption) q.2 | exact absurd (by assumption) q.2.1 | exact absurd (by assumption) q.2.2 | exact absurd q.1.1 (by assumption) | exact absurd q.1.2 (by assumption))⟩)

abbrev rmX0_greatestDivisor : Room := { frames := 0, cells := 0, slots := 0, locals := 0 }
set_option maxHeartbeats 4000000 in
set_option maxRecDepth 100000 in
/-- Fraction.greatestDivisor -/
theorem ctX0_greatestDivisor (l : Launch) (G : xG) (A : Nat → Prop) (M : xM) (a b : Nat) (ha : a < 1000000000) (hb9 : b < 1000000000) : Met l yX0_greatestDivisor wsX0_greatestDivisor rmX0_greatestDivisor (va_Pc ([.long (lN a), .long (lN b)] : List Value) (xPc G A M)) (va_Ql (fun r M1 => M1 = M ∧ r = lN (Nat.gcd a b)) (xPc G A) A) 0 0 A := by
  refine x_met (cc := cX0_greatestDivisor) (maxL := 11) (ret := (some .long)) RX0 (by decide) rfl (Nat.le_of_ble_eq_true rfl) rfl ?_
  intro p e s m below meth c hx hb hr hts hown hlocks hml hin hK hA hX ls hl
  have hS : va_S A s.heap s.heap [] := va_S.rf
  have hl : lv_has ls 11 [(0, .long (lN a)), (2, .long (lN b))] := hl
  refine lv_lload_n hx hb dX0_greatestDivisor_0 rfl (lv_at hl 0 rfl) ?_
  refine lv_lstore (lv' := [(4, .long (lN a)), (0, .long (lN a)), (2, .long (lN b))]) hx hb dX0_greatestDivisor_1 hl (by decide) rfl (fun ls hl => ?_)
  refine lv_lload_n hx hb dX0_greatestDivisor_3 rfl (lv_at hl 2 rfl) ?_
  refine lv_lstore (lv' := [(6, .long (lN b)), (4, .long (lN a)), (0, .long (lN a)), (2, .long (lN b))]) hx hb dX0_greatestDivisor_4 hl (by decide) rfl (fun ls hl => ?_)
  refine lv_iconst (v := nI 0) hx hb dX0_greatestDivisor_6 (by decide) ?_
  refine lv_istore (lv' := [(8, .int (nI 0)), (6, .long (lN b)), (4, .long (lN a)), (0, .long (lN a)), (2, .long (lN b))]) hx hb dX0_greatestDivisor_7 hl (by decide) rfl (fun ls hl => ?_)
  have loop : ∀ (n : Nat) (i : Nat) (g : Nat) (r : Nat) (ls : Array Slot), 200 < i + n → (i ≤ 200) → (Nat.gcd g r = Nat.gcd a b) → ((g < 1099511627776 ∧ r < 1099511627776) ∧ (i = 0 ∨ (r < g ∧ r * g * 2 ^ i ≤ 2 ^ 81))) → lv_has ls 11 [(8, .int (nI i)), (6, .long (lN r)), (4, .long (lN g)), (0, .long (lN a)), (2, .long (lN b))] → W p l e rmX0_greatestDivisor s m ([.long (lN a), .long (lN b)] : List Value).toArray below meth c s.heap [] 0 0 (MQ below (va_Ql (fun r M1 => M1 = M ∧ r = lN (Nat.gcd a b)) (xPc G A) A) ([.long (lN a), .long (lN b)] : List Value).toArray s 0 0 A) (F0 m 9 ls []) := by
    intro n
    induction n with
    | zero => intro i g r ls hn0 hi hg hs; exact absurd hn0 (by omega)
    | succ n ih =>
      intro i g r ls hn0 hi hg hs hl
      refine lv_iload hx hb dX0_greatestDivisor_9 (lv_at hl 0 rfl) ?_
      refine lv_sipush (v := nI 200) hx hb dX0_greatestDivisor_11 (by decide) ?_
      refine lv_icmp_ge (tgt := 45) hx hb dX0_greatestDivisor_14 (by decide) (fun c_1 => ?_) (fun c_1 => ?_)
      · have c_1 : 200 ≤ i := (nI_leI (by omega) (by omega)).mp c_1
        refine lv_lload hx hb dX0_greatestDivisor_45 (lv_at hl 2 rfl) ?_
        exact x_lret hx hb hr hlocks hK hA hX hS dX0_greatestDivisor_47 (⟨rfl, by rw [← hg, show r = 0 from gd_end (by omega) hs.2, Nat.gcd_zero_right]⟩)
      · have c_1 : ¬ (200 ≤ i) := fun q => c_1 ((nI_leI (by omega) (by omega)).mpr q)
        have hs1 := hs.1
        refine lv_lload hx hb dX0_greatestDivisor_17 (lv_at hl 1 rfl) ?_
        refine lv_lconst (v := lN 0) hx hb dX0_greatestDivisor_19 rfl ?_
        refine W.lcmp hx hb dX0_greatestDivisor_20 ?_
        refine x_lc_eq (tgt := 45) hx hb dX0_greatestDivisor_21 (by decide) (fun c_2 => ?_) (fun c_2 => ?_)
        · have c_2 : r = 0 := (pk_lEQ (by omega) (by omega)).mp c_2
          refine lv_lload hx hb dX0_greatestDivisor_45 (lv_at hl 2 rfl) ?_
          exact x_lret hx hb hr hlocks hK hA hX hS dX0_greatestDivisor_47 (⟨rfl, by rw [← hg, show r = 0 from by omega, Nat.gcd_zero_right]⟩)
        · have c_2 : ¬ (r = 0) := fun q => c_2 ((pk_lEQ (by omega) (by omega)).mpr q)
          have hs1 := hs.1
          refine lv_lload hx hb dX0_greatestDivisor_24 (lv_at hl 2 rfl) ?_
          refine lv_lload hx hb dX0_greatestDivisor_26 (lv_at hl 1 rfl) ?_
          refine lv_lrem hx hb dX0_greatestDivisor_28 (by rw [show (0 : Int64) = lN 0 from rfl, pk_lEQ (by omega) (by omega)]; omega) ?_
          refine x_rl (pk_lRem (by omega) (by omega) (by omega)) ?_
          refine lv_lstore (lv' := [(9, .long (lN (g % r))), (8, .int (nI i)), (6, .long (lN r)), (4, .long (lN g)), (0, .long (lN a)), (2, .long (lN b))]) hx hb dX0_greatestDivisor_29 hl (by decide) rfl (fun ls hl => ?_)
          refine lv_lload hx hb dX0_greatestDivisor_31 (lv_at hl 2 rfl) ?_
          refine lv_lstore (lv' := [(4, .long (lN r)), (9, .long (lN (g % r))), (8, .int (nI i)), (6, .long (lN r)), (0, .long (lN a)), (2, .long (lN b))]) hx hb dX0_greatestDivisor_33 hl (by decide) rfl (fun ls hl => ?_)
          refine lv_lload hx hb dX0_greatestDivisor_35 (lv_at hl 1 rfl) ?_
          refine lv_lstore (lv' := [(6, .long (lN (g % r))), (4, .long (lN r)), (9, .long (lN (g % r))), (8, .int (nI i)), (0, .long (lN a)), (2, .long (lN b))]) hx hb dX0_greatestDivisor_37 hl (by decide) rfl (fun ls hl => ?_)
          refine lv_iinc (v := nI (i + 1)) (lv' := [(8, .int (nI (i + 1))), (6, .long (lN (g % r))), (4, .long (lN r)), (9, .long (lN (g % r))), (0, .long (lN a)), (2, .long (lN b))]) hx hb dX0_greatestDivisor_39 hl (k := 3) rfl (show nI i + Int32.ofInt 1 = _ from nI_add _ 1) (by decide) rfl (fun ls hl => ?_)
          refine lv_goto (tgt := 9) hx hb dX0_greatestDivisor_42 (by decide) ?_
          exact ih (i + 1) r (g % r) ls (by omega) (by omega) (by rw [Nat.gcd_comm, ← Nat.gcd_rec, Nat.gcd_comm]; exact hg) (gd_step (by omega) hs) (lv_sub hl [0, 1, 2, 4, 5] rfl)
  exact loop 201 0 a b ls (by omega) (by omega) rfl (⟨⟨by omega, by omega⟩, Or.inl rfl⟩) (lv_sub hl [0, 1, 2, 3, 4] rfl)

abbrev rmX0_reduce : Room := { frames := 1, cells := 0, slots := 0, locals := 30 }
set_option maxHeartbeats 4000000 in
set_option maxRecDepth 100000 in
/-- Fraction.reduce -/
theorem ctX0_reduce (l : Launch) (G : xG) (A : Nat → Prop) (M : xM) {tf af an bn : Nat} (hcF : M tf = some (af, .inr (2, [.long (lN an), .long (lN bn)]))) (han : an < 1000000000) (hbn : bn < 1000000000) (hbp : 0 < bn) : Met l yX0_reduce wsX0_reduce rmX0_reduce (va_Pc ([.ref af] : List Value) (xPc G A M)) (va_Qv (fun M1 => M1 = xu M tf (af, .inr (2, [.long (lN (an / Nat.gcd an bn)), .long (lN (bn / Nat.gcd an bn))]))) (xPc G A) A) 0 0 A := by
  refine x_met (cc := cX0_reduce) (maxL := 3) (ret := none) RX0 (by decide) rfl (Nat.le_of_ble_eq_true rfl) rfl ?_
  intro p e s m below meth c hx hb hr hts hown hlocks hml hin hK hA hX ls hl
  have inX0 : ∀ w ∈ wsX00, w ∈ wsX0_reduce := by decide +kernel
  have lk_fieldLink_9 := hts (.fieldLink RX0 9 "Reconcile$Fraction" "above" "J") (by decide +kernel)
  have lk_fieldLink_15 := hts (.fieldLink RX0 15 "Reconcile$Fraction" "below" "J") (by decide +kernel)
  have hS : va_S A s.heap s.heap [] := va_S.rf
  have hl : lv_has ls 3 [(0, .ref af)] := hl
  refine lv_aload_n hx hb dX0_reduce_0 rfl (lv_at hl 0 rfl) ?_
  refine x_get (ci := 2) (v := .long (lN an)) (C := RX0) (T := TX0) (N := 2) hx hb hts inX0 hown hK hX hcF rfl 0 (by decide) lk_fieldLink_9 (fun _ h9 => h9) rfl dX0_reduce_1 ?_
  refine lv_aload_n hx hb dX0_reduce_4 rfl (lv_at hl 0 rfl) ?_
  refine x_get (ci := 2) (v := .long (lN bn)) (C := RX0) (T := TX0) (N := 2) hx hb hts inX0 hown hK hX hcF rfl 1 (by decide) lk_fieldLink_15 (fun _ h9 => h9) rfl dX0_reduce_5 ?_
  refine x_calll (x_runS (As := [.long (lN an), .long (lN bn)]) (rest := []) ⟨hx, hb, hml, hown, hts⟩ (ctX0_greatestDivisor l G A M an bn han hbn) (cwS 2 hts gX0_reduce_X0_greatestDivisor rfl rfl rfl (by decide +kernel) ⟨Nat.le_of_ble_eq_true rfl, Nat.le_of_ble_eq_true rfl⟩) hK hA hX hS rfl hl.1 rfl (lv_room (Nat.le_of_ble_eq_true rfl)) dX0_reduce_8 ⟨by decide, by decide⟩) hS (fun r_1 M_2 H locs hp hX hS => ?_)
  obtain ⟨hM_, er_1⟩ := hp
  rw [hM_] at hX
  have hg0 : 0 < Nat.gcd an bn := Nat.gcd_pos_of_pos_right an hbp
  have hg1 : Nat.gcd an bn ≤ bn := Nat.gcd_le_right an hbp
  refine x_rl (er_1) ?_
  refine lv_lstore_n (lv' := [(1, .long (lN (Nat.gcd an bn))), (0, .ref af)]) hx hb dX0_reduce_11 rfl hl (by decide) rfl (fun ls hl => ?_)
  refine lv_lload_n hx hb dX0_reduce_12 rfl (lv_at hl 0 rfl) ?_
  refine lv_lconst (v := lN 0) hx hb dX0_reduce_13 rfl ?_
  refine W.lcmp hx hb dX0_reduce_14 ?_
  refine x_lc_le (tgt := 38) hx hb dX0_reduce_15 (by decide) (fun c_3 => ?_) (fun c_3 => ?_)
  · have c_3 : (Nat.gcd an bn) ≤ 0 := (pk_lLE (by omega) (by omega)).mp c_3
    exact absurd c_3 (by omega)
  · have c_3 : ¬ ((Nat.gcd an bn) ≤ 0) := fun q => c_3 ((pk_lLE (by omega) (by omega)).mpr q)
    refine lv_aload_n hx hb dX0_reduce_18 rfl (lv_at hl 1 rfl) ?_
    refine lv_dup hx hb dX0_reduce_19 rfl ?_
    refine x_get (ci := 2) (v := .long (lN an)) (C := RX0) (T := TX0) (N := 2) hx hb hts inX0 hown hK hX hcF rfl 0 (by decide) lk_fieldLink_9 (fun _ h9 => h9) rfl dX0_reduce_20 ?_
    refine lv_lload_n hx hb dX0_reduce_23 rfl (lv_at hl 0 rfl) ?_
    refine lv_ldiv hx hb dX0_reduce_24 (by rw [show (0 : Int64) = lN 0 from rfl, pk_lEQ (by omega) (by omega)]; omega) ?_
    refine x_rl (pk_lDiv (by omega) (by omega) (by omega)) ?_
    refine x_put (ci := 2) (v := .long (lN (an / (Nat.gcd an bn)))) (C := RX0) (T := TX0) (N := 2) hx hb hts inX0 tyX0 tyX0_ok nmX0 hown hK hX hS hcF rfl 0 (by decide) lk_fieldLink_9 (fun _ h9 => h9) rfl (tyX0_ok 0 (by decide)) rfl rfl (Nat.le_of_ble_eq_true rfl) dX0_reduce_25 (fun H locs hX hS => ?_)
    obtain ⟨M_4, hM_4⟩ : ∃ zM : xM, zM = xu M tf (af, .inr (2, [.long (lN (an / (Nat.gcd an bn))), .long (lN bn)])) := ⟨_, rfl⟩
    have hX : xw G.1 vwCl A M_4 H := by rw [hM_4]; exact hX
    have hcF : M_4 tf = some (af, .inr (2, [.long (lN (an / (Nat.gcd an bn))), .long (lN bn)])) := by rw [hM_4]; exact xu_s
    refine lv_aload_n hx hb dX0_reduce_28 rfl (lv_at hl 1 rfl) ?_
    refine lv_dup hx hb dX0_reduce_29 rfl ?_
    refine x_get (ci := 2) (v := .long (lN bn)) (C := RX0) (T := TX0) (N := 2) hx hb hts inX0 hown hK hX hcF rfl 1 (by decide) lk_fieldLink_15 (fun _ h9 => h9) rfl dX0_reduce_30 ?_
    refine lv_lload_n hx hb dX0_reduce_33 rfl (lv_at hl 0 rfl) ?_
    refine lv_ldiv hx hb dX0_reduce_34 (by rw [show (0 : Int64) = lN 0 from rfl, pk_lEQ (by omega) (by omega)]; omega) ?_
    refine x_rl (pk_lDiv (by omega) (by omega) (by omega)) ?_
    refine x_put (ci := 2) (v := .long (lN (bn / (Nat.gcd an bn)))) (C := RX0) (T := TX0) (N := 2) hx hb hts inX0 tyX0 tyX0_ok nmX0 hown hK hX hS hcF rfl 1 (by decide) lk_fieldLink_15 (fun _ h9 => h9) rfl (tyX0_ok 1 (by decide)) rfl rfl (Nat.le_of_ble_eq_true rfl) dX0_reduce_35 (fun H locs hX hS => ?_)
    obtain ⟨M_5, hM_5⟩ : ∃ zM : xM, zM = xu M_4 tf (af, .inr (2, [.long (lN (an / (Nat.gcd an bn))), .long (lN (bn / (Nat.gcd an bn)))])) := ⟨_, rfl⟩
    have hX : xw G.1 vwCl A M_5 H := by rw [hM_5]; exact hX
    have hcF : M_5 tf = some (af, .inr (2, [.long (lN (an / (Nat.gcd an bn))), .long (lN (bn / (Nat.gcd an bn)))])) := by rw [hM_5]; exact xu_s
    exact x_vret hx hb hr hlocks hK hA hX hS dX0_reduce_38 (by rw [hM_5, hM_4, x_uu])

abbrev rmX0_measure : Room := { frames := 2, cells := 0, slots := 0, locals := 48 }
set_option maxHeartbeats 4000000 in
set_option maxRecDepth 100000 in
/-- Fraction.measure -/
theorem ctX0_measure (l : Launch) (G : xG) (A : Nat → Prop) (M : xM) {tf af : Nat} {fa fb : Int64} (hcF : M tf = some (af, .inr (2, [.long fa, .long fb]))) {t a a1 a2 tc : Nat} {sd jn dt : Int32} {fd ld : Int64} {tk kd : Nat → Int32} (hcN : M t = some (a, .inr (5, [.int sd, .int jn, .ref a1, .ref a2, .int (nI tc), .int dt, .long fd, .long ld]))) (hcT : M (t + 1) = some (a1, .inl (G.2 0, 8, .inl tk))) (hcK : M (t + 2) = some (a2, .inl (G.2 0, 8, .inl kd))) (htc : tc ≤ 8) {u a_ a1_ a2_ tc_ : Nat} {sd_ jn_ dt_ : Int32} {fd_ ld_ : Int64} {tk_ kd_ : Nat → Int32} (hcN_ : M u = some (a_, .inr (5, [.int sd_, .int jn_, .ref a1_, .ref a2_, .int (nI tc_), .int dt_, .long fd_, .long ld_]))) (hcT_ : M (u + 1) = some (a1_, .inl (G.2 0, 8, .inl tk_))) (hcK_ : M (u + 2) = some (a2_, .inl (G.2 0, 8, .inl kd_))) (htc_ : tc_ ≤ 8) (hkd : ∀ j, j < tc → vp_in (kd j) 4) (hkd_ : ∀ j, j < tc_ → vp_in (kd_ j) 4) {tw aw : Nat} {wn : Nat → Nat} (hcW : M tw = some (aw, .inl (G.2 1, 4, .inr (.inl (fun k => lN (wn k)))))) (htu : t ≠ u) (hd1 : t ≠ u + 1) (hd2 : t ≠ u + 2) (hd3 : u ≠ t + 1) (hd4 : u ≠ t + 2) (hf1 : tf ≠ t ∧ tf ≠ t + 1 ∧ tf ≠ t + 2 ∧ tf ≠ u ∧ tf ≠ u + 1 ∧ tf ≠ u + 2) (hw1 : tw ≠ tf) : Met l yX0_measure wsX0_measure rmX0_measure (va_Pc ([.ref af, .ref a, .ref a_, .ref aw] : List Value) (xPc G A M)) (va_Qv (fun M1 => M1 = xu M tf (af, .inr (2, [.long (lN (if (¬ dt = 0 ∧ ¬ dt_ = 0) ∧ ¬ ld_ < fd ∧ ¬ ld < fd_ then xSh tk kd tk_ kd_ tc_ wn tc + wn 3 else xSh tk kd tk_ kd_ tc_ wn tc)), .long (lN (if ¬ dt = 0 ∧ ¬ dt_ = 0 then xAll kd wn tc + xAll kd_ wn tc_ - xSh tk kd tk_ kd_ tc_ wn tc + wn 3 else xAll kd wn tc + xAll kd_ wn tc_ - xSh tk kd tk_ kd_ tc_ wn tc))]))) (xPc G A) A) 0 0 A := by
  refine x_met (cc := cX0_measure) (maxL := 6) (ret := none) RX0 (by decide) rfl (Nat.le_of_ble_eq_true rfl) rfl ?_
  intro p e s m below meth c hx hb hr hts hown hlocks hml hin hK hA hX ls hl
  have inX0 : ∀ w ∈ wsX00, w ∈ wsX0_measure := by decide +kernel
  have lk_fieldLink_9 := hts (.fieldLink RX0 9 "Reconcile$Fraction" "above" "J") (by decide +kernel)
  have lk_fieldLink_15 := hts (.fieldLink RX0 15 "Reconcile$Fraction" "below" "J") (by decide +kernel)
  have hS : va_S A s.heap s.heap [] := va_S.rf
  have hl : lv_has ls 6 [(0, .ref af), (1, .ref a), (2, .ref a_), (3, .ref aw)] := hl
  refine lv_aload_n hx hb dX0_measure_0 rfl (lv_at hl 1 rfl) ?_
  refine lv_aload_n hx hb dX0_measure_1 rfl (lv_at hl 2 rfl) ?_
  refine lv_aload_n hx hb dX0_measure_2 rfl (lv_at hl 3 rfl) ?_
  refine x_calll (x_runV (q := (RX3, TX3, 8)) (As := [.ref a_, .ref aw]) (rest := []) ⟨hx, hb, hml, hown, hts⟩ (ctX3_weightOfShared l G A M hcN hcT hcK htc hcN_ hcT_ hcK_ htc_ hkd hcW) (cwV 2 hts gX0_measure_X3_weightOfShared rfl rfl rfl (by decide +kernel) ⟨Nat.le_of_ble_eq_true rfl, Nat.le_of_ble_eq_true rfl⟩) hK hA hX hS hcN rfl rfl hl.1 rfl (lv_room (Nat.le_of_ble_eq_true rfl)) dX0_measure_3 ⟨by decide, by decide⟩) hS (fun r_1 M_2 H locs hp hX hS => ?_)
  obtain ⟨hM_, er_1⟩ := hp
  rw [hM_] at hX
  have hle := xSh_le (tk := tk) (kd := kd) (otk := tk_) (okd := kd_) (otc := tc_) (wn := wn) tc
  refine x_rl (er_1) ?_
  refine lv_lstore (lv' := [(4, .long (lN (xSh tk kd tk_ kd_ tc_ wn tc))), (0, .ref af), (1, .ref a), (2, .ref a_), (3, .ref aw)]) hx hb dX0_measure_6 hl (by decide) rfl (fun ls hl => ?_)
  refine lv_aload_n hx hb dX0_measure_8 rfl (lv_at hl 1 rfl) ?_
  refine lv_lload hx hb dX0_measure_9 (lv_at hl 0 rfl) ?_
  refine x_put (ci := 2) (v := .long (lN (xSh tk kd tk_ kd_ tc_ wn tc))) (C := RX0) (T := TX0) (N := 2) hx hb hts inX0 tyX0 tyX0_ok nmX0 hown hK hX hS hcF rfl 0 (by decide) lk_fieldLink_9 (fun _ h9 => h9) rfl (tyX0_ok 0 (by decide)) rfl rfl (Nat.le_of_ble_eq_true rfl) dX0_measure_11 (fun H locs hX hS => ?_)
  obtain ⟨M_3, hM_3⟩ : ∃ zM : xM, zM = xu M tf (af, .inr (2, [.long (lN (xSh tk kd tk_ kd_ tc_ wn tc)), .long fb])) := ⟨_, rfl⟩
  have hX : xw G.1 vwCl A M_3 H := by rw [hM_3]; exact hX
  have hcN : M_3 t = some (a, .inr (5, [.int sd, .int jn, .ref a1, .ref a2, .int (nI tc), .int dt, .long fd, .long ld])) := by rw [hM_3, xu_n (by omega)]; exact hcN
  have hcT : M_3 (t + 1) = some (a1, .inl (G.2 0, 8, .inl tk)) := by rw [hM_3, xu_n (by omega)]; exact hcT
  have hcK : M_3 (t + 2) = some (a2, .inl (G.2 0, 8, .inl kd)) := by rw [hM_3, xu_n (by omega)]; exact hcK
  have hcN_ : M_3 u = some (a_, .inr (5, [.int sd_, .int jn_, .ref a1_, .ref a2_, .int (nI tc_), .int dt_, .long fd_, .long ld_])) := by rw [hM_3, xu_n (by omega)]; exact hcN_
  have hcT_ : M_3 (u + 1) = some (a1_, .inl (G.2 0, 8, .inl tk_)) := by rw [hM_3, xu_n (by omega)]; exact hcT_
  have hcK_ : M_3 (u + 2) = some (a2_, .inl (G.2 0, 8, .inl kd_)) := by rw [hM_3, xu_n (by omega)]; exact hcK_
  have hcW : M_3 tw = some (aw, .inl (G.2 1, 4, .inr (.inl (fun k => lN (wn k))))) := by rw [hM_3, xu_n (by omega)]; exact hcW
  have hcF : M_3 tf = some (af, .inr (2, [.long (lN (xSh tk kd tk_ kd_ tc_ wn tc)), .long fb])) := by rw [hM_3]; exact xu_s
  refine lv_aload_n hx hb dX0_measure_14 rfl (lv_at hl 1 rfl) ?_
  refine lv_aload_n hx hb dX0_measure_15 rfl (lv_at hl 2 rfl) ?_
  refine lv_aload_n hx hb dX0_measure_16 rfl (lv_at hl 4 rfl) ?_
  refine x_calll (x_runV (q := (RX3, TX3, 8)) (As := [.ref aw]) (rest := [.ref af]) ⟨hx, hb, hml, hown, hts⟩ (ctX3_weightOfAll l G A M_3 hcN hcT hcK htc hkd hcW) (cwV 1 hts gX0_measure_X3_weightOfAll rfl rfl rfl (by decide +kernel) ⟨Nat.le_of_ble_eq_true rfl, Nat.le_of_ble_eq_true rfl⟩) hK hA hX hS hcN rfl rfl hl.1 rfl (lv_room (Nat.le_of_ble_eq_true rfl)) dX0_measure_17 ⟨by decide, by decide⟩) hS (fun r_4 M_5 H locs hp hX hS => ?_)
  obtain ⟨hM_, er_4⟩ := hp
  rw [hM_] at hX
  refine x_rl (er_4) ?_
  refine lv_aload_n hx hb dX0_measure_20 rfl (lv_at hl 3 rfl) ?_
  refine lv_aload_n hx hb dX0_measure_21 rfl (lv_at hl 4 rfl) ?_
  refine x_calll (x_runV (q := (RX3, TX3, 8)) (As := [.ref aw]) (rest := [.long (lN (xAll kd wn tc)), .ref af]) ⟨hx, hb, hml, hown, hts⟩ (ctX3_weightOfAll l G A M_3 hcN_ hcT_ hcK_ htc_ hkd_ hcW) (cwV 1 hts gX0_measure_X3_weightOfAll rfl rfl rfl (by decide +kernel) ⟨Nat.le_of_ble_eq_true rfl, Nat.le_of_ble_eq_true rfl⟩) hK hA hX hS hcN_ rfl rfl hl.1 rfl (lv_room (Nat.le_of_ble_eq_true rfl)) dX0_measure_22 ⟨by decide, by decide⟩) hS (fun r_6 M_7 H locs hp hX hS => ?_)
  obtain ⟨hM_, er_6⟩ := hp
  rw [hM_] at hX
  refine x_rl (er_6) ?_
  refine lv_ladd hx hb dX0_measure_25 ?_
  refine x_rl (lN_add _ _) ?_
  refine lv_lload hx hb dX0_measure_26 (lv_at hl 0 rfl) ?_
  refine lv_lsub hx hb dX0_measure_28 ?_
  refine x_rl (lN_sub (by omega)) ?_
  refine x_put (ci := 2) (v := .long (lN (((xAll kd wn tc) + (xAll kd_ wn tc_)) - (xSh tk kd tk_ kd_ tc_ wn tc)))) (C := RX0) (T := TX0) (N := 2) hx hb hts inX0 tyX0 tyX0_ok nmX0 hown hK hX hS hcF rfl 1 (by decide) lk_fieldLink_15 (fun _ h9 => h9) rfl (tyX0_ok 1 (by decide)) rfl rfl (Nat.le_of_ble_eq_true rfl) dX0_measure_29 (fun H locs hX hS => ?_)
  obtain ⟨M_8, hM_8⟩ : ∃ zM : xM, zM = xu M_3 tf (af, .inr (2, [.long (lN (xSh tk kd tk_ kd_ tc_ wn tc)), .long (lN (((xAll kd wn tc) + (xAll kd_ wn tc_)) - (xSh tk kd tk_ kd_ tc_ wn tc)))])) := ⟨_, rfl⟩
  have hX : xw G.1 vwCl A M_8 H := by rw [hM_8]; exact hX
  have hcN : M_8 t = some (a, .inr (5, [.int sd, .int jn, .ref a1, .ref a2, .int (nI tc), .int dt, .long fd, .long ld])) := by rw [hM_8, xu_n (by omega)]; exact hcN
  have hcT : M_8 (t + 1) = some (a1, .inl (G.2 0, 8, .inl tk)) := by rw [hM_8, xu_n (by omega)]; exact hcT
  have hcK : M_8 (t + 2) = some (a2, .inl (G.2 0, 8, .inl kd)) := by rw [hM_8, xu_n (by omega)]; exact hcK
  have hcN_ : M_8 u = some (a_, .inr (5, [.int sd_, .int jn_, .ref a1_, .ref a2_, .int (nI tc_), .int dt_, .long fd_, .long ld_])) := by rw [hM_8, xu_n (by omega)]; exact hcN_
  have hcT_ : M_8 (u + 1) = some (a1_, .inl (G.2 0, 8, .inl tk_)) := by rw [hM_8, xu_n (by omega)]; exact hcT_
  have hcK_ : M_8 (u + 2) = some (a2_, .inl (G.2 0, 8, .inl kd_)) := by rw [hM_8, xu_n (by omega)]; exact hcK_
  have hcW : M_8 tw = some (aw, .inl (G.2 1, 4, .inr (.inl (fun k => lN (wn k))))) := by rw [hM_8, xu_n (by omega)]; exact hcW
  have hcF : M_8 tf = some (af, .inr (2, [.long (lN (xSh tk kd tk_ kd_ tc_ wn tc)), .long (lN (((xAll kd wn tc) + (xAll kd_ wn tc_)) - (xSh tk kd tk_ kd_ tc_ wn tc)))])) := by rw [hM_8]; exact xu_s
  refine lv_aload_n hx hb dX0_measure_32 rfl (lv_at hl 2 rfl) ?_
  refine lv_aload_n hx hb dX0_measure_33 rfl (lv_at hl 3 rfl) ?_
  refine x_calli (x_runV (q := (RX3, TX3, 8)) (As := [.ref a_]) (rest := []) ⟨hx, hb, hml, hown, hts⟩ (ctX3_bothDated l G A M_8 hcN hcT hcK htc hcN_ hcT_ hcK_ htc_) (cwV 1 hts gX0_measure_X3_bothDated rfl rfl rfl (by decide +kernel) ⟨Nat.le_of_ble_eq_true rfl, Nat.le_of_ble_eq_true rfl⟩) hK hA hX hS hcN rfl rfl hl.1 rfl (lv_room (Nat.le_of_ble_eq_true rfl)) dX0_measure_34 ⟨by decide, by decide⟩) hS (fun r_9 M_10 H locs hp hX hS => ?_)
  obtain ⟨hM_, er_9⟩ := hp
  rw [hM_] at hX
  refine lv_if_eq (tgt := 52) hx hb dX0_measure_37 (by decide) (fun c_11 => ?_) (fun c_11 => ?_)
  · have c_11 := x_if0 er_9 c_11
    refine lv_aload_n hx hb dX0_measure_52 rfl (lv_at hl 2 rfl) ?_
    refine lv_aload_n hx hb dX0_measure_53 rfl (lv_at hl 3 rfl) ?_
    refine x_calli (x_runV (q := (RX3, TX3, 8)) (As := [.ref a_]) (rest := []) ⟨hx, hb, hml, hown, hts⟩ (ctX3_sharesDay l G A M_8 hcN hcT hcK htc hcN_ hcT_ hcK_ htc_) (cwV 1 hts gX0_measure_X3_sharesDay rfl rfl rfl (by decide +kernel) ⟨Nat.le_of_ble_eq_true rfl, Nat.le_of_ble_eq_true rfl⟩) hK hA hX hS hcN rfl rfl hl.1 rfl (lv_room (Nat.le_of_ble_eq_true rfl)) dX0_measure_54 ⟨by decide, by decide⟩) hS (fun r_12 M_13 H locs hp hX hS => ?_)
    obtain ⟨hM_, er_12⟩ := hp
    rw [hM_] at hX
    refine lv_if_eq (tgt := 72) hx hb dX0_measure_57 (by decide) (fun c_14 => ?_) (fun c_14 => ?_)
    · have c_14 := x_if0 er_12 c_14
      exact x_vret hx hb hr hlocks hK hA hX hS dX0_measure_72 (by rw [hM_8, hM_3, x_uu, if_neg c_14, if_neg c_11])
    · have c_14 := x_if1 er_12 c_14
      refine lv_aload_n hx hb dX0_measure_60 rfl (lv_at hl 1 rfl) ?_
      refine lv_dup hx hb dX0_measure_61 rfl ?_
      refine x_get (ci := 2) (v := .long (lN (xSh tk kd tk_ kd_ tc_ wn tc))) (C := RX0) (T := TX0) (N := 2) hx hb hts inX0 hown hK hX hcF rfl 0 (by decide) lk_fieldLink_9 (fun _ h9 => h9) rfl dX0_measure_62 ?_
      refine lv_aload_n hx hb dX0_measure_65 rfl (lv_at hl 4 rfl) ?_
      refine lv_iconst (v := nI 3) hx hb dX0_measure_66 (by decide) ?_
      refine x_lN hx hb hK hX hcW (by omega) (by decide) dX0_measure_67 ?_
      refine lv_ladd hx hb dX0_measure_68 ?_
      refine x_rl (lN_add _ _) ?_
      refine x_put (ci := 2) (v := .long (lN ((xSh tk kd tk_ kd_ tc_ wn tc) + (wn 3)))) (C := RX0) (T := TX0) (N := 2) hx hb hts inX0 tyX0 tyX0_ok nmX0 hown hK hX hS hcF rfl 0 (by decide) lk_fieldLink_9 (fun _ h9 => h9) rfl (tyX0_ok 0 (by decide)) rfl rfl (Nat.le_of_ble_eq_true rfl) dX0_measure_69 (fun H locs hX hS => ?_)
      obtain ⟨M_15, hM_15⟩ : ∃ zM : xM, zM = xu M_8 tf (af, .inr (2, [.long (lN ((xSh tk kd tk_ kd_ tc_ wn tc) + (wn 3))), .long (lN (((xAll kd wn tc) + (xAll kd_ wn tc_)) - (xSh tk kd tk_ kd_ tc_ wn tc)))])) := ⟨_, rfl⟩
      have hX : xw G.1 vwCl A M_15 H := by rw [hM_15]; exact hX
      have hcN : M_15 t = some (a, .inr (5, [.int sd, .int jn, .ref a1, .ref a2, .int (nI tc), .int dt, .long fd, .long ld])) := by rw [hM_15, xu_n (by omega)]; exact hcN
      have hcT : M_15 (t + 1) = some (a1, .inl (G.2 0, 8, .inl tk)) := by rw [hM_15, xu_n (by omega)]; exact hcT
      have hcK : M_15 (t + 2) = some (a2, .inl (G.2 0, 8, .inl kd)) := by rw [hM_15, xu_n (by omega)]; exact hcK
      have hcN_ : M_15 u = some (a_, .inr (5, [.int sd_, .int jn_, .ref a1_, .ref a2_, .int (nI tc_), .int dt_, .long fd_, .long ld_])) := by rw [hM_15, xu_n (by omega)]; exact hcN_
      have hcT_ : M_15 (u + 1) = some (a1_, .inl (G.2 0, 8, .inl tk_)) := by rw [hM_15, xu_n (by omega)]; exact hcT_
      have hcK_ : M_15 (u + 2) = some (a2_, .inl (G.2 0, 8, .inl kd_)) := by rw [hM_15, xu_n (by omega)]; exact hcK_
      have hcW : M_15 tw = some (aw, .inl (G.2 1, 4, .inr (.inl (fun k => lN (wn k))))) := by rw [hM_15, xu_n (by omega)]; exact hcW
      have hcF : M_15 tf = some (af, .inr (2, [.long (lN ((xSh tk kd tk_ kd_ tc_ wn tc) + (wn 3))), .long (lN (((xAll kd wn tc) + (xAll kd_ wn tc_)) - (xSh tk kd tk_ kd_ tc_ wn tc)))])) := by rw [hM_15]; exact xu_s
      exact x_vret hx hb hr hlocks hK hA hX hS dX0_measure_72 (by rw [hM_15, hM_8, hM_3, x_uu, x_uu, if_pos c_14, if_neg c_11])
  · have c_11 := x_if1 er_9 c_11
    refine lv_aload_n hx hb dX0_measure_40 rfl (lv_at hl 1 rfl) ?_
    refine lv_dup hx hb dX0_measure_41 rfl ?_
    refine x_get (ci := 2) (v := .long (lN (((xAll kd wn tc) + (xAll kd_ wn tc_)) - (xSh tk kd tk_ kd_ tc_ wn tc)))) (C := RX0) (T := TX0) (N := 2) hx hb hts inX0 hown hK hX hcF rfl 1 (by decide) lk_fieldLink_15 (fun _ h9 => h9) rfl dX0_measure_42 ?_
    refine lv_aload_n hx hb dX0_measure_45 rfl (lv_at hl 4 rfl) ?_
    refine lv_iconst (v := nI 3) hx hb dX0_measure_46 (by decide) ?_
    refine x_lN hx hb hK hX hcW (by omega) (by decide) dX0_measure_47 ?_
    refine lv_ladd hx hb dX0_measure_48 ?_
    refine x_rl (lN_add _ _) ?_
    refine x_put (ci := 2) (v := .long (lN ((((xAll kd wn tc) + (xAll kd_ wn tc_)) - (xSh tk kd tk_ kd_ tc_ wn tc)) + (wn 3)))) (C := RX0) (T := TX0) (N := 2) hx hb hts inX0 tyX0 tyX0_ok nmX0 hown hK hX hS hcF rfl 1 (by decide) lk_fieldLink_15 (fun _ h9 => h9) rfl (tyX0_ok 1 (by decide)) rfl rfl (Nat.le_of_ble_eq_true rfl) dX0_measure_49 (fun H locs hX hS => ?_)
    obtain ⟨M_16, hM_16⟩ : ∃ zM : xM, zM = xu M_8 tf (af, .inr (2, [.long (lN (xSh tk kd tk_ kd_ tc_ wn tc)), .long (lN ((((xAll kd wn tc) + (xAll kd_ wn tc_)) - (xSh tk kd tk_ kd_ tc_ wn tc)) + (wn 3)))])) := ⟨_, rfl⟩
    have hX : xw G.1 vwCl A M_16 H := by rw [hM_16]; exact hX
    have hcN : M_16 t = some (a, .inr (5, [.int sd, .int jn, .ref a1, .ref a2, .int (nI tc), .int dt, .long fd, .long ld])) := by rw [hM_16, xu_n (by omega)]; exact hcN
    have hcT : M_16 (t + 1) = some (a1, .inl (G.2 0, 8, .inl tk)) := by rw [hM_16, xu_n (by omega)]; exact hcT
    have hcK : M_16 (t + 2) = some (a2, .inl (G.2 0, 8, .inl kd)) := by rw [hM_16, xu_n (by omega)]; exact hcK
    have hcN_ : M_16 u = some (a_, .inr (5, [.int sd_, .int jn_, .ref a1_, .ref a2_, .int (nI tc_), .int dt_, .long fd_, .long ld_])) := by rw [hM_16, xu_n (by omega)]; exact hcN_
    have hcT_ : M_16 (u + 1) = some (a1_, .inl (G.2 0, 8, .inl tk_)) := by rw [hM_16, xu_n (by omega)]; exact hcT_
    have hcK_ : M_16 (u + 2) = some (a2_, .inl (G.2 0, 8, .inl kd_)) := by rw [hM_16, xu_n (by omega)]; exact hcK_
    have hcW : M_16 tw = some (aw, .inl (G.2 1, 4, .inr (.inl (fun k => lN (wn k))))) := by rw [hM_16, xu_n (by omega)]; exact hcW
    have hcF : M_16 tf = some (af, .inr (2, [.long (lN (xSh tk kd tk_ kd_ tc_ wn tc)), .long (lN ((((xAll kd wn tc) + (xAll kd_ wn tc_)) - (xSh tk kd tk_ kd_ tc_ wn tc)) + (wn 3)))])) := by rw [hM_16]; exact xu_s
    refine lv_aload_n hx hb dX0_measure_52 rfl (lv_at hl 2 rfl) ?_
    refine lv_aload_n hx hb dX0_measure_53 rfl (lv_at hl 3 rfl) ?_
    refine x_calli (x_runV (q := (RX3, TX3, 8)) (As := [.ref a_]) (rest := []) ⟨hx, hb, hml, hown, hts⟩ (ctX3_sharesDay l G A M_16 hcN hcT hcK htc hcN_ hcT_ hcK_ htc_) (cwV 1 hts gX0_measure_X3_sharesDay rfl rfl rfl (by decide +kernel) ⟨Nat.le_of_ble_eq_true rfl, Nat.le_of_ble_eq_true rfl⟩) hK hA hX hS hcN rfl rfl hl.1 rfl (lv_room (Nat.le_of_ble_eq_true rfl)) dX0_measure_54 ⟨by decide, by decide⟩) hS (fun r_17 M_18 H locs hp hX hS => ?_)
    obtain ⟨hM_, er_17⟩ := hp
    rw [hM_] at hX
    refine lv_if_eq (tgt := 72) hx hb dX0_measure_57 (by decide) (fun c_19 => ?_) (fun c_19 => ?_)
    · have c_19 := x_if0 er_17 c_19
      exact x_vret hx hb hr hlocks hK hA hX hS dX0_measure_72 (by rw [hM_16, hM_8, hM_3, x_uu, x_uu, if_neg c_19, if_pos c_11])
    · have c_19 := x_if1 er_17 c_19
      refine lv_aload_n hx hb dX0_measure_60 rfl (lv_at hl 1 rfl) ?_
      refine lv_dup hx hb dX0_measure_61 rfl ?_
      refine x_get (ci := 2) (v := .long (lN (xSh tk kd tk_ kd_ tc_ wn tc))) (C := RX0) (T := TX0) (N := 2) hx hb hts inX0 hown hK hX hcF rfl 0 (by decide) lk_fieldLink_9 (fun _ h9 => h9) rfl dX0_measure_62 ?_
      refine lv_aload_n hx hb dX0_measure_65 rfl (lv_at hl 4 rfl) ?_
      refine lv_iconst (v := nI 3) hx hb dX0_measure_66 (by decide) ?_
      refine x_lN hx hb hK hX hcW (by omega) (by decide) dX0_measure_67 ?_
      refine lv_ladd hx hb dX0_measure_68 ?_
      refine x_rl (lN_add _ _) ?_
      refine x_put (ci := 2) (v := .long (lN ((xSh tk kd tk_ kd_ tc_ wn tc) + (wn 3)))) (C := RX0) (T := TX0) (N := 2) hx hb hts inX0 tyX0 tyX0_ok nmX0 hown hK hX hS hcF rfl 0 (by decide) lk_fieldLink_9 (fun _ h9 => h9) rfl (tyX0_ok 0 (by decide)) rfl rfl (Nat.le_of_ble_eq_true rfl) dX0_measure_69 (fun H locs hX hS => ?_)
      obtain ⟨M_20, hM_20⟩ : ∃ zM : xM, zM = xu M_16 tf (af, .inr (2, [.long (lN ((xSh tk kd tk_ kd_ tc_ wn tc) + (wn 3))), .long (lN ((((xAll kd wn tc) + (xAll kd_ wn tc_)) - (xSh tk kd tk_ kd_ tc_ wn tc)) + (wn 3)))])) := ⟨_, rfl⟩
      have hX : xw G.1 vwCl A M_20 H := by rw [hM_20]; exact hX
      have hcN : M_20 t = some (a, .inr (5, [.int sd, .int jn, .ref a1, .ref a2, .int (nI tc), .int dt, .long fd, .long ld])) := by rw [hM_20, xu_n (by omega)]; exact hcN
      have hcT : M_20 (t + 1) = some (a1, .inl (G.2 0, 8, .inl tk)) := by rw [hM_20, xu_n (by omega)]; exact hcT
      have hcK : M_20 (t + 2) = some (a2, .inl (G.2 0, 8, .inl kd)) := by rw [hM_20, xu_n (by omega)]; exact hcK
      have hcN_ : M_20 u = some (a_, .inr (5, [.int sd_, .int jn_, .ref a1_, .ref a2_, .int (nI tc_), .int dt_, .long fd_, .long ld_])) := by rw [hM_20, xu_n (by omega)]; exact hcN_
      have hcT_ : M_20 (u + 1) = some (a1_, .inl (G.2 0, 8, .inl tk_)) := by rw [hM_20, xu_n (by omega)]; exact hcT_
      have hcK_ : M_20 (u + 2) = some (a2_, .inl (G.2 0, 8, .inl kd_)) := by rw [hM_20, xu_n (by omega)]; exact hcK_
      have hcW : M_20 tw = some (aw, .inl (G.2 1, 4, .inr (.inl (fun k => lN (wn k))))) := by rw [hM_20, xu_n (by omega)]; exact hcW
      have hcF : M_20 tf = some (af, .inr (2, [.long (lN ((xSh tk kd tk_ kd_ tc_ wn tc) + (wn 3))), .long (lN ((((xAll kd wn tc) + (xAll kd_ wn tc_)) - (xSh tk kd tk_ kd_ tc_ wn tc)) + (wn 3)))])) := by rw [hM_20]; exact xu_s
      exact x_vret hx hb hr hlocks hK hA hX hS dX0_measure_72 (by rw [hM_20, hM_16, hM_8, hM_3, x_uu, x_uu, x_uu, if_pos c_19, if_pos c_11])

abbrev rmX1_init : Room := { frames := 1, cells := 0, slots := 0, locals := 12 }
set_option maxHeartbeats 4000000 in
set_option maxRecDepth 100000 in
/-- Join(zero, one) -/
theorem ctX1_init (l : Launch) (G : xG) (A : Nat → Prop) (M : xM) {tj aj : Nat} (hcJ : M tj = some (aj, .inr (3, [.null, .null, .int (nI 0)]))) (z o : Nat) : Met l yX1_init wsX1_init rmX1_init (va_Pc ([.ref aj, .ref z, .ref o] : List Value) (xPc G A M)) (va_Qv (fun M1 => M1 = xu M tj (aj, .inr (3, [.ref z, .ref o, .int (nI 0)]))) (xPc G A) A) 0 0 A := by
  refine x_met (cc := cX1_init) (maxL := 3) (ret := none) RX1 (by decide) rfl (Nat.le_of_ble_eq_true rfl) rfl ?_
  intro p e s m below meth c hx hb hr hts hown hlocks hml hin hK hA hX ls hl
  have inX1 : ∀ w ∈ wsX10, w ∈ wsX1_init := by decide +kernel
  have lk_methodLink_1 := hts (.methodLink RX1 1 objectInit) (by decide +kernel)
  have lk_fieldLink_7 := hts (.fieldLink RX1 7 "Reconcile$Join" "undone" "Z") (by decide +kernel)
  have lk_fieldLink_13 := hts (.fieldLink RX1 13 "Reconcile$Join" "zero" "LReconcile$Name;") (by decide +kernel)
  have lk_fieldLink_17 := hts (.fieldLink RX1 17 "Reconcile$Join" "one" "LReconcile$Name;") (by decide +kernel)
  have hS : va_S A s.heap s.heap [] := va_S.rf
  have hl : lv_has ls 3 [(0, .ref aj), (1, .ref z), (2, .ref o)] := hl
  refine lv_aload_n hx hb dX1_init_0 rfl (lv_at hl 0 rfl) ?_
  refine W.objInit hx hb hown lk_methodLink_1 (hts (.instanceMethod objectInit) (by decide +kernel)) (hts (.code objectInit ⟨#[0xb1]⟩ 1 none) (List.mem_of_getElem? (i := 3) rfl)) rfl (by rw [hml]; exact hl.1) rfl dX1_init_1 (Nat.le_of_ble_eq_true rfl) (Nat.le_of_ble_eq_true rfl) ?_
  refine W.eq (g2 := F0 m 4 ls []) rfl ?_
  refine lv_aload_n hx hb dX1_init_4 rfl (lv_at hl 0 rfl) ?_
  refine lv_iconst (v := nI 0) hx hb dX1_init_5 (by decide) ?_
  refine x_put (ci := 3) (v := .int (nI 0)) (C := RX1) (T := TX1) (N := 3) hx hb hts inX1 tyX1 tyX1_ok nmX1 hown hK hX hS hcJ rfl 2 (by decide) lk_fieldLink_7 (fun _ h9 => h9) rfl (tyX1_ok 2 (by decide)) rfl rfl (Nat.le_of_ble_eq_true rfl) dX1_init_6 (fun H locs hX hS => ?_)
  obtain ⟨M_1, hM_1⟩ : ∃ zM : xM, zM = xu M tj (aj, .inr (3, [.null, .null, .int (nI 0)])) := ⟨_, rfl⟩
  have hX : xw G.1 vwCl A M_1 H := by rw [hM_1]; exact hX
  have hcJ : M_1 tj = some (aj, .inr (3, [.null, .null, .int (nI 0)])) := by rw [hM_1]; exact xu_s
  refine lv_aload_n hx hb dX1_init_9 rfl (lv_at hl 0 rfl) ?_
  refine lv_aload_n hx hb dX1_init_10 rfl (lv_at hl 1 rfl) ?_
  refine x_putF (ci := 3) (v := .ref z) (C := RX1) (T := TX1) (N := 3) hx hb hts inX1 tyX1 tyX1_ok nmX1 hown hK hX hS hcJ rfl 0 (by decide) lk_fieldLink_13 (fun _ h9 => h9) rfl hin rfl (tyX1_ok 0 (by decide)) rfl rfl (Nat.le_of_ble_eq_true rfl) dX1_init_11 (fun H locs hX hS => ?_)
  obtain ⟨M_2, hM_2⟩ : ∃ zM : xM, zM = xu M_1 tj (aj, .inr (3, [.ref z, .null, .int (nI 0)])) := ⟨_, rfl⟩
  have hX : xw G.1 vwCl A M_2 H := by rw [hM_2]; exact hX
  have hcJ : M_2 tj = some (aj, .inr (3, [.ref z, .null, .int (nI 0)])) := by rw [hM_2]; exact xu_s
  refine lv_aload_n hx hb dX1_init_14 rfl (lv_at hl 0 rfl) ?_
  refine lv_aload_n hx hb dX1_init_15 rfl (lv_at hl 2 rfl) ?_
  refine x_putF (ci := 3) (v := .ref o) (C := RX1) (T := TX1) (N := 3) hx hb hts inX1 tyX1 tyX1_ok nmX1 hown hK hX hS hcJ rfl 1 (by decide) lk_fieldLink_17 (fun _ h9 => h9) rfl hin rfl (tyX1_ok 1 (by decide)) rfl rfl (Nat.le_of_ble_eq_true rfl) dX1_init_16 (fun H locs hX hS => ?_)
  obtain ⟨M_3, hM_3⟩ : ∃ zM : xM, zM = xu M_2 tj (aj, .inr (3, [.ref z, .ref o, .int (nI 0)])) := ⟨_, rfl⟩
  have hX : xw G.1 vwCl A M_3 H := by rw [hM_3]; exact hX
  have hcJ : M_3 tj = some (aj, .inr (3, [.ref z, .ref o, .int (nI 0)])) := by rw [hM_3]; exact xu_s
  exact x_vret hx hb hr hlocks hK hA hX hS dX1_init_19 (by rw [hM_3, hM_2, hM_1, x_uu, x_uu])

abbrev rmX1_takeBack : Room := { frames := 0, cells := 0, slots := 0, locals := 0 }
set_option maxHeartbeats 4000000 in
set_option maxRecDepth 100000 in
/-- Join.takeBack -/
theorem ctX1_takeBack (l : Launch) (G : xG) (A : Nat → Prop) (M : xM) {tj aj : Nat} {un : Int32} {t a a1 a2 tc : Nat} {sd jn dt : Int32} {fd ld : Int64} {tk kd : Nat → Int32} (hcN : M t = some (a, .inr (5, [.int sd, .int jn, .ref a1, .ref a2, .int (nI tc), .int dt, .long fd, .long ld]))) {u a_ a1_ a2_ tc_ : Nat} {sd_ jn_ dt_ : Int32} {fd_ ld_ : Int64} {tk_ kd_ : Nat → Int32} (hcN_ : M u = some (a_, .inr (5, [.int sd_, .int jn_, .ref a1_, .ref a2_, .int (nI tc_), .int dt_, .long fd_, .long ld_]))) (hcJ : M tj = some (aj, .inr (3, [.ref a, .ref a_, .int un]))) (h1 : tj ≠ t) (h2 : tj ≠ u) (h3 : t ≠ u) : Met l yX1_takeBack wsX1_takeBack rmX1_takeBack (va_Pc ([.ref aj] : List Value) (xPc G A M)) (va_Qv (fun M1 => M1 = xu (xu (xu M tj (aj, .inr (3, [.ref a, .ref a_, .int (nI 1)]))) t (a, .inr (5, [.int sd, .int (nI 0), .ref a1, .ref a2, .int (nI tc), .int dt, .long fd, .long ld]))) u (a_, .inr (5, [.int sd_, .int (nI 0), .ref a1_, .ref a2_, .int (nI tc_), .int dt_, .long fd_, .long ld_]))) (xPc G A) A) 0 0 A := by
  refine x_met (cc := cX1_takeBack) (maxL := 1) (ret := none) RX1 (by decide) rfl (Nat.le_of_ble_eq_true rfl) rfl ?_
  intro p e s m below meth c hx hb hr hts hown hlocks hml hin hK hA hX ls hl
  have inX1 : ∀ w ∈ wsX10, w ∈ wsX1_takeBack := by decide +kernel
  have inX3 : ∀ w ∈ wsX30, w ∈ wsX1_takeBack := by decide +kernel
  have lk_fieldLink_7 := hts (.fieldLink RX1 7 "Reconcile$Join" "undone" "Z") (by decide +kernel)
  have lk_fieldLink_13 := hts (.fieldLink RX1 13 "Reconcile$Join" "zero" "LReconcile$Name;") (by decide +kernel)
  have lk_fieldLink_20 := hts (.fieldLink RX1 20 "Reconcile$Name" "joined" "Z") (by decide +kernel)
  have lk_fieldLink_17 := hts (.fieldLink RX1 17 "Reconcile$Join" "one" "LReconcile$Name;") (by decide +kernel)
  have hS : va_S A s.heap s.heap [] := va_S.rf
  have hl : lv_has ls 1 [(0, .ref aj)] := hl
  refine lv_aload_n hx hb dX1_takeBack_0 rfl (lv_at hl 0 rfl) ?_
  refine lv_iconst (v := nI 1) hx hb dX1_takeBack_1 (by decide) ?_
  refine x_put (ci := 3) (v := .int (nI 1)) (C := RX1) (T := TX1) (N := 3) hx hb hts inX1 tyX1 tyX1_ok nmX1 hown hK hX hS hcJ rfl 2 (by decide) lk_fieldLink_7 (fun _ h9 => h9) rfl (tyX1_ok 2 (by decide)) rfl rfl (Nat.le_of_ble_eq_true rfl) dX1_takeBack_2 (fun H locs hX hS => ?_)
  obtain ⟨M_1, hM_1⟩ : ∃ zM : xM, zM = xu M tj (aj, .inr (3, [.ref a, .ref a_, .int (nI 1)])) := ⟨_, rfl⟩
  have hX : xw G.1 vwCl A M_1 H := by rw [hM_1]; exact hX
  have hcN : M_1 t = some (a, .inr (5, [.int sd, .int jn, .ref a1, .ref a2, .int (nI tc), .int dt, .long fd, .long ld])) := by rw [hM_1, xu_n (by omega)]; exact hcN
  have hcN_ : M_1 u = some (a_, .inr (5, [.int sd_, .int jn_, .ref a1_, .ref a2_, .int (nI tc_), .int dt_, .long fd_, .long ld_])) := by rw [hM_1, xu_n (by omega)]; exact hcN_
  have hcJ : M_1 tj = some (aj, .inr (3, [.ref a, .ref a_, .int (nI 1)])) := by rw [hM_1]; exact xu_s
  refine lv_aload_n hx hb dX1_takeBack_5 rfl (lv_at hl 0 rfl) ?_
  refine x_get (ci := 3) (v := .ref a) (C := RX1) (T := TX1) (N := 3) hx hb hts inX1 hown hK hX hcJ rfl 0 (by decide) lk_fieldLink_13 (fun _ h9 => h9) rfl dX1_takeBack_6 ?_
  refine lv_iconst (v := nI 0) hx hb dX1_takeBack_9 (by decide) ?_
  refine x_put (ci := 5) (v := .int (nI 0)) (C := RX3) (T := TX3) (N := 8) hx hb hts inX3 tyX3 tyX3_ok nmX3 hown hK hX hS hcN rfl 1 (by decide) lk_fieldLink_20 (fun _ h9 => h9) rfl (tyX3_ok 1 (by decide)) rfl rfl (Nat.le_of_ble_eq_true rfl) dX1_takeBack_10 (fun H locs hX hS => ?_)
  obtain ⟨M_2, hM_2⟩ : ∃ zM : xM, zM = xu M_1 t (a, .inr (5, [.int sd, .int (nI 0), .ref a1, .ref a2, .int (nI tc), .int dt, .long fd, .long ld])) := ⟨_, rfl⟩
  have hX : xw G.1 vwCl A M_2 H := by rw [hM_2]; exact hX
  have hcJ : M_2 tj = some (aj, .inr (3, [.ref a, .ref a_, .int (nI 1)])) := by rw [hM_2, xu_n (by omega)]; exact hcJ
  have hcN_ : M_2 u = some (a_, .inr (5, [.int sd_, .int jn_, .ref a1_, .ref a2_, .int (nI tc_), .int dt_, .long fd_, .long ld_])) := by rw [hM_2, xu_n (by omega)]; exact hcN_
  have hcN : M_2 t = some (a, .inr (5, [.int sd, .int (nI 0), .ref a1, .ref a2, .int (nI tc), .int dt, .long fd, .long ld])) := by rw [hM_2]; exact xu_s
  refine lv_aload_n hx hb dX1_takeBack_13 rfl (lv_at hl 0 rfl) ?_
  refine x_get (ci := 3) (v := .ref a_) (C := RX1) (T := TX1) (N := 3) hx hb hts inX1 hown hK hX hcJ rfl 1 (by decide) lk_fieldLink_17 (fun _ h9 => h9) rfl dX1_takeBack_14 ?_
  refine lv_iconst (v := nI 0) hx hb dX1_takeBack_17 (by decide) ?_
  refine x_put (ci := 5) (v := .int (nI 0)) (C := RX3) (T := TX3) (N := 8) hx hb hts inX3 tyX3 tyX3_ok nmX3 hown hK hX hS hcN_ rfl 1 (by decide) lk_fieldLink_20 (fun _ h9 => h9) rfl (tyX3_ok 1 (by decide)) rfl rfl (Nat.le_of_ble_eq_true rfl) dX1_takeBack_18 (fun H locs hX hS => ?_)
  obtain ⟨M_3, hM_3⟩ : ∃ zM : xM, zM = xu M_2 u (a_, .inr (5, [.int sd_, .int (nI 0), .ref a1_, .ref a2_, .int (nI tc_), .int dt_, .long fd_, .long ld_])) := ⟨_, rfl⟩
  have hX : xw G.1 vwCl A M_3 H := by rw [hM_3]; exact hX
  have hcJ : M_3 tj = some (aj, .inr (3, [.ref a, .ref a_, .int (nI 1)])) := by rw [hM_3, xu_n (by omega)]; exact hcJ
  have hcN : M_3 t = some (a, .inr (5, [.int sd, .int (nI 0), .ref a1, .ref a2, .int (nI tc), .int dt, .long fd, .long ld])) := by rw [hM_3, xu_n (by omega)]; exact hcN
  have hcN_ : M_3 u = some (a_, .inr (5, [.int sd_, .int (nI 0), .ref a1_, .ref a2_, .int (nI tc_), .int dt_, .long fd_, .long ld_])) := by rw [hM_3]; exact xu_s
  exact x_vret hx hb hr hlocks hK hA hX hS dX1_takeBack_21 (by rw [hM_3, hM_2, hM_1])
