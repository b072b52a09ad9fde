/-! Name: the pure words -/
theorem x_dec {a : Nat} (h : 1 ≤ a) : nI a + Int32.ofInt (-1) = nI (a - 1) := by
  obtain ⟨k, rfl⟩ : ∃ k, a = k + 1 := ⟨a - 1, by omega⟩
  exact pk_m1 k
theorem x_if0 {p : Prop} {r : Int32} [Decidable p] (e : r = if p then 1 else 0) (h : r = 0) : ¬ p := by
  intro hp
  rw [if_pos hp] at e
  rw [e] at h
  exact absurd h (by decide)
theorem x_if1 {p : Prop} {r : Int32} [Decidable p] (e : r = if p then 1 else 0) (h : ¬ r = 0) : p := by
  by_cases hp : p
  · exact hp
  · rw [if_neg hp] at e; exact absurd e h
theorem x_ib0 {b : Bool} {r : Int32} (e : r = if b then 1 else 0) (h : r = 0) : b = false := by
  cases b with
  | false => rfl
  | true => rw [if_pos rfl] at e; rw [e] at h; exact absurd h (by decide)
theorem x_ib1 {b : Bool} {r : Int32} (e : r = if b then 1 else 0) (h : ¬ r = 0) : b = true := by
  cases b with
  | true => rfl
  | false => rw [if_neg (by decide)] at e; exact absurd e h
def xHas (tk kd : Nat → Int32) (x k : Int32) : Nat → Bool
  | 0 => false
  | n + 1 => xHas tk kd x k n || (decide (tk n = x) && decide (kd n = k))
theorem xHas_f {tk kd : Nat → Int32} {x k : Int32} : ∀ {n : Nat}, (∀ j, j < n → ¬ (tk j = x ∧ kd j = k)) → xHas tk kd x k n = false
  | 0, _ => rfl
  | n + 1, h => by
    have h1 := xHas_f (n := n) (fun j hj => h j (by omega))
    have h2 := h n (by omega)
    simp only [xHas, h1, Bool.false_or, Bool.and_eq_false_iff, decide_eq_false_iff_not]
    by_cases a : tk n = x
    · exact Or.inr (fun b => h2 ⟨a, b⟩)
    · exact Or.inl a
theorem xHas_t {tk kd : Nat → Int32} {x k : Int32} {j : Nat} (h : tk j = x ∧ kd j = k) : ∀ {n : Nat}, j < n → xHas tk kd x k n = true
  | 0, hj => absurd hj (by omega)
  | n + 1, hj => by
    simp only [xHas, Bool.or_eq_true, Bool.and_eq_true, decide_eq_true_eq]
    rcases Nat.lt_or_ge j n with q | q
    · exact Or.inl (xHas_t h q)
    · rw [show n = j by omega]; exact Or.inr h
def xAll (kd : Nat → Int32) (wn : Nat → Nat) : Nat → Nat
  | 0 => 0
  | n + 1 => xAll kd wn n + wn (kd n).toNatClampNeg
def xSh (tk kd otk okd : Nat → Int32) (otc : Nat) (wn : Nat → Nat) : Nat → Nat
  | 0 => 0
  | n + 1 => if xHas otk okd (tk n) (kd n) otc then xSh tk kd otk okd otc wn n + wn (kd n).toNatClampNeg else xSh tk kd otk okd otc wn n
theorem x_ki {k : Int32} {n : Nat} (h : vp_in k n) (hn : n < 2 ^ 31) : k = nI k.toNatClampNeg ∧ k.toNatClampNeg < n := by
  obtain ⟨j, hj, rfl⟩ := vp_in_of h hn
  rw [nI_clamp (by omega)]
  exact ⟨rfl, hj⟩

abbrev rmX3_hasToken : Room := { frames := 0, cells := 0, slots := 0, locals := 0 }
set_option maxHeartbeats 4000000 in
set_option maxRecDepth 100000 in
/-- Name.hasToken -/
theorem ctX3_hasToken (l : Launch) (G : xG) (A : Nat → Prop) (M : xM) {t a a1 a2 tc : Nat} {sd jn dt : Int32} {fd ld : Int64} {tk kd : Nat → Int32} (hcN : M t = some (a, .inr (5, [.int sd, .int jn, .ref a1, .ref a2, .int (nI tc), .int dt, .long fd, .long ld]))) (hcT : M (t + 1) = some (a1, .inl (G.2 0, 8, .inl tk))) (hcK : M (t + 2) = some (a2, .inl (G.2 0, 8, .inl kd))) (htc : tc ≤ 8) (p0 p1 : Int32) : Met l yX3_hasToken wsX3_hasToken rmX3_hasToken (va_Pc ([.ref a, .int p0, .int p1] : List Value) (xPc G A M)) (va_Qi (fun r M1 => M1 = M ∧ r = if xHas tk kd p0 p1 tc then 1 else 0) (xPc G A) A) 0 0 A := by
  refine x_met (cc := cX3_hasToken) (maxL := 4) (ret := (some .boolean)) RX3 (by decide) rfl (Nat.le_of_ble_eq_true rfl) rfl ?_
  intro p e s m below meth c hx hb hr hts hown hlocks hml hin hK hA hX ls hl
  have inX3 : ∀ w ∈ wsX30, w ∈ wsX3_hasToken := by decide +kernel
  have lk_fieldLink_22 := hts (.fieldLink RX3 22 "Reconcile$Name" "tokenCount" "I") (by decide +kernel)
  have lk_fieldLink_15 := hts (.fieldLink RX3 15 "Reconcile$Name" "tokens" "[I") (by decide +kernel)
  have lk_fieldLink_19 := hts (.fieldLink RX3 19 "Reconcile$Name" "kinds" "[I") (by decide +kernel)
  have hS : va_S A s.heap s.heap [] := va_S.rf
  have hl : lv_has ls 4 [(0, .ref a), (1, .int p0), (2, .int p1)] := hl
  refine lv_iconst (v := nI 0) hx hb dX3_hasToken_0 (by decide) ?_
  refine lv_istore_n (lv' := [(3, .int (nI 0)), (0, .ref a), (1, .int p0), (2, .int p1)]) hx hb dX3_hasToken_1 rfl hl (by decide) rfl (fun ls hl => ?_)
  have loop : ∀ (n : Nat) (i : Nat) (ls : Array Slot), tc < i + n → (i ≤ tc) → (∀ j, j < i → ¬ (tk j = p0 ∧ kd j = p1)) → lv_has ls 4 [(3, .int (nI i)), (0, .ref a), (1, .int p0), (2, .int p1)] → W p l e rmX3_hasToken s m ([.ref a, .int p0, .int p1] : List Value).toArray below meth c s.heap [] 0 0 (MQ below (va_Qi (fun r M1 => M1 = M ∧ r = if xHas tk kd p0 p1 tc then 1 else 0) (xPc G A) A) ([.ref a, .int p0, .int p1] : List Value).toArray s 0 0 A) (F0 m 2 ls []) := by
    intro n
    induction n with
    | zero => intro i ls hn0 hi hv; exact absurd hn0 (by omega)
    | succ n ih =>
      intro i ls hn0 hi hv hl
      refine lv_iload_n hx hb dX3_hasToken_2 rfl (lv_at hl 0 rfl) ?_
      refine lv_aload_n hx hb dX3_hasToken_3 rfl (lv_at hl 1 rfl) ?_
      refine x_get (ci := 5) (v := .int (nI tc)) (C := RX3) (T := TX3) (N := 8) hx hb hts inX3 hown hK hX hcN rfl 4 (by decide) lk_fieldLink_22 (fun _ h9 => h9) rfl dX3_hasToken_4 ?_
      refine lv_icmp_ge (tgt := 38) hx hb dX3_hasToken_7 (by decide) (fun c_1 => ?_) (fun c_1 => ?_)
      · have c_1 : tc ≤ i := (nI_leI (by omega) (by omega)).mp c_1
        refine lv_iconst (v := nI 0) hx hb dX3_hasToken_38 (by decide) ?_
        exact x_zret hx hb hr hlocks hK hA hX hS dX3_hasToken_39 rfl (⟨rfl, by rw [xHas_f (n := tc) (fun j hj => hv j (by omega))]; rfl⟩)
      · have c_1 : ¬ (tc ≤ i) := fun q => c_1 ((nI_leI (by omega) (by omega)).mpr q)
        refine lv_aload_n hx hb dX3_hasToken_10 rfl (lv_at hl 1 rfl) ?_
        refine x_get (ci := 5) (v := .ref a1) (C := RX3) (T := TX3) (N := 8) hx hb hts inX3 hown hK hX hcN rfl 2 (by decide) lk_fieldLink_15 (fun _ h9 => h9) rfl dX3_hasToken_11 ?_
        refine lv_iload_n hx hb dX3_hasToken_14 rfl (lv_at hl 0 rfl) ?_
        refine x_iN hx hb hK hX hcT (by omega) (by decide) dX3_hasToken_15 ?_
        refine lv_iload_n hx hb dX3_hasToken_16 rfl (lv_at hl 2 rfl) ?_
        refine lv_icmp_ne (tgt := 32) hx hb dX3_hasToken_17 (by decide) (fun c_2 => ?_) (fun c_2 => ?_)
        · refine lv_iinc (v := nI (i + 1)) (lv' := [(3, .int (nI (i + 1))), (0, .ref a), (1, .int p0), (2, .int p1)]) hx hb dX3_hasToken_32 hl (k := 0) rfl (show nI i + Int32.ofInt 1 = _ from nI_add _ 1) (by decide) rfl (fun ls hl => ?_)
          refine lv_goto (tgt := 2) hx hb dX3_hasToken_35 (by decide) ?_
          exact ih (i + 1) ls (by omega) (by omega) (lt_s hv (fun q => c_2 q.1)) (lv_sub hl [0, 1, 2, 3] rfl)
        · refine lv_aload_n hx hb dX3_hasToken_20 rfl (lv_at hl 1 rfl) ?_
          refine x_get (ci := 5) (v := .ref a2) (C := RX3) (T := TX3) (N := 8) hx hb hts inX3 hown hK hX hcN rfl 3 (by decide) lk_fieldLink_19 (fun _ h9 => h9) rfl dX3_hasToken_21 ?_
          refine lv_iload_n hx hb dX3_hasToken_24 rfl (lv_at hl 0 rfl) ?_
          refine x_iN hx hb hK hX hcK (by omega) (by decide) dX3_hasToken_25 ?_
          refine lv_iload_n hx hb dX3_hasToken_26 rfl (lv_at hl 3 rfl) ?_
          refine lv_icmp_ne (tgt := 32) hx hb dX3_hasToken_27 (by decide) (fun c_3 => ?_) (fun c_3 => ?_)
          · refine lv_iinc (v := nI (i + 1)) (lv' := [(3, .int (nI (i + 1))), (0, .ref a), (1, .int p0), (2, .int p1)]) hx hb dX3_hasToken_32 hl (k := 0) rfl (show nI i + Int32.ofInt 1 = _ from nI_add _ 1) (by decide) rfl (fun ls hl => ?_)
            refine lv_goto (tgt := 2) hx hb dX3_hasToken_35 (by decide) ?_
            exact ih (i + 1) ls (by omega) (by omega) (lt_s hv (fun q => c_3 q.2)) (lv_sub hl [0, 1, 2, 3] rfl)
          · refine lv_iconst (v := nI 1) hx hb dX3_hasToken_30 (by decide) ?_
            exact x_zret hx hb hr hlocks hK hA hX hS dX3_hasToken_31 rfl (⟨rfl, by rw [xHas_t ⟨c_2, c_3⟩ (show i < tc by omega)]; rfl⟩)
  exact loop (tc + 1) 0 ls (by omega) (by omega) (fun j hj => absurd hj (by omega)) (lv_sub hl [0, 1, 2, 3] rfl)

abbrev rmX3_mayPair : Room := { frames := 0, cells := 0, slots := 0, locals := 0 }
set_option maxHeartbeats 4000000 in
set_option maxRecDepth 100000 in
/-- Name.mayPair -/
theorem ctX3_mayPair (l : Launch) (G : xG) (A : Nat → Prop) (M : xM) {t a a1 a2 tc : Nat} {sd jn dt : Int32} {fd ld : Int64} {tk kd : Nat → Int32} (hcN : M t = some (a, .inr (5, [.int sd, .int jn, .ref a1, .ref a2, .int (nI tc), .int dt, .long fd, .long ld]))) (hcT : M (t + 1) = some (a1, .inl (G.2 0, 8, .inl tk))) (hcK : M (t + 2) = some (a2, .inl (G.2 0, 8, .inl kd))) (htc : tc ≤ 8) (p0 : Int32) : Met l yX3_mayPair wsX3_mayPair rmX3_mayPair (va_Pc ([.ref a, .int p0] : List Value) (xPc G A M)) (va_Qi (fun r M1 => M1 = M ∧ r = if sd = p0 ∧ 0 < tc ∧ jn = 0 then 1 else 0) (xPc G A) A) 0 0 A := by
  refine x_met (cc := cX3_mayPair) (maxL := 2) (ret := (some .boolean)) RX3 (by decide) rfl (Nat.le_of_ble_eq_true rfl) rfl ?_
  intro p e s m below meth c hx hb hr hts hown hlocks hml hin hK hA hX ls hl
  have inX3 : ∀ w ∈ wsX30, w ∈ wsX3_mayPair := by decide +kernel
  have lk_fieldLink_36 := hts (.fieldLink RX3 36 "Reconcile$Name" "side" "I") (by decide +kernel)
  have lk_fieldLink_22 := hts (.fieldLink RX3 22 "Reconcile$Name" "tokenCount" "I") (by decide +kernel)
  have lk_fieldLink_9 := hts (.fieldLink RX3 9 "Reconcile$Name" "joined" "Z") (by decide +kernel)
  have hS : va_S A s.heap s.heap [] := va_S.rf
  have hl : lv_has ls 2 [(0, .ref a), (1, .int p0)] := hl
  refine lv_aload_n hx hb dX3_mayPair_0 rfl (lv_at hl 0 rfl) ?_
  refine x_get (ci := 5) (v := .int sd) (C := RX3) (T := TX3) (N := 8) hx hb hts inX3 hown hK hX hcN rfl 0 (by decide) lk_fieldLink_36 (fun _ h9 => h9) rfl dX3_mayPair_1 ?_
  refine lv_iload_n hx hb dX3_mayPair_4 rfl (lv_at hl 1 rfl) ?_
  refine lv_icmp_ne (tgt := 26) hx hb dX3_mayPair_5 (by decide) (fun c_1 => ?_) (fun c_1 => ?_)
  · refine lv_iconst (v := nI 0) hx hb dX3_mayPair_26 (by decide) ?_
    exact x_zret hx hb hr hlocks hK hA hX hS dX3_mayPair_27 rfl (⟨rfl, by split <;> first | rfl | (rename_i q; exfalso; first | omega | exact q (by and_intros <;> first | assumption | omega) | exact absurd q.1 (by assumption) | exact absurd q.2 (by assumption) | exact absurd q.2.1 (by assumption) | exact absurd q.2.2 (by assumption) | exact absurd (by assumption) q.1 | exact absurd (by assumption) q.2 | exact absurd (by assumption) q.2.1 | exact absurd (by assumption) q.2.2 | exact absurd q.1.1 (by assumption) | exact absurd q.1.2 (by assumption))⟩)
  · refine lv_aload_n hx hb dX3_mayPair_8 rfl (lv_at hl 0 rfl) ?_
    refine x_get (ci := 5) (v := .int (nI tc)) (C := RX3) (T := TX3) (N := 8) hx hb hts inX3 hown hK hX hcN rfl 4 (by decide) lk_fieldLink_22 (fun _ h9 => h9) rfl dX3_mayPair_9 ?_
    refine lv_if_le (tgt := 26) hx hb dX3_mayPair_12 (by decide) (fun c_2 => ?_) (fun c_2 => ?_)
    · have c_2 : tc ≤ 0 := (nI_leI (a := tc) (b := 0) (by omega) (by omega)).mp c_2
      refine lv_iconst (v := nI 0) hx hb dX3_mayPair_26 (by decide) ?_
      exact x_zret hx hb hr hlocks hK hA hX hS dX3_mayPair_27 rfl (⟨rfl, by split <;> first | rfl | (rename_i q; exfalso; first | omega | exact q (by and_intros <;> first | assumption | omega) | exact absurd q.1 (by assumption) | exact absurd q.2 (by assumption) | exact absurd q.2.1 (by assumption) | exact absurd q.2.2 (by assumption) | exact absurd (by assumption) q.1 | exact absurd (by assumption) q.2 | exact absurd (by assumption) q.2.1 | exact absurd (by assumption) q.2.2 | exact absurd q.1.1 (by assumption) | exact absurd q.1.2 (by assumption))⟩)
    · have c_2 : ¬ (tc ≤ 0) := fun q => c_2 ((nI_leI (a := tc) (b := 0) (by omega) (by omega)).mpr q)
      refine lv_aload_n hx hb dX3_mayPair_15 rfl (lv_at hl 0 rfl) ?_
      refine x_get (ci := 5) (v := .int jn) (C := RX3) (T := TX3) (N := 8) hx hb hts inX3 hown hK hX hcN rfl 1 (by decide) lk_fieldLink_9 (fun _ h9 => h9) rfl dX3_mayPair_16 ?_
      refine lv_if_ne (tgt := 26) hx hb dX3_mayPair_19 (by decide) (fun c_3 => ?_) (fun c_3 => ?_)
      · refine lv_iconst (v := nI 0) hx hb dX3_mayPair_26 (by decide) ?_
        exact x_zret hx hb hr hlocks hK hA hX hS dX3_mayPair_27 rfl (⟨rfl, by split <;> first | rfl | (rename_i q; exfalso; first | omega | exact q (by and_intros <;> first | assumption | omega) | exact absurd q.1 (by assumption) | exact absurd q.2 (by assumption) | exact absurd q.2.1 (by assumption) | exact absurd q.2.2 (by assumption) | exact absurd (by assumption) q.1 | exact absurd (by assumption) q.2 | exact absurd (by assumption) q.2.1 | exact absurd (by assumption) q.2.2 | exact absurd q.1.1 (by assumption) | exact absurd q.1.2 (by assumption))⟩)
      · refine lv_iconst (v := nI 1) hx hb dX3_mayPair_22 (by decide) ?_
        refine lv_goto (tgt := 27) hx hb dX3_mayPair_23 (by decide) ?_
        exact x_zret hx hb hr hlocks hK hA hX hS dX3_mayPair_27 rfl (⟨rfl, by split <;> first | rfl | (rename_i q; exfalso; first | omega | exact q (by and_intros <;> first | assumption | omega) | exact absurd q.1 (by assumption) | exact absurd q.2 (by assumption) | exact absurd q.2.1 (by assumption) | exact absurd q.2.2 (by assumption) | exact absurd (by assumption) q.1 | exact absurd (by assumption) q.2 | exact absurd (by assumption) q.2.1 | exact absurd (by assumption) q.2.2 | exact absurd q.1.1 (by assumption) | exact absurd q.1.2 (by assumption))⟩)

abbrev rmX3_mayJoin : Room := { frames := 0, cells := 0, slots := 0, locals := 0 }
set_option maxHeartbeats 4000000 in
set_option maxRecDepth 100000 in
/-- Name.mayJoin -/
theorem ctX3_mayJoin (l : Launch) (G : xG) (A : Nat → Prop) (M : xM) {t a a1 a2 tc : Nat} {sd jn dt : Int32} {fd ld : Int64} {tk kd : Nat → Int32} (hcN : M t = some (a, .inr (5, [.int sd, .int jn, .ref a1, .ref a2, .int (nI tc), .int dt, .long fd, .long ld]))) (hcT : M (t + 1) = some (a1, .inl (G.2 0, 8, .inl tk))) (hcK : M (t + 2) = some (a2, .inl (G.2 0, 8, .inl kd))) (htc : tc ≤ 8) (p0 : Int32) : Met l yX3_mayJoin wsX3_mayJoin rmX3_mayJoin (va_Pc ([.ref a, .int p0] : List Value) (xPc G A M)) (va_Qi (fun r M1 => M1 = M ∧ r = if sd = p0 ∧ jn = 0 then 1 else 0) (xPc G A) A) 0 0 A := by
  refine x_met (cc := cX3_mayJoin) (maxL := 2) (ret := (some .boolean)) RX3 (by decide) rfl (Nat.le_of_ble_eq_true rfl) rfl ?_
  intro p e s m below meth c hx hb hr hts hown hlocks hml hin hK hA hX ls hl
  have inX3 : ∀ w ∈ wsX30, w ∈ wsX3_mayJoin := by decide +kernel
  have lk_fieldLink_36 := hts (.fieldLink RX3 36 "Reconcile$Name" "side" "I") (by decide +kernel)
  have lk_fieldLink_9 := hts (.fieldLink RX3 9 "Reconcile$Name" "joined" "Z") (by decide +kernel)
  have hS : va_S A s.heap s.heap [] := va_S.rf
  have hl : lv_has ls 2 [(0, .ref a), (1, .int p0)] := hl
  refine lv_aload_n hx hb dX3_mayJoin_0 rfl (lv_at hl 0 rfl) ?_
  refine x_get (ci := 5) (v := .int sd) (C := RX3) (T := TX3) (N := 8) hx hb hts inX3 hown hK hX hcN rfl 0 (by decide) lk_fieldLink_36 (fun _ h9 => h9) rfl dX3_mayJoin_1 ?_
  refine lv_iload_n hx hb dX3_mayJoin_4 rfl (lv_at hl 1 rfl) ?_
  refine lv_icmp_ne (tgt := 19) hx hb dX3_mayJoin_5 (by decide) (fun c_1 => ?_) (fun c_1 => ?_)
  · refine lv_iconst (v := nI 0) hx hb dX3_mayJoin_19 (by decide) ?_
    exact x_zret hx hb hr hlocks hK hA hX hS dX3_mayJoin_20 rfl (⟨rfl, by split <;> first | rfl | (rename_i q; exfalso; first | omega | exact q (by and_intros <;> first | assumption | omega) | exact absurd q.1 (by assumption) | exact absurd q.2 (by assumption) | exact absurd q.2.1 (by assumption) | exact absurd q.2.2 (by assumption) | exact absurd (by assumption) q.1 | exact absurd (by assumption) q.2 | exact absurd (by assumption) q.2.1 | exact absurd (by assumption) q.2.2 | exact absurd q.1.1 (by assumption) | exact absurd q.1.2 (by assumption))⟩)
  · refine lv_aload_n hx hb dX3_mayJoin_8 rfl (lv_at hl 0 rfl) ?_
    refine x_get (ci := 5) (v := .int jn) (C := RX3) (T := TX3) (N := 8) hx hb hts inX3 hown hK hX hcN rfl 1 (by decide) lk_fieldLink_9 (fun _ h9 => h9) rfl dX3_mayJoin_9 ?_
    refine lv_if_ne (tgt := 19) hx hb dX3_mayJoin_12 (by decide) (fun c_2 => ?_) (fun c_2 => ?_)
    · refine lv_iconst (v := nI 0) hx hb dX3_mayJoin_19 (by decide) ?_
      exact x_zret hx hb hr hlocks hK hA hX hS dX3_mayJoin_20 rfl (⟨rfl, by split <;> first | rfl | (rename_i q; exfalso; first | omega | exact q (by and_intros <;> first | assumption | omega) | exact absurd q.1 (by assumption) | exact absurd q.2 (by assumption) | exact absurd q.2.1 (by assumption) | exact absurd q.2.2 (by assumption) | exact absurd (by assumption) q.1 | exact absurd (by assumption) q.2 | exact absurd (by assumption) q.2.1 | exact absurd (by assumption) q.2.2 | exact absurd q.1.1 (by assumption) | exact absurd q.1.2 (by assumption))⟩)
    · refine lv_iconst (v := nI 1) hx hb dX3_mayJoin_15 (by decide) ?_
      refine lv_goto (tgt := 20) hx hb dX3_mayJoin_16 (by decide) ?_
      exact x_zret hx hb hr hlocks hK hA hX hS dX3_mayJoin_20 rfl (⟨rfl, by split <;> first | rfl | (rename_i q; exfalso; first | omega | exact q (by and_intros <;> first | assumption | omega) | exact absurd q.1 (by assumption) | exact absurd q.2 (by assumption) | exact absurd q.2.1 (by assumption) | exact absurd q.2.2 (by assumption) | exact absurd (by assumption) q.1 | exact absurd (by assumption) q.2 | exact absurd (by assumption) q.2.1 | exact absurd (by assumption) q.2.2 | exact absurd q.1.1 (by assumption) | exact absurd q.1.2 (by assumption))⟩)

abbrev rmX3_bothDated : Room := { frames := 0, cells := 0, slots := 0, locals := 0 }
set_option maxHeartbeats 4000000 in
set_option maxRecDepth 100000 in
/-- Name.bothDated -/
theorem ctX3_bothDated (l : Launch) (G : xG) (A : Nat → Prop) (M : xM) {t a a1 a2 tc : Nat} {sd jn dt : Int32} {fd ld : Int64} {tk kd : Nat → Int32} (hcN : M t = some (a, .inr (5, [.int sd, .int jn, .ref a1, .ref a2, .int (nI tc), .int dt, .long fd, .long ld]))) (hcT : M (t + 1) = some (a1, .inl (G.2 0, 8, .inl tk))) (hcK : M (t + 2) = some (a2, .inl (G.2 0, 8, .inl kd))) (htc : tc ≤ 8) {u a_ a1_ a2_ tc_ : Nat} {sd_ jn_ dt_ : Int32} {fd_ ld_ : Int64} {tk_ kd_ : Nat → Int32} (hcN_ : M u = some (a_, .inr (5, [.int sd_, .int jn_, .ref a1_, .ref a2_, .int (nI tc_), .int dt_, .long fd_, .long ld_]))) (hcT_ : M (u + 1) = some (a1_, .inl (G.2 0, 8, .inl tk_))) (hcK_ : M (u + 2) = some (a2_, .inl (G.2 0, 8, .inl kd_))) (htc_ : tc_ ≤ 8) : Met l yX3_bothDated wsX3_bothDated rmX3_bothDated (va_Pc ([.ref a, .ref a_] : List Value) (xPc G A M)) (va_Qi (fun r M1 => M1 = M ∧ r = if ¬ dt = 0 ∧ ¬ dt_ = 0 then 1 else 0) (xPc G A) A) 0 0 A := by
  refine x_met (cc := cX3_bothDated) (maxL := 2) (ret := (some .boolean)) RX3 (by decide) rfl (Nat.le_of_ble_eq_true rfl) rfl ?_
  intro p e s m below meth c hx hb hr hts hown hlocks hml hin hK hA hX ls hl
  have inX3 : ∀ w ∈ wsX30, w ∈ wsX3_bothDated := by decide +kernel
  have lk_fieldLink_26 := hts (.fieldLink RX3 26 "Reconcile$Name" "dated" "Z") (by decide +kernel)
  have hS : va_S A s.heap s.heap [] := va_S.rf
  have hl : lv_has ls 2 [(0, .ref a), (1, .ref a_)] := hl
  refine lv_aload_n hx hb dX3_bothDated_0 rfl (lv_at hl 0 rfl) ?_
  refine x_get (ci := 5) (v := .int dt) (C := RX3) (T := TX3) (N := 8) hx hb hts inX3 hown hK hX hcN rfl 5 (by decide) lk_fieldLink_26 (fun _ h9 => h9) rfl dX3_bothDated_1 ?_
  refine lv_if_eq (tgt := 18) hx hb dX3_bothDated_4 (by decide) (fun c_1 => ?_) (fun c_1 => ?_)
  · refine lv_iconst (v := nI 0) hx hb dX3_bothDated_18 (by decide) ?_
    exact x_zret hx hb hr hlocks hK hA hX hS dX3_bothDated_19 rfl (⟨rfl, by split <;> first | rfl | (rename_i q; exfalso; first | omega | exact q (by and_intros <;> first | assumption | omega) | exact absurd q.1 (by assumption) | exact absurd q.2 (by assumption) | exact absurd q.2.1 (by assumption) | exact absurd q.2.2 (by assumption) | exact absurd (by assumption) q.1 | exact absurd (by assumption) q.2 | exact absurd (by assumption) q.2.1 | exact absurd (by assumption) q.2.2 | exact absurd q.1.1 (by assumption) | exact absurd q.1.2 (by assumption))⟩)
  · refine lv_aload_n hx hb dX3_bothDated_7 rfl (lv_at hl 1 rfl) ?_
    refine x_get (ci := 5) (v := .int dt_) (C := RX3) (T := TX3) (N := 8) hx hb hts inX3 hown hK hX hcN_ rfl 5 (by decide) lk_fieldLink_26 (fun _ h9 => h9) rfl dX3_bothDated_8 ?_
    refine lv_if_eq (tgt := 18) hx hb dX3_bothDated_11 (by decide) (fun c_2 => ?_) (fun c_2 => ?_)
    · refine lv_iconst (v := nI 0) hx hb dX3_bothDated_18 (by decide) ?_
      exact x_zret hx hb hr hlocks hK hA hX hS dX3_bothDated_19 rfl (⟨rfl, by split <;> first | rfl | (rename_i q; exfalso; first | omega | exact q (by and_intros <;> first | assumption | omega) | exact absurd q.1 (by assumption) | exact absurd q.2 (by assumption) | exact absurd q.2.1 (by assumption) | exact absurd q.2.2 (by assumption) | exact absurd (by assumption) q.1 | exact absurd (by assumption) q.2 | exact absurd (by assumption) q.2.1 | exact absurd (by assumption) q.2.2 | exact absurd q.1.1 (by assumption) | exact absurd q.1.2 (by assumption))⟩)
    · refine lv_iconst (v := nI 1) hx hb dX3_bothDated_14 (by decide) ?_
      refine lv_goto (tgt := 19) hx hb dX3_bothDated_15 (by decide) ?_
      exact x_zret hx hb hr hlocks hK hA hX hS dX3_bothDated_19 rfl (⟨rfl, by split <;> first | rfl | (rename_i q; exfalso; first | omega | exact q (by and_intros <;> first | assumption | omega) | exact absurd q.1 (by assumption) | exact absurd q.2 (by assumption) | exact absurd q.2.1 (by assumption) | exact absurd q.2.2 (by assumption) | exact absurd (by assumption) q.1 | exact absurd (by assumption) q.2 | exact absurd (by assumption) q.2.1 | exact absurd (by assumption) q.2.2 | exact absurd q.1.1 (by assumption) | exact absurd q.1.2 (by assumption))⟩)

abbrev rmX3_sharesDay : Room := { frames := 1, cells := 0, slots := 0, locals := 21 }
set_option maxHeartbeats 4000000 in
set_option maxRecDepth 100000 in
/-- Name.sharesDay -/
theorem ctX3_sharesDay (l : Launch) (G : xG) (A : Nat → Prop) (M : xM) {t a a1 a2 tc : Nat} {sd jn dt : Int32} {fd ld : Int64} {tk kd : Nat → Int32} (hcN : M t = some (a, .inr (5, [.int sd, .int jn, .ref a1, .ref a2, .int (nI tc), .int dt, .long fd, .long ld]))) (hcT : M (t + 1) = some (a1, .inl (G.2 0, 8, .inl tk))) (hcK : M (t + 2) = some (a2, .inl (G.2 0, 8, .inl kd))) (htc : tc ≤ 8) {u a_ a1_ a2_ tc_ : Nat} {sd_ jn_ dt_ : Int32} {fd_ ld_ : Int64} {tk_ kd_ : Nat → Int32} (hcN_ : M u = some (a_, .inr (5, [.int sd_, .int jn_, .ref a1_, .ref a2_, .int (nI tc_), .int dt_, .long fd_, .long ld_]))) (hcT_ : M (u + 1) = some (a1_, .inl (G.2 0, 8, .inl tk_))) (hcK_ : M (u + 2) = some (a2_, .inl (G.2 0, 8, .inl kd_))) (htc_ : tc_ ≤ 8) : Met l yX3_sharesDay wsX3_sharesDay rmX3_sharesDay (va_Pc ([.ref a, .ref a_] : List Value) (xPc G A M)) (va_Qi (fun r M1 => M1 = M ∧ r = if (¬ dt = 0 ∧ ¬ dt_ = 0) ∧ ¬ ld_ < fd ∧ ¬ ld < fd_ then 1 else 0) (xPc G A) A) 0 0 A := by
  refine x_met (cc := cX3_sharesDay) (maxL := 2) (ret := (some .boolean)) RX3 (by decide) rfl (Nat.le_of_ble_eq_true rfl) rfl ?_
  intro p e s m below meth c hx hb hr hts hown hlocks hml hin hK hA hX ls hl
  have inX3 : ∀ w ∈ wsX30, w ∈ wsX3_sharesDay := by decide +kernel
  have lk_fieldLink_29 := hts (.fieldLink RX3 29 "Reconcile$Name" "firstDay" "J") (by decide +kernel)
  have lk_fieldLink_33 := hts (.fieldLink RX3 33 "Reconcile$Name" "lastDay" "J") (by decide +kernel)
  have hS : va_S A s.heap s.heap [] := va_S.rf
  have hl : lv_has ls 2 [(0, .ref a), (1, .ref a_)] := hl
  refine lv_aload_n hx hb dX3_sharesDay_0 rfl (lv_at hl 0 rfl) ?_
  refine lv_aload_n hx hb dX3_sharesDay_1 rfl (lv_at hl 1 rfl) ?_
  refine x_calli (x_runV (q := (RX3, TX3, 8)) (As := [.ref a_]) (rest := []) ⟨hx, hb, hml, hown, hts⟩ (ctX3_bothDated l G A M hcN hcT hcK htc hcN_ hcT_ hcK_ htc_) (cwV 1 hts gX3_sharesDay_X3_bothDated rfl rfl rfl (by decide +kernel) ⟨Nat.le_of_ble_eq_true rfl, Nat.le_of_ble_eq_true rfl⟩) hK hA hX hS hcN rfl rfl hl.1 rfl (lv_room (Nat.le_of_ble_eq_true rfl)) dX3_sharesDay_2 ⟨by decide, by decide⟩) hS (fun r_1 M_2 H locs hp hX hS => ?_)
  obtain ⟨hM_, er_1⟩ := hp
  rw [hM_] at hX
  refine lv_if_eq (tgt := 36) hx hb dX3_sharesDay_5 (by decide) (fun c_3 => ?_) (fun c_3 => ?_)
  · have c_3 := x_if0 er_1 c_3
    refine lv_iconst (v := nI 0) hx hb dX3_sharesDay_36 (by decide) ?_
    exact x_zret hx hb hr hlocks hK hA hX hS dX3_sharesDay_37 rfl (⟨rfl, by split <;> first | rfl | (rename_i q; exfalso; first | omega | exact q (by and_intros <;> first | assumption | omega) | exact absurd q.1 (by assumption) | exact absurd q.2 (by assumption) | exact absurd q.2.1 (by assumption) | exact absurd q.2.2 (by assumption) | exact absurd (by assumption) q.1 | exact absurd (by assumption) q.2 | exact absurd (by assumption) q.2.1 | exact absurd (by assumption) q.2.2 | exact absurd q.1.1 (by assumption) | exact absurd q.1.2 (by assumption))⟩)
  · have c_3 := x_if1 er_1 c_3
    obtain ⟨hA1, hA2⟩ := c_3
    refine lv_aload_n hx hb dX3_sharesDay_8 rfl (lv_at hl 0 rfl) ?_
    refine x_get (ci := 5) (v := .long fd) (C := RX3) (T := TX3) (N := 8) hx hb hts inX3 hown hK hX hcN rfl 6 (by decide) lk_fieldLink_29 (fun _ h9 => h9) rfl dX3_sharesDay_9 ?_
    refine lv_aload_n hx hb dX3_sharesDay_12 rfl (lv_at hl 1 rfl) ?_
    refine x_get (ci := 5) (v := .long ld_) (C := RX3) (T := TX3) (N := 8) hx hb hts inX3 hown hK hX hcN_ rfl 7 (by decide) lk_fieldLink_33 (fun _ h9 => h9) rfl dX3_sharesDay_13 ?_
    refine W.lcmp hx hb dX3_sharesDay_16 ?_
    refine x_lc_gt (tgt := 36) hx hb dX3_sharesDay_17 (by decide) (fun c_4 => ?_) (fun c_4 => ?_)
    · refine lv_iconst (v := nI 0) hx hb dX3_sharesDay_36 (by decide) ?_
      exact x_zret hx hb hr hlocks hK hA hX hS dX3_sharesDay_37 rfl (⟨rfl, by split <;> first | rfl | (rename_i q; exfalso; first | omega | exact q (by and_intros <;> first | assumption | omega) | exact absurd q.1 (by assumption) | exact absurd q.2 (by assumption) | exact absurd q.2.1 (by assumption) | exact absurd q.2.2 (by assumption) | exact absurd (by assumption) q.1 | exact absurd (by assumption) q.2 | exact absurd (by assumption) q.2.1 | exact absurd (by assumption) q.2.2 | exact absurd q.1.1 (by assumption) | exact absurd q.1.2 (by assumption))⟩)
    · refine lv_aload_n hx hb dX3_sharesDay_20 rfl (lv_at hl 1 rfl) ?_
      refine x_get (ci := 5) (v := .long fd_) (C := RX3) (T := TX3) (N := 8) hx hb hts inX3 hown hK hX hcN_ rfl 6 (by decide) lk_fieldLink_29 (fun _ h9 => h9) rfl dX3_sharesDay_21 ?_
      refine lv_aload_n hx hb dX3_sharesDay_24 rfl (lv_at hl 0 rfl) ?_
      refine x_get (ci := 5) (v := .long ld) (C := RX3) (T := TX3) (N := 8) hx hb hts inX3 hown hK hX hcN rfl 7 (by decide) lk_fieldLink_33 (fun _ h9 => h9) rfl dX3_sharesDay_25 ?_
      refine W.lcmp hx hb dX3_sharesDay_28 ?_
      refine x_lc_gt (tgt := 36) hx hb dX3_sharesDay_29 (by decide) (fun c_5 => ?_) (fun c_5 => ?_)
      · refine lv_iconst (v := nI 0) hx hb dX3_sharesDay_36 (by decide) ?_
        exact x_zret hx hb hr hlocks hK hA hX hS dX3_sharesDay_37 rfl (⟨rfl, by split <;> first | rfl | (rename_i q; exfalso; first | omega | exact q (by and_intros <;> first | assumption | omega) | exact absurd q.1 (by assumption) | exact absurd q.2 (by assumption) | exact absurd q.2.1 (by assumption) | exact absurd q.2.2 (by assumption) | exact absurd (by assumption) q.1 | exact absurd (by assumption) q.2 | exact absurd (by assumption) q.2.1 | exact absurd (by assumption) q.2.2 | exact absurd q.1.1 (by assumption) | exact absurd q.1.2 (by assumption))⟩)
      · refine lv_iconst (v := nI 1) hx hb dX3_sharesDay_32 (by decide) ?_
        refine lv_goto (tgt := 37) hx hb dX3_sharesDay_33 (by decide) ?_
        exact x_zret hx hb hr hlocks hK hA hX hS dX3_sharesDay_37 rfl (⟨rfl, by split <;> first | rfl | (rename_i q; exfalso; first | omega | exact q (by and_intros <;> first | assumption | omega) | exact absurd q.1 (by assumption) | exact absurd q.2 (by assumption) | exact absurd q.2.1 (by assumption) | exact absurd q.2.2 (by assumption) | exact absurd (by assumption) q.1 | exact absurd (by assumption) q.2 | exact absurd (by assumption) q.2.1 | exact absurd (by assumption) q.2.2 | exact absurd q.1.1 (by assumption) | exact absurd q.1.2 (by assumption))⟩)

abbrev rmX3_setDates : Room := { frames := 0, cells := 0, slots := 0, locals := 0 }
set_option maxHeartbeats 4000000 in
set_option maxRecDepth 100000 in
/-- Name.setDates -/
theorem ctX3_setDates (l : Launch) (G : xG) (A : Nat → Prop) (M : xM) {t a a1 a2 tc : Nat} {sd jn dt : Int32} {fd ld : Int64} {tk kd : Nat → Int32} (hcN : M t = some (a, .inr (5, [.int sd, .int jn, .ref a1, .ref a2, .int (nI tc), .int dt, .long fd, .long ld]))) (hcT : M (t + 1) = some (a1, .inl (G.2 0, 8, .inl tk))) (hcK : M (t + 2) = some (a2, .inl (G.2 0, 8, .inl kd))) (htc : tc ≤ 8) (p0 p1 : Int64) : Met l yX3_setDates wsX3_setDates rmX3_setDates (va_Pc ([.ref a, .long p0, .long p1] : List Value) (xPc G A M)) (va_Qv (fun M1 => M1 = xu M t (a, .inr (5, [.int sd, .int jn, .ref a1, .ref a2, .int (nI tc), .int (nI 1), .long p0, .long p1]))) (xPc G A) A) 0 0 A := by
  refine x_met (cc := cX3_setDates) (maxL := 5) (ret := none) RX3 (by decide) rfl (Nat.le_of_ble_eq_true rfl) rfl ?_
  intro p e s m below meth c hx hb hr hts hown hlocks hml hin hK hA hX ls hl
  have inX3 : ∀ w ∈ wsX30, w ∈ wsX3_setDates := by decide +kernel
  have lk_fieldLink_26 := hts (.fieldLink RX3 26 "Reconcile$Name" "dated" "Z") (by decide +kernel)
  have lk_fieldLink_29 := hts (.fieldLink RX3 29 "Reconcile$Name" "firstDay" "J") (by decide +kernel)
  have lk_fieldLink_33 := hts (.fieldLink RX3 33 "Reconcile$Name" "lastDay" "J") (by decide +kernel)
  have hS : va_S A s.heap s.heap [] := va_S.rf
  have hl : lv_has ls 5 [(0, .ref a), (1, .long p0), (3, .long p1)] := hl
  refine lv_aload_n hx hb dX3_setDates_0 rfl (lv_at hl 0 rfl) ?_
  refine lv_iconst (v := nI 1) hx hb dX3_setDates_1 (by decide) ?_
  refine x_put (ci := 5) (v := .int (nI 1)) (C := RX3) (T := TX3) (N := 8) hx hb hts inX3 tyX3 tyX3_ok nmX3 hown hK hX hS hcN rfl 5 (by decide) lk_fieldLink_26 (fun _ h9 => h9) rfl (tyX3_ok 5 (by decide)) rfl rfl (Nat.le_of_ble_eq_true rfl) dX3_setDates_2 (fun H locs hX hS => ?_)
  obtain ⟨M_1, hM_1⟩ : ∃ zM : xM, zM = xu M t (a, .inr (5, [.int sd, .int jn, .ref a1, .ref a2, .int (nI tc), .int (nI 1), .long fd, .long ld])) := ⟨_, rfl⟩
  have hX : xw G.1 vwCl A M_1 H := by rw [hM_1]; exact hX
  have hcT : M_1 (t + 1) = some (a1, .inl (G.2 0, 8, .inl tk)) := by rw [hM_1, xu_n (by omega)]; exact hcT
  have hcK : M_1 (t + 2) = some (a2, .inl (G.2 0, 8, .inl kd)) := by rw [hM_1, xu_n (by omega)]; exact hcK
  have hcN : M_1 t = some (a, .inr (5, [.int sd, .int jn, .ref a1, .ref a2, .int (nI tc), .int (nI 1), .long fd, .long ld])) := by rw [hM_1]; exact xu_s
  refine lv_aload_n hx hb dX3_setDates_5 rfl (lv_at hl 0 rfl) ?_
  refine lv_lload_n hx hb dX3_setDates_6 rfl (lv_at hl 1 rfl) ?_
  refine x_put (ci := 5) (v := .long p0) (C := RX3) (T := TX3) (N := 8) hx hb hts inX3 tyX3 tyX3_ok nmX3 hown hK hX hS hcN rfl 6 (by decide) lk_fieldLink_29 (fun _ h9 => h9) rfl (tyX3_ok 6 (by decide)) rfl rfl (Nat.le_of_ble_eq_true rfl) dX3_setDates_7 (fun H locs hX hS => ?_)
  obtain ⟨M_2, hM_2⟩ : ∃ zM : xM, zM = xu M_1 t (a, .inr (5, [.int sd, .int jn, .ref a1, .ref a2, .int (nI tc), .int (nI 1), .long p0, .long ld])) := ⟨_, rfl⟩
  have hX : xw G.1 vwCl A M_2 H := by rw [hM_2]; exact hX
  have hcT : M_2 (t + 1) = some (a1, .inl (G.2 0, 8, .inl tk)) := by rw [hM_2, xu_n (by omega)]; exact hcT
  have hcK : M_2 (t + 2) = some (a2, .inl (G.2 0, 8, .inl kd)) := by rw [hM_2, xu_n (by omega)]; exact hcK
  have hcN : M_2 t = some (a, .inr (5, [.int sd, .int jn, .ref a1, .ref a2, .int (nI tc), .int (nI 1), .long p0, .long ld])) := by rw [hM_2]; exact xu_s
  refine lv_aload_n hx hb dX3_setDates_10 rfl (lv_at hl 0 rfl) ?_
  refine lv_lload_n hx hb dX3_setDates_11 rfl (lv_at hl 2 rfl) ?_
  refine x_put (ci := 5) (v := .long p1) (C := RX3) (T := TX3) (N := 8) hx hb hts inX3 tyX3 tyX3_ok nmX3 hown hK hX hS hcN rfl 7 (by decide) lk_fieldLink_33 (fun _ h9 => h9) rfl (tyX3_ok 7 (by decide)) rfl rfl (Nat.le_of_ble_eq_true rfl) dX3_setDates_12 (fun H locs hX hS => ?_)
  obtain ⟨M_3, hM_3⟩ : ∃ zM : xM, zM = xu M_2 t (a, .inr (5, [.int sd, .int jn, .ref a1, .ref a2, .int (nI tc), .int (nI 1), .long p0, .long p1])) := ⟨_, rfl⟩
  have hX : xw G.1 vwCl A M_3 H := by rw [hM_3]; exact hX
  have hcT : M_3 (t + 1) = some (a1, .inl (G.2 0, 8, .inl tk)) := by rw [hM_3, xu_n (by omega)]; exact hcT
  have hcK : M_3 (t + 2) = some (a2, .inl (G.2 0, 8, .inl kd)) := by rw [hM_3, xu_n (by omega)]; exact hcK
  have hcN : M_3 t = some (a, .inr (5, [.int sd, .int jn, .ref a1, .ref a2, .int (nI tc), .int (nI 1), .long p0, .long p1])) := by rw [hM_3]; exact xu_s
  exact x_vret hx hb hr hlocks hK hA hX hS dX3_setDates_15 (by rw [hM_3, hM_2, hM_1, x_uu, x_uu])

abbrev rmX3_addToken : Room := { frames := 1, cells := 0, slots := 0, locals := 23 }
set_option maxHeartbeats 4000000 in
set_option maxRecDepth 100000 in
/-- Name.addToken -/
theorem ctX3_addToken (l : Launch) (G : xG) (A : Nat → Prop) (M : xM) {t a a1 a2 tc : Nat} {sd jn dt : Int32} {fd ld : Int64} {tk kd : Nat → Int32} (hcN : M t = some (a, .inr (5, [.int sd, .int jn, .ref a1, .ref a2, .int (nI tc), .int dt, .long fd, .long ld]))) (hcT : M (t + 1) = some (a1, .inl (G.2 0, 8, .inl tk))) (hcK : M (t + 2) = some (a2, .inl (G.2 0, 8, .inl kd))) (htc : tc ≤ 8) (p0 p1 : Int32) : Met l yX3_addToken wsX3_addToken rmX3_addToken (va_Pc ([.ref a, .int p0, .int p1] : List Value) (xPc G A M)) (va_Qv (fun M1 => M1 = if tc < 8 ∧ xHas tk kd p0 p1 tc = false then xu (xu (xu M (t + 1) (a1, .inl (G.2 0, 8, .inl (upd tk tc p0)))) (t + 2) (a2, .inl (G.2 0, 8, .inl (upd kd tc p1)))) t (a, .inr (5, [.int sd, .int jn, .ref a1, .ref a2, .int (nI (tc + 1)), .int dt, .long fd, .long ld])) else M) (xPc G A) A) 0 0 A := by
  refine x_met (cc := cX3_addToken) (maxL := 3) (ret := none) RX3 (by decide) rfl (Nat.le_of_ble_eq_true rfl) rfl ?_
  intro p e s m below meth c hx hb hr hts hown hlocks hml hin hK hA hX ls hl
  have inX3 : ∀ w ∈ wsX30, w ∈ wsX3_addToken := by decide +kernel
  have lk_fieldLink_22 := hts (.fieldLink RX3 22 "Reconcile$Name" "tokenCount" "I") (by decide +kernel)
  have lk_fieldLink_15 := hts (.fieldLink RX3 15 "Reconcile$Name" "tokens" "[I") (by decide +kernel)
  have lk_fieldLink_19 := hts (.fieldLink RX3 19 "Reconcile$Name" "kinds" "[I") (by decide +kernel)
  have hS : va_S A s.heap s.heap [] := va_S.rf
  have hl : lv_has ls 3 [(0, .ref a), (1, .int p0), (2, .int p1)] := hl
  refine lv_aload_n hx hb dX3_addToken_0 rfl (lv_at hl 0 rfl) ?_
  refine x_get (ci := 5) (v := .int (nI tc)) (C := RX3) (T := TX3) (N := 8) hx hb hts inX3 hown hK hX hcN rfl 4 (by decide) lk_fieldLink_22 (fun _ h9 => h9) rfl dX3_addToken_1 ?_
  refine lv_bipush (v := nI 8) hx hb dX3_addToken_4 (by decide) ?_
  refine lv_icmp_ge (tgt := 18) hx hb dX3_addToken_6 (by decide) (fun c_1 => ?_) (fun c_1 => ?_)
  · have c_1 : 8 ≤ tc := (nI_leI (by omega) (by omega)).mp c_1
    exact x_vret hx hb hr hlocks hK hA hX hS dX3_addToken_18 (by rw [if_neg (fun q => by first | omega | (rw [q.2] at *; contradiction) | (simp_all; done))])
  · have c_1 : ¬ (8 ≤ tc) := fun q => c_1 ((nI_leI (by omega) (by omega)).mpr q)
    refine lv_aload_n hx hb dX3_addToken_9 rfl (lv_at hl 0 rfl) ?_
    refine lv_iload_n hx hb dX3_addToken_10 rfl (lv_at hl 1 rfl) ?_
    refine lv_iload_n hx hb dX3_addToken_11 rfl (lv_at hl 2 rfl) ?_
    refine x_calli (x_runV (q := (RX3, TX3, 8)) (As := [.int p0, .int p1]) (rest := []) ⟨hx, hb, hml, hown, hts⟩ (ctX3_hasToken l G A M hcN hcT hcK htc p0 p1) (cwV 2 hts gX3_addToken_X3_hasToken rfl rfl rfl (by decide +kernel) ⟨Nat.le_of_ble_eq_true rfl, Nat.le_of_ble_eq_true rfl⟩) hK hA hX hS hcN rfl rfl hl.1 rfl (lv_room (Nat.le_of_ble_eq_true rfl)) dX3_addToken_12 ⟨by decide, by decide⟩) hS (fun r_2 M_3 H locs hp hX hS => ?_)
    obtain ⟨hM_, er_2⟩ := hp
    rw [hM_] at hX
    refine lv_if_eq (tgt := 19) hx hb dX3_addToken_15 (by decide) (fun c_4 => ?_) (fun c_4 => ?_)
    · have c_4 := x_ib0 er_2 c_4
      refine lv_aload_n hx hb dX3_addToken_19 rfl (lv_at hl 0 rfl) ?_
      refine x_get (ci := 5) (v := .ref a1) (C := RX3) (T := TX3) (N := 8) hx hb hts inX3 hown hK hX hcN rfl 2 (by decide) lk_fieldLink_15 (fun _ h9 => h9) rfl dX3_addToken_20 ?_
      refine lv_aload_n hx hb dX3_addToken_23 rfl (lv_at hl 0 rfl) ?_
      refine x_get (ci := 5) (v := .int (nI tc)) (C := RX3) (T := TX3) (N := 8) hx hb hts inX3 hown hK hX hcN rfl 4 (by decide) lk_fieldLink_22 (fun _ h9 => h9) rfl dX3_addToken_24 ?_
      refine lv_iload_n hx hb dX3_addToken_27 rfl (lv_at hl 1 rfl) ?_
      refine x_isN hx hb hK hX hS hcT (by omega) (by decide) dX3_addToken_28 (fun H locs hX hS => ?_)
      obtain ⟨M_5, hM_5⟩ : ∃ zM : xM, zM = xu M (t + 1) (a1, .inl (G.2 0, 8, .inl (upd tk tc p0))) := ⟨_, rfl⟩
      have hX : xw G.1 vwCl A M_5 H := by rw [hM_5]; exact hX
      have hcN : M_5 t = some (a, .inr (5, [.int sd, .int jn, .ref a1, .ref a2, .int (nI tc), .int dt, .long fd, .long ld])) := by rw [hM_5, xu_n (by omega)]; exact hcN
      have hcK : M_5 (t + 2) = some (a2, .inl (G.2 0, 8, .inl kd)) := by rw [hM_5, xu_n (by omega)]; exact hcK
      have hcT : M_5 (t + 1) = some (a1, .inl (G.2 0, 8, .inl (upd tk tc p0))) := by rw [hM_5]; exact xu_s
      refine lv_aload_n hx hb dX3_addToken_29 rfl (lv_at hl 0 rfl) ?_
      refine x_get (ci := 5) (v := .ref a2) (C := RX3) (T := TX3) (N := 8) hx hb hts inX3 hown hK hX hcN rfl 3 (by decide) lk_fieldLink_19 (fun _ h9 => h9) rfl dX3_addToken_30 ?_
      refine lv_aload_n hx hb dX3_addToken_33 rfl (lv_at hl 0 rfl) ?_
      refine x_get (ci := 5) (v := .int (nI tc)) (C := RX3) (T := TX3) (N := 8) hx hb hts inX3 hown hK hX hcN rfl 4 (by decide) lk_fieldLink_22 (fun _ h9 => h9) rfl dX3_addToken_34 ?_
      refine lv_iload_n hx hb dX3_addToken_37 rfl (lv_at hl 2 rfl) ?_
      refine x_isN hx hb hK hX hS hcK (by omega) (by decide) dX3_addToken_38 (fun H locs hX hS => ?_)
      obtain ⟨M_6, hM_6⟩ : ∃ zM : xM, zM = xu M_5 (t + 2) (a2, .inl (G.2 0, 8, .inl (upd kd tc p1))) := ⟨_, rfl⟩
      have hX : xw G.1 vwCl A M_6 H := by rw [hM_6]; exact hX
      have hcN : M_6 t = some (a, .inr (5, [.int sd, .int jn, .ref a1, .ref a2, .int (nI tc), .int dt, .long fd, .long ld])) := by rw [hM_6, xu_n (by omega)]; exact hcN
      have hcT : M_6 (t + 1) = some (a1, .inl (G.2 0, 8, .inl (upd tk tc p0))) := by rw [hM_6, xu_n (by omega)]; exact hcT
      have hcK : M_6 (t + 2) = some (a2, .inl (G.2 0, 8, .inl (upd kd tc p1))) := by rw [hM_6]; exact xu_s
      refine lv_aload_n hx hb dX3_addToken_39 rfl (lv_at hl 0 rfl) ?_
      refine lv_dup hx hb dX3_addToken_40 rfl ?_
      refine x_get (ci := 5) (v := .int (nI tc)) (C := RX3) (T := TX3) (N := 8) hx hb hts inX3 hown hK hX hcN rfl 4 (by decide) lk_fieldLink_22 (fun _ h9 => h9) rfl dX3_addToken_41 ?_
      refine lv_iconst (v := nI 1) hx hb dX3_addToken_44 (by decide) ?_
      refine lv_iadd hx hb dX3_addToken_45 ?_
      refine x_ri (nI_add _ _) ?_
      refine x_put (ci := 5) (v := .int (nI (tc + 1))) (C := RX3) (T := TX3) (N := 8) hx hb hts inX3 tyX3 tyX3_ok nmX3 hown hK hX hS hcN rfl 4 (by decide) lk_fieldLink_22 (fun _ h9 => h9) rfl (tyX3_ok 4 (by decide)) rfl rfl (Nat.le_of_ble_eq_true rfl) dX3_addToken_46 (fun H locs hX hS => ?_)
      obtain ⟨M_7, hM_7⟩ : ∃ zM : xM, zM = xu M_6 t (a, .inr (5, [.int sd, .int jn, .ref a1, .ref a2, .int (nI (tc + 1)), .int dt, .long fd, .long ld])) := ⟨_, rfl⟩
      have hX : xw G.1 vwCl A M_7 H := by rw [hM_7]; exact hX
      have hcT : M_7 (t + 1) = some (a1, .inl (G.2 0, 8, .inl (upd tk tc p0))) := by rw [hM_7, xu_n (by omega)]; exact hcT
      have hcK : M_7 (t + 2) = some (a2, .inl (G.2 0, 8, .inl (upd kd tc p1))) := by rw [hM_7, xu_n (by omega)]; exact hcK
      have hcN : M_7 t = some (a, .inr (5, [.int sd, .int jn, .ref a1, .ref a2, .int (nI (tc + 1)), .int dt, .long fd, .long ld])) := by rw [hM_7]; exact xu_s
      exact x_vret hx hb hr hlocks hK hA hX hS dX3_addToken_49 (by rw [if_pos ⟨by omega, by assumption⟩, hM_7, hM_6, hM_5])
    · have c_4 := x_ib1 er_2 c_4
      exact x_vret hx hb hr hlocks hK hA hX hS dX3_addToken_18 (by rw [if_neg (fun q => by first | omega | (rw [q.2] at *; contradiction) | (simp_all; done))])

abbrev rmX3_weightOfAll : Room := { frames := 0, cells := 0, slots := 0, locals := 0 }
set_option maxHeartbeats 4000000 in
set_option maxRecDepth 100000 in
/-- Name.weightOfAll -/
theorem ctX3_weightOfAll (l : Launch) (G : xG) (A : Nat → Prop) (M : xM) {t a a1 a2 tc : Nat} {sd jn dt : Int32} {fd ld : Int64} {tk kd : Nat → Int32} (hcN : M t = some (a, .inr (5, [.int sd, .int jn, .ref a1, .ref a2, .int (nI tc), .int dt, .long fd, .long ld]))) (hcT : M (t + 1) = some (a1, .inl (G.2 0, 8, .inl tk))) (hcK : M (t + 2) = some (a2, .inl (G.2 0, 8, .inl kd))) (htc : tc ≤ 8) (hkd : ∀ j, j < tc → vp_in (kd j) 4) {tw aw : Nat} {wn : Nat → Nat} (hcW : M tw = some (aw, .inl (G.2 1, 4, .inr (.inl (fun k => lN (wn k)))))) : Met l yX3_weightOfAll wsX3_weightOfAll rmX3_weightOfAll (va_Pc ([.ref a, .ref aw] : List Value) (xPc G A M)) (va_Ql (fun r M1 => M1 = M ∧ r = lN (xAll kd wn tc)) (xPc G A) A) 0 0 A := by
  refine x_met (cc := cX3_weightOfAll) (maxL := 5) (ret := (some .long)) RX3 (by decide) rfl (Nat.le_of_ble_eq_true rfl) rfl ?_
  intro p e s m below meth c hx hb hr hts hown hlocks hml hin hK hA hX ls hl
  have inX3 : ∀ w ∈ wsX30, w ∈ wsX3_weightOfAll := by decide +kernel
  have lk_fieldLink_22 := hts (.fieldLink RX3 22 "Reconcile$Name" "tokenCount" "I") (by decide +kernel)
  have lk_fieldLink_19 := hts (.fieldLink RX3 19 "Reconcile$Name" "kinds" "[I") (by decide +kernel)
  have hS : va_S A s.heap s.heap [] := va_S.rf
  have hl : lv_has ls 5 [(0, .ref a), (1, .ref aw)] := hl
  refine lv_lconst (v := lN 0) hx hb dX3_weightOfAll_0 rfl ?_
  refine lv_lstore_n (lv' := [(2, .long (lN 0)), (0, .ref a), (1, .ref aw)]) hx hb dX3_weightOfAll_1 rfl hl (by decide) rfl (fun ls hl => ?_)
  refine lv_iconst (v := nI 0) hx hb dX3_weightOfAll_2 (by decide) ?_
  refine lv_istore (lv' := [(4, .int (nI 0)), (2, .long (lN 0)), (0, .ref a), (1, .ref aw)]) hx hb dX3_weightOfAll_3 hl (by decide) rfl (fun ls hl => ?_)
  have loop : ∀ (n : Nat) (i : Nat) (ls : Array Slot), tc < i + n → (i ≤ tc) → lv_has ls 5 [(4, .int (nI i)), (2, .long (lN (xAll kd wn i))), (0, .ref a), (1, .ref aw)] → W p l e rmX3_weightOfAll s m ([.ref a, .ref aw] : List Value).toArray below meth c s.heap [] 0 0 (MQ below (va_Ql (fun r M1 => M1 = M ∧ r = lN (xAll kd wn tc)) (xPc G A) A) ([.ref a, .ref aw] : List Value).toArray s 0 0 A) (F0 m 5 ls []) := by
    intro n
    induction n with
    | zero => intro i ls hn0 hi; exact absurd hn0 (by omega)
    | succ n ih =>
      intro i ls hn0 hi hl
      refine lv_iload hx hb dX3_weightOfAll_5 (lv_at hl 0 rfl) ?_
      refine lv_aload_n hx hb dX3_weightOfAll_7 rfl (lv_at hl 2 rfl) ?_
      refine x_get (ci := 5) (v := .int (nI tc)) (C := RX3) (T := TX3) (N := 8) hx hb hts inX3 hown hK hX hcN rfl 4 (by decide) lk_fieldLink_22 (fun _ h9 => h9) rfl dX3_weightOfAll_8 ?_
      refine lv_icmp_ge (tgt := 32) hx hb dX3_weightOfAll_11 (by decide) (fun c_1 => ?_) (fun c_1 => ?_)
      · have c_1 : tc ≤ i := (nI_leI (by omega) (by omega)).mp c_1
        refine lv_lload_n hx hb dX3_weightOfAll_32 rfl (lv_at hl 1 rfl) ?_
        exact x_lret hx hb hr hlocks hK hA hX hS dX3_weightOfAll_33 (⟨rfl, by rw [show i = tc by omega]⟩)
      · have c_1 : ¬ (tc ≤ i) := fun q => c_1 ((nI_leI (by omega) (by omega)).mpr q)
        refine lv_lload_n hx hb dX3_weightOfAll_14 rfl (lv_at hl 1 rfl) ?_
        refine lv_aload_n hx hb dX3_weightOfAll_15 rfl (lv_at hl 3 rfl) ?_
        refine lv_aload_n hx hb dX3_weightOfAll_16 rfl (lv_at hl 2 rfl) ?_
        refine x_get (ci := 5) (v := .ref a2) (C := RX3) (T := TX3) (N := 8) hx hb hts inX3 hown hK hX hcN rfl 3 (by decide) lk_fieldLink_19 (fun _ h9 => h9) rfl dX3_weightOfAll_17 ?_
        refine lv_iload hx hb dX3_weightOfAll_20 (lv_at hl 0 rfl) ?_
        refine x_iN hx hb hK hX hcK (by omega) (by decide) dX3_weightOfAll_22 ?_
        obtain ⟨ek, hk4⟩ := x_ki (hkd i (by omega)) (by decide)
        refine x_ri (ek) ?_
        refine x_lN hx hb hK hX hcW hk4 (by decide) dX3_weightOfAll_23 ?_
        refine lv_ladd hx hb dX3_weightOfAll_24 ?_
        refine x_rl (lN_add _ _) ?_
        refine lv_lstore_n (lv' := [(2, .long (lN (xAll kd wn (i + 1)))), (4, .int (nI i)), (0, .ref a), (1, .ref aw)]) hx hb dX3_weightOfAll_25 rfl hl (by decide) rfl (fun ls hl => ?_)
        refine lv_iinc (v := nI (i + 1)) (lv' := [(4, .int (nI (i + 1))), (2, .long (lN (xAll kd wn (i + 1)))), (0, .ref a), (1, .ref aw)]) hx hb dX3_weightOfAll_26 hl (k := 1) rfl (show nI i + Int32.ofInt 1 = _ from nI_add _ 1) (by decide) rfl (fun ls hl => ?_)
        refine lv_goto (tgt := 5) hx hb dX3_weightOfAll_29 (by decide) ?_
        exact ih (i + 1) ls (by omega) (by omega) (lv_sub hl [0, 1, 2, 3] rfl)
  exact loop (tc + 1) 0 ls (by omega) (by omega) (lv_sub hl [0, 1, 2, 3] rfl)

abbrev rmX3_weightOfShared : Room := { frames := 1, cells := 0, slots := 0, locals := 23 }
set_option maxHeartbeats 4000000 in
set_option maxRecDepth 100000 in
/-- Name.weightOfShared -/
theorem ctX3_weightOfShared (l : Launch) (G : xG) (A : Nat → Prop) (M : xM) {t a a1 a2 tc : Nat} {sd jn dt : Int32} {fd ld : Int64} {tk kd : Nat → Int32} (hcN : M t = some (a, .inr (5, [.int sd, .int jn, .ref a1, .ref a2, .int (nI tc), .int dt, .long fd, .long ld]))) (hcT : M (t + 1) = some (a1, .inl (G.2 0, 8, .inl tk))) (hcK : M (t + 2) = some (a2, .inl (G.2 0, 8, .inl kd))) (htc : tc ≤ 8) {u a_ a1_ a2_ tc_ : Nat} {sd_ jn_ dt_ : Int32} {fd_ ld_ : Int64} {tk_ kd_ : Nat → Int32} (hcN_ : M u = some (a_, .inr (5, [.int sd_, .int jn_, .ref a1_, .ref a2_, .int (nI tc_), .int dt_, .long fd_, .long ld_]))) (hcT_ : M (u + 1) = some (a1_, .inl (G.2 0, 8, .inl tk_))) (hcK_ : M (u + 2) = some (a2_, .inl (G.2 0, 8, .inl kd_))) (htc_ : tc_ ≤ 8) (hkd : ∀ j, j < tc → vp_in (kd j) 4) {tw aw : Nat} {wn : Nat → Nat} (hcW : M tw = some (aw, .inl (G.2 1, 4, .inr (.inl (fun k => lN (wn k)))))) : Met l yX3_weightOfShared wsX3_weightOfShared rmX3_weightOfShared (va_Pc ([.ref a, .ref a_, .ref aw] : List Value) (xPc G A M)) (va_Ql (fun r M1 => M1 = M ∧ r = lN (xSh tk kd tk_ kd_ tc_ wn tc)) (xPc G A) A) 0 0 A := by
  refine x_met (cc := cX3_weightOfShared) (maxL := 6) (ret := (some .long)) RX3 (by decide) rfl (Nat.le_of_ble_eq_true rfl) rfl ?_
  intro p e s m below meth c hx hb hr hts hown hlocks hml hin hK hA hX ls hl
  have inX3 : ∀ w ∈ wsX30, w ∈ wsX3_weightOfShared := by decide +kernel
  have lk_fieldLink_22 := hts (.fieldLink RX3 22 "Reconcile$Name" "tokenCount" "I") (by decide +kernel)
  have lk_fieldLink_15 := hts (.fieldLink RX3 15 "Reconcile$Name" "tokens" "[I") (by decide +kernel)
  have lk_fieldLink_19 := hts (.fieldLink RX3 19 "Reconcile$Name" "kinds" "[I") (by decide +kernel)
  have hS : va_S A s.heap s.heap [] := va_S.rf
  have hl : lv_has ls 6 [(0, .ref a), (1, .ref a_), (2, .ref aw)] := hl
  refine lv_lconst (v := lN 0) hx hb dX3_weightOfShared_0 rfl ?_
  refine lv_lstore_n (lv' := [(3, .long (lN 0)), (0, .ref a), (1, .ref a_), (2, .ref aw)]) hx hb dX3_weightOfShared_1 rfl hl (by decide) rfl (fun ls hl => ?_)
  refine lv_iconst (v := nI 0) hx hb dX3_weightOfShared_2 (by decide) ?_
  refine lv_istore (lv' := [(5, .int (nI 0)), (3, .long (lN 0)), (0, .ref a), (1, .ref a_), (2, .ref aw)]) hx hb dX3_weightOfShared_3 hl (by decide) rfl (fun ls hl => ?_)
  have loop : ∀ (n : Nat) (i : Nat) (H : Heap) (locs : List Loc) (ls : Array Slot), tc < i + n → (i ≤ tc) → xw G.1 vwCl A M H → va_S A s.heap H locs → lv_has ls 6 [(5, .int (nI i)), (3, .long (lN (xSh tk kd tk_ kd_ tc_ wn i))), (0, .ref a), (1, .ref a_), (2, .ref aw)] → W p l e rmX3_weightOfShared s m ([.ref a, .ref a_, .ref aw] : List Value).toArray below meth c H locs 0 0 (MQ below (va_Ql (fun r M1 => M1 = M ∧ r = lN (xSh tk kd tk_ kd_ tc_ wn tc)) (xPc G A) A) ([.ref a, .ref a_, .ref aw] : List Value).toArray s 0 0 A) (F0 m 5 ls []) := by
    intro n
    induction n with
    | zero => intro i H locs ls hn0 hi; exact absurd hn0 (by omega)
    | succ n ih =>
      intro i H locs ls hn0 hi hX hS hl
      refine lv_iload hx hb dX3_weightOfShared_5 (lv_at hl 0 rfl) ?_
      refine lv_aload_n hx hb dX3_weightOfShared_7 rfl (lv_at hl 2 rfl) ?_
      refine x_get (ci := 5) (v := .int (nI tc)) (C := RX3) (T := TX3) (N := 8) hx hb hts inX3 hown hK hX hcN rfl 4 (by decide) lk_fieldLink_22 (fun _ h9 => h9) rfl dX3_weightOfShared_8 ?_
      refine lv_icmp_ge (tgt := 53) hx hb dX3_weightOfShared_11 (by decide) (fun c_1 => ?_) (fun c_1 => ?_)
      · have c_1 : tc ≤ i := (nI_leI (by omega) (by omega)).mp c_1
        refine lv_lload_n hx hb dX3_weightOfShared_53 rfl (lv_at hl 1 rfl) ?_
        exact x_lret hx hb hr hlocks hK hA hX hS dX3_weightOfShared_54 (⟨rfl, by rw [show i = tc by omega]⟩)
      · have c_1 : ¬ (tc ≤ i) := fun q => c_1 ((nI_leI (by omega) (by omega)).mpr q)
        refine lv_aload_n hx hb dX3_weightOfShared_14 rfl (lv_at hl 3 rfl) ?_
        refine lv_aload_n hx hb dX3_weightOfShared_15 rfl (lv_at hl 2 rfl) ?_
        refine x_get (ci := 5) (v := .ref a1) (C := RX3) (T := TX3) (N := 8) hx hb hts inX3 hown hK hX hcN rfl 2 (by decide) lk_fieldLink_15 (fun _ h9 => h9) rfl dX3_weightOfShared_16 ?_
        refine lv_iload hx hb dX3_weightOfShared_19 (lv_at hl 0 rfl) ?_
        refine x_iN hx hb hK hX hcT (by omega) (by decide) dX3_weightOfShared_21 ?_
        refine lv_aload_n hx hb dX3_weightOfShared_22 rfl (lv_at hl 2 rfl) ?_
        refine x_get (ci := 5) (v := .ref a2) (C := RX3) (T := TX3) (N := 8) hx hb hts inX3 hown hK hX hcN rfl 3 (by decide) lk_fieldLink_19 (fun _ h9 => h9) rfl dX3_weightOfShared_23 ?_
        refine lv_iload hx hb dX3_weightOfShared_26 (lv_at hl 0 rfl) ?_
        refine x_iN hx hb hK hX hcK (by omega) (by decide) dX3_weightOfShared_28 ?_
        refine x_calli (x_runV (q := (RX3, TX3, 8)) (As := [.int (tk i), .int (kd i)]) (rest := []) ⟨hx, hb, hml, hown, hts⟩ (ctX3_hasToken l G A M hcN_ hcT_ hcK_ htc_ (tk i) (kd i)) (cwV 2 hts gX3_weightOfShared_X3_hasToken rfl rfl rfl (by decide +kernel) ⟨Nat.le_of_ble_eq_true rfl, Nat.le_of_ble_eq_true rfl⟩) hK hA hX hS hcN_ rfl rfl hl.1 rfl (lv_room (Nat.le_of_ble_eq_true rfl)) dX3_weightOfShared_29 ⟨by decide, by decide⟩) hS (fun r_2 M_3 H locs hp hX hS => ?_)
        obtain ⟨hM_, er_2⟩ := hp
        rw [hM_] at hX
        refine lv_if_eq (tgt := 47) hx hb dX3_weightOfShared_32 (by decide) (fun c_4 => ?_) (fun c_4 => ?_)
        · have c_4 := x_ib0 er_2 c_4
          have esh : xSh tk kd tk_ kd_ tc_ wn (i + 1) = xSh tk kd tk_ kd_ tc_ wn i := by simp only [xSh, c_4, Bool.false_eq_true, if_false, if_true]
          rw [← esh] at hl
          refine lv_iinc (v := nI (i + 1)) (lv' := [(5, .int (nI (i + 1))), (3, .long (lN (xSh tk kd tk_ kd_ tc_ wn (i + 1)))), (0, .ref a), (1, .ref a_), (2, .ref aw)]) hx hb dX3_weightOfShared_47 hl (k := 0) rfl (show nI i + Int32.ofInt 1 = _ from nI_add _ 1) (by decide) rfl (fun ls hl => ?_)
          refine lv_goto (tgt := 5) hx hb dX3_weightOfShared_50 (by decide) ?_
          exact ih (i + 1) _ _ ls (by omega) (by omega) hX hS (lv_sub hl [0, 1, 2, 3, 4] rfl)
        · have c_4 := x_ib1 er_2 c_4
          have esh : xSh tk kd tk_ kd_ tc_ wn (i + 1) = xSh tk kd tk_ kd_ tc_ wn i + wn (kd i).toNatClampNeg := by simp only [xSh, c_4, Bool.false_eq_true, if_false, if_true]
          refine lv_lload_n hx hb dX3_weightOfShared_35 rfl (lv_at hl 1 rfl) ?_
          refine lv_aload_n hx hb dX3_weightOfShared_36 rfl (lv_at hl 4 rfl) ?_
          refine lv_aload_n hx hb dX3_weightOfShared_37 rfl (lv_at hl 2 rfl) ?_
          refine x_get (ci := 5) (v := .ref a2) (C := RX3) (T := TX3) (N := 8) hx hb hts inX3 hown hK hX hcN rfl 3 (by decide) lk_fieldLink_19 (fun _ h9 => h9) rfl dX3_weightOfShared_38 ?_
          refine lv_iload hx hb dX3_weightOfShared_41 (lv_at hl 0 rfl) ?_
          refine x_iN hx hb hK hX hcK (by omega) (by decide) dX3_weightOfShared_43 ?_
          obtain ⟨ek, hk4⟩ := x_ki (hkd i (by omega)) (by decide)
          refine x_ri (ek) ?_
          refine x_lN hx hb hK hX hcW hk4 (by decide) dX3_weightOfShared_44 ?_
          refine lv_ladd hx hb dX3_weightOfShared_45 ?_
          refine x_rl (lN_add _ _) ?_
          refine x_rl (congrArg lN esh.symm) ?_
          refine lv_lstore_n (lv' := [(3, .long (lN (xSh tk kd tk_ kd_ tc_ wn (i + 1)))), (5, .int (nI i)), (0, .ref a), (1, .ref a_), (2, .ref aw)]) hx hb dX3_weightOfShared_46 rfl hl (by decide) rfl (fun ls hl => ?_)
          refine lv_iinc (v := nI (i + 1)) (lv' := [(5, .int (nI (i + 1))), (3, .long (lN (xSh tk kd tk_ kd_ tc_ wn (i + 1)))), (0, .ref a), (1, .ref a_), (2, .ref aw)]) hx hb dX3_weightOfShared_47 hl (k := 1) rfl (show nI i + Int32.ofInt 1 = _ from nI_add _ 1) (by decide) rfl (fun ls hl => ?_)
          refine lv_goto (tgt := 5) hx hb dX3_weightOfShared_50 (by decide) ?_
          exact ih (i + 1) _ _ ls (by omega) (by omega) hX hS (lv_sub hl [0, 1, 2, 3, 4] rfl)
  exact loop (tc + 1) 0 _ _ ls (by omega) (by omega) hX hS (lv_sub hl [0, 1, 2, 3, 4] rfl)
