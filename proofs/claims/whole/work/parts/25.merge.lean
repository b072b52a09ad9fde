/-! Listing: merge, sort -/
def xLe (ab bl : Nat → Nat) (a b : Nat) : Bool := decide (ab b * bl a ≤ ab a * bl b)
theorem xLe_iff {ab bl : Nat → Nat} : ∀ a b, xLe ab bl a b = true ↔ ¬ xGt ab bl b a := fun a b => by
  unfold xLe xGt
  rw [decide_eq_true_iff]
  omega
theorem seg_up {s : Nat → Nat} {lo to x : Nat} (h : lo ≤ to) : seg (va_up s to x) lo (to + 1 - lo) = seg s lo (to - lo) ++ [x] := by
  rw [show to + 1 - lo = (to - lo) + 1 by omega, seg_snoc, show lo + (to - lo) = to by omega, va_up_self]
  congr 1
  exact seg_congr (fun j h1 h2 => va_up_ne _ _ (by omega))
theorem mgL {ab bl od : Nat → Nat} {i mid j hi : Nat} (h1 : i < mid) (h2 : hi ≤ j ∨ (j < hi ∧ ¬ xGt ab bl (od j) (od i))) : List.merge (seg od i (mid - i)) (seg od j (hi - j)) (xLe ab bl) = od i :: List.merge (seg od (i + 1) (mid - (i + 1))) (seg od j (hi - j)) (xLe ab bl) := by
  rw [seg_cons (f := od) (a := i) (n := mid - i) (by omega), Nat.sub_sub]
  rcases h2 with q | ⟨q, q2⟩
  · rw [show hi - j = 0 by omega]
    show List.merge _ [] _ = _ :: List.merge _ [] _
    rw [List.merge_right, List.merge_right]
  · rw [seg_cons (f := od) (a := j) (n := hi - j) (by omega), List.cons_merge_cons_pos _ _ _ ((xLe_iff _ _).mpr q2)]
theorem mgR {ab bl od : Nat → Nat} {i mid j hi : Nat} (h1 : j < hi) (h2 : mid ≤ i ∨ (i < mid ∧ xGt ab bl (od j) (od i))) : List.merge (seg od i (mid - i)) (seg od j (hi - j)) (xLe ab bl) = od j :: List.merge (seg od i (mid - i)) (seg od (j + 1) (hi - (j + 1))) (xLe ab bl) := by
  rw [seg_cons (f := od) (a := j) (n := hi - j) (by omega), Nat.sub_sub]
  rcases h2 with q | ⟨q, q2⟩
  · rw [show mid - i = 0 by omega]
    show List.merge [] _ _ = _ :: List.merge [] _ _
    rw [List.nil_merge, List.nil_merge]
  · rw [seg_cons (f := od) (a := i) (n := mid - i) (by omega), List.cons_merge_cons_neg _ _ _ (fun z => (xLe_iff _ _).mp z q2)]
theorem mg_put {S T T' R : List Nat} {x : Nat} (h : S ++ T = R) (hT : T = x :: T') : S ++ [x] ++ T' = R := by
  rw [List.append_assoc, ← h, hT]
  rfl
theorem xGood_0 {ab bl od : Nat → Nat} {lo hi : Nat} (h : hi ≤ lo) : xGood ab bl od lo hi := by
  unfold xGood
  rw [show hi - lo = 0 by omega]
  exact ⟨List.Pairwise.nil, List.Perm.refl _⟩
theorem so_in {ab bl o : Nat → Nat} {cn w : Nat} (hw : 1 ≤ w) (h : ∀ k, k * w < cn → xGood ab bl o (k * w) (min (k * w + w) cn)) : ∀ j, j < cn → o j < cn := by
  intro j hj
  have h1 : j / w * w ≤ j := Nat.div_mul_le_self j w
  have h2 : j < j / w * w + w := by
    have := Nat.lt_div_mul_add (a := j) (b := w) (by omega)
    omega
  have h3 := xGood_in (h (j / w) (by omega)) h1 (by omega)
  omega
theorem so_one {ab bl o : Nat → Nat} {cn : Nat} (h : ∀ j, j < cn → o j = j) : ∀ k, k * 1 < cn → xGood ab bl o (k * 1) (min (k * 1 + 1) cn) := by
  intro k hk
  rw [Nat.mul_one] at hk ⊢
  rw [show min (k + 1) cn = k + 1 by omega]
  unfold xGood
  rw [show k + 1 - k = 1 by omega]
  show ([o k] : List Nat).Pairwise _ ∧ List.Perm [o k] [k]
  rw [h k hk]
  exact ⟨List.pairwise_singleton _ _, List.Perm.refl _⟩
theorem so_step {ab bl o s8 s7 : Nat → Nat} {cn w kk lo : Nat} (hlo : lo = kk * (2 * w)) (hlt : lo < cn) (hw : 1 ≤ w) (hbl : ∀ j, j < cn → 0 < bl j) (hSB : ∀ k, k * w < cn → xGood ab bl o (k * w) (min (k * w + w) cn)) (hin : ∀ k, k < kk → k * (2 * w) < cn → xGood ab bl s8 (k * (2 * w)) (min (k * (2 * w) + 2 * w) cn))
    (hf : ∀ k, k < lo ∨ min (lo + 2 * w) cn ≤ k → s7 k = s8 k) (hs : seg s7 lo (min (lo + 2 * w) cn - lo) = List.merge (seg o lo (min (lo + w) cn - lo)) (seg o (min (lo + w) cn) (min (lo + 2 * w) cn - min (lo + w) cn)) (xLe ab bl)) : ∀ k, k < kk + 1 → k * (2 * w) < cn → xGood ab bl s7 (k * (2 * w)) (min (k * (2 * w) + 2 * w) cn) := by
  intro k hk hkc
  rcases Nat.lt_or_ge k kk with q | q
  · refine xGood_congr (fun j h1 h2 => hf j (Or.inl ?_)) (hin k q hkc)
    have h3 : (k + 1) * (2 * w) ≤ kk * (2 * w) := Nat.mul_le_mul_right _ q
    rw [Nat.succ_mul] at h3
    omega
  · rw [show k = kk by omega, ← hlo]
    have e1 : 2 * kk * w = lo := by rw [hlo]; ac_rfl
    have g1 := hSB (2 * kk) (by omega)
    rw [e1] at g1
    refine xGood_merge xLe_iff (by omega) (by omega) (by omega) hbl g1 ?_ hs
    rcases Nat.lt_or_ge (lo + w) cn with r | r
    · have e2 : (2 * kk + 1) * w = lo + w := by rw [Nat.succ_mul, e1]
      have g2 := hSB (2 * kk + 1) (by omega)
      rw [e2] at g2
      rw [show min (lo + w) cn = lo + w by omega, show lo + 2 * w = lo + w + w by omega]
      exact g2
    · exact xGood_0 (by omega)
theorem so_copy {ab bl o s8 : Nat → Nat} {cn w kk lo : Nat} (hlo : lo = kk * (2 * w)) (hge : cn ≤ lo) (hin : ∀ k, k < kk → k * (2 * w) < cn → xGood ab bl s8 (k * (2 * w)) (min (k * (2 * w) + 2 * w) cn)) : ∀ k, k * (w * 2) < cn → xGood ab bl (va_cpy s8 o 0 0 cn) (k * (w * 2)) (min (k * (w * 2) + w * 2) cn) := by
  intro k hk
  rw [Nat.mul_comm w 2] at hk ⊢
  have hkk : k < kk := by
    rcases Nat.lt_or_ge k kk with q | q
    · exact q
    · have := Nat.mul_le_mul_right (2 * w) q
      omega
  refine xGood_congr (fun j h1 h2 => ?_) (hin k hkk hk)
  rw [pk_cpy_in (by omega) (by omega), Nat.zero_add, Nat.sub_zero]
theorem so_end {ab bl o : Nat → Nat} {cn w : Nat} (hge : cn ≤ w) (h : ∀ k, k * w < cn → xGood ab bl o (k * w) (min (k * w + w) cn)) : xGood ab bl o 0 cn := by
  rcases Nat.eq_zero_or_pos cn with q | q
  · exact xGood_0 (by omega)
  · have g := h 0 (by omega)
    rw [Nat.zero_mul, Nat.zero_add, show min w cn = cn by omega] at g
    exact g
theorem cpy_n {f g : Nat → Nat} {n : Nat} : va_cpy (fun k => nI (f k)) (fun k => nI (g k)) 0 0 n = fun k => nI (va_cpy f g 0 0 n k) := by
  funext k
  simp only [va_cpy]
  split <;> rfl
theorem x_min {a b : Nat} (ha : a < 2 ^ 31) (hb : b < 2 ^ 31) : (if nI b < nI a then nI b else nI a) = nI (min a b) := by
  by_cases h : b < a
  · rw [if_pos ((nI_ltI hb ha).mpr h), show min a b = b by omega]
  · rw [if_neg (fun q => h ((nI_ltI hb ha).mp q)), show min a b = a by omega]
section XCP
variable {p : Program} {l : Launch} {e : Env} {R : Room} {s : State} {m : MethodId} {args : Array Value} {below : List Frame} {meth : Method} {c : Code} {H : Heap} {locs : List Loc} {cells slots : Nat} {Q : State → Prop}
variable {cc : ByteArray} {pc : Nat} {ls : Array Slot} {rest : List Value} {A : Nat → Prop} {M : xM} {G : xG} {H0 : Heap}
theorem x_copy (hx : p.tables.exec = Jvm.exec) (hb : c.code = cc) (hml : c.maxLocals = ls.size) {own : String} {index : Nat} (hown : s.vm.findClass own = some m.cls) (hlink : (Cond.methodLink own index arraycopyName).before args s = true) (hnat : (Cond.native arraycopyName).before args s = true) (hstat : (Cond.static arraycopyName).before args s = true) (hini : (Cond.initialized "java/lang/System").before args s = true)
    (hK : va_K G.1 vwCl (xT G) s) (hX : xw G.1 vwCl A M H) (hS : va_S A H0 H locs) {t0 t1 a0 a1 n0 n1 n : Nat} {f g : Nat → Int32} (ha0 : M t0 = some (a0, .inl (G.2 0, n0, .inl f))) (ha1 : M t1 = some (a1, .inl (G.2 0, n1, .inl g))) (h4 : n ≤ n0) (h5 : n ≤ n1) (hn : n < 2 ^ 31)
    (hframes : 1 ≤ R.frames) (hlocals : (rest.map fun v => v.category).sum + (nativeFrameWords "java/lang/System" "arraycopy" 5 + 11) ≤ R.locals) (hdg : decode cc pc = .ok (.invokestatic index, 3))
    (kk : ∀ (H1 : Heap) (locs1 : List Loc), xw G.1 vwCl A (xu M t1 (a1, .inl (G.2 0, n1, .inl (va_cpy f g 0 0 n)))) H1 → va_S A H0 H1 locs1 → W p l e R s m args below meth c H1 locs1 cells slots Q (F0 m (pc + 3) ls rest)) : W p l e R s m args below meth c H locs cells slots Q (F0 m pc ls (.int (nI n) :: .int (nI 0) :: .ref a1 :: .int (nI 0) :: .ref a0 :: rest)) := by
  obtain ⟨ws, hP, hD, h3, h9⟩ := hX
  obtain ⟨q0, hq0⟩ := h3 t0 _ ha0
  obtain ⟨q1, hq1⟩ := h3 t1 _ ha1
  have z0 : (nI 0).toNatClampNeg = 0 := nI_clamp (by omega)
  refine va_copyi hx hb hml hown hlink hnat hstat hini hK hP hD hS q0 q1 0 0 hq0 hq1 rfl rfl rfl (nI_pos (by omega)) (nI_pos (by omega)) (nI_pos hn) (by rw [z0, nI_clamp hn]; omega) (by rw [z0, nI_clamp hn]; omega) (fun _ _ => rfl) hframes hlocals hdg (fun H1 locs1 hP1 hD1 hS1 => ?_)
  rw [z0, nI_clamp hn] at hP1 hD1
  exact kk H1 locs1 (xw_set hP1 hD1 h3 h9 hq1 ha1) hS1
end XCP

abbrev rmX2_merge : Room := { frames := 1, cells := 0, slots := 0, locals := 22 }
set_option maxHeartbeats 4000000 in
set_option maxRecDepth 100000 in
/-- Listing.merge -/
theorem ctX2_merge (l : Launch) (G : xG) (A : Nat → Prop) (M : xM) {bg : Int32} {cn a4 a6 a7 a8 a9 a10 a11 a12 : Nat} {zs os ab bl od sp pr : Nat → Nat} (hcL : M 4 = some (a4, .inr (4, [.int bg, .int (nI cn), .ref a6, .ref a7, .ref a8, .ref a9, .ref a10, .ref a11, .ref a12]))) (hc6 : M 6 = some (a6, .inl (G.2 0, 625, .inl (fun k => nI (zs k))))) (hc7 : M 7 = some (a7, .inl (G.2 0, 625, .inl (fun k => nI (os k))))) (hc8 : M 8 = some (a8, .inl (G.2 1, 625, .inr (.inl (fun k => lN (ab k)))))) (hc9 : M 9 = some (a9, .inl (G.2 1, 625, .inr (.inl (fun k => lN (bl k)))))) (hc10 : M 10 = some (a10, .inl (G.2 0, 625, .inl (fun k => nI (od k))))) (hc11 : M 11 = some (a11, .inl (G.2 0, 625, .inl (fun k => nI (sp k))))) (hc12 : M 12 = some (a12, .inl (G.2 2, 51, .inl (fun k => nI (pr k))))) (hcn : cn ≤ 625) (lo mid hi : Nat) (h1 : lo ≤ mid) (h2 : mid ≤ hi) (h3 : hi ≤ cn) (hod : ∀ j, j < cn → od j < 625 ∧ ab (od j) < 1000000000 ∧ bl (od j) < 1000000000) : Met l yX2_merge wsX2_merge rmX2_merge (va_Pc ([.ref a4, .int (nI lo), .int (nI mid), .int (nI hi)] : List Value) (xPc G A M)) (va_Qv (fun M1 => ∃ s7 : Nat → Nat, M1 = xu M 11 (a11, .inl (G.2 0, 625, .inl (fun k => nI (s7 k)))) ∧ (∀ k, k < lo ∨ hi ≤ k → s7 k = sp k) ∧ seg s7 lo (hi - lo) = List.merge (seg od lo (mid - lo)) (seg od mid (hi - mid)) (xLe ab bl)) (xPc G A) A) 0 0 A := by
  refine x_met (cc := cX2_merge) (maxL := 7) (ret := none) RX2 (by decide) rfl (Nat.le_of_ble_eq_true rfl) rfl ?_
  intro p e s m below meth c hx hb hr hts hown hlocks hml hin hK hA hX ls hl
  have inX2 : ∀ w ∈ wsX20, w ∈ wsX2_merge := by decide +kernel
  have lk_fieldLink_36 := hts (.fieldLink RX2 36 "Reconcile$Listing" "spare" "[I") (by decide +kernel)
  have lk_fieldLink_33 := hts (.fieldLink RX2 33 "Reconcile$Listing" "order" "[I") (by decide +kernel)
  have hS : va_S A s.heap s.heap [] := va_S.rf
  have hl : lv_has ls 7 [(0, .ref a4), (1, .int (nI lo)), (2, .int (nI mid)), (3, .int (nI hi))] := hl
  refine lv_iload_n hx hb dX2_merge_0 rfl (lv_at hl 1 rfl) ?_
  refine lv_istore (lv' := [(4, .int (nI lo)), (0, .ref a4), (1, .int (nI lo)), (2, .int (nI mid)), (3, .int (nI hi))]) hx hb dX2_merge_1 hl (by decide) rfl (fun ls hl => ?_)
  refine lv_iload_n hx hb dX2_merge_3 rfl (lv_at hl 3 rfl) ?_
  refine lv_istore (lv' := [(5, .int (nI mid)), (4, .int (nI lo)), (0, .ref a4), (1, .int (nI lo)), (2, .int (nI mid)), (3, .int (nI hi))]) hx hb dX2_merge_4 hl (by decide) rfl (fun ls hl => ?_)
  refine lv_iload_n hx hb dX2_merge_6 rfl (lv_at hl 3 rfl) ?_
  refine lv_istore (lv' := [(6, .int (nI lo)), (5, .int (nI mid)), (4, .int (nI lo)), (0, .ref a4), (1, .int (nI lo)), (2, .int (nI mid)), (3, .int (nI hi))]) hx hb dX2_merge_7 hl (by decide) rfl (fun ls hl => ?_)
  have loop : ∀ (n : Nat) (to : Nat) (i : Nat) (j : Nat) (s9 : Nat → Nat) (M9 : xM) (H : Heap) (locs : List Loc) (ls : Array Slot), hi < to + n → (lo ≤ i ∧ i ≤ mid ∧ mid ≤ j ∧ j ≤ hi ∧ to + mid = i + j) → (seg s9 lo (to - lo) ++ List.merge (seg od i (mid - i)) (seg od j (hi - j)) (xLe ab bl) = List.merge (seg od lo (mid - lo)) (seg od mid (hi - mid)) (xLe ab bl)) → (∀ k, k < lo ∨ hi ≤ k → s9 k = sp k) → M9 = xu M 11 (a11, .inl (G.2 0, 625, .inl (fun k => nI (s9 k)))) → xw G.1 vwCl A M9 H → va_S A s.heap H locs → lv_has ls 7 [(6, .int (nI to)), (5, .int (nI j)), (4, .int (nI i)), (0, .ref a4), (1, .int (nI lo)), (2, .int (nI mid)), (3, .int (nI hi))] → W p l e rmX2_merge s m ([.ref a4, .int (nI lo), .int (nI mid), .int (nI hi)] : List Value).toArray below meth c H locs 0 0 (MQ below (va_Qv (fun M1 => ∃ s7 : Nat → Nat, M1 = xu M 11 (a11, .inl (G.2 0, 625, .inl (fun k => nI (s7 k)))) ∧ (∀ k, k < lo ∨ hi ≤ k → s7 k = sp k) ∧ seg s7 lo (hi - lo) = List.merge (seg od lo (mid - lo)) (seg od mid (hi - mid)) (xLe ab bl)) (xPc G A) A) ([.ref a4, .int (nI lo), .int (nI mid), .int (nI hi)] : List Value).toArray s 0 0 A) (F0 m 9 ls []) := by
    intro n
    induction n with
    | zero => intro to i j s9 M9 H locs ls hn0 hb1 hsg hfr; exact absurd hn0 (by omega)
    | succ n ih =>
      intro to i j s9 M9 H locs ls hn0 hb1 hsg hfr hM9 hX hS hl
      have hcL : M9 4 = some (a4, .inr (4, [.int bg, .int (nI cn), .ref a6, .ref a7, .ref a8, .ref a9, .ref a10, .ref a11, .ref a12])) := by rw [hM9, xu_n (by omega)]; exact hcL
      have hc6 : M9 6 = some (a6, .inl (G.2 0, 625, .inl (fun k => nI (zs k)))) := by rw [hM9, xu_n (by omega)]; exact hc6
      have hc7 : M9 7 = some (a7, .inl (G.2 0, 625, .inl (fun k => nI (os k)))) := by rw [hM9, xu_n (by omega)]; exact hc7
      have hc8 : M9 8 = some (a8, .inl (G.2 1, 625, .inr (.inl (fun k => lN (ab k))))) := by rw [hM9, xu_n (by omega)]; exact hc8
      have hc9 : M9 9 = some (a9, .inl (G.2 1, 625, .inr (.inl (fun k => lN (bl k))))) := by rw [hM9, xu_n (by omega)]; exact hc9
      have hc10 : M9 10 = some (a10, .inl (G.2 0, 625, .inl (fun k => nI (od k)))) := by rw [hM9, xu_n (by omega)]; exact hc10
      have hc12 : M9 12 = some (a12, .inl (G.2 2, 51, .inl (fun k => nI (pr k)))) := by rw [hM9, xu_n (by omega)]; exact hc12
      have hc11 : M9 11 = some (a11, .inl (G.2 0, 625, .inl (fun k => nI (s9 k)))) := by rw [hM9]; exact xu_s
      refine lv_iload hx hb dX2_merge_9 (lv_at hl 0 rfl) ?_
      refine lv_iload_n hx hb dX2_merge_11 rfl (lv_at hl 6 rfl) ?_
      refine lv_icmp_ge (tgt := 91) hx hb dX2_merge_12 (by decide) (fun c_1 => ?_) (fun c_1 => ?_)
      · have c_1 : hi ≤ to := (nI_leI (by omega) (by omega)).mp c_1
        exact x_vret hx hb hr hlocks hK hA hX hS dX2_merge_91 (⟨s9, hM9, hfr, by have q := hsg; rw [show mid - i = 0 by omega, show hi - j = 0 by omega, show to = hi by omega] at q; have z : List.merge (seg od i 0) (seg od j 0) (xLe ab bl) = [] := List.nil_merge _; rw [z, List.append_nil] at q; exact q⟩)
      · have c_1 : ¬ (hi ≤ to) := fun q => c_1 ((nI_leI (by omega) (by omega)).mpr q)
        refine lv_iload hx hb dX2_merge_15 (lv_at hl 1 rfl) ?_
        refine lv_iload_n hx hb dX2_merge_17 rfl (lv_at hl 6 rfl) ?_
        refine lv_icmp_ge (tgt := 48) hx hb dX2_merge_18 (by decide) (fun c_2 => ?_) (fun c_2 => ?_)
        · have c_2 : hi ≤ j := (nI_leI (by omega) (by omega)).mp c_2
          have hoi := hod i (by omega)
          refine lv_aload_n hx hb dX2_merge_48 rfl (lv_at hl 3 rfl) ?_
          refine x_get (ci := 4) (v := .ref a11) (C := RX2) (T := TX2) (N := 9) hx hb hts inX2 hown hK hX hcL rfl 7 (by decide) lk_fieldLink_36 (fun _ h9 => h9) rfl dX2_merge_49 ?_
          refine lv_iload hx hb dX2_merge_52 (lv_at hl 0 rfl) ?_
          refine lv_aload_n hx hb dX2_merge_54 rfl (lv_at hl 3 rfl) ?_
          refine x_get (ci := 4) (v := .ref a10) (C := RX2) (T := TX2) (N := 9) hx hb hts inX2 hown hK hX hcL rfl 6 (by decide) lk_fieldLink_33 (fun _ h9 => h9) rfl dX2_merge_55 ?_
          refine lv_iload hx hb dX2_merge_58 (lv_at hl 2 rfl) ?_
          refine x_iN hx hb hK hX hc10 (by omega) (by decide) dX2_merge_60 ?_
          refine x_isN hx hb hK hX hS hc11 (by omega) (by decide) dX2_merge_61 (fun H locs hX hS => ?_)
          rw [upd_n] at hX
          obtain ⟨M_3, hM_3⟩ : ∃ zM : xM, zM = xu M9 11 (a11, .inl (G.2 0, 625, .inl (fun k => nI ((va_up s9 to (od i)) k)))) := ⟨_, rfl⟩
          have hX : xw G.1 vwCl A M_3 H := by rw [hM_3]; exact hX
          have hcL : M_3 4 = some (a4, .inr (4, [.int bg, .int (nI cn), .ref a6, .ref a7, .ref a8, .ref a9, .ref a10, .ref a11, .ref a12])) := by rw [hM_3, xu_n (by omega)]; exact hcL
          have hc6 : M_3 6 = some (a6, .inl (G.2 0, 625, .inl (fun k => nI (zs k)))) := by rw [hM_3, xu_n (by omega)]; exact hc6
          have hc7 : M_3 7 = some (a7, .inl (G.2 0, 625, .inl (fun k => nI (os k)))) := by rw [hM_3, xu_n (by omega)]; exact hc7
          have hc8 : M_3 8 = some (a8, .inl (G.2 1, 625, .inr (.inl (fun k => lN (ab k))))) := by rw [hM_3, xu_n (by omega)]; exact hc8
          have hc9 : M_3 9 = some (a9, .inl (G.2 1, 625, .inr (.inl (fun k => lN (bl k))))) := by rw [hM_3, xu_n (by omega)]; exact hc9
          have hc10 : M_3 10 = some (a10, .inl (G.2 0, 625, .inl (fun k => nI (od k)))) := by rw [hM_3, xu_n (by omega)]; exact hc10
          have hc12 : M_3 12 = some (a12, .inl (G.2 2, 51, .inl (fun k => nI (pr k)))) := by rw [hM_3, xu_n (by omega)]; exact hc12
          have hc11 : M_3 11 = some (a11, .inl (G.2 0, 625, .inl (fun k => nI ((va_up s9 to (od i)) k)))) := by rw [hM_3]; exact xu_s
          refine lv_iinc (v := nI (i + 1)) (lv' := [(4, .int (nI (i + 1))), (6, .int (nI to)), (5, .int (nI j)), (0, .ref a4), (1, .int (nI lo)), (2, .int (nI mid)), (3, .int (nI hi))]) hx hb dX2_merge_62 hl (k := 2) rfl (show nI i + Int32.ofInt 1 = _ from nI_add _ 1) (by decide) rfl (fun ls hl => ?_)
          refine lv_goto (tgt := 85) hx hb dX2_merge_65 (by decide) ?_
          refine lv_iinc (v := nI (to + 1)) (lv' := [(6, .int (nI (to + 1))), (4, .int (nI (i + 1))), (5, .int (nI j)), (0, .ref a4), (1, .int (nI lo)), (2, .int (nI mid)), (3, .int (nI hi))]) hx hb dX2_merge_85 hl (k := 1) rfl (show nI to + Int32.ofInt 1 = _ from nI_add _ 1) (by decide) rfl (fun ls hl => ?_)
          refine lv_goto (tgt := 9) hx hb dX2_merge_88 (by decide) ?_
          exact ih (to + 1) (i + 1) j (va_up s9 to (od i)) M_3 _ _ ls (by omega) (⟨by omega, by omega, by omega, by omega, by omega⟩) (by rw [seg_up (by omega)]; exact mg_put hsg (mgL (by omega) (Or.inl (by omega)))) (fun k hk => by rw [va_up_ne _ _ (by omega)]; exact hfr k hk) (by rw [hM_3, hM9, x_uu]) hX hS (lv_sub hl [0, 2, 1, 3, 4, 5, 6] rfl)
        · have c_2 : ¬ (hi ≤ j) := fun q => c_2 ((nI_leI (by omega) (by omega)).mpr q)
          refine lv_iload hx hb dX2_merge_21 (lv_at hl 2 rfl) ?_
          refine lv_iload_n hx hb dX2_merge_23 rfl (lv_at hl 5 rfl) ?_
          refine lv_icmp_ge (tgt := 68) hx hb dX2_merge_24 (by decide) (fun c_4 => ?_) (fun c_4 => ?_)
          · have c_4 : mid ≤ i := (nI_leI (by omega) (by omega)).mp c_4
            have hoj := hod j (by omega)
            refine lv_aload_n hx hb dX2_merge_68 rfl (lv_at hl 3 rfl) ?_
            refine x_get (ci := 4) (v := .ref a11) (C := RX2) (T := TX2) (N := 9) hx hb hts inX2 hown hK hX hcL rfl 7 (by decide) lk_fieldLink_36 (fun _ h9 => h9) rfl dX2_merge_69 ?_
            refine lv_iload hx hb dX2_merge_72 (lv_at hl 0 rfl) ?_
            refine lv_aload_n hx hb dX2_merge_74 rfl (lv_at hl 3 rfl) ?_
            refine x_get (ci := 4) (v := .ref a10) (C := RX2) (T := TX2) (N := 9) hx hb hts inX2 hown hK hX hcL rfl 6 (by decide) lk_fieldLink_33 (fun _ h9 => h9) rfl dX2_merge_75 ?_
            refine lv_iload hx hb dX2_merge_78 (lv_at hl 1 rfl) ?_
            refine x_iN hx hb hK hX hc10 (by omega) (by decide) dX2_merge_80 ?_
            refine x_isN hx hb hK hX hS hc11 (by omega) (by decide) dX2_merge_81 (fun H locs hX hS => ?_)
            rw [upd_n] at hX
            obtain ⟨M_5, hM_5⟩ : ∃ zM : xM, zM = xu M9 11 (a11, .inl (G.2 0, 625, .inl (fun k => nI ((va_up s9 to (od j)) k)))) := ⟨_, rfl⟩
            have hX : xw G.1 vwCl A M_5 H := by rw [hM_5]; exact hX
            have hcL : M_5 4 = some (a4, .inr (4, [.int bg, .int (nI cn), .ref a6, .ref a7, .ref a8, .ref a9, .ref a10, .ref a11, .ref a12])) := by rw [hM_5, xu_n (by omega)]; exact hcL
            have hc6 : M_5 6 = some (a6, .inl (G.2 0, 625, .inl (fun k => nI (zs k)))) := by rw [hM_5, xu_n (by omega)]; exact hc6
            have hc7 : M_5 7 = some (a7, .inl (G.2 0, 625, .inl (fun k => nI (os k)))) := by rw [hM_5, xu_n (by omega)]; exact hc7
            have hc8 : M_5 8 = some (a8, .inl (G.2 1, 625, .inr (.inl (fun k => lN (ab k))))) := by rw [hM_5, xu_n (by omega)]; exact hc8
            have hc9 : M_5 9 = some (a9, .inl (G.2 1, 625, .inr (.inl (fun k => lN (bl k))))) := by rw [hM_5, xu_n (by omega)]; exact hc9
            have hc10 : M_5 10 = some (a10, .inl (G.2 0, 625, .inl (fun k => nI (od k)))) := by rw [hM_5, xu_n (by omega)]; exact hc10
            have hc12 : M_5 12 = some (a12, .inl (G.2 2, 51, .inl (fun k => nI (pr k)))) := by rw [hM_5, xu_n (by omega)]; exact hc12
            have hc11 : M_5 11 = some (a11, .inl (G.2 0, 625, .inl (fun k => nI ((va_up s9 to (od j)) k)))) := by rw [hM_5]; exact xu_s
            refine lv_iinc (v := nI (j + 1)) (lv' := [(5, .int (nI (j + 1))), (6, .int (nI to)), (4, .int (nI i)), (0, .ref a4), (1, .int (nI lo)), (2, .int (nI mid)), (3, .int (nI hi))]) hx hb dX2_merge_82 hl (k := 1) rfl (show nI j + Int32.ofInt 1 = _ from nI_add _ 1) (by decide) rfl (fun ls hl => ?_)
            refine lv_iinc (v := nI (to + 1)) (lv' := [(6, .int (nI (to + 1))), (5, .int (nI (j + 1))), (4, .int (nI i)), (0, .ref a4), (1, .int (nI lo)), (2, .int (nI mid)), (3, .int (nI hi))]) hx hb dX2_merge_85 hl (k := 1) rfl (show nI to + Int32.ofInt 1 = _ from nI_add _ 1) (by decide) rfl (fun ls hl => ?_)
            refine lv_goto (tgt := 9) hx hb dX2_merge_88 (by decide) ?_
            exact ih (to + 1) i (j + 1) (va_up s9 to (od j)) M_5 _ _ ls (by omega) (⟨by omega, by omega, by omega, by omega, by omega⟩) (by rw [seg_up (by omega)]; exact mg_put hsg (mgR (by omega) (Or.inl (by omega)))) (fun k hk => by rw [va_up_ne _ _ (by omega)]; exact hfr k hk) (by rw [hM_5, hM9, x_uu]) hX hS (lv_sub hl [0, 1, 2, 3, 4, 5, 6] rfl)
          · have c_4 : ¬ (mid ≤ i) := fun q => c_4 ((nI_leI (by omega) (by omega)).mpr q)
            have hoi := hod i (by omega)
            have hoj := hod j (by omega)
            refine lv_aload_n hx hb dX2_merge_27 rfl (lv_at hl 3 rfl) ?_
            refine lv_aload_n hx hb dX2_merge_28 rfl (lv_at hl 3 rfl) ?_
            refine x_get (ci := 4) (v := .ref a10) (C := RX2) (T := TX2) (N := 9) hx hb hts inX2 hown hK hX hcL rfl 6 (by decide) lk_fieldLink_33 (fun _ h9 => h9) rfl dX2_merge_29 ?_
            refine lv_iload hx hb dX2_merge_32 (lv_at hl 1 rfl) ?_
            refine x_iN hx hb hK hX hc10 (by omega) (by decide) dX2_merge_34 ?_
            refine lv_aload_n hx hb dX2_merge_35 rfl (lv_at hl 3 rfl) ?_
            refine x_get (ci := 4) (v := .ref a10) (C := RX2) (T := TX2) (N := 9) hx hb hts inX2 hown hK hX hcL rfl 6 (by decide) lk_fieldLink_33 (fun _ h9 => h9) rfl dX2_merge_36 ?_
            refine lv_iload hx hb dX2_merge_39 (lv_at hl 2 rfl) ?_
            refine x_iN hx hb hK hX hc10 (by omega) (by decide) dX2_merge_41 ?_
            refine x_calli (x_runV (q := (RX2, TX2, 9)) (As := [.int (nI (od j)), .int (nI (od i))]) (rest := []) ⟨hx, hb, hml, hown, hts⟩ (ctX2_isGreater l G A M9 hcL hc6 hc7 hc8 hc9 hc10 hc11 hc12 hcn (od j) (od i) hoj.1 hoi.1 hoj.2.1 hoi.2.1 hoj.2.2 hoi.2.2) (cwV 2 hts gX2_merge_X2_isGreater rfl rfl rfl (by decide +kernel) ⟨Nat.le_of_ble_eq_true rfl, Nat.le_of_ble_eq_true rfl⟩) hK hA hX hS hcL rfl rfl hl.1 rfl (lv_room (Nat.le_of_ble_eq_true rfl)) dX2_merge_42 ⟨by decide, by decide⟩) hS (fun r_6 M_7 H locs hp hX hS => ?_)
            obtain ⟨hM_, er_6⟩ := hp
            rw [hM_] at hX
            refine lv_if_ne (tgt := 68) hx hb dX2_merge_45 (by decide) (fun c_8 => ?_) (fun c_8 => ?_)
            · have hg : xGt ab bl (od j) (od i) := by rcases er_6 with ⟨q, _⟩ | ⟨_, q⟩; exact absurd q c_8; exact q
              have hoj := hod j (by omega)
              refine lv_aload_n hx hb dX2_merge_68 rfl (lv_at hl 3 rfl) ?_
              refine x_get (ci := 4) (v := .ref a11) (C := RX2) (T := TX2) (N := 9) hx hb hts inX2 hown hK hX hcL rfl 7 (by decide) lk_fieldLink_36 (fun _ h9 => h9) rfl dX2_merge_69 ?_
              refine lv_iload hx hb dX2_merge_72 (lv_at hl 0 rfl) ?_
              refine lv_aload_n hx hb dX2_merge_74 rfl (lv_at hl 3 rfl) ?_
              refine x_get (ci := 4) (v := .ref a10) (C := RX2) (T := TX2) (N := 9) hx hb hts inX2 hown hK hX hcL rfl 6 (by decide) lk_fieldLink_33 (fun _ h9 => h9) rfl dX2_merge_75 ?_
              refine lv_iload hx hb dX2_merge_78 (lv_at hl 1 rfl) ?_
              refine x_iN hx hb hK hX hc10 (by omega) (by decide) dX2_merge_80 ?_
              refine x_isN hx hb hK hX hS hc11 (by omega) (by decide) dX2_merge_81 (fun H locs hX hS => ?_)
              rw [upd_n] at hX
              obtain ⟨M_9, hM_9⟩ : ∃ zM : xM, zM = xu M9 11 (a11, .inl (G.2 0, 625, .inl (fun k => nI ((va_up s9 to (od j)) k)))) := ⟨_, rfl⟩
              have hX : xw G.1 vwCl A M_9 H := by rw [hM_9]; exact hX
              have hcL : M_9 4 = some (a4, .inr (4, [.int bg, .int (nI cn), .ref a6, .ref a7, .ref a8, .ref a9, .ref a10, .ref a11, .ref a12])) := by rw [hM_9, xu_n (by omega)]; exact hcL
              have hc6 : M_9 6 = some (a6, .inl (G.2 0, 625, .inl (fun k => nI (zs k)))) := by rw [hM_9, xu_n (by omega)]; exact hc6
              have hc7 : M_9 7 = some (a7, .inl (G.2 0, 625, .inl (fun k => nI (os k)))) := by rw [hM_9, xu_n (by omega)]; exact hc7
              have hc8 : M_9 8 = some (a8, .inl (G.2 1, 625, .inr (.inl (fun k => lN (ab k))))) := by rw [hM_9, xu_n (by omega)]; exact hc8
              have hc9 : M_9 9 = some (a9, .inl (G.2 1, 625, .inr (.inl (fun k => lN (bl k))))) := by rw [hM_9, xu_n (by omega)]; exact hc9
              have hc10 : M_9 10 = some (a10, .inl (G.2 0, 625, .inl (fun k => nI (od k)))) := by rw [hM_9, xu_n (by omega)]; exact hc10
              have hc12 : M_9 12 = some (a12, .inl (G.2 2, 51, .inl (fun k => nI (pr k)))) := by rw [hM_9, xu_n (by omega)]; exact hc12
              have hc11 : M_9 11 = some (a11, .inl (G.2 0, 625, .inl (fun k => nI ((va_up s9 to (od j)) k)))) := by rw [hM_9]; exact xu_s
              refine lv_iinc (v := nI (j + 1)) (lv' := [(5, .int (nI (j + 1))), (6, .int (nI to)), (4, .int (nI i)), (0, .ref a4), (1, .int (nI lo)), (2, .int (nI mid)), (3, .int (nI hi))]) hx hb dX2_merge_82 hl (k := 1) rfl (show nI j + Int32.ofInt 1 = _ from nI_add _ 1) (by decide) rfl (fun ls hl => ?_)
              refine lv_iinc (v := nI (to + 1)) (lv' := [(6, .int (nI (to + 1))), (5, .int (nI (j + 1))), (4, .int (nI i)), (0, .ref a4), (1, .int (nI lo)), (2, .int (nI mid)), (3, .int (nI hi))]) hx hb dX2_merge_85 hl (k := 1) rfl (show nI to + Int32.ofInt 1 = _ from nI_add _ 1) (by decide) rfl (fun ls hl => ?_)
              refine lv_goto (tgt := 9) hx hb dX2_merge_88 (by decide) ?_
              exact ih (to + 1) i (j + 1) (va_up s9 to (od j)) M_9 _ _ ls (by omega) (⟨by omega, by omega, by omega, by omega, by omega⟩) (by rw [seg_up (by omega)]; exact mg_put hsg (mgR (by omega) (Or.inr ⟨by omega, hg⟩))) (fun k hk => by rw [va_up_ne _ _ (by omega)]; exact hfr k hk) (by rw [hM_9, hM9, x_uu]) hX hS (lv_sub hl [0, 1, 2, 3, 4, 5, 6] rfl)
            · have hg : ¬ xGt ab bl (od j) (od i) := by rcases er_6 with ⟨_, q⟩ | ⟨q, _⟩; exact q; rw [q] at c_8; exact absurd c_8 (by decide)
              have hoi := hod i (by omega)
              refine lv_aload_n hx hb dX2_merge_48 rfl (lv_at hl 3 rfl) ?_
              refine x_get (ci := 4) (v := .ref a11) (C := RX2) (T := TX2) (N := 9) hx hb hts inX2 hown hK hX hcL rfl 7 (by decide) lk_fieldLink_36 (fun _ h9 => h9) rfl dX2_merge_49 ?_
              refine lv_iload hx hb dX2_merge_52 (lv_at hl 0 rfl) ?_
              refine lv_aload_n hx hb dX2_merge_54 rfl (lv_at hl 3 rfl) ?_
              refine x_get (ci := 4) (v := .ref a10) (C := RX2) (T := TX2) (N := 9) hx hb hts inX2 hown hK hX hcL rfl 6 (by decide) lk_fieldLink_33 (fun _ h9 => h9) rfl dX2_merge_55 ?_
              refine lv_iload hx hb dX2_merge_58 (lv_at hl 2 rfl) ?_
              refine x_iN hx hb hK hX hc10 (by omega) (by decide) dX2_merge_60 ?_
              refine x_isN hx hb hK hX hS hc11 (by omega) (by decide) dX2_merge_61 (fun H locs hX hS => ?_)
              rw [upd_n] at hX
              obtain ⟨M_10, hM_10⟩ : ∃ zM : xM, zM = xu M9 11 (a11, .inl (G.2 0, 625, .inl (fun k => nI ((va_up s9 to (od i)) k)))) := ⟨_, rfl⟩
              have hX : xw G.1 vwCl A M_10 H := by rw [hM_10]; exact hX
              have hcL : M_10 4 = some (a4, .inr (4, [.int bg, .int (nI cn), .ref a6, .ref a7, .ref a8, .ref a9, .ref a10, .ref a11, .ref a12])) := by rw [hM_10, xu_n (by omega)]; exact hcL
              have hc6 : M_10 6 = some (a6, .inl (G.2 0, 625, .inl (fun k => nI (zs k)))) := by rw [hM_10, xu_n (by omega)]; exact hc6
              have hc7 : M_10 7 = some (a7, .inl (G.2 0, 625, .inl (fun k => nI (os k)))) := by rw [hM_10, xu_n (by omega)]; exact hc7
              have hc8 : M_10 8 = some (a8, .inl (G.2 1, 625, .inr (.inl (fun k => lN (ab k))))) := by rw [hM_10, xu_n (by omega)]; exact hc8
              have hc9 : M_10 9 = some (a9, .inl (G.2 1, 625, .inr (.inl (fun k => lN (bl k))))) := by rw [hM_10, xu_n (by omega)]; exact hc9
              have hc10 : M_10 10 = some (a10, .inl (G.2 0, 625, .inl (fun k => nI (od k)))) := by rw [hM_10, xu_n (by omega)]; exact hc10
              have hc12 : M_10 12 = some (a12, .inl (G.2 2, 51, .inl (fun k => nI (pr k)))) := by rw [hM_10, xu_n (by omega)]; exact hc12
              have hc11 : M_10 11 = some (a11, .inl (G.2 0, 625, .inl (fun k => nI ((va_up s9 to (od i)) k)))) := by rw [hM_10]; exact xu_s
              refine lv_iinc (v := nI (i + 1)) (lv' := [(4, .int (nI (i + 1))), (6, .int (nI to)), (5, .int (nI j)), (0, .ref a4), (1, .int (nI lo)), (2, .int (nI mid)), (3, .int (nI hi))]) hx hb dX2_merge_62 hl (k := 2) rfl (show nI i + Int32.ofInt 1 = _ from nI_add _ 1) (by decide) rfl (fun ls hl => ?_)
              refine lv_goto (tgt := 85) hx hb dX2_merge_65 (by decide) ?_
              refine lv_iinc (v := nI (to + 1)) (lv' := [(6, .int (nI (to + 1))), (4, .int (nI (i + 1))), (5, .int (nI j)), (0, .ref a4), (1, .int (nI lo)), (2, .int (nI mid)), (3, .int (nI hi))]) hx hb dX2_merge_85 hl (k := 1) rfl (show nI to + Int32.ofInt 1 = _ from nI_add _ 1) (by decide) rfl (fun ls hl => ?_)
              refine lv_goto (tgt := 9) hx hb dX2_merge_88 (by decide) ?_
              exact ih (to + 1) (i + 1) j (va_up s9 to (od i)) M_10 _ _ ls (by omega) (⟨by omega, by omega, by omega, by omega, by omega⟩) (by rw [seg_up (by omega)]; exact mg_put hsg (mgL (by omega) (Or.inr ⟨by omega, hg⟩))) (fun k hk => by rw [va_up_ne _ _ (by omega)]; exact hfr k hk) (by rw [hM_10, hM9, x_uu]) hX hS (lv_sub hl [0, 2, 1, 3, 4, 5, 6] rfl)
  exact loop (hi + 1) lo lo mid sp M _ _ ls (by omega) (⟨by omega, by omega, by omega, by omega, by omega⟩) (by rw [Nat.sub_self]; rfl) (fun _ _ => rfl) (by exact (x_us hc11).symm) hX hS (lv_sub hl [0, 1, 2, 3, 4, 5, 6] rfl)
