/-! the reference: run -/
def mRep (cn : Nat) (pm zs os ab bl n1 n2 n3 n4 : Nat → Nat) : Prop := xGood ab bl pm 0 cn ∧ ∀ k, k < cn → n1 k = zs (pm k) ∧ n2 k = os (pm k) ∧ n3 k = ab (pm k) ∧ n4 k = bl (pm k)
def insF (n : Nat → Nat) (at9 z : Nat) : Nat → Nat := fun k => if k < at9 then n k else if k = at9 then z else n (k - 1)
theorem seg_shift {f g : Nat → Nat} : ∀ {n a : Nat}, (∀ j, a ≤ j → j < a + n → f (j + 1) = g j) → seg f (a + 1) n = seg g a n
  | 0, _, _ => rfl
  | n + 1, a, h => by
    show f (a + 1) :: seg f (a + 1 + 1) n = g a :: seg g (a + 1) n
    rw [h a (by omega) (by omega), seg_shift (n := n) (a := a + 1) (fun j h1 h2 => h j (by omega) (by omega))]
theorem ins_good {ab bl pm : Nat → Nat} {cn at9 u d : Nat} (hat : at9 ≤ cn) (hg : xGood ab bl pm 0 cn) (hd : 0 < d) (hbl : ∀ k, k < cn → 0 < bl k) (hgt : ∀ k, at9 ≤ k → k < cn → ab (pm k) * d < u * bl (pm k)) (hst : at9 = 0 ∨ ¬ (ab (pm (at9 - 1)) * d < u * bl (pm (at9 - 1)))) : xGood (va_up ab cn u) (va_up bl cn d) (insF pm at9 cn) 0 (cn + 1) := by
  have hin : ∀ k, k < cn → pm k < cn := fun k hk => (xGood_in hg (by omega) hk).2
  have eA : ∀ x, x < cn → va_up ab cn u x = ab x := fun x hx => va_up_ne _ _ (by omega)
  have eB : ∀ x, x < cn → va_up bl cn d x = bl x := fun x hx => va_up_ne _ _ (by omega)
  have hnew : ∀ x, x < cn → (xGt (va_up ab cn u) (va_up bl cn d) cn x ↔ ab x * d < u * bl x) := fun x hx => by
    unfold xGt
    rw [va_up_self, va_up_self, eA x hx, eB x hx]
  have hpos : ∀ x, x < cn + 1 → 0 < va_up bl cn d x := fun x hx => by
    by_cases q : x = cn
    · rw [q, va_up_self]; exact hd
    · rw [eB x (by omega)]; exact hbl x (by omega)
  have e1 : seg pm 0 cn = seg pm 0 at9 ++ seg pm at9 (cn - at9) := by
    have := seg_append (f := pm) (n := at9) (a := 0) (m := cn - at9)
    rw [show at9 + (cn - at9) = cn by omega, Nat.zero_add] at this
    exact this
  have e2 : seg (insF pm at9 cn) 0 (cn + 1) = seg pm 0 at9 ++ (cn :: seg pm at9 (cn - at9)) := by
    have h1 := seg_append (f := insF pm at9 cn) (n := at9) (a := 0) (m := (cn - at9) + 1)
    rw [show at9 + ((cn - at9) + 1) = cn + 1 by omega, Nat.zero_add] at h1
    rw [h1, seg_congr (f := insF pm at9 cn) (g := pm) (fun j _ h2 => if_pos (by omega))]
    congr 1
    show insF pm at9 cn at9 :: seg (insF pm at9 cn) (at9 + 1) (cn - at9) = _
    rw [seg_shift (g := pm) (fun j h2 h3 => by unfold insF; rw [if_neg (by omega), if_neg (by omega), Nat.add_sub_cancel])]
    congr 1
    unfold insF
    rw [if_neg (by omega), if_pos rfl]
  have hP : (seg pm 0 cn).Pairwise (xB (va_up ab cn u) (va_up bl cn d)) := by
    have h0 := hg.1
    rw [Nat.sub_zero] at h0
    refine h0.imp_of_mem (fun {a b} ha hb hab => ?_)
    obtain ⟨ja, _, qa, ra⟩ := seg_mem ha
    obtain ⟨jb, _, qb, rb⟩ := seg_mem hb
    have ha' : a < cn := by rw [← ra]; exact hin ja (by omega)
    have hb' : b < cn := by rw [← rb]; exact hin jb (by omega)
    unfold xB xGt at *
    rw [eA a ha', eA b hb', eB a ha', eB b hb']
    exact hab
  have hP0 := hP
  rw [e1] at hP
  obtain ⟨pA, pB, pAB⟩ := List.pairwise_append.mp hP
  unfold xGood
  rw [Nat.sub_zero, e2]
  refine ⟨List.pairwise_append.mpr ⟨pA, List.pairwise_cons.mpr ⟨fun b hb => ?_, pB⟩, fun a ha b hb => ?_⟩, ?_⟩
  · obtain ⟨j, h1, h2, rfl⟩ := seg_mem hb
    exact Or.inl ((hnew _ (hin j (by omega))).mpr (hgt j h1 (by omega)))
  · rcases List.mem_cons.mp hb with q | q
    · subst q
      obtain ⟨j, h1, h2, rfl⟩ := seg_mem ha
      have hj := hin j (by omega)
      refine Or.inr ⟨fun z => ?_, hj⟩
      have hst2 := hst.resolve_left (by omega)
      have hp := hin (at9 - 1) (by omega)
      by_cases q2 : j = at9 - 1
      · subst q2
        exact hst2 ((hnew _ hj).mp z)
      · have g1 : (seg pm 0 b)[j]? = some (pm (0 + j)) := seg_get (by omega)
        have g2 : (seg pm 0 b)[at9 - 1]? = some (pm (0 + (at9 - 1))) := seg_get (by omega)
        rw [Nat.zero_add] at g1 g2
        obtain ⟨l1, m1⟩ := List.getElem?_eq_some_iff.mp g1
        obtain ⟨l2, m2⟩ := List.getElem?_eq_some_iff.mp g2
        have hb3 := List.pairwise_iff_getElem.mp hP0 j (at9 - 1) l1 l2 (by omega)
        rw [m1, m2] at hb3
        have hng : ¬ xGt (va_up ab b u) (va_up bl b d) (pm (at9 - 1)) (pm j) := hb3.elim gt_as (fun y => y.1)
        exact hst2 ((hnew _ hp).mp (gt_tr2 (hpos _ (by omega)) (hpos _ (by omega)) (hpos _ (by omega)) z hng))
    · exact pAB a ha b q
  · have h0 := hg.2
    rw [Nat.sub_zero, e1] at h0
    have h3 : seg (fun k => k) 0 (cn + 1) = seg (fun k => k) 0 cn ++ [cn] := by
      have := seg_snoc (f := fun k => k) (n := cn) (a := 0)
      rw [Nat.zero_add] at this
      exact this
    rw [h3]
    refine (List.perm_middle.trans ?_)
    exact (List.Perm.cons cn h0).trans (List.perm_append_comm (l₁ := [cn]) (l₂ := seg (fun k => k) 0 cn))
theorem ins_rep {pm zs os ab bl n1 n2 n3 n4 : Nat → Nat} {cn at9 z o u d : Nat} (hat : at9 ≤ cn) (hr : mRep cn pm zs os ab bl n1 n2 n3 n4) (hd : 0 < d) (hbl : ∀ k, k < cn → 0 < bl k) (hgt : ∀ k, at9 ≤ k → k < cn → n3 k * d < u * n4 k) (hst : at9 = 0 ∨ ¬ (n3 (at9 - 1) * d < u * n4 (at9 - 1)))
    {m1 m2 m3 m4 : Nat → Nat} (h1 : ∀ k, k ≤ cn → m1 k = insF n1 at9 z k) (h2 : ∀ k, k ≤ cn → m2 k = insF n2 at9 o k) (h3 : ∀ k, k ≤ cn → m3 k = insF n3 at9 u k) (h4 : ∀ k, k ≤ cn → m4 k = insF n4 at9 d k) : mRep (cn + 1) (insF pm at9 cn) (va_up zs cn z) (va_up os cn o) (va_up ab cn u) (va_up bl cn d) m1 m2 m3 m4 := by
  obtain ⟨hg, hv⟩ := hr
  have hin : ∀ k, k < cn → pm k < cn := fun k hk => (xGood_in hg (by omega) hk).2
  refine ⟨ins_good hat hg hd hbl (fun k a b => ?_) ?_, fun k hk => ?_⟩
  · have := hgt k a b
    rw [(hv k b).2.2.1, (hv k b).2.2.2] at this
    exact this
  · rcases hst with q | q
    · exact Or.inl q
    · by_cases q0 : at9 = 0
      · exact Or.inl q0
      · refine Or.inr ?_
        rw [(hv (at9 - 1) (by omega)).2.2.1, (hv (at9 - 1) (by omega)).2.2.2] at q
        exact q
  · rw [h1 k (by omega), h2 k (by omega), h3 k (by omega), h4 k (by omega)]
    unfold insF
    by_cases q1 : k < at9
    · simp only [if_pos q1]
      have hp := hin k (by omega)
      rw [va_up_ne _ _ (by omega), va_up_ne _ _ (by omega), va_up_ne _ _ (by omega), va_up_ne _ _ (by omega)]
      exact hv k (by omega)
    · by_cases q2 : k = at9
      · subst q2
        simp only [if_neg q1, if_true, va_up_self, and_self]
      · simp only [if_neg q1, if_neg q2]
        have hp := hin (k - 1) (by omega)
        rw [va_up_ne _ _ (by omega), va_up_ne _ _ (by omega), va_up_ne _ _ (by omega), va_up_ne _ _ (by omega)]
        exact hv (k - 1) (by omega)
theorem sh_keep {s n : Nat → Nat} {at9 cn v : Nat} (h0 : 0 < at9) (hc : at9 ≤ cn) (h1 : ∀ k, k < at9 → s k = n k) (h2 : ∀ k, at9 < k → k ≤ cn → s k = n (k - 1)) (hv : v = s (at9 - 1)) : (∀ k, k < at9 - 1 → va_up s at9 v k = n k) ∧ ∀ k, at9 - 1 < k → k ≤ cn → va_up s at9 v k = n (k - 1) := by
  refine ⟨fun k hk => by rw [va_up_ne _ _ (by omega)]; exact h1 k (by omega), fun k a b => ?_⟩
  by_cases q : k = at9
  · subst q
    rw [va_up_self, hv]
    exact h1 _ (by omega)
  · rw [va_up_ne _ _ q]
    exact h2 k (by omega) b
theorem sh_end {s n : Nat → Nat} {at9 cn z : Nat} (h1 : ∀ k, k < at9 → s k = n k) (h2 : ∀ k, at9 < k → k ≤ cn → s k = n (k - 1)) : ∀ k, k ≤ cn → va_up s at9 z k = insF n at9 z k := by
  intro k hk
  unfold insF
  by_cases q1 : k < at9
  · rw [if_pos q1, va_up_ne _ _ (by omega)]; exact h1 k q1
  · by_cases q2 : k = at9
    · rw [if_neg q1, if_pos q2, q2, va_up_self]
    · rw [if_neg q1, if_neg q2, va_up_ne _ _ q2]; exact h2 k (by omega) hk
