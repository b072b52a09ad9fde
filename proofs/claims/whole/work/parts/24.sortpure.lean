/-! the order of pairs, merging: pure -/
def seg (f : Nat → Nat) : Nat → Nat → List Nat
  | _, 0 => []
  | a, n + 1 => f a :: seg f (a + 1) n
theorem seg_cons {f : Nat → Nat} {a n : Nat} (h : 0 < n) : seg f a n = f a :: seg f (a + 1) (n - 1) := by
  obtain ⟨k, rfl⟩ : ∃ k, n = k + 1 := ⟨n - 1, by omega⟩
  rfl
theorem seg_snoc {f : Nat → Nat} : ∀ {n a : Nat}, seg f a (n + 1) = seg f a n ++ [f (a + n)]
  | 0, a => rfl
  | n + 1, a => by
    show f a :: seg f (a + 1) (n + 1) = _
    rw [seg_snoc (n := n) (a := a + 1), show a + 1 + n = a + (n + 1) by omega]
    rfl
theorem seg_congr {f g : Nat → Nat} : ∀ {n a : Nat}, (∀ j, a ≤ j → j < a + n → f j = g j) → seg f a n = seg g a n
  | 0, _, _ => rfl
  | n + 1, a, h => by
    show f a :: seg f (a + 1) n = g a :: seg g (a + 1) n
    rw [h a (by omega) (by omega), seg_congr (n := n) (a := a + 1) (fun j h1 h2 => h j (by omega) (by omega))]
theorem seg_append {f : Nat → Nat} : ∀ {n a m : Nat}, seg f a (n + m) = seg f a n ++ seg f (a + n) m
  | 0, a, m => by rw [Nat.zero_add]; rfl
  | n + 1, a, m => by
    rw [show n + 1 + m = (n + m) + 1 by omega]
    show f a :: seg f (a + 1) (n + m) = f a :: (seg f (a + 1) n ++ seg f (a + (n + 1)) m)
    rw [seg_append (n := n) (a := a + 1), show a + 1 + n = a + (n + 1) by omega]
theorem seg_mem {f : Nat → Nat} {x : Nat} : ∀ {n a : Nat}, x ∈ seg f a n → ∃ j, a ≤ j ∧ j < a + n ∧ f j = x
  | 0, _, h => by cases h
  | n + 1, a, h => by
    rcases List.mem_cons.mp h with q | q
    · exact ⟨a, by omega, by omega, q.symm⟩
    · obtain ⟨j, h1, h2, h3⟩ := seg_mem (n := n) (a := a + 1) q
      exact ⟨j, by omega, by omega, h3⟩
theorem seg_in {f : Nat → Nat} {j : Nat} : ∀ {n a : Nat}, a ≤ j → j < a + n → f j ∈ seg f a n
  | 0, _, h1, h2 => absurd h2 (by omega)
  | n + 1, a, h1, h2 => by
    rcases Nat.eq_or_lt_of_le h1 with q | q
    · subst q; exact List.mem_cons_self
    · exact List.mem_cons_of_mem _ (seg_in (n := n) (a := a + 1) (by omega) (by omega))
theorem seg_len {f : Nat → Nat} : ∀ {n a : Nat}, (seg f a n).length = n
  | 0, _ => rfl
  | n + 1, a => by show (seg f (a + 1) n).length + 1 = n + 1; rw [seg_len]
theorem seg_get {f : Nat → Nat} : ∀ {n a j : Nat}, j < n → (seg f a n)[j]? = some (f (a + j))
  | 0, _, _, h => absurd h (by omega)
  | n + 1, a, 0, _ => rfl
  | n + 1, a, j + 1, h => by
    show (seg f (a + 1) n)[j]? = _
    rw [seg_get (n := n) (a := a + 1) (by omega), show a + 1 + j = a + (j + 1) by omega]
/-- before: by score, the greater first, then by place -/
def xB (ab bl : Nat → Nat) (a b : Nat) : Prop := xGt ab bl a b ∨ (¬ xGt ab bl b a ∧ a < b)
theorem gt_tr {ab bl : Nat → Nat} {a b c : Nat} (hb : 0 < bl b) (hc : 0 < bl c) (ha : 0 < bl a) (h1 : ¬ xGt ab bl b a) (h2 : xGt ab bl b c) : xGt ab bl a c := by
  unfold xGt at *
  have h1 : ab b * bl a ≤ ab a * bl b := by omega
  have e1 : ab c * bl b * bl a < ab b * bl c * bl a := (Nat.mul_lt_mul_right ha).mpr h2
  have e2 : ab b * bl a * bl c ≤ ab a * bl b * bl c := Nat.mul_le_mul_right _ h1
  have e3 : (ab c * bl a) * bl b < (ab a * bl c) * bl b := by
    calc (ab c * bl a) * bl b = ab c * bl b * bl a := by ac_rfl
      _ < ab b * bl c * bl a := e1
      _ = ab b * bl a * bl c := by ac_rfl
      _ ≤ ab a * bl b * bl c := e2
      _ = (ab a * bl c) * bl b := by ac_rfl
  exact Nat.lt_of_mul_lt_mul_right e3
theorem gt_tr2 {ab bl : Nat → Nat} {a b c : Nat} (hb : 0 < bl b) (hc : 0 < bl c) (ha : 0 < bl a) (h1 : xGt ab bl a b) (h2 : ¬ xGt ab bl c b) : xGt ab bl a c := by
  unfold xGt at *
  have h2 : ab c * bl b ≤ ab b * bl c := by omega
  have e1 : ab c * bl b * bl a ≤ ab b * bl c * bl a := Nat.mul_le_mul_right _ h2
  have e2 : ab b * bl a * bl c < ab a * bl b * bl c := (Nat.mul_lt_mul_right hc).mpr h1
  have e3 : (ab c * bl a) * bl b < (ab a * bl c) * bl b := by
    calc (ab c * bl a) * bl b = ab c * bl b * bl a := by ac_rfl
      _ ≤ ab b * bl c * bl a := e1
      _ = ab b * bl a * bl c := by ac_rfl
      _ < ab a * bl b * bl c := e2
      _ = (ab a * bl c) * bl b := by ac_rfl
  exact Nat.lt_of_mul_lt_mul_right e3
theorem ngt_tr {ab bl : Nat → Nat} {a b c : Nat} (hb : 0 < bl b) (h1 : ¬ xGt ab bl b a) (h2 : ¬ xGt ab bl c b) : ¬ xGt ab bl c a := by
  unfold xGt at *
  have h1 : ab b * bl a ≤ ab a * bl b := by omega
  have h2 : ab c * bl b ≤ ab b * bl c := by omega
  have e1 : ab c * bl b * bl a ≤ ab b * bl c * bl a := Nat.mul_le_mul_right _ h2
  have e2 : ab b * bl a * bl c ≤ ab a * bl b * bl c := Nat.mul_le_mul_right _ h1
  have e3 : (ab c * bl a) * bl b ≤ (ab a * bl c) * bl b := by
    calc (ab c * bl a) * bl b = ab c * bl b * bl a := by ac_rfl
      _ ≤ ab b * bl c * bl a := e1
      _ = ab b * bl a * bl c := by ac_rfl
      _ ≤ ab a * bl b * bl c := e2
      _ = (ab a * bl c) * bl b := by ac_rfl
  have := Nat.le_of_mul_le_mul_right e3 hb
  omega
theorem gt_as {ab bl : Nat → Nat} {a b : Nat} (h : xGt ab bl a b) : ¬ xGt ab bl b a := by unfold xGt at *; omega
theorem xB_tr {ab bl : Nat → Nat} {a b c : Nat} (ha : 0 < bl a) (hb : 0 < bl b) (hc : 0 < bl c) (h1 : xB ab bl a b) (h2 : xB ab bl b c) : xB ab bl a c := by
  rcases h1 with p | ⟨p, p2⟩ <;> rcases h2 with q | ⟨q, q2⟩
  · exact Or.inl (gt_tr hb hc ha (gt_as p) q)
  · exact Or.inl (gt_tr2 hb hc ha p q)
  · exact Or.inl (gt_tr hb hc ha p q)
  · exact Or.inr ⟨ngt_tr hb p q, by omega⟩
theorem xB_as {ab bl : Nat → Nat} {a b : Nat} (h1 : xB ab bl a b) (h2 : xB ab bl b a) : False := by
  rcases h1 with p | ⟨p, p2⟩ <;> rcases h2 with q | ⟨q, q2⟩
  · exact gt_as p q
  · exact q p
  · exact p q
  · omega
theorem mem_merge {le : Nat → Nat → Bool} {x : Nat} {xs ys : List Nat} (h : x ∈ List.merge xs ys le) : x ∈ xs ∨ x ∈ ys := List.mem_append.mp ((List.merge_perm_append (le := le)).mem_iff.mp h)
/-- rows in a row: apart, each before the next ones -/
theorem merge_good {ab bl : Nat → Nat} {le : Nat → Nat → Bool} (hle : ∀ a b, le a b = true ↔ ¬ xGt ab bl b a) : ∀ (xs ys : List Nat), (∀ x ∈ xs, 0 < bl x) → (∀ y ∈ ys, 0 < bl y) → (∀ x ∈ xs, ∀ y ∈ ys, x < y) → xs.Pairwise (xB ab bl) → ys.Pairwise (xB ab bl) → (List.merge xs ys le).Pairwise (xB ab bl)
  | [], ys, _, _, _, _, h => by rw [List.nil_merge]; exact h
  | x :: xs, [], _, _, _, h, _ => by rw [List.merge_right]; exact h
  | x :: xs, y :: ys, hx, hy, hxy, hp, hq => by
    have hbx := hx x List.mem_cons_self
    have hby := hy y List.mem_cons_self
    obtain ⟨p1, p2⟩ := List.pairwise_cons.mp hp
    obtain ⟨q1, q2⟩ := List.pairwise_cons.mp hq
    by_cases h : le x y = true
    · rw [List.cons_merge_cons_pos _ _ _ h]
      refine List.pairwise_cons.mpr ⟨fun z hz => ?_, merge_good hle xs (y :: ys) (fun a ha => hx a (List.mem_cons_of_mem _ ha)) hy (fun a ha b hb => hxy a (List.mem_cons_of_mem _ ha) b hb) p2 hq⟩
      have h0 : xB ab bl x y := Or.inr ⟨(hle x y).mp h, hxy x List.mem_cons_self y List.mem_cons_self⟩
      rcases mem_merge hz with q | q
      · exact p1 z q
      · rcases List.mem_cons.mp q with q | q
        · rw [q]; exact h0
        · exact xB_tr hbx hby (hy z (List.mem_cons_of_mem _ q)) h0 (q1 z q)
    · rw [List.cons_merge_cons_neg _ _ _ h]
      refine List.pairwise_cons.mpr ⟨fun z hz => ?_, merge_good hle (x :: xs) ys hx (fun a ha => hy a (List.mem_cons_of_mem _ ha)) (fun a ha b hb => hxy a ha b (List.mem_cons_of_mem _ hb)) hp q2⟩
      have hg : xGt ab bl y x := by
        refine Classical.byContradiction fun q => h ((hle x y).mpr q)
      rcases mem_merge hz with q | q
      · rcases List.mem_cons.mp q with q | q
        · rw [q]; exact Or.inl hg
        · exact xB_tr hby hbx (hx z (List.mem_cons_of_mem _ q)) (Or.inl hg) (p1 z q)
      · exact q1 z q
/-- the places lo .. hi hold their own numbers, in order -/
def xGood (ab bl od : Nat → Nat) (lo hi : Nat) : Prop := (seg od lo (hi - lo)).Pairwise (xB ab bl) ∧ (seg od lo (hi - lo)).Perm (seg (fun k => k) lo (hi - lo))
theorem xGood_in {ab bl od : Nat → Nat} {lo hi j : Nat} (h : xGood ab bl od lo hi) (h1 : lo ≤ j) (h2 : j < hi) : lo ≤ od j ∧ od j < hi := by
  obtain ⟨k, a, b, c⟩ := seg_mem (h.2.mem_iff.mp (seg_in (f := od) h1 (show j < lo + (hi - lo) by omega)))
  have c : k = _ := c
  omega
theorem xGood_mem {ab bl od : Nat → Nat} {lo hi x : Nat} (h : xGood ab bl od lo hi) (hx : x ∈ seg od lo (hi - lo)) : lo ≤ x ∧ x < hi := by
  obtain ⟨k, a, b, c⟩ := seg_mem (h.2.mem_iff.mp hx)
  have c : k = _ := c
  omega
theorem xGood_congr {ab bl od od' : Nat → Nat} {lo hi : Nat} (h : ∀ j, lo ≤ j → j < hi → od' j = od j) (hg : xGood ab bl od lo hi) : xGood ab bl od' lo hi := by
  have e : seg od' lo (hi - lo) = seg od lo (hi - lo) := seg_congr (fun j h1 h2 => h j h1 (by omega))
  unfold xGood
  rw [e]
  exact hg
theorem xGood_merge {ab bl od sp : Nat → Nat} {le : Nat → Nat → Bool} (hle : ∀ a b, le a b = true ↔ ¬ xGt ab bl b a) {lo mid hi cn : Nat} (h1 : lo ≤ mid) (h2 : mid ≤ hi) (h3 : hi ≤ cn) (hbl : ∀ j, j < cn → 0 < bl j) (g1 : xGood ab bl od lo mid) (g2 : xGood ab bl od mid hi) (hm : seg sp lo (hi - lo) = List.merge (seg od lo (mid - lo)) (seg od mid (hi - mid)) le) : xGood ab bl sp lo hi := by
  unfold xGood
  rw [hm]
  refine ⟨merge_good hle _ _ (fun x hx => hbl x ?_) (fun x hx => hbl x ?_) (fun x hx y hy => ?_) g1.1 g2.1, ?_⟩
  · have := xGood_mem g1 hx; omega
  · have := xGood_mem g2 hx; omega
  · have q1 := xGood_mem g1 hx
    have q2 := xGood_mem g2 hy
    omega
  · refine (List.merge_perm_append (le := le)).trans ((g1.2.append g2.2).trans ?_)
    rw [show hi - lo = (mid - lo) + (hi - mid) by omega, seg_append, show lo + (mid - lo) = mid by omega]
theorem xGood_uniq {ab bl f g : Nat → Nat} {n : Nat} (h1 : xGood ab bl f 0 n) (h2 : xGood ab bl g 0 n) : ∀ j, j < n → f j = g j := by
  have e : seg f 0 (n - 0) = seg g 0 (n - 0) := (h1.2.trans h2.2.symm).eq_of_pairwise (fun a b _ _ p q => (xB_as p q).elim) h1.1 h2.1
  intro j hj
  have a := seg_get (f := f) (n := n - 0) (a := 0) (j := j) (by omega)
  have b := seg_get (f := g) (n := n - 0) (a := 0) (j := j) (by omega)
  rw [e] at a
  have := Option.some.inj (a.symm.trans b)
  rw [Nat.zero_add] at this
  exact this
