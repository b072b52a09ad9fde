/-! class and reference: the same numbers -/
theorem xHas_congr {tk kd tk' kd' : Nat → Int32} {x k : Int32} : ∀ {n : Nat}, (∀ j, j < n → tk' j = tk j ∧ kd' j = kd j) → xHas tk' kd' x k n = xHas tk kd x k n
  | 0, _ => rfl
  | n + 1, h => by
    simp only [xHas]
    rw [xHas_congr (n := n) (fun j hj => h j (by omega)), (h n (by omega)).1, (h n (by omega)).2]
theorem xAll_congr {kd kd' : Nat → Int32} {wn : Nat → Nat} : ∀ {n : Nat}, (∀ j, j < n → kd' j = kd j) → xAll kd' wn n = xAll kd wn n
  | 0, _ => rfl
  | n + 1, h => by
    simp only [xAll]
    rw [xAll_congr (n := n) (fun j hj => h j (by omega)), h n (by omega)]
theorem xSh_congr {tk kd otk okd tk' kd' otk' okd' : Nat → Int32} {otc : Nat} {wn : Nat → Nat} (ho : ∀ j, j < otc → otk' j = otk j ∧ okd' j = okd j) : ∀ {n : Nat}, (∀ j, j < n → tk' j = tk j ∧ kd' j = kd j) → xSh tk' kd' otk' okd' otc wn n = xSh tk kd otk okd otc wn n
  | 0, _ => rfl
  | n + 1, h => by
    simp only [xSh]
    rw [xSh_congr ho (n := n) (fun j hj => h j (by omega)), xHas_congr ho, (h n (by omega)).1, (h n (by omega)).2]
theorem xNs_congr {tk kd otk okd tk' kd' otk' okd' : Nat → Int32} {otc : Nat} {wn : Nat → Nat} (ho : ∀ j, j < otc → otk' j = otk j ∧ okd' j = okd j) : ∀ {n : Nat}, (∀ j, j < n → tk' j = tk j ∧ kd' j = kd j) → xNs tk' kd' otk' okd' otc wn n = xNs tk kd otk okd otc wn n
  | 0, _ => rfl
  | n + 1, h => by
    simp only [xNs]
    rw [xNs_congr ho (n := n) (fun j hj => h j (by omega)), xHas_congr ho, (h n (by omega)).1, (h n (by omega)).2]
theorem xNs_sh {tk kd otk okd : Nat → Int32} {otc : Nat} {wn : Nat → Nat} : ∀ n, xNs tk kd otk okd otc wn n + xSh tk kd otk okd otc wn n = xAll kd wn n
  | 0 => rfl
  | n + 1 => by
    have h := xNs_sh (tk := tk) (kd := kd) (otk := otk) (okd := okd) (otc := otc) (wn := wn) n
    simp only [xNs, xSh, xAll]
    split <;> omega
def xRw (x k : Int32) (otk okd : Nat → Int32) (wn : Nat → Nat) : Nat → Nat
  | 0 => 0
  | m + 1 => xRw x k otk okd wn m + if otk m = x ∧ okd m = k then wn k.toNatClampNeg else 0
theorem xRw_has {x k : Int32} {otk okd : Nat → Int32} {wn : Nat → Nat} : ∀ m, (∀ a b, a < m → b < m → otk a = otk b → okd a = okd b → a = b) → xRw x k otk okd wn m = if xHas otk okd x k m then wn k.toNatClampNeg else 0
  | 0, _ => rfl
  | m + 1, hd => by
    have h := xRw_has (x := x) (k := k) (otk := otk) (okd := okd) (wn := wn) m (fun a b ha hb => hd a b (by omega) (by omega))
    simp only [xRw]
    by_cases q : otk m = x ∧ okd m = k
    · have hf : xHas otk okd x k m = false := xHas_f (fun j hj z => by
        have := hd j m (by omega) (by omega) (z.1.trans q.1.symm) (z.2.trans q.2.symm)
        omega)
      rw [h, hf, if_pos q, xHas_t q (by omega)]
      simp
    · have he : xHas otk okd x k (m + 1) = xHas otk okd x k m := by
        simp only [xHas]
        cases xHas otk okd x k m with
        | true => rfl
        | false =>
          simp only [Bool.false_or, Bool.and_eq_false_iff, decide_eq_false_iff_not]
          by_cases q1 : otk m = x
          · exact Or.inr (fun q2 => q ⟨q1, q2⟩)
          · exact Or.inl q1
      rw [h, if_neg q, he, Nat.add_zero]
def xDb (tk kd otk okd : Nat → Int32) (wn : Nat → Nat) (m : Nat) : Nat → Nat
  | 0 => 0
  | n + 1 => xDb tk kd otk okd wn m n + xRw (tk n) (kd n) otk okd wn m
theorem xSh_db {tk kd otk okd : Nat → Int32} {wn : Nat → Nat} {m : Nat} (hd : ∀ a b, a < m → b < m → otk a = otk b → okd a = okd b → a = b) : ∀ n, xSh tk kd otk okd m wn n = xDb tk kd otk okd wn m n
  | 0 => rfl
  | n + 1 => by
    simp only [xSh, xDb]
    rw [xSh_db hd n, xRw_has m hd]
    split <;> omega
theorem xDb_z {tk kd otk okd : Nat → Int32} {wn : Nat → Nat} : ∀ m, xDb otk okd tk kd wn 0 m = 0
  | 0 => rfl
  | m + 1 => by simp only [xDb]; rw [xDb_z m]; rfl
theorem xDb_s {tk kd otk okd : Nat → Int32} {wn : Nat → Nat} {n : Nat} : ∀ m, xDb otk okd tk kd wn (n + 1) m = xDb otk okd tk kd wn n m + xRw (tk n) (kd n) otk okd wn m
  | 0 => rfl
  | m + 1 => by
    have h := xDb_s (tk := tk) (kd := kd) (otk := otk) (okd := okd) (wn := wn) (n := n) m
    simp only [xDb, xRw]
    rw [h]
    by_cases q : tk n = otk m ∧ kd n = okd m
    · rw [if_pos q, if_pos ⟨q.1.symm, q.2.symm⟩, q.2]; omega
    · rw [if_neg q, if_neg (fun z => q ⟨z.1.symm, z.2.symm⟩)]; omega
theorem xDb_swap {tk kd otk okd : Nat → Int32} {wn : Nat → Nat} {m : Nat} : ∀ n, xDb tk kd otk okd wn m n = xDb otk okd tk kd wn n m
  | 0 => (xDb_z m).symm
  | n + 1 => by
    rw [xDb_s]
    simp only [xDb]
    rw [xDb_swap n]
/-- what two names share, from either side -/
theorem xSh_sym {tk kd otk okd : Nat → Int32} {wn : Nat → Nat} {m n : Nat} (h1 : ∀ a b, a < m → b < m → otk a = otk b → okd a = okd b → a = b) (h2 : ∀ a b, a < n → b < n → tk a = tk b → kd a = kd b → a = b) : xSh tk kd otk okd m wn n = xSh otk okd tk kd n wn m := by
  rw [xSh_db h1, xSh_db h2, xDb_swap]
/-- the relation of the names -/
def rNm (nc : Nat) (sd jn : Nat → Int32) (tc : Nat → Nat) (dt : Nat → Int32) (fd ld : Nat → Int64) (tk kd : Nat → Nat → Int32) (wn : Nat → Nat) (jc : Nat) (mS mT mK : Nat → Int32) (mC : Nat → Nat) (mD : Nat → Int32) (mF mO : Nat → Int64) (mP : Nat → Nat) : Prop :=
  (nc ≤ 50 ∧ jc ≤ 100 ∧ ∀ k, wn k ≤ 252000) ∧
  (∀ i, i < nc → (mS (i + 1) = sd i ∧ mC (i + 1) = tc i ∧ mD (i + 1) = dt i ∧ mF (i + 1) = fd i ∧ mO (i + 1) = ld i) ∧ ∀ k, k < tc i → mT (8 * (i + 1) + k) = tk i k ∧ mK (8 * (i + 1) + k) = kd i k) ∧
  (∀ i, i < nc → tc i ≤ 8 ∧ ∀ j, j < tc i → vp_in (kd i j) 4) ∧
  (∀ i, i < nc → ∀ a b, a < tc i → b < tc i → tk i a = tk i b → kd i a = kd i b → a = b) ∧
  (∀ n, n ≤ 50 → n = 0 ∨ nc < n → mC n = 0 ∧ mP n = 0 ∧ mD n = 0 ∧ mF n = 0 ∧ mO n = 0) ∧
  (∀ i, i < nc → (jn i = 0 ↔ mP (i + 1) = 0) ∧ mP (i + 1) ≤ jc)
def rJn (nc : Nat) (sd : Nat → Int32) (jc : Nat) (jz jo : Nat → Nat) (ju : Nat → Int32) (mP jA jB : Nat → Nat) : Prop :=
  ∀ j, j < jc → (jz j < nc ∧ jo j < nc) ∧ (sd (jz j) = nI 0 ∧ sd (jo j) = nI 1) ∧ (jA (j + 1) = jz j + 1 ∧ jB (j + 1) = jo j + 1) ∧ (ju j = 0 ↔ mP (jz j + 1) = j + 1)
def rPr (nc : Nat) (sd : Nat → Int32) (cn : Nat) (zs os ab bl od pr o1 o2 u1 d1 : Nat → Nat) : Prop :=
  cn ≤ 625 ∧ xGood ab bl od 0 cn ∧
  (∀ k, k < cn → o1 k = zs (od k) ∧ o2 k = os (od k) ∧ u1 k = ab (od k) ∧ d1 k = bl (od k)) ∧
  (∀ k, k < cn → (0 < bl k ∧ ab k < 1000000000 ∧ bl k < 1000000000) ∧ (∃ i, i < nc ∧ zs k = i + 1 ∧ sd i = nI 0) ∧ (∃ j, j < nc ∧ os k = j + 1 ∧ sd j = nI 1)) ∧
  (∀ n, n ≤ 50 → (pr n = 0 ∨ pr n = 1) ∧ (pr n = 1 ↔ ∃ k, k < cn ∧ (zs k = n ∨ os k = n))) ∧
  (∀ j, zs j < 1000 ∧ os j < 1000)
section RL
variable {nc : Nat} {sd jn : Nat → Int32} {tc : Nat → Nat} {dt : Nat → Int32} {fd ld : Nat → Int64} {tk kd : Nat → Nat → Int32} {wn : Nat → Nat} {jc : Nat} {mS mT mK : Nat → Int32} {mC : Nat → Nat} {mD : Nat → Int32} {mF mO : Nat → Int64} {mP : Nat → Nat}
theorem rNm_c (h : rNm nc sd jn tc dt fd ld tk kd wn jc mS mT mK mC mD mF mO mP) : ∀ n, n ≤ 50 → mC n ≤ 8 := by
  obtain ⟨h1, h2, h3, h4, h5, h6⟩ := h
  intro n hn
  by_cases q : n = 0 ∨ nc < n
  · rw [(h5 n hn q).1]; omega
  · obtain ⟨i, rfl⟩ : ∃ i, n = i + 1 := ⟨n - 1, by omega⟩
    have := (h2 i (by omega)).1.2.1
    have := (h3 i (by omega)).1
    omega
theorem rNm_p (h : rNm nc sd jn tc dt fd ld tk kd wn jc mS mT mK mC mD mF mO mP) : ∀ n, n ≤ 50 → mP n ≤ 100 := by
  obtain ⟨h1, h2, h3, h4, h5, h6⟩ := h
  intro n hn
  by_cases q : n = 0 ∨ nc < n
  · rw [(h5 n hn q).2.1]; omega
  · obtain ⟨i, rfl⟩ : ∃ i, n = i + 1 := ⟨n - 1, by omega⟩
    have := (h6 i (by omega)).2
    omega
theorem rNm_k (h : rNm nc sd jn tc dt fd ld tk kd wn jc mS mT mK mC mD mF mO mP) : ∀ n, n ≤ 50 → ∀ i, i < mC n → vp_in (mK (8 * n + i)) 4 := by
  obtain ⟨h1, h2, h3, h4, h5, h6⟩ := h
  intro n hn k hk
  by_cases q : n = 0 ∨ nc < n
  · rw [(h5 n hn q).1] at hk; omega
  · obtain ⟨i, rfl⟩ : ∃ i, n = i + 1 := ⟨n - 1, by omega⟩
    have e := (h2 i (by omega)).1.2.1
    rw [((h2 i (by omega)).2 k (by omega)).2]
    exact (h3 i (by omega)).2 k (by omega)
theorem rNm_has (h : rNm nc sd jn tc dt fd ld tk kd wn jc mS mT mK mC mD mF mO mP) {i : Nat} (hi : i < nc) {x k : Int32} : xHas (fun k => mT (8 * (i + 1) + k)) (fun k => mK (8 * (i + 1) + k)) x k (mC (i + 1)) = xHas (tk i) (kd i) x k (tc i) := by
  obtain ⟨h1, h2, h3, h4, h5, h6⟩ := h
  rw [(h2 i hi).1.2.1]
  exact xHas_congr (fun j hj => (h2 i hi).2 j hj)
theorem rNm_sh (h : rNm nc sd jn tc dt fd ld tk kd wn jc mS mT mK mC mD mF mO mP) {i j : Nat} (hi : i < nc) (hj : j < nc) : mSh mT mK mC wn (i + 1) (j + 1) = xSh (tk i) (kd i) (tk j) (kd j) (tc j) wn (tc i) := by
  obtain ⟨h1, h2, h3, h4, h5, h6⟩ := h
  unfold mSh
  rw [(h2 i hi).1.2.1, (h2 j hj).1.2.1]
  exact xSh_congr (fun k hk => (h2 j hj).2 k hk) (fun k hk => (h2 i hi).2 k hk)
theorem rNm_U (h : rNm nc sd jn tc dt fd ld tk kd wn jc mS mT mK mC mD mF mO mP) {i j : Nat} (hi : i < nc) (hj : j < nc) : mU mT mK mC mD mF mO wn (i + 1) (j + 1) = cU tc dt fd ld tk kd wn i j := by
  have e := rNm_sh h hi hj
  obtain ⟨h1, h2, h3, h4, h5, h6⟩ := h
  unfold mU cU
  rw [e, (h2 i hi).1.2.2.1, (h2 j hj).1.2.2.1, (h2 i hi).1.2.2.2.1, (h2 j hj).1.2.2.2.1, (h2 i hi).1.2.2.2.2, (h2 j hj).1.2.2.2.2]
theorem rNm_Da (h : rNm nc sd jn tc dt fd ld tk kd wn jc mS mT mK mC mD mF mO mP) {i j : Nat} (hi : i < nc) (hj : j < nc) : mDa mT mK mC wn (i + 1) (j + 1) = xAll (kd i) wn (tc i) + xAll (kd j) wn (tc j) - xSh (tk i) (kd i) (tk j) (kd j) (tc j) wn (tc i) := by
  obtain ⟨h1, h2, h3, h4, h5, h6⟩ := h
  unfold mDa
  rw [(h2 i hi).1.2.1, (h2 j hj).1.2.1, xAll_congr (kd := kd i) (kd' := mTk mK (i + 1)) (fun k hk => ((h2 i hi).2 k hk).2), xNs_congr (tk := tk j) (kd := kd j) (otk := tk i) (okd := kd i) (tk' := mTk mT (j + 1)) (kd' := mTk mK (j + 1)) (otk' := mTk mT (i + 1)) (okd' := mTk mK (i + 1)) (fun k hk => (h2 i hi).2 k hk) (fun k hk => (h2 j hj).2 k hk)]
  have e1 := xNs_sh (tk := tk j) (kd := kd j) (otk := tk i) (okd := kd i) (otc := tc i) (wn := wn) (tc j)
  have e2 := xSh_sym (tk := tk i) (kd := kd i) (otk := tk j) (okd := kd j) (wn := wn) (h4 j hj) (h4 i hi)
  rw [e2]
  omega
theorem rNm_D (h : rNm nc sd jn tc dt fd ld tk kd wn jc mS mT mK mC mD mF mO mP) {i j : Nat} (hi : i < nc) (hj : j < nc) : mDn mT mK mC mD wn (i + 1) (j + 1) = cD tc dt tk kd wn i j := by
  have e := rNm_Da h hi hj
  obtain ⟨h1, h2, h3, h4, h5, h6⟩ := h
  unfold mDn cD
  rw [e, (h2 i hi).1.2.2.1, (h2 j hj).1.2.2.1]
end RL
theorem xGood_onto {ab bl od : Nat → Nat} {n k : Nat} (h : xGood ab bl od 0 n) (hk : k < n) : ∃ j, j < n ∧ od j = k := by
  have h1 : k ∈ seg (fun k => k) 0 (n - 0) := seg_in (f := fun k => k) (by omega) (by omega)
  obtain ⟨j, _, h3, h4⟩ := seg_mem (h.2.mem_iff.mpr h1)
  exact ⟨j, by omega, h4⟩
theorem xGood_le {ab bl od : Nat → Nat} {n p q : Nat} (h : xGood ab bl od 0 n) (hp : p ≤ q) (hq : q < n) : ¬ xGt ab bl (od q) (od p) := by
  by_cases e : p = q
  · subst e; unfold xGt; omega
  · have h0 := h.1
    have g1 : (seg od 0 (n - 0))[p]? = some (od (0 + p)) := seg_get (by omega)
    have g2 : (seg od 0 (n - 0))[q]? = some (od (0 + q)) := seg_get (by omega)
    rw [Nat.zero_add] at g1 g2
    obtain ⟨l1, m1⟩ := List.getElem?_eq_some_iff.mp g1
    obtain ⟨l2, m2⟩ := List.getElem?_eq_some_iff.mp g2
    have h3 := List.pairwise_iff_getElem.mp h0 p q l1 l2 (by omega)
    rw [m1, m2] at h3
    exact h3.elim gt_as (fun y => y.1)
theorem xBest_m {zs os ab bl od o1 o2 u1 d1 : Nat → Nat} {n i : Nat} (hg : xGood ab bl od 0 n) (he : ∀ k, k < n → o1 k = zs (od k) ∧ o2 k = os (od k) ∧ u1 k = ab (od k) ∧ d1 k = bl (od k)) (hi : i < n) : xBest zs os ab bl od i i ↔ mBest o1 o2 u1 d1 i n := by
  unfold xBest mBest
  obtain ⟨a1, a2, a3, a4⟩ := he i hi
  constructor
  · intro h k hk z
    obtain ⟨b1, b2, b3, b4⟩ := he k hk
    rw [a1, a2, a3, a4, b1, b2, b3, b4] at z
    by_cases q : k < i
    · exact h k q z
    · exact xGood_le hg (show i ≤ k by omega) hk z.2
  · intro h k hk z
    obtain ⟨b1, b2, b3, b4⟩ := he k (by omega)
    refine h k (by omega) ?_
    rw [a1, a2, a3, a4, b1, b2, b3, b4]
    exact z
theorem xScan_congr {P P' : Nat → Bool} {v v' : Nat → Int32} {k : Int32} : ∀ (f i b : Nat), (∀ j, i ≤ j → j < i + f → P' j = P j ∧ v' j = v j) → xScan P' v' k f i b = xScan P v k f i b
  | 0, _, _, _ => rfl
  | f + 1, i, b, h => by
    simp only [xScan]
    rw [xScan_congr f (i + 1) (b + 1) (fun j h1 h2 => h j (by omega) (by omega)), xScan_congr f (i + 1) b (fun j h1 h2 => h j (by omega) (by omega)), (h i (by omega) (by omega)).1, (h i (by omega) (by omega)).2]
theorem mNo_iff {o1 : Nat → Nat} {n : Nat} : ∀ k, mNo o1 n k = true ↔ ∀ j, j < k → o1 j ≠ n
  | 0 => ⟨fun _ j hj => absurd hj (by omega), fun _ => rfl⟩
  | k + 1 => by
    simp only [mNo, Bool.and_eq_true, Bool.not_eq_true', decide_eq_false_iff_not]
    rw [mNo_iff k]
    constructor
    · intro h j hj
      by_cases q : j = k
      · subst q; exact h.2
      · exact h.1 j (by omega)
    · intro h
      exact ⟨fun j hj => h j (by omega), h k (by omega)⟩
theorem rPr_no {nc : Nat} {sd : Nat → Int32} {cn : Nat} {zs os ab bl od pr o1 o2 u1 d1 : Nat → Nat} (h : rPr nc sd cn zs os ab bl od pr o1 o2 u1 d1) {j : Nat} (hj : j < nc) (hn : nc ≤ 50) (hs : sd j = 0) : mNo o1 (j + 1) cn = decide (pr (j + 1) = 0) := by
  obtain ⟨h1, h2, h3, h4, h5, h6⟩ := h
  obtain ⟨p1, p2⟩ := h5 (j + 1) (by omega)
  have key : pr (j + 1) = 1 ↔ ∃ k, k < cn ∧ o1 k = j + 1 := by
    rw [p2]
    constructor
    · rintro ⟨k, hk, z⟩
      rcases z with z | z
      · obtain ⟨q, hq, eq⟩ := xGood_onto h2 hk
        exact ⟨q, hq, by rw [(h3 q hq).1, eq]; exact z⟩
      · obtain ⟨i, hi, ei, si⟩ := (h4 k hk).2.2
        have e : i = j := by omega
        subst e
        rw [hs] at si
        exact absurd si (by decide)
    · rintro ⟨k, hk, z⟩
      exact ⟨od k, (xGood_in h2 (by omega) hk).2, Or.inl (by rw [← (h3 k hk).1]; exact z)⟩
  by_cases q : pr (j + 1) = 0
  · rw [decide_eq_true q, mNo_iff]
    intro k hk z
    have := key.mpr ⟨k, hk, z⟩
    omega
  · rw [decide_eq_false q]
    obtain ⟨k, hk, z⟩ := key.mp (by omega)
    cases hb : mNo o1 (j + 1) cn with
    | false => rfl
    | true => exact absurd z ((mNo_iff cn).mp hb k hk)
