/-! the relation after each change: pure -/
theorem up_s {f : Nat → Int32} {i : Nat} {x : Int32} : upd f i x i = x := by simp [upd]
theorem up_n {f : Nat → Int32} {i j : Nat} {x : Int32} (h : j ≠ i) : upd f i x j = f j := by simp [upd, h]
theorem ul_s {f : Nat → Int64} {i : Nat} {x : Int64} : vp_updL f i x i = x := by simp [vp_updL]
theorem ul_n {f : Nat → Int64} {i j : Nat} {x : Int64} (h : j ≠ i) : vp_updL f i x j = f j := by simp [vp_updL, h]
section RP
variable {nc : Nat} {sd jn : Nat → Int32} {tc : Nat → Nat} {dt : Nat → Int32} {fd ld : Nat → Int64} {tk kd : Nat → Nat → Int32} {wn : Nat → Nat} {jc : Nat} {mS mT mK : Nat → Int32} {mC : Nat → Nat} {mD : Nat → Int32} {mF mO : Nat → Int64} {mP : Nat → Nat}
variable {jz jo : Nat → Nat} {ju : Nat → Int32} {jA jB : Nat → Nat} {cn : Nat} {zs os ab bl od pr o1 o2 u1 d1 : Nat → Nat}
theorem rNm_name (h : rNm nc sd jn tc dt fd ld tk kd wn jc mS mT mK mC mD mF mO mP) {p0 : Int32} (hn : nc < 50) : rNm (nc + 1) (upd sd nc p0) (upd jn nc (nI 0)) (va_up tc nc 0) (upd dt nc (nI 0)) (vp_updL fd nc (lN 0)) (vp_updL ld nc (lN 0)) (va_up tk nc (fun _ => 0)) (va_up kd nc (fun _ => 0)) wn jc (upd mS (nc + 1) p0) mT mK mC mD mF mO mP := by
  obtain ⟨⟨h0, hj, hw⟩, h2, h3, h4, h5, h6⟩ := h
  obtain ⟨f1, f2, f3, f4, f5⟩ := h5 (nc + 1) (by omega) (Or.inr (by omega))
  refine ⟨⟨by omega, hj, hw⟩, fun i hi => ?_, fun i hi => ?_, fun i hi => ?_, fun n hn q => h5 n hn (by omega), fun i hi => ?_⟩
  · by_cases e : i = nc
    · subst e
      refine ⟨⟨by rw [up_s, up_s], by rw [va_up_self]; exact f1, by rw [up_s]; exact f3, by rw [ul_s]; exact f4, by rw [ul_s]; exact f5⟩, fun k hk => ?_⟩
      rw [va_up_self] at hk
      omega
    · rw [up_n (f := mS) (show i + 1 ≠ nc + 1 by omega), up_n e, va_up_ne _ _ e, up_n e, ul_n e, ul_n e, va_up_ne _ _ e, va_up_ne _ _ e]
      exact h2 i (by omega)
  · by_cases e : i = nc
    · subst e
      rw [va_up_self]
      exact ⟨by omega, fun j hj => absurd hj (by omega)⟩
    · rw [va_up_ne _ _ e, va_up_ne _ _ e]
      exact h3 i (by omega)
  · by_cases e : i = nc
    · subst e
      rw [va_up_self]
      exact fun a b ha => absurd ha (by omega)
    · rw [va_up_ne _ _ e, va_up_ne _ _ e, va_up_ne _ _ e]
      exact h4 i (by omega)
  · by_cases e : i = nc
    · subst e
      rw [up_s, f2]
      exact ⟨⟨fun _ => rfl, fun _ => rfl⟩, by omega⟩
    · rw [up_n e]
      exact h6 i (by omega)
theorem rNm_token (h : rNm nc sd jn tc dt fd ld tk kd wn jc mS mT mK mC mD mF mO mP) {i : Nat} {p1 p2 : Int32} (hi : i < nc) (ht : tc i < 8) (hh : xHas (tk i) (kd i) p1 p2 (tc i) = false) (hp : ¬ p2 < 0 ∧ p2 < nI 3) : rNm nc sd jn (va_up tc i (tc i + 1)) dt fd ld (va_up tk i (upd (tk i) (tc i) p1)) (va_up kd i (upd (kd i) (tc i) p2)) wn jc mS (upd mT (8 * (i + 1) + tc i) p1) (upd mK (8 * (i + 1) + tc i) p2) (va_up mC (i + 1) (tc i + 1)) mD mF mO mP := by
  obtain ⟨h1, h2, h3, h4, h5, h6⟩ := h
  refine ⟨h1, fun k hk => ?_, fun k hk => ?_, fun k hk => ?_, fun n hn q => ?_, h6⟩
  · obtain ⟨⟨g1, g2, g3⟩, g4⟩ := h2 k hk
    by_cases e : k = i
    · subst e
      rw [va_up_self, va_up_self, va_up_self, va_up_self]
      refine ⟨⟨g1, rfl, g3⟩, fun j hj => ?_⟩
      by_cases e2 : j = tc k
      · subst e2
        rw [up_s, up_s, up_s, up_s]
        exact ⟨rfl, rfl⟩
      · rw [up_n (f := mT) (by omega), up_n (f := mK) (by omega), up_n e2, up_n e2]
        exact g4 j (by omega)
    · rw [va_up_ne _ _ e, va_up_ne _ _ e, va_up_ne _ _ e, va_up_ne _ _ (show k + 1 ≠ i + 1 by omega)]
      refine ⟨⟨g1, g2, g3⟩, fun j hj => ?_⟩
      have := (h3 k hk).1
      rw [up_n (f := mT) (by omega), up_n (f := mK) (by omega)]
      exact g4 j hj
  · obtain ⟨g1, g2⟩ := h3 k hk
    by_cases e : k = i
    · subst e
      rw [va_up_self, va_up_self]
      refine ⟨by omega, fun j hj => ?_⟩
      by_cases e2 : j = tc k
      · subst e2
        rw [up_s]
        obtain ⟨q, hq, rfl⟩ := nI_of hp.1
        have := (nI_ltI hq (by omega)).mp hp.2
        exact vp_in_nI (by omega) (by omega)
      · rw [up_n e2]
        exact g2 j (by omega)
    · rw [va_up_ne _ _ e, va_up_ne _ _ e]
      exact ⟨g1, g2⟩
  · by_cases e : k = i
    · subst e
      rw [va_up_self, va_up_self, va_up_self]
      have no : ∀ j, j < tc k → ¬ (tk k j = p1 ∧ kd k j = p2) := fun j hj z => by
        rw [xHas_t z hj] at hh
        cases hh
      intro a b ha hb
      by_cases ea : a = tc k
      · by_cases eb : b = tc k
        · intro _ _; omega
        · subst ea
          rw [up_s, up_s, up_n eb, up_n eb]
          exact fun z1 z2 => absurd ⟨z1.symm, z2.symm⟩ (no b (by omega))
      · by_cases eb : b = tc k
        · subst eb
          rw [up_s, up_s, up_n ea, up_n ea]
          exact fun z1 z2 => absurd ⟨z1, z2⟩ (no a (by omega))
        · rw [up_n ea, up_n ea, up_n eb, up_n eb]
          exact h4 k hk a b (by omega) (by omega)
    · rw [va_up_ne _ _ e, va_up_ne _ _ e, va_up_ne _ _ e]
      exact h4 k hk
  · rw [va_up_ne _ _ (by omega)]
    exact h5 n hn q
theorem rNm_date (h : rNm nc sd jn tc dt fd ld tk kd wn jc mS mT mK mC mD mF mO mP) {i : Nat} {p1 p2 : Int64} (hi : i < nc) : rNm nc sd jn tc (upd dt i (nI 1)) (vp_updL fd i p1) (vp_updL ld i p2) tk kd wn jc mS mT mK mC (upd mD (i + 1) (nI 1)) (vp_updL mF (i + 1) p1) (vp_updL mO (i + 1) p2) mP := by
  obtain ⟨h1, h2, h3, h4, h5, h6⟩ := h
  refine ⟨h1, fun k hk => ?_, h3, h4, fun n hn q => ?_, h6⟩
  · obtain ⟨⟨g1, g2, g3, g4, g5⟩, g6⟩ := h2 k hk
    by_cases e : k = i
    · subst e
      rw [up_s, up_s, ul_s, ul_s, ul_s, ul_s]
      exact ⟨⟨g1, g2, rfl, rfl, rfl⟩, g6⟩
    · rw [up_n e, ul_n e, ul_n e, up_n (show k + 1 ≠ i + 1 by omega), ul_n (show k + 1 ≠ i + 1 by omega), ul_n (show k + 1 ≠ i + 1 by omega)]
      exact ⟨⟨g1, g2, g3, g4, g5⟩, g6⟩
  · rw [up_n (show n ≠ i + 1 by omega), ul_n (show n ≠ i + 1 by omega), ul_n (show n ≠ i + 1 by omega)]
    exact h5 n hn q
theorem rNm_weight (h : rNm nc sd jn tc dt fd ld tk kd wn jc mS mT mK mC mD mF mO mP) {kk w : Nat} (hw : w ≤ 252000) : rNm nc sd jn tc dt fd ld tk kd (va_up wn kk w) jc mS mT mK mC mD mF mO mP := by
  obtain ⟨⟨h0, hj, hw0⟩, h2, h3, h4, h5, h6⟩ := h
  refine ⟨⟨h0, hj, fun k => ?_⟩, h2, h3, h4, h5, h6⟩
  by_cases e : k = kk
  · subst e; rw [va_up_self]; exact hw
  · rw [va_up_ne _ _ e]; exact hw0 k
theorem rNm_join (h : rNm nc sd jn tc dt fd ld tk kd wn jc mS mT mK mC mD mF mO mP) {i j : Nat} (hi : i < nc) (hj : j < nc) (hjc : jc < 100) : rNm nc sd (upd (upd jn i (nI 1)) j (nI 1)) tc dt fd ld tk kd wn (jc + 1) mS mT mK mC mD mF mO (va_up (va_up mP (i + 1) (jc + 1)) (j + 1) (jc + 1)) := by
  obtain ⟨⟨h0, hj0, hw0⟩, h2, h3, h4, h5, h6⟩ := h
  have ne : (nI 1 = 0) = False := by simp; decide
  refine ⟨⟨h0, by omega, hw0⟩, h2, h3, h4, fun n hn q => ?_, fun k hk => ?_⟩
  · rw [va_up_ne _ _ (by omega), va_up_ne _ _ (by omega)]
    exact h5 n hn q
  · by_cases e : k = j
    · subst e
      rw [up_s, va_up_self, ne]
      exact ⟨⟨False.elim, fun q => by omega⟩, by omega⟩
    · rw [up_n e, va_up_ne _ _ (show k + 1 ≠ j + 1 by omega)]
      by_cases e2 : k = i
      · subst e2
        rw [up_s, va_up_self, ne]
        exact ⟨⟨False.elim, fun q => by omega⟩, by omega⟩
      · rw [up_n e2, va_up_ne _ _ (show k + 1 ≠ i + 1 by omega)]
        exact ⟨(h6 k hk).1, by have := (h6 k hk).2; omega⟩
theorem rNm_undo (h : rNm nc sd jn tc dt fd ld tk kd wn jc mS mT mK mC mD mF mO mP) {i j : Nat} (hi : i < nc) (hj : j < nc) : rNm nc sd (upd (upd jn i (nI 0)) j (nI 0)) tc dt fd ld tk kd wn jc mS mT mK mC mD mF mO (va_up (va_up mP (i + 1) 0) (j + 1) 0) := by
  obtain ⟨h1, h2, h3, h4, h5, h6⟩ := h
  refine ⟨h1, h2, h3, h4, fun n hn q => ?_, fun k hk => ?_⟩
  · rw [va_up_ne _ _ (by omega), va_up_ne _ _ (by omega)]
    exact h5 n hn q
  · by_cases e : k = j
    · subst e
      rw [up_s, va_up_self]
      exact ⟨⟨fun _ => rfl, fun _ => rfl⟩, by omega⟩
    · rw [up_n e, va_up_ne _ _ (show k + 1 ≠ j + 1 by omega)]
      by_cases e2 : k = i
      · subst e2
        rw [up_s, va_up_self]
        exact ⟨⟨fun _ => rfl, fun _ => rfl⟩, by omega⟩
      · rw [up_n e2, va_up_ne _ _ (show k + 1 ≠ i + 1 by omega)]
        exact h6 k hk
theorem rJn_name (h : rJn nc sd jc jz jo ju mP jA jB) {p0 : Int32} : rJn (nc + 1) (upd sd nc p0) jc jz jo ju mP jA jB := by
  intro j hj
  obtain ⟨⟨g1, g2⟩, g3, g4⟩ := h j hj
  rw [up_n (show jz j ≠ nc by omega), up_n (show jo j ≠ nc by omega)]
  exact ⟨⟨by omega, by omega⟩, g3, g4⟩
theorem rJn_join (h : rJn nc sd jc jz jo ju mP jA jB) {i j : Nat} (hi : i < nc) (hj : j < nc) (si : sd i = nI 0) (sj : sd j = nI 1) (hp : mP (i + 1) = 0) : rJn nc sd (jc + 1) (va_up jz jc i) (va_up jo jc j) (upd ju jc (nI 0)) (va_up (va_up mP (i + 1) (jc + 1)) (j + 1) (jc + 1)) (va_up jA (jc + 1) (i + 1)) (va_up jB (jc + 1) (j + 1)) := by
  have n01 : ¬ nI 0 = nI 1 := by decide
  intro q hq
  by_cases e : q = jc
  · subst e
    rw [va_up_self, va_up_self, va_up_self, va_up_self, up_s, va_up_ne _ _ (show i + 1 ≠ j + 1 from fun z => by
      have z : i = j := by omega
      subst z
      exact n01 (si.symm.trans sj)), va_up_self]
    exact ⟨⟨hi, hj⟩, ⟨si, sj⟩, ⟨rfl, rfl⟩, ⟨fun _ => rfl, fun _ => rfl⟩⟩
  · obtain ⟨g1, g2, g3, g4⟩ := h q (by omega)
    rw [va_up_ne _ _ e, va_up_ne _ _ e, va_up_ne _ _ (show q + 1 ≠ jc + 1 by omega), va_up_ne _ _ (show q + 1 ≠ jc + 1 by omega), up_n e, va_up_ne _ _ (show jz q + 1 ≠ j + 1 from fun z => by
      have z : jz q = j := by omega
      have := g2.1
      rw [z] at this
      exact n01 (this.symm.trans sj))]
    refine ⟨g1, g2, g3, ?_⟩
    by_cases e2 : jz q = i
    · rw [e2] at g4 ⊢
      rw [va_up_self]
      rw [hp] at g4
      exact ⟨fun z => absurd (g4.mp z) (by omega), fun z => absurd z (by omega)⟩
    · rw [va_up_ne _ _ (show jz q + 1 ≠ i + 1 by omega)]
      exact g4
theorem rJn_undo (h : rJn nc sd jc jz jo ju mP jA jB) {i : Nat} (hi : i < jc) (hu : ju i = 0) : rJn nc sd jc jz jo (upd ju i (nI 1)) (va_up (va_up mP (jz i + 1) 0) (jo i + 1) 0) jA jB := by
  have n01 : ¬ nI 0 = nI 1 := by decide
  have ne : ¬ nI 1 = 0 := by decide
  obtain ⟨b1, b2, b3, b4⟩ := h i hi
  have b5 := b4.mp hu
  intro q hq
  obtain ⟨g1, g2, g3, g4⟩ := h q hq
  have no : jz q + 1 ≠ jo i + 1 := fun z => by
    have z : jz q = jo i := by omega
    have := g2.1
    rw [z] at this
    exact n01 (this.symm.trans b2.2)
  refine ⟨g1, g2, g3, ?_⟩
  rw [va_up_ne _ _ no]
  by_cases e2 : jz q = jz i
  · rw [e2, va_up_self]
    by_cases e : q = i
    · subst e
      rw [up_s]
      exact ⟨fun z => absurd z ne, fun z => absurd z (by omega)⟩
    · rw [up_n e, g4, e2, b5]
      exact ⟨fun z => absurd z (by omega), fun z => absurd z (by omega)⟩
  · rw [va_up_ne _ _ (show jz q + 1 ≠ jz i + 1 by omega)]
    have e : q ≠ i := fun z => e2 (by rw [z])
    rw [up_n e]
    exact g4
theorem rPr_name (h : rPr nc sd cn zs os ab bl od pr o1 o2 u1 d1) {p0 : Int32} : rPr (nc + 1) (upd sd nc p0) cn zs os ab bl od pr o1 o2 u1 d1 := by
  obtain ⟨h1, h2, h3, h4, h5, h6⟩ := h
  refine ⟨h1, h2, h3, fun k hk => ?_, h5, h6⟩
  obtain ⟨g1, ⟨i, hi, ei, si⟩, ⟨j, hj, ej, sj⟩⟩ := h4 k hk
  exact ⟨g1, ⟨i, by omega, ei, by rw [up_n (by omega)]; exact si⟩, ⟨j, by omega, ej, by rw [up_n (by omega)]; exact sj⟩⟩
end RP
def cBd (L : xLi) : Prop := ∀ j, L.2.1 j < 1000 ∧ L.2.2.1 j < 1000
theorem cRow_bd {C : Nat → Nat → Prop} {U D : Nat → Nat → Nat} {i : Nat} {L : xLi} (hi : i < 50) (h : cBd L) : ∀ n, n ≤ 50 → cBd (cRow C U D i n L)
  | 0, _ => h
  | n + 1, hn => by
    have h1 := cRow_bd (C := C) (U := U) (D := D) hi h n (by omega)
    show cBd (cStep C U D i n (cRow C U D i n L))
    by_cases q : C i n
    · rw [cStep_t q]
      intro j
      have h2 := h1 j
      show va_up _ _ (i + 1) j < 1000 ∧ va_up _ _ (n + 1) j < 1000
      by_cases e : j = (cRow C U D i n L).1
      · rw [e, va_up_self, va_up_self]; omega
      · rw [va_up_ne _ _ e, va_up_ne _ _ e]; exact h2
    · rw [cStep_f q]; exact h1
theorem cAll_bd {C : Nat → Nat → Prop} {U D : Nat → Nat → Nat} {n : Nat} {L : xLi} (hn : n ≤ 50) (h : cBd L) : ∀ i, i ≤ n → cBd (cAll C U D n i L)
  | 0, _ => h
  | i + 1, hi => cRow_bd (by omega) (cAll_bd hn h i (by omega)) n hn
theorem x_inr {i n : Nat} (hi : i < n) (hn : n ≤ 625) : ¬ nI i < 0 ∧ ¬ nI n ≤ nI i :=
  ⟨fun q => by have := (nI_ltI (a := i) (b := 0) (by omega) (by omega)).mp q; omega, fun q => by have := (nI_leI (by omega) (by omega)).mp q; omega⟩
theorem x_n1 {i n : Nat} (hi : i < n) (hn : n ≤ 100) : ¬ (nI (i + 1) < nI 1 ∨ ¬ nI (i + 1) ≤ nI n) := fun q => q.elim (fun z => by have := (nI_ltI (by omega) (by omega)).mp z; omega) (fun z => z ((nI_leI (by omega) (by omega)).mpr (by omega)))
