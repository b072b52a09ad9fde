/-! a call of both: the same answer, and the relation again -/
set_option maxHeartbeats 1000000 in
theorem rl_name (l : Launch) (G : xG) (A : Nat → Prop) {M : xM} {a b o : Nat} (h : xRel G M a b o) (p0 : Int32) : ∃ post4 : Int32 → xM → Prop, Met l yX4_name wsX4_name rmX4_name (va_Pc ([.ref a, .int p0] : List Value) (xPc G A M)) (va_Qi post4 (xPc G A) A) 3 24 A ∧ ∀ r M1, post4 r M1 → (∃ fs, M1 500 = some (b, .inr (7, fs))) ∧ ∃ post5 : Int32 → xM → Prop, Met l yX5_name wsX5_name rmX5_name (va_Pc ([.ref b, .int p0] : List Value) (xPc G A M1)) (va_Qi post5 (xPc G A) A) 0 0 A ∧ ∀ r2 M2, post5 r2 M2 → r2 = r ∧ xRel G M2 a b o := by
  obtain ⟨ad, nc, sd, jn, tc, dt, fd, ld, tk, kd, wn, jc, jz, jo, ju, bg, cn, zs, os, ab, bl, od, sp, pr, fa, fb, am, th, mS, mT, mK, mC, mD, mF, mO, mP, o1, o2, u1, d1, jA, jB, mx, up, dn, ⟨ea, eb⟩, hR, hO, hN, hJ, hP, fo, hF⟩ := h
  subst ea
  subst eb
  refine ⟨_, ctX4_name l G A M hR p0 hN.1.1, fun r M1 hp => ?_⟩
  rcases hp with ⟨hs, hn, er, q0, q1, q2, eM⟩ | ⟨hs, er, eM⟩
  · have hf : ∀ t, 500 ≤ t → M1 t = M t := fun t ht => by rw [eM]; simp (disch := omega) only [xu_n]
    have hO1 := xMod_go hO hf
    have hR1 := xRec_name hR (q0 := q0) (q1 := q1) (q2 := q2) (p0 := p0) hn hN.1.2.1 (fun j hj => (hJ j hj).1)
    rw [← eM] at hR1
    refine ⟨⟨_, hO1.1⟩, _, ctX5_name l G A M1 hO1 p0 hN.1.1, fun r2 M2 hq => ?_⟩
    obtain ⟨hq, hf2⟩ := hq
    rcases hq with ⟨_, _, er2, hO2⟩ | ⟨hs2, _⟩
    · refine ⟨er2.trans er.symm, ⟨_, _, _, _, _, _, _, _, _, _, _, _, _, _, _, _, _, _, _, _, _, _, _, _, _, _, _, _, _, _, _, _, _, _, _, _, _, _, _, _, _, _, _, _, _, ?_, xRec_go hR1 (by omega) hN.1.2.1 hf2, hO2, rNm_name hN hn, rJn_name hJ, rPr_name hP, fo, ?_⟩⟩
      · exact ⟨ad3 (by omega), rfl⟩
      · rw [hf2 600 (by omega), hf 600 (by omega)]; exact hF
    · exact absurd ⟨hs, hn⟩ hs2
  · subst eM
    refine ⟨⟨_, hO.1⟩, _, ctX5_name l G A M1 hO p0 hN.1.1, fun r2 M2 hq => ?_⟩
    obtain ⟨hq, hf2⟩ := hq
    rcases hq with ⟨hs2, hn2, _⟩ | ⟨_, er2, hO2⟩
    · exact absurd ⟨hs2, hn2⟩ hs
    · refine ⟨er2.trans er.symm, ⟨_, _, _, _, _, _, _, _, _, _, _, _, _, _, _, _, _, _, _, _, _, _, _, _, _, _, _, _, _, _, _, _, _, _, _, _, _, _, _, _, _, _, _, _, _, ⟨rfl, rfl⟩, xRec_go hR hN.1.1 hN.1.2.1 hf2, hO2, hN, hJ, hP, fo, ?_⟩⟩
      rw [hf2 600 (by omega)]; exact hF
set_option maxHeartbeats 1000000 in
theorem rl_token (l : Launch) (G : xG) (A : Nat → Prop) {M : xM} {a b o : Nat} (h : xRel G M a b o) (p0 p1 p2 : Int32) : ∃ post4 : xM → Prop, Met l yX4_token wsX4_token rmX4_token (va_Pc ([.ref a, .int p0, .int p1, .int p2] : List Value) (xPc G A M)) (va_Qv post4 (xPc G A) A) 0 0 A ∧ ∀ M1, post4 M1 → (∃ fs, M1 500 = some (b, .inr (7, fs))) ∧ ∃ post5 : xM → Prop, Met l yX5_token wsX5_token rmX5_token (va_Pc ([.ref b, .int p0, .int p1, .int p2] : List Value) (xPc G A M1)) (va_Qv post5 (xPc G A) A) 0 0 A ∧ ∀ M2, post5 M2 → xRel G M2 a b o := by
  obtain ⟨ad, nc, sd, jn, tc, dt, fd, ld, tk, kd, wn, jc, jz, jo, ju, bg, cn, zs, os, ab, bl, od, sp, pr, fa, fb, am, th, mS, mT, mK, mC, mD, mF, mO, mP, o1, o2, u1, d1, jA, jB, mx, up, dn, ⟨ea, eb⟩, hR, hO, hN, hJ, hP, fo, hF⟩ := h
  subst ea
  subst eb
  have hmc := rNm_c hN
  refine ⟨_, ctX4_token l G A M hR p0 p1 p2 hN.1.1 hN.2.2.1, fun M1 hp => ?_⟩
  have same : M1 = M → (((p0 < nI 1 ∨ ¬ p0 ≤ nI nc) ∨ ¬ (¬ p2 < 0 ∧ p2 < nI 3)) ∨ ∃ i, i < nc ∧ p0 = nI (i + 1) ∧ ¬ (tc i < 8 ∧ xHas (tk i) (kd i) p1 p2 (tc i) = false)) → (∃ fs, M1 500 = some (am 500, .inr (7, fs))) ∧ ∃ post5 : xM → Prop, Met l yX5_token wsX5_token rmX5_token (va_Pc ([.ref (am 500), .int p0, .int p1, .int p2] : List Value) (xPc G A M1)) (va_Qv post5 (xPc G A) A) 0 0 A ∧ ∀ M2, post5 M2 → xRel G M2 (ad 0) (am 500) o := by
    intro eM hno
    subst eM
    refine ⟨⟨_, hO.1⟩, _, ctX5_token l G A M1 hO p0 p1 p2 hN.1.1 hmc, fun M2 hq => ?_⟩
    obtain ⟨hq, hf2⟩ := hq
    have hO2 : ∃ th9 : Int32, xMod G M2 am (th9) nc mS mT mK mC mD mF mO mP wn bg cn o1 o2 u1 d1 jc jA jB mx up dn := by
      rcases hq with ⟨i, hi, ei, hk, hq⟩ | ⟨_, hO2⟩
      · rcases hq with ⟨⟨hl, hx⟩, _⟩ | ⟨_, hO2⟩
        · rw [rNm_has hN hi] at hx
          rw [(hN.2.1 i hi).1.2.1] at hl
          rcases hno with hno | ⟨i', hi', ei', hno⟩
          · rw [ei] at hno
            rcases hno with hno | hno
            · exact absurd hno (x_n1 hi (by have := hN.1.1; omega))
            · exact absurd hk hno
          · have := (nI_eq (by have := hN.1.1; omega) (by have := hN.1.1; omega)).mp (ei.symm.trans ei')
            have : i = i' := by omega
            subst this
            exact absurd ⟨hl, hx⟩ hno
        · exact ⟨_, hO2⟩
      · exact ⟨_, hO2⟩
    obtain ⟨th9, hO2⟩ := hO2
    refine ⟨_, _, _, _, _, _, _, _, _, _, _, _, _, _, _, _, _, _, _, _, _, _, _, _, _, _, _, _, _, _, _, _, _, _, _, _, _, _, _, _, _, _, _, _, _, ⟨rfl, rfl⟩, xRec_go hR hN.1.1 hN.1.2.1 hf2, hO2, hN, hJ, hP, fo, ?_⟩
    rw [hf2 600 (by omega)]; exact hF
  rcases hp with ⟨i, hi, ei, hk, eM⟩ | ⟨hno, eM⟩
  · have hnc := hN.1.1
    by_cases hc : tc i < 8 ∧ xHas (tk i) (kd i) p1 p2 (tc i) = false
    · rw [if_pos hc] at eM
      have hf : ∀ t, 500 ≤ t → M1 t = M t := fun t ht => by rw [eM]; simp (disch := omega) only [xu_n]
      have hO1 := xMod_go hO hf
      have hR1 := xRec_token hR (p1 := p1) (p2 := p2) hi hN.1.1
      rw [← eM] at hR1
      refine ⟨⟨_, hO1.1⟩, _, ctX5_token l G A M1 hO1 p0 p1 p2 hN.1.1 hmc, fun M2 hq => ?_⟩
      obtain ⟨hq, hf2⟩ := hq
      have ec := (hN.2.1 i hi).1.2.1
      rcases hq with ⟨i', hi', ei', _, hq⟩ | ⟨hno, _⟩
      · have := (nI_eq (by have := hN.1.1; omega) (by have := hN.1.1; omega)).mp (ei.symm.trans ei')
        have : i = i' := by omega
        subst this
        rcases hq with ⟨_, hO2⟩ | ⟨hno, _⟩
        · rw [ec] at hO2
          refine ⟨_, _, _, _, _, _, _, _, _, _, _, _, _, _, _, _, _, _, _, _, _, _, _, _, _, _, _, _, _, _, _, _, _, _, _, _, _, _, _, _, _, _, _, _, _, ⟨rfl, rfl⟩, xRec_go hR1 hN.1.1 hN.1.2.1 hf2, hO2, rNm_token hN hi hc.1 hc.2 hk, hJ, hP, fo, ?_⟩
          rw [hf2 600 (by omega), hf 600 (by omega)]; exact hF
        · rw [rNm_has hN hi, ec] at hno
          exact absurd hc hno
      · rw [ei] at hno
        rcases hno with hno | hno
        · exact absurd hno (x_n1 hi (by omega))
        · exact absurd hk hno
    · rw [if_neg hc] at eM
      exact same eM (Or.inr ⟨i, hi, ei, hc⟩)
  · exact same eM (Or.inl hno)
set_option maxHeartbeats 1000000 in
theorem rl_date (l : Launch) (G : xG) (A : Nat → Prop) {M : xM} {a b o : Nat} (h : xRel G M a b o) (p0 : Int32) (p1 p2 : Int64) : ∃ post4 : xM → Prop, Met l yX4_date wsX4_date rmX4_date (va_Pc ([.ref a, .int p0, .long p1, .long p2] : List Value) (xPc G A M)) (va_Qv post4 (xPc G A) A) 0 0 A ∧ ∀ M1, post4 M1 → (∃ fs, M1 500 = some (b, .inr (7, fs))) ∧ ∃ post5 : xM → Prop, Met l yX5_date wsX5_date rmX5_date (va_Pc ([.ref b, .int p0, .long p1, .long p2] : List Value) (xPc G A M1)) (va_Qv post5 (xPc G A) A) 0 0 A ∧ ∀ M2, post5 M2 → xRel G M2 a b o := by
  obtain ⟨ad, nc, sd, jn, tc, dt, fd, ld, tk, kd, wn, jc, jz, jo, ju, bg, cn, zs, os, ab, bl, od, sp, pr, fa, fb, am, th, mS, mT, mK, mC, mD, mF, mO, mP, o1, o2, u1, d1, jA, jB, mx, up, dn, ⟨ea, eb⟩, hR, hO, hN, hJ, hP, fo, hF⟩ := h
  subst ea
  subst eb
  refine ⟨_, ctX4_date l G A M hR p0 p1 p2 hN.1.1 hN.2.2.1, fun M1 hp => ?_⟩
  have hnc := hN.1.1
  rcases hp with ⟨i, hi, ei, hk, eM⟩ | ⟨hno, eM⟩
  · have hf : ∀ t, 500 ≤ t → M1 t = M t := fun t ht => by rw [eM]; simp (disch := omega) only [xu_n]
    have hO1 := xMod_go hO hf
    have hR1 := xRec_date hR (p1 := p1) (p2 := p2) hi hN.1.1
    rw [← eM] at hR1
    refine ⟨⟨_, hO1.1⟩, _, ctX5_date l G A M1 hO1 p0 p1 p2 hN.1.1, fun M2 hq => ?_⟩
    obtain ⟨hq, hf2⟩ := hq
    rcases hq with ⟨i', hi', ei', _, hO2⟩ | ⟨hno, _⟩
    · have := (nI_eq (by omega) (by omega)).mp (ei.symm.trans ei')
      have : i = i' := by omega
      subst this
      refine ⟨_, _, _, _, _, _, _, _, _, _, _, _, _, _, _, _, _, _, _, _, _, _, _, _, _, _, _, _, _, _, _, _, _, _, _, _, _, _, _, _, _, _, _, _, _, ⟨rfl, rfl⟩, xRec_go hR1 hN.1.1 hN.1.2.1 hf2, hO2, rNm_date hN hi, hJ, hP, fo, ?_⟩
      rw [hf2 600 (by omega), hf 600 (by omega)]; exact hF
    · rw [ei] at hno
      rcases hno with hno | hno
      · exact absurd hno (x_n1 hi (by omega))
      · exact absurd hk hno
  · subst eM
    refine ⟨⟨_, hO.1⟩, _, ctX5_date l G A M1 hO p0 p1 p2 hN.1.1, fun M2 hq => ?_⟩
    obtain ⟨hq, hf2⟩ := hq
    rcases hq with ⟨i, hi, ei, hk, _⟩ | ⟨_, hO2⟩
    · rw [ei] at hno
      rcases hno with hno | hno
      · exact absurd hno (x_n1 hi (by omega))
      · exact absurd hk hno
    · refine ⟨_, _, _, _, _, _, _, _, _, _, _, _, _, _, _, _, _, _, _, _, _, _, _, _, _, _, _, _, _, _, _, _, _, _, _, _, _, _, _, _, _, _, _, _, _, ⟨rfl, rfl⟩, xRec_go hR hN.1.1 hN.1.2.1 hf2, hO2, hN, hJ, hP, fo, ?_⟩
      rw [hf2 600 (by omega)]; exact hF
set_option maxHeartbeats 1000000 in
theorem rl_weight (l : Launch) (G : xG) (A : Nat → Prop) {M : xM} {a b o : Nat} (h : xRel G M a b o) (p0 : Int32) (p1 p2 : Int64) : ∃ post4 : Int32 → xM → Prop, Met l yX4_weight wsX4_weight rmX4_weight (va_Pc ([.ref a, .int p0, .long p1, .long p2] : List Value) (xPc G A M)) (va_Qi post4 (xPc G A) A) 0 0 A ∧ ∀ r M1, post4 r M1 → (∃ fs, M1 500 = some (b, .inr (7, fs))) ∧ ∃ post5 : Int32 → xM → Prop, Met l yX5_weight wsX5_weight rmX5_weight (va_Pc ([.ref b, .int p0, .long p1, .long p2] : List Value) (xPc G A M1)) (va_Qi post5 (xPc G A) A) 0 0 A ∧ ∀ r2 M2, post5 r2 M2 → r2 = r ∧ xRel G M2 a b o := by
  obtain ⟨ad, nc, sd, jn, tc, dt, fd, ld, tk, kd, wn, jc, jz, jo, ju, bg, cn, zs, os, ab, bl, od, sp, pr, fa, fb, am, th, mS, mT, mK, mC, mD, mF, mO, mP, o1, o2, u1, d1, jA, jB, mx, up, dn, ⟨ea, eb⟩, hR, hO, hN, hJ, hP, fo, hF⟩ := h
  subst ea
  subst eb
  refine ⟨_, ctX4_weight l G A M hR p0 p1 p2, fun r M1 hp => ?_⟩
  rcases hp with ⟨kk, u, d, ⟨b1, b2, b3, b4⟩, ⟨e1, e2, e3⟩, er, eM⟩ | ⟨hno, er, eM⟩
  · have hf : ∀ t, 500 ≤ t → M1 t = M t := fun t ht => by rw [eM]; simp (disch := omega) only [xu_n]
    have hO1 := xMod_go hO hf
    have hR1 := xRec_weight hR (kk := kk) (w := u * (2520 / d))
    rw [← eM] at hR1
    refine ⟨⟨_, hO1.1⟩, _, ctX5_weight l G A M1 hO1 p0 p1 p2, fun r2 M2 hq => ?_⟩
    obtain ⟨hq, hf2⟩ := hq
    rcases hq with ⟨kk', u', d', ⟨c1, c2, c3, c4⟩, ⟨g1, g2, g3⟩, er2, hO2⟩ | ⟨hno, _⟩
    · have i1 := (nI_eq (by omega) (by omega)).mp (e1.symm.trans g1)
      have i2 := (pk_lEQ (by omega) (by omega)).mp (e2.symm.trans g2)
      have i3 := (pk_lEQ (by omega) (by omega)).mp (e3.symm.trans g3)
      subst i1
      subst i2
      subst i3
      rw [Nat.mul_comm] at hO2
      have hb : u * (2520 / d) ≤ 252000 := by
        have h9 : u * (2520 / d) ≤ 100 * 2520 := Nat.mul_le_mul b2 (Nat.div_le_self _ _)
        omega
      refine ⟨er2.trans er.symm, ⟨_, _, _, _, _, _, _, _, _, _, _, _, _, _, _, _, _, _, _, _, _, _, _, _, _, _, _, _, _, _, _, _, _, _, _, _, _, _, _, _, _, _, _, _, _, ⟨rfl, rfl⟩, xRec_go hR1 hN.1.1 hN.1.2.1 hf2, hO2, rNm_weight hN hb, hJ, hP, fo, ?_⟩⟩
      rw [hf2 600 (by omega), hf 600 (by omega)]; exact hF
    · exfalso
      rw [e1, e2, e3] at hno
      rcases hno with z | z | z | z | z | z
      · have := (nI_ltI (a := kk) (b := 0) (by omega) (by omega)).mp z; omega
      · have := (nI_leI (by omega) (by omega)).mp z; omega
      · have := (pk_lLT (by omega) (by omega)).mp z; omega
      · have := (pk_lLT (by omega) (by omega)).mp z; omega
      · have := (pk_lLT (by omega) (by omega)).mp z; omega
      · exact z ((pk_lLE (by omega) (by omega)).mpr (by omega))
  · subst eM
    refine ⟨⟨_, hO.1⟩, _, ctX5_weight l G A M1 hO p0 p1 p2, fun r2 M2 hq => ?_⟩
    obtain ⟨hq, hf2⟩ := hq
    rcases hq with ⟨kk, u, d, ⟨b1, b2, b3, b4⟩, ⟨e1, e2, e3⟩, _, _⟩ | ⟨_, er2, hO2⟩
    · exfalso
      rw [e1, e2, e3] at hno
      rcases hno with z | z | z | z | z | z
      · have := (nI_ltI (a := kk) (b := 0) (by omega) (by omega)).mp z; omega
      · have := (nI_leI (by omega) (by omega)).mp z; omega
      · have := (pk_lLT (by omega) (by omega)).mp z; omega
      · have := (pk_lLT (by omega) (by omega)).mp z; omega
      · have := (pk_lLT (by omega) (by omega)).mp z; omega
      · exact z ((pk_lLE (by omega) (by omega)).mpr (by omega))
    · refine ⟨er2.trans er.symm, ⟨_, _, _, _, _, _, _, _, _, _, _, _, _, _, _, _, _, _, _, _, _, _, _, _, _, _, _, _, _, _, _, _, _, _, _, _, _, _, _, _, _, _, _, _, _, ⟨rfl, rfl⟩, xRec_go hR hN.1.1 hN.1.2.1 hf2, hO2, hN, hJ, hP, fo, ?_⟩⟩
      rw [hf2 600 (by omega)]; exact hF
set_option maxHeartbeats 1000000 in
theorem rl_pair (l : Launch) (G : xG) (A : Nat → Prop) {M : xM} {a b o : Nat} (h : xRel G M a b o) (p0 p1 : Int32) : ∃ post4 : Int32 → xM → Prop, Met l yX4_pair wsX4_pair rmX4_pair (va_Pc ([.ref a, .int p0, .int p1] : List Value) (xPc G A M)) (va_Qi post4 (xPc G A) A) 0 0 A ∧ ∀ r M1, post4 r M1 → (∃ fs, M1 500 = some (b, .inr (7, fs))) ∧ ∃ post5 : Int32 → xM → Prop, Met l yX5_pair wsX5_pair rmX5_pair (va_Pc ([.ref b, .int p0, .int p1] : List Value) (xPc G A M1)) (va_Qi post5 (xPc G A) A) 0 0 A ∧ ∀ r2 M2, post5 r2 M2 → r2 = r ∧ xRel G M2 a b o := by
  obtain ⟨ad, nc, sd, jn, tc, dt, fd, ld, tk, kd, wn, jc, jz, jo, ju, bg, cn, zs, os, ab, bl, od, sp, pr, fa, fb, am, th, mS, mT, mK, mC, mD, mF, mO, mP, o1, o2, u1, d1, jA, jB, mx, up, dn, ⟨ea, eb⟩, hR, hO, hN, hJ, hP, fo, hF⟩ := h
  subst ea
  subst eb
  have hcn := hP.1
  refine ⟨_, ctX4_pair l G A M hR p0 p1 hcn (fun j hj => by have := (xGood_in hP.2.1 (by omega) hj).2; omega), fun r M1 hp => ?_⟩
  obtain ⟨eM, hp⟩ := hp
  subst eM
  refine ⟨⟨_, hO.1⟩, _, ctX5_pair l G A M1 hO p0 p1 hcn, fun r2 M2 hq => ?_⟩
  obtain ⟨hq, hO2, hf2⟩ := hq
  refine ⟨?_, ⟨_, _, _, _, _, _, _, _, _, _, _, _, _, _, _, _, _, _, _, _, _, _, _, _, _, _, _, _, _, _, _, _, _, _, _, _, _, _, _, _, _, _, _, _, _, ⟨rfl, rfl⟩, xRec_go hR hN.1.1 hN.1.2.1 hf2, hO2, hN, hJ, hP, fo, ?_⟩⟩
  · rcases hp with ⟨i, hi, ei, hs, er⟩ | ⟨hno, er⟩
    · rcases hq with ⟨i', hi', ei', _, er2⟩ | ⟨hno2, _⟩
      · have := (nI_eq (by omega) (by omega)).mp (ei.symm.trans ei')
        subst this
        rw [er, er2, (hP.2.2.1 i hi).1, (hP.2.2.1 i hi).2.1]
      · rw [ei] at hno2
        exact absurd ⟨x_inr hi hcn, hs⟩ hno2
    · rcases hq with ⟨i', hi', ei', hs2, er2⟩ | ⟨_, er2⟩
      · rw [ei'] at hno
        exact absurd ⟨x_inr hi' hcn, hs2⟩ hno
      · rw [er, er2]
  · rw [hf2 600 (by omega)]; exact hF
set_option maxHeartbeats 1000000 in
theorem rl_mutual (l : Launch) (G : xG) (A : Nat → Prop) {M : xM} {a b o : Nat} (h : xRel G M a b o) (p0 : Int32) : ∃ post4 : Int32 → xM → Prop, Met l yX4_mutual wsX4_mutual rmX4_mutual (va_Pc ([.ref a, .int p0] : List Value) (xPc G A M)) (va_Qi post4 (xPc G A) A) 0 0 A ∧ ∀ r M1, post4 r M1 → (∃ fs, M1 500 = some (b, .inr (7, fs))) ∧ ∃ post5 : Int32 → xM → Prop, Met l yX5_mutual wsX5_mutual rmX5_mutual (va_Pc ([.ref b, .int p0] : List Value) (xPc G A M1)) (va_Qi post5 (xPc G A) A) 0 0 A ∧ ∀ r2 M2, post5 r2 M2 → r2 = r ∧ xRel G M2 a b o := by
  obtain ⟨ad, nc, sd, jn, tc, dt, fd, ld, tk, kd, wn, jc, jz, jo, ju, bg, cn, zs, os, ab, bl, od, sp, pr, fa, fb, am, th, mS, mT, mK, mC, mD, mF, mO, mP, o1, o2, u1, d1, jA, jB, mx, up, dn, ⟨ea, eb⟩, hR, hO, hN, hJ, hP, fo, hF⟩ := h
  subst ea
  subst eb
  have hcn := hP.1
  refine ⟨_, ctX4_mutual l G A M hR p0 hcn (fun j hj => by have h9 := (xGood_in hP.2.1 (by omega) hj).2; exact ⟨by omega, (hP.2.2.2.1 _ h9).1.2⟩) (fun j _ => (hP.2.2.2.2.2 j).1) (fun j _ => (hP.2.2.2.2.2 j).2), fun r M1 hp => ?_⟩
  obtain ⟨eM, hp⟩ := hp
  subst eM
  refine ⟨⟨_, hO.1⟩, _, ctX5_mutual l G A M1 hO p0 hcn (fun k hk => by
    have h9 := (xGood_in hP.2.1 (by omega) hk).2
    obtain ⟨g1, g2, g3, g4⟩ := hP.2.2.1 k hk
    rw [g1, g2, g3, g4]
    exact ⟨(hP.2.2.2.2.2 _).1, (hP.2.2.2.2.2 _).2, (hP.2.2.2.1 _ h9).1.2⟩), fun r2 M2 hq => ?_⟩
  obtain ⟨hq, hO2, hf2⟩ := hq
  refine ⟨?_, ⟨_, _, _, _, _, _, _, _, _, _, _, _, _, _, _, _, _, _, _, _, _, _, _, _, _, _, _, _, _, _, _, _, _, _, _, _, _, _, _, _, _, _, _, _, _, ⟨rfl, rfl⟩, xRec_go hR hN.1.1 hN.1.2.1 hf2, hO2, hN, hJ, hP, fo, ?_⟩⟩
  · rcases hp with ⟨i, hi, ei, er⟩ | ⟨hno, er⟩
    · rcases hq with ⟨i', hi', ei', er2⟩ | ⟨hno2, _⟩
      · have := (nI_eq (by omega) (by omega)).mp (ei.symm.trans ei')
        subst this
        have key := xBest_m hP.2.1 hP.2.2.1 hi
        rcases er with ⟨er, z⟩ | ⟨er, z⟩
        · rcases er2 with ⟨er2, _⟩ | ⟨_, z2⟩
          · exact er2.trans er.symm
          · exact absurd (key.mpr z2) z
        · rcases er2 with ⟨_, z2⟩ | ⟨er2, _⟩
          · exact absurd (key.mp z) z2
          · exact er2.trans er.symm
      · rw [ei] at hno2
        exact absurd (x_inr hi hcn) hno2
    · rcases hq with ⟨i', hi', ei', _⟩ | ⟨_, er2⟩
      · rw [ei'] at hno
        exact absurd (x_inr hi' hcn) hno
      · rw [er, er2]
  · rw [hf2 600 (by omega)]; exact hF
set_option maxHeartbeats 1000000 in
theorem rl_sample (l : Launch) (G : xG) (A : Nat → Prop) {M : xM} {a b o : Nat} (h : xRel G M a b o) (p1 : Int64) (p0 : Int32) : ∃ post4 : Int32 → xM → Prop, Met l yX4_sample wsX4_sample rmX4_sample (va_Pc ([.ref a, .long p1, .int p0] : List Value) (xPc G A M)) (va_Qi post4 (xPc G A) A) 0 0 A ∧ ∀ r M1, post4 r M1 → (∃ fs, M1 500 = some (b, .inr (7, fs))) ∧ ∃ post5 : Int32 → xM → Prop, Met l yX5_sample wsX5_sample rmX5_sample (va_Pc ([.ref b, .long p1, .int p0] : List Value) (xPc G A M1)) (va_Qi post5 (xPc G A) A) 0 0 A ∧ ∀ r2 M2, post5 r2 M2 → r2 = r ∧ xRel G M2 a b o := by
  obtain ⟨ad, nc, sd, jn, tc, dt, fd, ld, tk, kd, wn, jc, jz, jo, ju, bg, cn, zs, os, ab, bl, od, sp, pr, fa, fb, am, th, mS, mT, mK, mC, mD, mF, mO, mP, o1, o2, u1, d1, jA, jB, mx, up, dn, ⟨ea, eb⟩, hR, hO, hN, hJ, hP, fo, hF⟩ := h
  subst ea
  subst eb
  have hcn := hP.1
  refine ⟨_, ctX4_sample l G A M hR p1 p0 hcn, fun r M1 hp => ?_⟩
  have hR1 : ∃ s7 : Nat → Nat, xRec G M1 ad nc sd jn tc dt fd ld tk kd wn jc jz jo ju bg cn zs os ab bl od (s7) pr fa fb := by
    rcases hp with ⟨_, _, _, _, s7, eM⟩ | ⟨_, _, eM⟩
    · rw [eM]; exact ⟨_, xRec_spare hR⟩
    · rw [eM]; exact ⟨_, hR⟩
  obtain ⟨s7, hR1⟩ := hR1
  have hf : ∀ t, 500 ≤ t → M1 t = M t := fun t ht => by
    rcases hp with ⟨_, _, _, _, s7, eM⟩ | ⟨_, _, eM⟩
    · rw [eM]; simp (disch := omega) only [xu_n]
    · rw [eM]
  have hO1 := xMod_go hO hf
  refine ⟨⟨_, hO1.1⟩, _, ctX5_sample l G A M1 hO1 p1 p0 hcn, fun r2 M2 hq => ?_⟩
  obtain ⟨hq, hf2⟩ := hq
  have hO2 : ∃ m7 : Nat → Nat, xMod G M2 am (nI 0) nc mS mT mK mC mD mF mO mP wn bg cn o1 o2 u1 d1 jc jA jB (m7) up dn := by
    rcases hq with ⟨_, _, _, _, m7, hO2⟩ | ⟨_, _, hO2⟩
    · exact ⟨m7, hO2⟩
    · exact ⟨_, hO2⟩
  obtain ⟨m7, hO2⟩ := hO2
  refine ⟨?_, ⟨_, _, _, _, _, _, _, _, _, _, _, _, _, _, _, _, _, _, _, _, _, _, _, _, _, _, _, _, _, _, _, _, _, _, _, _, _, _, _, _, _, _, _, _, _, ⟨rfl, rfl⟩, xRec_go hR1 hN.1.1 hN.1.2.1 hf2, hO2, hN, hJ, hP, fo, ?_⟩⟩
  · rcases hp with ⟨i, hi, ei, er, _⟩ | ⟨hno, er, _⟩
    · rcases hq with ⟨i', hi', ei', er2, _⟩ | ⟨hno2, _⟩
      · have := (nI_eq (by omega) (by omega)).mp (ei.symm.trans ei')
        subst this
        rw [er, er2, xMix_congr (k := cn - 1) (n := cn) (f := xIota mx cn) (g := xIota sp cn) (by omega) (fun j hj => by simp only [xIota, if_pos hj]) i hi]
      · rw [ei] at hno2
        exact absurd (x_inr hi hcn) hno2
    · rcases hq with ⟨i', hi', ei', _⟩ | ⟨_, er2, _⟩
      · rw [ei'] at hno
        exact absurd (x_inr hi' hcn) hno
      · rw [er, er2]
  · rw [hf2 600 (by omega), hf 600 (by omega)]; exact hF
set_option maxHeartbeats 1000000 in
theorem rl_best (l : Launch) (G : xG) (A : Nat → Prop) {M : xM} {a b o : Nat} (h : xRel G M a b o) (p0 p1 p2 : Int32) : ∃ post4 : Int32 → xM → Prop, Met l yX4_best wsX4_best rmX4_best (va_Pc ([.ref a, .int p0, .int p1, .int p2] : List Value) (xPc G A M)) (va_Qi post4 (xPc G A) A) 0 0 A ∧ ∀ r M1, post4 r M1 → (∃ fs, M1 500 = some (b, .inr (7, fs))) ∧ ∃ post5 : Int32 → xM → Prop, Met l yX5_best wsX5_best rmX5_best (va_Pc ([.ref b, .int p0, .int p1, .int p2] : List Value) (xPc G A M1)) (va_Qi post5 (xPc G A) A) 0 0 A ∧ ∀ r2 M2, post5 r2 M2 → r2 = r ∧ xRel G M2 a b o := by
  obtain ⟨ad, nc, sd, jn, tc, dt, fd, ld, tk, kd, wn, jc, jz, jo, ju, bg, cn, zs, os, ab, bl, od, sp, pr, fa, fb, am, th, mS, mT, mK, mC, mD, mF, mO, mP, o1, o2, u1, d1, jA, jB, mx, up, dn, ⟨ea, eb⟩, hR, hO, hN, hJ, hP, fo, hF⟩ := h
  subst ea
  subst eb
  have hcn := hP.1
  refine ⟨_, ctX4_best l G A M hR p0 p1 p2 hcn (fun j hj => by have := (xGood_in hP.2.1 (by omega) hj).2; omega), fun r M1 hp => ?_⟩
  obtain ⟨eM, hp⟩ := hp
  subst eM
  refine ⟨⟨_, hO.1⟩, _, ctX5_best l G A M1 hO p0 p1 p2 hcn, fun r2 M2 hq => ?_⟩
  obtain ⟨hq, hO2, hf2⟩ := hq
  refine ⟨?_, ⟨_, _, _, _, _, _, _, _, _, _, _, _, _, _, _, _, _, _, _, _, _, _, _, _, _, _, _, _, _, _, _, _, _, _, _, _, _, _, _, _, _, _, _, _, _, ⟨rfl, rfl⟩, xRec_go hR hN.1.1 hN.1.2.1 hf2, hO2, hN, hJ, hP, fo, ?_⟩⟩
  · rcases hp with ⟨i, hi, ei, hs, er⟩ | ⟨hno, er⟩
    · rcases hq with ⟨i', hi', ei', _, er2⟩ | ⟨hno2, _⟩
      · have := (nI_eq (by omega) (by omega)).mp (ei.symm.trans ei')
        subst this
        rw [er, er2]
        exact xScan_congr _ _ _ (fun j _ hj => by
          obtain ⟨g1, g2, g3, g4⟩ := hP.2.2.1 j (by omega)
          simp only [g1, g2, and_self])
      · refine absurd ⟨?_, hs⟩ hno2
        rcases (show i = 0 ∨ i = 1 by omega) with z | z
        · subst z; exact Or.inl ei
        · subst z; exact Or.inr ei
    · rcases hq with ⟨i', hi', ei', hs, er2⟩ | ⟨_, er2⟩
      · refine absurd ⟨?_, hs⟩ hno
        rcases (show i' = 0 ∨ i' = 1 by omega) with z | z
        · subst z; exact Or.inl ei'
        · subst z; exact Or.inr ei'
      · rw [er, er2]
  · rw [hf2 600 (by omega)]; exact hF
set_option maxHeartbeats 1000000 in
theorem rl_none (l : Launch) (G : xG) (A : Nat → Prop) {M : xM} {a b o : Nat} (h : xRel G M a b o) (p0 : Int32) : ∃ post4 : Int32 → xM → Prop, Met l yX4_none wsX4_none rmX4_none (va_Pc ([.ref a, .int p0] : List Value) (xPc G A M)) (va_Qi post4 (xPc G A) A) 0 0 A ∧ ∀ r M1, post4 r M1 → (∃ fs, M1 500 = some (b, .inr (7, fs))) ∧ ∃ post5 : Int32 → xM → Prop, Met l yX5_none wsX5_none rmX5_none (va_Pc ([.ref b, .int p0] : List Value) (xPc G A M1)) (va_Qi post5 (xPc G A) A) 0 0 A ∧ ∀ r2 M2, post5 r2 M2 → r2 = r ∧ xRel G M2 a b o := by
  obtain ⟨ad, nc, sd, jn, tc, dt, fd, ld, tk, kd, wn, jc, jz, jo, ju, bg, cn, zs, os, ab, bl, od, sp, pr, fa, fb, am, th, mS, mT, mK, mC, mD, mF, mO, mP, o1, o2, u1, d1, jA, jB, mx, up, dn, ⟨ea, eb⟩, hR, hO, hN, hJ, hP, fo, hF⟩ := h
  subst ea
  subst eb
  have hcn := hP.1
  refine ⟨_, ctX4_none l G A M hR p0 hN.1.1 hcn (fun j hj => by rcases (hP.2.2.2.2.1 j hj).1 with z | z <;> omega), fun r M1 hp => ?_⟩
  obtain ⟨eM, hp⟩ := hp
  subst eM
  refine ⟨⟨_, hO.1⟩, _, ctX5_none l G A M1 hO p0 hN.1.1 hcn (fun k hk => by rw [(hP.2.2.1 k hk).1]; exact (hP.2.2.2.2.2 _).1), fun r2 M2 hq => ?_⟩
  obtain ⟨hq, hO2, hf2⟩ := hq
  refine ⟨?_, ⟨_, _, _, _, _, _, _, _, _, _, _, _, _, _, _, _, _, _, _, _, _, _, _, _, _, _, _, _, _, _, _, _, _, _, _, _, _, _, _, _, _, _, _, _, _, ⟨rfl, rfl⟩, xRec_go hR hN.1.1 hN.1.2.1 hf2, hO2, hN, hJ, hP, fo, ?_⟩⟩
  · rw [hp, hq]
    by_cases z : p0 < 0 ∨ bg = 0
    · rw [if_pos z, if_pos z]
    · rw [if_neg z, if_neg z]
      refine xScan_congr _ _ _ (fun j _ hj => ⟨?_, rfl⟩)
      have hj : j < nc := by omega
      simp only [(hN.2.1 j hj).1.1]
      by_cases zs0 : sd j = 0
      · rw [rPr_no hP hj hN.1.1 zs0]
      · simp only [zs0, decide_false, Bool.false_and]
  · rw [hf2 600 (by omega)]; exact hF
set_option maxHeartbeats 1000000 in
theorem rl_join (l : Launch) (G : xG) (A : Nat → Prop) {M : xM} {a b o : Nat} (h : xRel G M a b o) (p0 p1 : Int32) : ∃ post4 : Int32 → xM → Prop, Met l yX4_join wsX4_join rmX4_join (va_Pc ([.ref a, .int p0, .int p1] : List Value) (xPc G A M)) (va_Qi post4 (xPc G A) A) 1 3 A ∧ ∀ r M1, post4 r M1 → (∃ fs, M1 500 = some (b, .inr (7, fs))) ∧ ∃ post5 : Int32 → xM → Prop, Met l yX5_join wsX5_join rmX5_join (va_Pc ([.ref b, .int p0, .int p1] : List Value) (xPc G A M1)) (va_Qi post5 (xPc G A) A) 0 0 A ∧ ∀ r2 M2, post5 r2 M2 → r2 = r ∧ xRel G M2 a b o := by
  obtain ⟨ad, nc, sd, jn, tc, dt, fd, ld, tk, kd, wn, jc, jz, jo, ju, bg, cn, zs, os, ab, bl, od, sp, pr, fa, fb, am, th, mS, mT, mK, mC, mD, mF, mO, mP, o1, o2, u1, d1, jA, jB, mx, up, dn, ⟨ea, eb⟩, hR, hO, hN, hJ, hP, fo, hF⟩ := h
  subst ea
  subst eb
  have hnc := hN.1.1
  have hjc := hN.1.2.1
  have hmp := rNm_p hN
  have iff9 : ∀ i j, i < nc → j < nc → ((((sd i = nI 0 ∧ jn i = 0) ∧ (sd j = nI 1 ∧ jn j = 0))) ↔ ((mS (i + 1) = nI 0 ∧ mP (i + 1) = 0) ∧ (mS (j + 1) = nI 1 ∧ mP (j + 1) = 0))) := fun i j hi hj => by
    rw [(hN.2.1 i hi).1.1, (hN.2.1 j hj).1.1, (hN.2.2.2.2.2 i hi).1, (hN.2.2.2.2.2 j hj).1]
  refine ⟨_, ctX4_join l G A M hR p0 p1 hnc hjc hN.2.2.1, fun r M1 hp => ?_⟩
  rcases hp with ⟨i, j, hi, hj, ⟨ei, ej⟩, hjl, hc, er, q0, eM⟩ | ⟨hno, er, eM⟩
  · have hf : ∀ t, 500 ≤ t → M1 t = M t := fun t ht => by rw [eM]; simp (disch := omega) only [xu_n]
    have hO1 := xMod_go hO hf
    have hij : i ≠ j := fun z => by
      subst z
      exact absurd (hc.1.1.symm.trans hc.2.1) (by decide)
    have hR1 := xRec_join hR (q0 := q0) hi hj hij hnc hjl (fun q hq => by have := (hJ q hq).1.1; omega) (fun q hq => by have := (hJ q hq).1.2; omega)
    rw [← eM] at hR1
    refine ⟨⟨_, hO1.1⟩, _, ctX5_join l G A M1 hO1 p0 p1 hnc hjc hmp, fun r2 M2 hq => ?_⟩
    obtain ⟨hq, hf2⟩ := hq
    rcases hq with ⟨i', j', ⟨hi', hj', ⟨ei', ej'⟩, _, hc'⟩, er2, hO2⟩ | ⟨hno, _⟩
    · have z1 := (nI_eq (by omega) (by omega)).mp (ei.symm.trans ei')
      have z2 := (nI_eq (by omega) (by omega)).mp (ej.symm.trans ej')
      have z1 : i = i' := by omega
      have z2 : j = j' := by omega
      subst z1
      subst z2
      refine ⟨er2.trans er.symm, ⟨_, _, _, _, _, _, _, _, _, _, _, _, _, _, _, _, _, _, _, _, _, _, _, _, _, _, _, _, _, _, _, _, _, _, _, _, _, _, _, _, _, _, _, _, _, ?_, xRec_go hR1 hnc (by omega) hf2, hO2, rNm_join hN hi hj hjl, rJn_join hJ hi hj hc.1.1 hc.2.1 hc'.1.2, hP, fo, ?_⟩⟩
      · exact ⟨va_up_ne _ _ (by omega), rfl⟩
      · rw [hf2 600 (by omega), hf 600 (by omega)]; exact hF
    · exact absurd ⟨i, j, hi, hj, ⟨ei, ej⟩, hjl, (iff9 i j hi hj).mp hc⟩ hno
  · subst eM
    refine ⟨⟨_, hO.1⟩, _, ctX5_join l G A M1 hO p0 p1 hnc hjc hmp, fun r2 M2 hq => ?_⟩
    obtain ⟨hq, hf2⟩ := hq
    rcases hq with ⟨i, j, ⟨hi, hj, he, hjl, hc⟩, _, _⟩ | ⟨_, er2, hO2⟩
    · exact absurd ⟨i, j, hi, hj, he, hjl, (iff9 i j hi hj).mpr hc⟩ hno
    · refine ⟨er2.trans er.symm, ⟨_, _, _, _, _, _, _, _, _, _, _, _, _, _, _, _, _, _, _, _, _, _, _, _, _, _, _, _, _, _, _, _, _, _, _, _, _, _, _, _, _, _, _, _, _, ⟨rfl, rfl⟩, xRec_go hR hnc hjc hf2, hO2, hN, hJ, hP, fo, ?_⟩⟩
      rw [hf2 600 (by omega)]; exact hF
set_option maxHeartbeats 1000000 in
theorem rl_undo (l : Launch) (G : xG) (A : Nat → Prop) {M : xM} {a b o : Nat} (h : xRel G M a b o) (p0 : Int32) : ∃ post4 : Int32 → xM → Prop, Met l yX4_undo wsX4_undo rmX4_undo (va_Pc ([.ref a, .int p0] : List Value) (xPc G A M)) (va_Qi post4 (xPc G A) A) 0 0 A ∧ ∀ r M1, post4 r M1 → (∃ fs, M1 500 = some (b, .inr (7, fs))) ∧ ∃ post5 : Int32 → xM → Prop, Met l yX5_undo wsX5_undo rmX5_undo (va_Pc ([.ref b, .int p0] : List Value) (xPc G A M1)) (va_Qi post5 (xPc G A) A) 0 0 A ∧ ∀ r2 M2, post5 r2 M2 → r2 = r ∧ xRel G M2 a b o := by
  obtain ⟨ad, nc, sd, jn, tc, dt, fd, ld, tk, kd, wn, jc, jz, jo, ju, bg, cn, zs, os, ab, bl, od, sp, pr, fa, fb, am, th, mS, mT, mK, mC, mD, mF, mO, mP, o1, o2, u1, d1, jA, jB, mx, up, dn, ⟨ea, eb⟩, hR, hO, hN, hJ, hP, fo, hF⟩ := h
  subst ea
  subst eb
  have hnc := hN.1.1
  have hjc := hN.1.2.1
  have hmp := rNm_p hN
  have ne : ∀ j, j < jc → jz j ≠ jo j := fun j hj z => by
    have := (hJ j hj).2.1.1
    rw [z] at this
    exact absurd (this.symm.trans (hJ j hj).2.1.2) (by decide)
  refine ⟨_, ctX4_undo l G A M hR p0 hnc hjc (fun j hj => ⟨(hJ j hj).1.1, (hJ j hj).1.2, ne j hj⟩), fun r M1 hp => ?_⟩
  have hjk : ∀ j, j < jc → jA (j + 1) ≤ 50 ∧ jB (j + 1) ≤ 50 := fun j hj => by
    obtain ⟨⟨a1, a2⟩, _, ⟨a3, a4⟩, _⟩ := hJ j hj
    omega
  rcases hp with ⟨i, hi, ei, hu, er, eM⟩ | ⟨hno, er, eM⟩
  · obtain ⟨⟨a1, a2⟩, a5, ⟨a3, a4⟩, a6⟩ := hJ i hi
    have hf : ∀ t, 500 ≤ t → M1 t = M t := fun t ht => by rw [eM]; simp (disch := omega) only [xu_n]
    have hO1 := xMod_go hO hf
    have hR1 := xRec_undo hR hi a1 a2 (ne i hi) hnc hjc
    rw [← eM] at hR1
    refine ⟨⟨_, hO1.1⟩, _, ctX5_undo l G A M1 hO1 p0 hjc hmp hjk, fun r2 M2 hq => ?_⟩
    obtain ⟨hq, hf2⟩ := hq
    rcases hq with ⟨i', hi', ei', _, er2, hO2⟩ | ⟨hno, _⟩
    · have z1 := (nI_eq (by omega) (by omega)).mp (ei.symm.trans ei')
      have z1 : i = i' := by omega
      subst z1
      rw [a3, a4] at hO2
      refine ⟨er2.trans er.symm, ⟨_, _, _, _, _, _, _, _, _, _, _, _, _, _, _, _, _, _, _, _, _, _, _, _, _, _, _, _, _, _, _, _, _, _, _, _, _, _, _, _, _, _, _, _, _, ⟨rfl, rfl⟩, xRec_go hR1 hnc hjc hf2, hO2, rNm_undo hN a1 a2, rJn_undo hJ hi hu, hP, fo, ?_⟩⟩
      rw [hf2 600 (by omega), hf 600 (by omega)]; exact hF
    · exfalso
      rcases hno with z | ⟨i', hi', ei', z⟩
      · rw [ei] at z
        exact x_n1 hi hjc z
      · have z1 := (nI_eq (by omega) (by omega)).mp (ei.symm.trans ei')
        have z1 : i = i' := by omega
        subst z1
        rw [a3] at z
        exact z (a6.mp hu)
  · subst eM
    refine ⟨⟨_, hO.1⟩, _, ctX5_undo l G A M1 hO p0 hjc hmp hjk, fun r2 M2 hq => ?_⟩
    obtain ⟨hq, hf2⟩ := hq
    rcases hq with ⟨i, hi, ei, hm, _, _⟩ | ⟨_, er2, hO2⟩
    · exfalso
      obtain ⟨_, _, ⟨a3, _⟩, a6⟩ := hJ i hi
      rw [a3] at hm
      rcases hno with z | ⟨i', hi', ei', z⟩
      · rw [ei] at z
        exact x_n1 hi hjc z
      · have z1 := (nI_eq (by omega) (by omega)).mp (ei.symm.trans ei')
        have z1 : i = i' := by omega
        subst z1
        exact z (a6.mpr hm)
    · refine ⟨er2.trans er.symm, ⟨_, _, _, _, _, _, _, _, _, _, _, _, _, _, _, _, _, _, _, _, _, _, _, _, _, _, _, _, _, _, _, _, _, _, _, _, _, _, _, _, _, _, _, _, _, ⟨rfl, rfl⟩, xRec_go hR hnc hjc hf2, hO2, hN, hJ, hP, fo, ?_⟩⟩
      rw [hf2 600 (by omega)]; exact hF
set_option maxHeartbeats 1000000 in
theorem rl_run (l : Launch) (G : xG) (A : Nat → Prop) {M : xM} {a b o : Nat} (h : xRel G M a b o) : ∃ post4 : Int32 → xM → Prop, Met l yX4_run wsX4_run rmX4_run (va_Pc ([.ref a] : List Value) (xPc G A M)) (va_Qi post4 (xPc G A) A) 0 0 A ∧ ∀ r M1, post4 r M1 → (∃ fs, M1 500 = some (b, .inr (7, fs))) ∧ ∃ post5 : Int32 → xM → Prop, Met l yX5_run wsX5_run rmX5_run (va_Pc ([.ref b] : List Value) (xPc G A M1)) (va_Qi post5 (xPc G A) A) 0 0 A ∧ ∀ r2 M2, post5 r2 M2 → r2 = r ∧ xRel G M2 a b o := by
  obtain ⟨ad, nc, sd, jn, tc, dt, fd, ld, tk, kd, wn, jc, jz, jo, ju, bg, cn, zs, os, ab, bl, od, sp, pr, fa, fb, am, th, mS, mT, mK, mC, mD, mF, mO, mP, o1, o2, u1, d1, jA, jB, mx, up, dn, ⟨ea, eb⟩, hR, hO, hN, hJ, hP, fo, hF⟩ := h
  subst ea
  subst eb
  have hnc := hN.1.1
  have hcn := hP.1
  have hwn := hN.1.2.2
  have htk := hN.2.2.1
  refine ⟨_, ctX4_run l G A M hR hcn hnc htk hwn, fun r M1 hp => ?_⟩
  obtain ⟨cn9, zs9, os9, ab9, bl9, od9, pr9, o9, s9, fa9, fb9, hR1, eL, er, hg, hf⟩ := hp
  have hO1 := xMod_go hO hf
  have hCC : ∀ i j, i < nc → j < nc → cIs sd jn tc dt fd ld tk kd wn i j → (sd i = nI 0 ∧ sd j = nI 1) ∧ 0 < cD tc dt tk kd wn i j ∧ cU tc dt fd ld tk kd wn i j < 1000000000 ∧ cD tc dt tk kd wn i j < 1000000000 := fun i j hi hj q => ⟨cIs_sd i j q, q.2.1, cU_le hwn (htk i hi).1, cD_le hwn (htk i hi).1 (htk j hj).1⟩
  have hinv : ∀ i j, i < nc → j ≤ nc → cInv sd nc (cRow (cIs sd jn tc dt fd ld tk kd wn) (cU tc dt fd ld tk kd wn) (cD tc dt tk kd wn) i j (cAll (cIs sd jn tc dt fd ld tk kd wn) (cU tc dt fd ld tk kd wn) (cD tc dt tk kd wn) nc i (0, zs, os, ab, bl, od, xClr pr 51))) := fun i j hi hj =>
    cRow_inv (fun j hj q => hCC i j hi hj q) hi (cAll_inv hCC cInv_0 i (by omega)) j hj
  have hbd0 : cBd (0, zs, os, ab, bl, od, xClr pr 51) := fun j => hP.2.2.2.2.2 j
  refine ⟨⟨_, hO1.1⟩, _, ctX5_run l G A M1 hO1 (cIs sd jn tc dt fd ld tk kd wn) (cU tc dt fd ld tk kd wn) (cD tc dt tk kd wn) zs os ab bl od (xClr pr 51) hnc (rNm_c hN) (rNm_p hN) (rNm_k hN) hwn ?_ ?_ ?_ ?_ ?_, fun r2 M2 hq => ?_⟩
  · intro i j hi hj
    unfold cIs cMay
    rw [rNm_U hN hi hj, rNm_D hN hi hj, (hN.2.1 i hi).1.1, (hN.2.1 j hj).1.1, (hN.2.1 i hi).1.2.1, (hN.2.1 j hj).1.2.1, (hN.2.2.2.2.2 i hi).1, (hN.2.2.2.2.2 j hj).1]
    constructor
    · rintro ⟨⟨⟨g1, g2, g3⟩, g4, g5, g6⟩, g7⟩
      exact ⟨⟨⟨⟨g1, g4⟩, g2, g5⟩, g3, g6⟩, g7⟩
    · rintro ⟨⟨⟨⟨g1, g4⟩, g2, g5⟩, g3, g6⟩, g7⟩
      exact ⟨⟨⟨g1, g2, g3⟩, g4, g5, g6⟩, g7⟩
  · intro i j hi hj _
    exact ⟨(rNm_U hN hi hj).symm, (rNm_D hN hi hj).symm⟩
  · intro i j hi hj q
    exact cRow_lt cIs_sd rfl hnc hi hj (cIs_sd i j q)
  · intro i j hi hj k hk
    exact ((hinv i j hi (by omega)).1 k hk).2.1
  · intro i j hi hj k hk
    exact cRow_bd (by omega) (cAll_bd hnc hbd0 i (by omega)) j (by omega) k
  · obtain ⟨cnX, zsX, osX, abX, blX, odX, prX, pm9, n1, n2, n3, n4, up9, dn9, eX, hO2, er2, hm, hf2⟩ := hq
    have eq9 := eL.trans eX.symm
    simp only [Prod.mk.injEq] at eq9
    obtain ⟨y1, y2, y3, y4, y5, y6, y7⟩ := eq9
    subst y1
    subst y2
    subst y3
    subst y4
    subst y5
    subst y7
    have hI := cIs_inv (jn := jn) (dt := dt) (fd := fd) (ld := ld) (tk := tk) htk hwn (cInv_0 (sd := sd) (nc := nc) (zs := zs) (os := os) (ab := ab) (bl := bl) (od := od) (pr := pr))
    have hB := cAll_bd (C := cIs sd jn tc dt fd ld tk kd wn) (U := cU tc dt fd ld tk kd wn) (D := cD tc dt tk kd wn) hnc hbd0 nc (Nat.le_refl _)
    have hLe := cAll_le (U := cU tc dt fd ld tk kd wn) (D := cD tc dt tk kd wn) (cIs_sd (sd := sd) (jn := jn) (tc := tc) (dt := dt) (fd := fd) (ld := ld) (tk := tk) (kd := kd) (wn := wn)) (n := nc) (i := nc) (L := (0, zs, os, ab, bl, od, xClr pr 51)) rfl hnc (Nat.le_refl _)
    rw [← eL] at hI hB hLe
    have hu := xGood_uniq hm.1 hg
    refine ⟨er2.trans er.symm, ⟨_, _, _, _, _, _, _, _, _, _, _, _, _, _, _, _, _, _, _, _, _, _, _, _, _, _, _, _, _, _, _, _, _, _, _, _, _, _, _, _, _, _, _, _, _, ⟨rfl, rfl⟩, xRec_go hR1 hnc hN.1.2.1 hf2, hO2, hN, hJ, ⟨hLe, hg, fun k hk => ?_, fun k hk => ((hI.1 k hk).2), hI.2, hB⟩, fo, ?_⟩⟩
    · rw [← hu k hk]
      exact hm.2 k hk
    · rw [hf2 600 (by omega), hf 600 (by omega)]; exact hF
