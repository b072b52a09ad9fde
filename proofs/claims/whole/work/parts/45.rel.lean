/-! the relation of class and reference in one world -/
def xRel (G : xG) (M : xM) (a b o : Nat) : Prop := ∃ (ad : Nat → Nat) (nc : Nat) (sd : Nat → Int32) (jn : Nat → Int32) (tc : Nat → Nat) (dt : Nat → Int32) (fd : Nat → Int64) (ld : Nat → Int64) (tk : Nat → Nat → Int32) (kd : Nat → Nat → Int32) (wn : Nat → Nat) (jc : Nat) (jz : Nat → Nat) (jo : Nat → Nat) (ju : Nat → Int32) (bg : Int32) (cn : Nat) (zs : Nat → Nat) (os : Nat → Nat) (ab : Nat → Nat) (bl : Nat → Nat) (od : Nat → Nat) (sp : Nat → Nat) (pr : Nat → Nat) (fa : Int64) (fb : Int64) (am : Nat → Nat) (th : Int32) (mS : Nat → Int32) (mT : Nat → Int32) (mK : Nat → Int32) (mC : Nat → Nat) (mD : Nat → Int32) (mF : Nat → Int64) (mO : Nat → Int64) (mP : Nat → Nat) (o1 : Nat → Nat) (o2 : Nat → Nat) (u1 : Nat → Nat) (d1 : Nat → Nat) (jA : Nat → Nat) (jB : Nat → Nat) (mx : Nat → Nat) (up : Int64) (dn : Int64), (ad 0 = a ∧ am 500 = b) ∧ xRec G M ad nc sd jn tc dt fd ld tk kd wn jc jz jo ju bg cn zs os ab bl od sp pr fa fb ∧ xMod G M am th nc mS mT mK mC mD mF mO mP wn bg cn o1 o2 u1 d1 jc jA jB mx up dn ∧ rNm nc sd jn tc dt fd ld tk kd wn jc mS mT mK mC mD mF mO mP ∧ rJn nc sd jc jz jo ju mP jA jB ∧ rPr nc sd cn zs os ab bl od pr o1 o2 u1 d1 ∧ ∃ fo : Nat → Int64, M 600 = some (o, .inl (G.2 1, 1, .inr (.inl fo)))
section REL
variable {G : xG} {M M1 : xM} {ad : Nat → Nat} {nc : Nat} {sd : Nat → Int32} {jn : Nat → Int32} {tc : Nat → Nat} {dt : Nat → Int32} {fd : Nat → Int64} {ld : Nat → Int64} {tk : Nat → Nat → Int32} {kd : Nat → Nat → Int32} {wn : Nat → Nat} {jc : Nat} {jz : Nat → Nat} {jo : Nat → Nat} {ju : Nat → Int32} {bg : Int32} {cn : Nat} {zs : Nat → Nat} {os : Nat → Nat} {ab : Nat → Nat} {bl : Nat → Nat} {od : Nat → Nat} {sp : Nat → Nat} {pr : Nat → Nat} {fa : Int64} {fb : Int64} {am : Nat → Nat} {th : Int32} {mS : Nat → Int32} {mT : Nat → Int32} {mK : Nat → Int32} {mC : Nat → Nat} {mD : Nat → Int32} {mF : Nat → Int64} {mO : Nat → Int64} {mP : Nat → Nat} {o1 : Nat → Nat} {o2 : Nat → Nat} {u1 : Nat → Nat} {d1 : Nat → Nat} {jA : Nat → Nat} {jB : Nat → Nat} {mx : Nat → Nat} {up : Int64} {dn : Int64}
theorem xMod_go (h : xMod G M am th nc mS mT mK mC mD mF mO mP wn bg cn o1 o2 u1 d1 jc jA jB mx up dn) (hf : ∀ t, 500 ≤ t → M1 t = M t) : xMod G M1 am th nc mS mT mK mC mD mF mO mP wn bg cn o1 o2 u1 d1 jc jA jB mx up dn := by
  unfold xMod at h ⊢
  rw [hf 500 (by omega), hf 501 (by omega), hf 502 (by omega), hf 503 (by omega), hf 504 (by omega), hf 505 (by omega), hf 506 (by omega), hf 507 (by omega), hf 508 (by omega), hf 509 (by omega), hf 510 (by omega), hf 511 (by omega), hf 512 (by omega), hf 513 (by omega), hf 514 (by omega), hf 515 (by omega), hf 516 (by omega)]
  exact h
theorem xRec_go (h : xRec G M ad nc sd jn tc dt fd ld tk kd wn jc jz jo ju bg cn zs os ab bl od sp pr fa fb) (hn : nc ≤ 50) (hj : jc ≤ 100) (hf : ∀ t, t < 500 ∨ 516 < t → M1 t = M t) : xRec G M1 ad nc sd jn tc dt fd ld tk kd wn jc jz jo ju bg cn zs os ab bl od sp pr fa fb := by
  unfold xRec at h ⊢
  rw [hf 0 (by omega), hf 1 (by omega), hf 2 (by omega), hf 3 (by omega), hf 4 (by omega), hf 5 (by omega), hf 6 (by omega), hf 7 (by omega), hf 8 (by omega), hf 9 (by omega), hf 10 (by omega), hf 11 (by omega), hf 12 (by omega)]
  obtain ⟨hc0, hc1, hc2, hc3, hcL, hc5, hc6, hc7, hc8, hc9, hc10, hc11, hc12, hnm, hjn⟩ := h
  refine ⟨hc0, hc1, hc2, hc3, hcL, hc5, hc6, hc7, hc8, hc9, hc10, hc11, hc12, fun i hi => ?_, fun j hj9 => ?_⟩
  · rw [hf (100 + 3 * i) (by omega), hf (100 + 3 * i + 1) (by omega), hf (100 + 3 * i + 2) (by omega)]
    exact hnm i hi
  · rw [hf (300 + j) (by omega)]
    exact hjn j hj9
theorem xRec_weight (h : xRec G M ad nc sd jn tc dt fd ld tk kd wn jc jz jo ju bg cn zs os ab bl od sp pr fa fb) {kk w : Nat} : xRec G (xu M 2 (ad 2, .inl (G.2 1, 4, .inr (.inl (fun j => lN (va_up wn kk w j)))))) ad nc sd jn tc dt fd ld tk kd (va_up wn kk w) jc jz jo ju bg cn zs os ab bl od sp pr fa fb := by
  obtain ⟨hc0, hc1, hc2, hc3, hcL, hc5, hc6, hc7, hc8, hc9, hc10, hc11, hc12, hnm, hjn⟩ := h
  refine ⟨?_, ?_, ?_, ?_, ?_, ?_, ?_, ?_, ?_, ?_, ?_, ?_, ?_, fun k hk => ?_, fun q hq => ?_⟩
  · simp (disch := omega) only [xu_n, xu_s]; exact hc0
  · simp (disch := omega) only [xu_n, xu_s]; exact hc1
  · exact xu_s
  · simp (disch := omega) only [xu_n, xu_s]; exact hc3
  · simp (disch := omega) only [xu_n, xu_s]; exact hcL
  · simp (disch := omega) only [xu_n, xu_s]; exact hc5
  · simp (disch := omega) only [xu_n, xu_s]; exact hc6
  · simp (disch := omega) only [xu_n, xu_s]; exact hc7
  · simp (disch := omega) only [xu_n, xu_s]; exact hc8
  · simp (disch := omega) only [xu_n, xu_s]; exact hc9
  · simp (disch := omega) only [xu_n, xu_s]; exact hc10
  · simp (disch := omega) only [xu_n, xu_s]; exact hc11
  · simp (disch := omega) only [xu_n, xu_s]; exact hc12
  · simp (disch := omega) only [xu_n, xu_s]; exact hnm k hk
  · simp (disch := omega) only [xu_n, xu_s]; exact hjn q hq
theorem xRec_date (h : xRec G M ad nc sd jn tc dt fd ld tk kd wn jc jz jo ju bg cn zs os ab bl od sp pr fa fb) {i : Nat} {p1 p2 : Int64} (hi : i < nc) (hn : nc ≤ 50) : xRec G (xu M (100 + 3 * i) (ad (100 + 3 * i), .inr (5, [.int (sd i), .int (jn i), .ref (ad (100 + 3 * i + 1)), .ref (ad (100 + 3 * i + 2)), .int (nI (tc i)), .int (nI 1), .long (p1), .long (p2)]))) ad nc sd jn tc (upd dt i (nI 1)) (vp_updL fd i p1) (vp_updL ld i p2) tk kd wn jc jz jo ju bg cn zs os ab bl od sp pr fa fb := by
  obtain ⟨hc0, hc1, hc2, hc3, hcL, hc5, hc6, hc7, hc8, hc9, hc10, hc11, hc12, hnm, hjn⟩ := h
  refine ⟨?_, ?_, ?_, ?_, ?_, ?_, ?_, ?_, ?_, ?_, ?_, ?_, ?_, fun k hk => ?_, fun q hq => ?_⟩
  · simp (disch := omega) only [xu_n, xu_s]; exact hc0
  · simp (disch := omega) only [xu_n, xu_s]; exact hc1
  · simp (disch := omega) only [xu_n, xu_s]; exact hc2
  · simp (disch := omega) only [xu_n, xu_s]; exact hc3
  · simp (disch := omega) only [xu_n, xu_s]; exact hcL
  · simp (disch := omega) only [xu_n, xu_s]; exact hc5
  · simp (disch := omega) only [xu_n, xu_s]; exact hc6
  · simp (disch := omega) only [xu_n, xu_s]; exact hc7
  · simp (disch := omega) only [xu_n, xu_s]; exact hc8
  · simp (disch := omega) only [xu_n, xu_s]; exact hc9
  · simp (disch := omega) only [xu_n, xu_s]; exact hc10
  · simp (disch := omega) only [xu_n, xu_s]; exact hc11
  · simp (disch := omega) only [xu_n, xu_s]; exact hc12
  · obtain ⟨h1, h2, h3⟩ := hnm k hk
    by_cases e : k = i
    · subst e
      refine ⟨?_, ?_, ?_⟩
      · rw [xu_s]; simp only [upd, vp_updL, if_true]
      · simp (disch := omega) only [xu_n, xu_s]; exact h2
      · simp (disch := omega) only [xu_n, xu_s]; exact h3
    · refine ⟨?_, ?_, ?_⟩
      · simp (disch := omega) only [xu_n, xu_s]; simp only [upd, vp_updL, e, if_false]; exact h1
      · simp (disch := omega) only [xu_n, xu_s]; exact h2
      · simp (disch := omega) only [xu_n, xu_s]; exact h3
  · simp (disch := omega) only [xu_n, xu_s]; exact hjn q hq
theorem xRec_token (h : xRec G M ad nc sd jn tc dt fd ld tk kd wn jc jz jo ju bg cn zs os ab bl od sp pr fa fb) {i : Nat} {p1 p2 : Int32} (hi : i < nc) (hn : nc ≤ 50) : xRec G (xu (xu (xu M (100 + 3 * i + 1) (ad (100 + 3 * i + 1), .inl (G.2 0, 8, .inl (upd (tk i) (tc i) p1)))) (100 + 3 * i + 2) (ad (100 + 3 * i + 2), .inl (G.2 0, 8, .inl (upd (kd i) (tc i) p2)))) (100 + 3 * i) (ad (100 + 3 * i), .inr (5, [.int (sd i), .int (jn i), .ref (ad (100 + 3 * i + 1)), .ref (ad (100 + 3 * i + 2)), .int (nI (tc i + 1)), .int (dt i), .long (fd i), .long (ld i)]))) ad nc sd jn (va_up tc i (tc i + 1)) dt fd ld (va_up tk i (upd (tk i) (tc i) p1)) (va_up kd i (upd (kd i) (tc i) p2)) wn jc jz jo ju bg cn zs os ab bl od sp pr fa fb := by
  obtain ⟨hc0, hc1, hc2, hc3, hcL, hc5, hc6, hc7, hc8, hc9, hc10, hc11, hc12, hnm, hjn⟩ := h
  refine ⟨?_, ?_, ?_, ?_, ?_, ?_, ?_, ?_, ?_, ?_, ?_, ?_, ?_, fun k hk => ?_, fun q hq => ?_⟩
  · simp (disch := omega) only [xu_n, xu_s]; exact hc0
  · simp (disch := omega) only [xu_n, xu_s]; exact hc1
  · simp (disch := omega) only [xu_n, xu_s]; exact hc2
  · simp (disch := omega) only [xu_n, xu_s]; exact hc3
  · simp (disch := omega) only [xu_n, xu_s]; exact hcL
  · simp (disch := omega) only [xu_n, xu_s]; exact hc5
  · simp (disch := omega) only [xu_n, xu_s]; exact hc6
  · simp (disch := omega) only [xu_n, xu_s]; exact hc7
  · simp (disch := omega) only [xu_n, xu_s]; exact hc8
  · simp (disch := omega) only [xu_n, xu_s]; exact hc9
  · simp (disch := omega) only [xu_n, xu_s]; exact hc10
  · simp (disch := omega) only [xu_n, xu_s]; exact hc11
  · simp (disch := omega) only [xu_n, xu_s]; exact hc12
  · obtain ⟨h1, h2, h3⟩ := hnm k hk
    by_cases e : k = i
    · subst e
      refine ⟨?_, ?_, ?_⟩
      · rw [xu_s, va_up_self]
      · simp (disch := omega) only [xu_n, xu_s]; rw [va_up_self]
      · simp (disch := omega) only [xu_n, xu_s]; rw [va_up_self]
    · refine ⟨?_, ?_, ?_⟩
      · simp (disch := omega) only [xu_n, xu_s]; rw [va_up_ne _ _ e]; exact h1
      · simp (disch := omega) only [xu_n, xu_s]; rw [va_up_ne _ _ e]; exact h2
      · simp (disch := omega) only [xu_n, xu_s]; rw [va_up_ne _ _ e]; exact h3
  · simp (disch := omega) only [xu_n, xu_s]; exact hjn q hq
theorem ad3 {ad : Nat → Nat} {n q0 q1 q2 t : Nat} (h : t < 100 + 3 * n ∨ 100 + 3 * n + 2 < t) : va_up (va_up (va_up ad (100 + 3 * n + 1) q1) (100 + 3 * n + 2) q2) (100 + 3 * n) q0 t = ad t := by
  rw [va_up_ne _ _ (by omega), va_up_ne _ _ (by omega), va_up_ne _ _ (by omega)]
theorem xRec_name (h : xRec G M ad nc sd jn tc dt fd ld tk kd wn jc jz jo ju bg cn zs os ab bl od sp pr fa fb) {q0 q1 q2 : Nat} {p0 : Int32} (hn : nc < 50) (hj : jc ≤ 100) (hjj : ∀ j, j < jc → jz j < nc ∧ jo j < nc) : xRec G (xu (xu (xu (xu (xu M (100 + 3 * nc + 1) (q1, .inl (G.2 0, 8, .inl (fun _ => 0)))) (100 + 3 * nc + 2) (q2, .inl (G.2 0, 8, .inl (fun _ => 0)))) (100 + 3 * nc) (q0, .inr (5, [.int p0, .int (nI 0), .ref q1, .ref q2, .int (nI 0), .int (nI 0), .long (lN 0), .long (lN 0)]))) 1 (ad 1, .inl (G.2 3, 50, .inr (.inr (.inr (.inr (va_up (fun k => if k < nc then some (ad (100 + 3 * k)) else none) nc (some q0)))))))) 0 (ad 0, .inr (6, [.ref (ad 1), .int (nI (nc + 1)), .ref (ad 2), .ref (ad 3), .int (nI jc), .ref (ad 4), .ref (ad 5)]))) (va_up (va_up (va_up ad (100 + 3 * nc + 1) q1) (100 + 3 * nc + 2) q2) (100 + 3 * nc) q0) (nc + 1) (upd sd nc p0) (upd jn nc (nI 0)) (va_up tc nc 0) (upd dt nc (nI 0)) (vp_updL fd nc (lN 0)) (vp_updL ld nc (lN 0)) (va_up tk nc (fun _ => 0)) (va_up kd nc (fun _ => 0)) wn jc jz jo ju bg cn zs os ab bl od sp pr fa fb := by
  obtain ⟨hc0, hc1, hc2, hc3, hcL, hc5, hc6, hc7, hc8, hc9, hc10, hc11, hc12, hnm, hjn⟩ := h
  have ea : ∀ t, t < 100 ∨ 300 ≤ t → (va_up (va_up (va_up ad (100 + 3 * nc + 1) q1) (100 + 3 * nc + 2) q2) (100 + 3 * nc) q0) t = ad t := fun t ht => ad3 (by omega)
  unfold xRec
  rw [ea 0 (by omega), ea 1 (by omega), ea 2 (by omega), ea 3 (by omega), ea 4 (by omega), ea 5 (by omega), ea 6 (by omega), ea 7 (by omega), ea 8 (by omega), ea 9 (by omega), ea 10 (by omega), ea 11 (by omega), ea 12 (by omega)]
  refine ⟨?_, ?_, ?_, ?_, ?_, ?_, ?_, ?_, ?_, ?_, ?_, ?_, ?_, fun k hk => ?_, fun q hq => ?_⟩
  · exact xu_s
  · rw [xu_n (by omega), xu_s]
    congr 9
    funext k
    by_cases e : k = nc
    · subst e
      rw [va_up_self, if_pos (by omega), va_up_self]
    · rw [va_up_ne _ _ e]
      by_cases e2 : k < nc
      · rw [if_pos e2, if_pos (by omega), ad3 (by omega)]
      · rw [if_neg e2, if_neg (by omega)]
  · simp (disch := omega) only [xu_n, xu_s]; exact hc2
  · simp (disch := omega) only [xu_n, xu_s]
    rw [hc3]
    congr 9
    funext k
    by_cases e2 : k < jc
    · rw [if_pos e2, if_pos e2, ea _ (by omega)]
    · rw [if_neg e2, if_neg e2]
  · simp (disch := omega) only [xu_n, xu_s]; exact hcL
  · simp (disch := omega) only [xu_n, xu_s]; exact hc5
  · simp (disch := omega) only [xu_n, xu_s]; exact hc6
  · simp (disch := omega) only [xu_n, xu_s]; exact hc7
  · simp (disch := omega) only [xu_n, xu_s]; exact hc8
  · simp (disch := omega) only [xu_n, xu_s]; exact hc9
  · simp (disch := omega) only [xu_n, xu_s]; exact hc10
  · simp (disch := omega) only [xu_n, xu_s]; exact hc11
  · simp (disch := omega) only [xu_n, xu_s]; exact hc12
  · by_cases e : k = nc
    · subst e
      have e1 : (va_up (va_up (va_up ad (100 + 3 * k + 1) q1) (100 + 3 * k + 2) q2) (100 + 3 * k) q0) (100 + 3 * k + 1) = q1 := by rw [va_up_ne _ _ (by omega), va_up_ne _ _ (by omega), va_up_self]
      have e2 : (va_up (va_up (va_up ad (100 + 3 * k + 1) q1) (100 + 3 * k + 2) q2) (100 + 3 * k) q0) (100 + 3 * k + 2) = q2 := by rw [va_up_ne _ _ (by omega), va_up_self]
      rw [e1, e2, va_up_self]
      refine ⟨?_, ?_, ?_⟩
      · simp (disch := omega) only [xu_n, xu_s]
        simp only [upd, vp_updL, if_true, va_up_self]
      · simp (disch := omega) only [xu_n, xu_s]
        rw [va_up_self]
      · simp (disch := omega) only [xu_n, xu_s]
        rw [va_up_self]
    · obtain ⟨h1, h2, h3⟩ := hnm k (by omega)
      rw [ad3 (t := 100 + 3 * k) (by omega), ad3 (t := 100 + 3 * k + 1) (by omega), ad3 (t := 100 + 3 * k + 2) (by omega)]
      refine ⟨?_, ?_, ?_⟩
      · simp (disch := omega) only [xu_n, xu_s]
        simp only [upd, vp_updL, e, if_false, va_up_ne _ _ e]
        exact h1
      · simp (disch := omega) only [xu_n, xu_s]
        rw [va_up_ne _ _ e]
        exact h2
      · simp (disch := omega) only [xu_n, xu_s]
        rw [va_up_ne _ _ e]
        exact h3
  · rw [ea (300 + q) (by omega), ad3 (t := 100 + 3 * jz q) (by have := (hjj q hq).1; omega), ad3 (t := 100 + 3 * jo q) (by have := (hjj q hq).2; omega)]
    simp (disch := omega) only [xu_n, xu_s]
    exact hjn q hq
theorem xRec_join (h : xRec G M ad nc sd jn tc dt fd ld tk kd wn jc jz jo ju bg cn zs os ab bl od sp pr fa fb) {q0 i j : Nat} (hi : i < nc) (hj : j < nc) (hij : i ≠ j) (hn : nc ≤ 50) (hjc : jc < 100) (hjx : ∀ q, q < jc → 100 + 3 * jz q ≠ 300 + jc) (hjy : ∀ q, q < jc → 100 + 3 * jo q ≠ 300 + jc) : xRec G (xu (xu (xu (xu (xu M (300 + jc) (q0, .inr (3, [.ref (ad (100 + 3 * i)), .ref (ad (100 + 3 * j)), .int (nI 0)]))) 3 (ad 3, .inl (G.2 4, 100, .inr (.inr (.inr (.inr (va_up (fun k => if k < jc then some (ad (300 + k)) else none) jc (some q0)))))))) 0 (ad 0, .inr (6, [.ref (ad 1), .int (nI nc), .ref (ad 2), .ref (ad 3), .int (nI (jc + 1)), .ref (ad 4), .ref (ad 5)]))) (100 + 3 * i) (ad (100 + 3 * i), .inr (5, [.int (sd i), .int (nI 1), .ref (ad (100 + 3 * i + 1)), .ref (ad (100 + 3 * i + 2)), .int (nI (tc i)), .int (dt i), .long (fd i), .long (ld i)]))) (100 + 3 * j) (ad (100 + 3 * j), .inr (5, [.int (sd j), .int (nI 1), .ref (ad (100 + 3 * j + 1)), .ref (ad (100 + 3 * j + 2)), .int (nI (tc j)), .int (dt j), .long (fd j), .long (ld j)]))) (va_up ad (300 + jc) q0) nc sd (upd (upd jn i (nI 1)) j (nI 1)) tc dt fd ld tk kd wn (jc + 1) (va_up jz jc i) (va_up jo jc j) (upd ju jc (nI 0)) bg cn zs os ab bl od sp pr fa fb := by
  obtain ⟨hc0, hc1, hc2, hc3, hcL, hc5, hc6, hc7, hc8, hc9, hc10, hc11, hc12, hnm, hjn⟩ := h
  have ea : ∀ t, t ≠ 300 + jc → va_up ad (300 + jc) q0 t = ad t := fun t ht => va_up_ne _ _ ht
  unfold xRec
  rw [ea 0 (by omega), ea 1 (by omega), ea 2 (by omega), ea 3 (by omega), ea 4 (by omega), ea 5 (by omega), ea 6 (by omega), ea 7 (by omega), ea 8 (by omega), ea 9 (by omega), ea 10 (by omega), ea 11 (by omega), ea 12 (by omega)]
  refine ⟨?_, ?_, ?_, ?_, ?_, ?_, ?_, ?_, ?_, ?_, ?_, ?_, ?_, fun k hk => ?_, fun q hq => ?_⟩
  · simp (disch := omega) only [xu_n, xu_s]
  · simp (disch := omega) only [xu_n, xu_s]
    rw [hc1]
    congr 9
    funext k
    by_cases e2 : k < nc
    · rw [if_pos e2, if_pos e2, ea _ (by omega)]
    · rw [if_neg e2, if_neg e2]
  · simp (disch := omega) only [xu_n, xu_s]; exact hc2
  · simp (disch := omega) only [xu_n, xu_s]
    congr 9
    funext k
    by_cases e : k = jc
    · subst e
      rw [va_up_self, if_pos (by omega), va_up_self]
    · rw [va_up_ne _ _ e]
      by_cases e2 : k < jc
      · rw [if_pos e2, if_pos (by omega), ea _ (by omega)]
      · rw [if_neg e2, if_neg (by omega)]
  · simp (disch := omega) only [xu_n, xu_s]; exact hcL
  · simp (disch := omega) only [xu_n, xu_s]; exact hc5
  · simp (disch := omega) only [xu_n, xu_s]; exact hc6
  · simp (disch := omega) only [xu_n, xu_s]; exact hc7
  · simp (disch := omega) only [xu_n, xu_s]; exact hc8
  · simp (disch := omega) only [xu_n, xu_s]; exact hc9
  · simp (disch := omega) only [xu_n, xu_s]; exact hc10
  · simp (disch := omega) only [xu_n, xu_s]; exact hc11
  · simp (disch := omega) only [xu_n, xu_s]; exact hc12
  · obtain ⟨h1, h2, h3⟩ := hnm k hk
    rw [ea (100 + 3 * k) (by omega), ea (100 + 3 * k + 1) (by omega), ea (100 + 3 * k + 2) (by omega)]
    refine ⟨?_, ?_, ?_⟩
    · by_cases e : k = j
      · subst e
        rw [xu_s]
        simp only [upd, if_true]
      · rw [xu_n (by omega)]
        by_cases e2 : k = i
        · subst e2
          rw [xu_s]
          simp only [upd, if_true, e, if_false]
        · simp (disch := omega) only [xu_n, xu_s]
          simp only [upd, e, e2, if_false]
          exact h1
    · simp (disch := omega) only [xu_n, xu_s]; exact h2
    · simp (disch := omega) only [xu_n, xu_s]; exact h3
  · by_cases e : q = jc
    · subst e
      rw [va_up_self, va_up_self, va_up_self, ea (100 + 3 * i) (by omega), ea (100 + 3 * j) (by omega)]
      simp (disch := omega) only [xu_n, xu_s]
      simp only [upd, if_true]
    · rw [ea (300 + q) (by omega), va_up_ne _ _ e, va_up_ne _ _ e]
      have := hjn q (by omega)
      simp (disch := omega) only [xu_n, xu_s]
      simp only [upd, e, if_false]
      by_cases z1 : 100 + 3 * jz q = 300 + jc
      · exfalso; exact hjx q (by omega) z1
      · rw [ea _ z1]
        by_cases z2 : 100 + 3 * jo q = 300 + jc
        · exfalso; exact hjy q (by omega) z2
        · rw [ea _ z2]
          exact this
theorem xRec_undo (h : xRec G M ad nc sd jn tc dt fd ld tk kd wn jc jz jo ju bg cn zs os ab bl od sp pr fa fb) {i : Nat} (hi : i < jc) (hz : jz i < nc) (ho : jo i < nc) (hij : jz i ≠ jo i) (hn : nc ≤ 50) (hjc : jc ≤ 100) : xRec G (xu (xu (xu M (300 + i) (ad (300 + i), .inr (3, [.ref (ad (100 + 3 * jz i)), .ref (ad (100 + 3 * jo i)), .int (nI 1)]))) (100 + 3 * jz i) (ad (100 + 3 * jz i), .inr (5, [.int (sd (jz i)), .int (nI 0), .ref (ad (100 + 3 * (jz i) + 1)), .ref (ad (100 + 3 * (jz i) + 2)), .int (nI (tc (jz i))), .int (dt (jz i)), .long (fd (jz i)), .long (ld (jz i))]))) (100 + 3 * jo i) (ad (100 + 3 * jo i), .inr (5, [.int (sd (jo i)), .int (nI 0), .ref (ad (100 + 3 * (jo i) + 1)), .ref (ad (100 + 3 * (jo i) + 2)), .int (nI (tc (jo i))), .int (dt (jo i)), .long (fd (jo i)), .long (ld (jo i))]))) ad nc sd (upd (upd jn (jz i) (nI 0)) (jo i) (nI 0)) tc dt fd ld tk kd wn jc jz jo (upd ju i (nI 1)) bg cn zs os ab bl od sp pr fa fb := by
  obtain ⟨hc0, hc1, hc2, hc3, hcL, hc5, hc6, hc7, hc8, hc9, hc10, hc11, hc12, hnm, hjn⟩ := h
  refine ⟨?_, ?_, ?_, ?_, ?_, ?_, ?_, ?_, ?_, ?_, ?_, ?_, ?_, fun k hk => ?_, fun q hq => ?_⟩
  · simp (disch := omega) only [xu_n, xu_s]; exact hc0
  · simp (disch := omega) only [xu_n, xu_s]; exact hc1
  · simp (disch := omega) only [xu_n, xu_s]; exact hc2
  · simp (disch := omega) only [xu_n, xu_s]; exact hc3
  · simp (disch := omega) only [xu_n, xu_s]; exact hcL
  · simp (disch := omega) only [xu_n, xu_s]; exact hc5
  · simp (disch := omega) only [xu_n, xu_s]; exact hc6
  · simp (disch := omega) only [xu_n, xu_s]; exact hc7
  · simp (disch := omega) only [xu_n, xu_s]; exact hc8
  · simp (disch := omega) only [xu_n, xu_s]; exact hc9
  · simp (disch := omega) only [xu_n, xu_s]; exact hc10
  · simp (disch := omega) only [xu_n, xu_s]; exact hc11
  · simp (disch := omega) only [xu_n, xu_s]; exact hc12
  · obtain ⟨h1, h2, h3⟩ := hnm k hk
    refine ⟨?_, ?_, ?_⟩
    · by_cases e : k = jo i
      · subst e
        rw [xu_s]
        simp only [upd, if_true]
      · rw [xu_n (by omega)]
        by_cases e2 : k = jz i
        · subst e2
          rw [xu_s]
          simp only [upd, if_true, e, if_false]
        · simp (disch := omega) only [xu_n, xu_s]
          simp only [upd, e, e2, if_false]
          exact h1
    · simp (disch := omega) only [xu_n, xu_s]; exact h2
    · simp (disch := omega) only [xu_n, xu_s]; exact h3
  · have h9 := hjn q hq
    by_cases e : q = i
    · subst e
      simp (disch := omega) only [xu_n, xu_s]
      simp only [upd, if_true]
    · simp (disch := omega) only [xu_n, xu_s]
      simp only [upd, e, if_false]
      exact h9
end REL
