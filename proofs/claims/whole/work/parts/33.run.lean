/-! Reconcile: the run -/
abbrev xLi : Type := Nat × (Nat → Nat) × (Nat → Nat) × (Nat → Nat) × (Nat → Nat) × (Nat → Nat) × (Nat → Nat)
def cShr (dt : Nat → Int32) (fd ld : Nat → Int64) (i j : Nat) : Prop := (¬ dt i = 0 ∧ ¬ dt j = 0) ∧ ¬ ld j < fd i ∧ ¬ ld i < fd j
def cU (tc : Nat → Nat) (dt : Nat → Int32) (fd ld : Nat → Int64) (tk kd : Nat → Nat → Int32) (wn : Nat → Nat) (i j : Nat) : Nat := if (¬ dt i = 0 ∧ ¬ dt j = 0) ∧ ¬ ld j < fd i ∧ ¬ ld i < fd j then xSh (tk i) (kd i) (tk j) (kd j) (tc j) wn (tc i) + wn 3 else xSh (tk i) (kd i) (tk j) (kd j) (tc j) wn (tc i)
def cD (tc : Nat → Nat) (dt : Nat → Int32) (tk kd : Nat → Nat → Int32) (wn : Nat → Nat) (i j : Nat) : Nat := if ¬ dt i = 0 ∧ ¬ dt j = 0 then xAll (kd i) wn (tc i) + xAll (kd j) wn (tc j) - xSh (tk i) (kd i) (tk j) (kd j) (tc j) wn (tc i) + wn 3 else xAll (kd i) wn (tc i) + xAll (kd j) wn (tc j) - xSh (tk i) (kd i) (tk j) (kd j) (tc j) wn (tc i)
def cMay (sd jn : Nat → Int32) (tc : Nat → Nat) (p : Int32) (i : Nat) : Prop := sd i = p ∧ 0 < tc i ∧ jn i = 0
/-- a pair is listed -/
def cIs (sd jn : Nat → Int32) (tc : Nat → Nat) (dt : Nat → Int32) (fd ld : Nat → Int64) (tk kd : Nat → Nat → Int32) (wn : Nat → Nat) (i j : Nat) : Prop := (cMay sd jn tc (nI 0) i ∧ cMay sd jn tc (nI 1) j) ∧ 0 < cD tc dt tk kd wn i j ∧ cD tc dt tk kd wn i j ≤ 2 * cU tc dt fd ld tk kd wn i j
def cAdd (U D : Nat → Nat → Nat) (i j : Nat) (L : xLi) : xLi := (L.1 + 1, va_up L.2.1 L.1 (i + 1), va_up L.2.2.1 L.1 (j + 1), va_up L.2.2.2.1 L.1 (U i j), va_up L.2.2.2.2.1 L.1 (D i j), va_up L.2.2.2.2.2.1 L.1 L.1, va_up (va_up L.2.2.2.2.2.2 (i + 1) 1) (j + 1) 1)
noncomputable def cStep (C : Nat → Nat → Prop) (U D : Nat → Nat → Nat) (i j : Nat) (L : xLi) : xLi := @ite _ (C i j) (Classical.propDecidable _) (cAdd U D i j L) L
noncomputable def cRow (C : Nat → Nat → Prop) (U D : Nat → Nat → Nat) (i : Nat) : Nat → xLi → xLi
  | 0, L => L
  | j + 1, L => cStep C U D i j (cRow C U D i j L)
noncomputable def cAll (C : Nat → Nat → Prop) (U D : Nat → Nat → Nat) (n : Nat) : Nat → xLi → xLi
  | 0, L => L
  | i + 1, L => cRow C U D i n (cAll C U D n i L)
theorem cStep_t {C : Nat → Nat → Prop} {U D : Nat → Nat → Nat} {i j : Nat} {L : xLi} (h : C i j) : cStep C U D i j L = cAdd U D i j L := if_pos h
theorem cStep_f {C : Nat → Nat → Prop} {U D : Nat → Nat → Nat} {i j : Nat} {L : xLi} (h : ¬ C i j) : cStep C U D i j L = L := if_neg h
theorem cRow_skip {C : Nat → Nat → Prop} {U D : Nat → Nat → Nat} {i : Nat} {L : xLi} (h : ∀ j, ¬ C i j) : ∀ n, cRow C U D i n L = L
  | 0 => rfl
  | n + 1 => by show cStep C U D i n (cRow C U D i n L) = L; rw [cStep_f (h n), cRow_skip h n]
/-- how many of the first n have a side -/
def cnt (sd : Nat → Int32) (p : Int32) : Nat → Nat
  | 0 => 0
  | n + 1 => cnt sd p n + if sd n = p then 1 else 0
theorem cnt_le {sd : Nat → Int32} : ∀ n, cnt sd (nI 0) n + cnt sd (nI 1) n ≤ n
  | 0 => Nat.le_refl _
  | n + 1 => by
    have h := cnt_le (sd := sd) n
    have hne : ¬ (nI 0 = nI 1) := by decide
    simp only [cnt]
    by_cases h0 : sd n = nI 0
    · rw [if_pos h0, if_neg (fun q => hne (h0.symm.trans q))]; omega
    · rw [if_neg h0]; split <;> omega
theorem cnt_mono {sd : Nat → Int32} {p : Int32} {a b : Nat} (h : a ≤ b) : cnt sd p a ≤ cnt sd p b := by
  induction b with
  | zero => rw [show a = 0 by omega]; exact Nat.le_refl _
  | succ b ih =>
    rcases Nat.lt_or_ge a (b + 1) with q | q
    · have := ih (by omega)
      simp only [cnt]
      omega
    · rw [show a = b + 1 by omega]; exact Nat.le_refl _
theorem cnt_s {sd : Nat → Int32} {p : Int32} {n : Nat} (h : sd n = p) : cnt sd p (n + 1) = cnt sd p n + 1 := by simp only [cnt, if_pos h]
theorem pq_625 : ∀ p, p < 51 → p * (50 - p) ≤ 625 := by decide
theorem cRow_n {C : Nat → Nat → Prop} {U D : Nat → Nat → Nat} {sd : Nat → Int32} (hC : ∀ i j, C i j → sd i = nI 0 ∧ sd j = nI 1) {i : Nat} {L : xLi} : ∀ n, (cRow C U D i n L).1 ≤ L.1 + cnt sd (nI 1) n ∧ (¬ sd i = nI 0 → (cRow C U D i n L).1 = L.1)
  | 0 => ⟨Nat.le_add_right _ _, fun _ => rfl⟩
  | n + 1 => by
    obtain ⟨h1, h2⟩ := cRow_n hC (i := i) (L := L) (U := U) (D := D) n
    show (cStep C U D i n (cRow C U D i n L)).1 ≤ _ ∧ (_ → (cStep C U D i n (cRow C U D i n L)).1 = _)
    by_cases h : C i n
    · rw [cStep_t h, cnt_s (hC i n h).2]
      exact ⟨by show (cRow C U D i n L).1 + 1 ≤ _; omega, fun q => absurd (hC i n h).1 q⟩
    · rw [cStep_f h]
      have := cnt_mono (sd := sd) (p := nI 1) (show n ≤ n + 1 by omega)
      exact ⟨by omega, h2⟩
theorem cAll_n {C : Nat → Nat → Prop} {U D : Nat → Nat → Nat} {sd : Nat → Int32} (hC : ∀ i j, C i j → sd i = nI 0 ∧ sd j = nI 1) {n : Nat} {L : xLi} (h0 : L.1 = 0) : ∀ i, (cAll C U D n i L).1 ≤ cnt sd (nI 0) i * cnt sd (nI 1) n
  | 0 => by show L.1 ≤ _; omega
  | i + 1 => by
    have h := cAll_n hC (n := n) (U := U) (D := D) h0 i
    obtain ⟨h1, h2⟩ := cRow_n hC (i := i) (L := cAll C U D n i L) (U := U) (D := D) n
    show (cRow C U D i n (cAll C U D n i L)).1 ≤ _
    by_cases q : sd i = nI 0
    · rw [cnt_s q, Nat.add_mul, Nat.one_mul]; omega
    · rw [h2 q]
      have := Nat.mul_le_mul_right (cnt sd (nI 1) n) (cnt_mono (sd := sd) (p := nI 0) (show i ≤ i + 1 by omega))
      omega
/-- room for one more -/
theorem cRow_lt {C : Nat → Nat → Prop} {U D : Nat → Nat → Nat} {sd : Nat → Int32} (hC : ∀ i j, C i j → sd i = nI 0 ∧ sd j = nI 1) {n i j : Nat} {L : xLi} (h0 : L.1 = 0) (hn : n ≤ 50) (hi : i < n) (hj : j < n) (h : sd i = nI 0 ∧ sd j = nI 1) : (cRow C U D i j (cAll C U D n i L)).1 < 625 := by
  have h1 := cAll_n hC (n := n) (U := U) (D := D) h0 i
  have h2 := (cRow_n hC (i := i) (L := cAll C U D n i L) (U := U) (D := D) j).1
  have h3 := cnt_mono (sd := sd) (p := nI 1) (show j + 1 ≤ n by omega)
  have h4 := cnt_mono (sd := sd) (p := nI 0) (show i + 1 ≤ n by omega)
  rw [cnt_s h.2] at h3
  rw [cnt_s h.1] at h4
  have h5 := cnt_le (sd := sd) n
  have h6 := pq_625 (cnt sd (nI 0) n) (by omega)
  have h7 : cnt sd (nI 0) n * cnt sd (nI 1) n ≤ cnt sd (nI 0) n * (50 - cnt sd (nI 0) n) := Nat.mul_le_mul_left _ (by omega)
  have h8 : (cnt sd (nI 0) i + 1) * cnt sd (nI 1) n ≤ cnt sd (nI 0) n * cnt sd (nI 1) n := Nat.mul_le_mul_right _ h4
  rw [Nat.add_mul, Nat.one_mul] at h8
  omega
theorem cAll_le {C : Nat → Nat → Prop} {U D : Nat → Nat → Nat} {sd : Nat → Int32} (hC : ∀ i j, C i j → sd i = nI 0 ∧ sd j = nI 1) {n i : Nat} {L : xLi} (h0 : L.1 = 0) (hn : n ≤ 50) (hi : i ≤ n) : (cAll C U D n i L).1 ≤ 625 := by
  have h1 := cAll_n hC (n := n) (U := U) (D := D) h0 i
  have h4 := cnt_mono (sd := sd) (p := nI 0) hi
  have h5 := cnt_le (sd := sd) n
  have h6 := pq_625 (cnt sd (nI 0) n) (by omega)
  have h7 : cnt sd (nI 0) n * cnt sd (nI 1) n ≤ cnt sd (nI 0) n * (50 - cnt sd (nI 0) n) := Nat.mul_le_mul_left _ (by omega)
  have h8 : cnt sd (nI 0) i * cnt sd (nI 1) n ≤ cnt sd (nI 0) n * cnt sd (nI 1) n := Nat.mul_le_mul_right _ h4
  omega
theorem cU_le {tc : Nat → Nat} {dt : Nat → Int32} {fd ld : Nat → Int64} {tk kd : Nat → Nat → Int32} {wn : Nat → Nat} {i j : Nat} (hw : ∀ k, wn k ≤ 252000) (hi : tc i ≤ 8) : cU tc dt fd ld tk kd wn i j < 1000000000 := by
  have h1 := xSh_le (tk := tk i) (kd := kd i) (otk := tk j) (okd := kd j) (otc := tc j) (wn := wn) (tc i)
  have h2 := xAll_le (kd := kd i) hw (tc i)
  have h3 := hw 3
  have h4 : tc i * 252000 ≤ 8 * 252000 := Nat.mul_le_mul_right _ hi
  unfold cU
  split <;> omega
theorem cD_le {tc : Nat → Nat} {dt : Nat → Int32} {tk kd : Nat → Nat → Int32} {wn : Nat → Nat} {i j : Nat} (hw : ∀ k, wn k ≤ 252000) (hi : tc i ≤ 8) (hj : tc j ≤ 8) : cD tc dt tk kd wn i j < 1000000000 := by
  have h2 := xAll_le (kd := kd i) hw (tc i)
  have h5 := xAll_le (kd := kd j) hw (tc j)
  have h3 := hw 3
  have h4 : tc i * 252000 ≤ 8 * 252000 := Nat.mul_le_mul_right _ hi
  have h6 : tc j * 252000 ≤ 8 * 252000 := Nat.mul_le_mul_right _ hj
  unfold cD
  split <;> omega

theorem xRec_add {G : xG} {M : xM} {ad : Nat → Nat} {nc : Nat} {sd : Nat → Int32} {jn : Nat → Int32} {tc : Nat → Nat} {dt : Nat → Int32} {fd : Nat → Int64} {ld : Nat → Int64} {tk : Nat → Nat → Int32} {kd : Nat → Nat → Int32} {wn : Nat → Nat} {jc : Nat} {jz : Nat → Nat} {jo : Nat → Nat} {ju : Nat → Int32} {bg : Int32} {cn : Nat} {zs : Nat → Nat} {os : Nat → Nat} {ab : Nat → Nat} {bl : Nat → Nat} {od : Nat → Nat} {sp : Nat → Nat} {pr : Nat → Nat} {fa : Int64} {fb : Int64} {z o an bn : Nat} (hR : xRec G M ad nc sd jn tc dt fd ld tk kd wn jc jz jo ju bg cn zs os ab bl od sp pr fa fb) : xRec G (xu (xu (xu (xu (xu (xu (xu M 6 (ad 6, .inl (G.2 0, 625, .inl (fun k => nI ((va_up zs cn z) k))))) 7 (ad 7, .inl (G.2 0, 625, .inl (fun k => nI ((va_up os cn o) k))))) 8 (ad 8, .inl (G.2 1, 625, .inr (.inl (fun k => lN ((va_up ab cn an) k)))))) 9 (ad 9, .inl (G.2 1, 625, .inr (.inl (fun k => lN ((va_up bl cn bn) k)))))) 10 (ad 10, .inl (G.2 0, 625, .inl (fun k => nI ((va_up od cn cn) k))))) 12 (ad 12, .inl (G.2 2, 51, .inl (fun k => nI ((va_up (va_up pr z 1) o 1) k))))) 4 (ad 4, .inr (4, [.int bg, .int (nI (cn + 1)), .ref (ad 6), .ref (ad 7), .ref (ad 8), .ref (ad 9), .ref (ad 10), .ref (ad 11), .ref (ad 12)]))) ad nc sd jn tc dt fd ld tk kd wn jc jz jo ju bg (cn + 1) (va_up zs cn z) (va_up os cn o) (va_up ab cn an) (va_up bl cn bn) (va_up od cn cn) sp (va_up (va_up pr z 1) o 1) fa fb := by
  obtain ⟨hc0, hc1, hc2, hc3, hcL, hc5, hc6, hc7, hc8, hc9, hc10, hc11, hc12, hnm, hjn⟩ := hR
  exact ⟨by rw [xu_n (by omega), xu_n (by omega), xu_n (by omega), xu_n (by omega), xu_n (by omega), xu_n (by omega), xu_n (by omega)]; exact hc0,
    by rw [xu_n (by omega), xu_n (by omega), xu_n (by omega), xu_n (by omega), xu_n (by omega), xu_n (by omega), xu_n (by omega)]; exact hc1,
    by rw [xu_n (by omega), xu_n (by omega), xu_n (by omega), xu_n (by omega), xu_n (by omega), xu_n (by omega), xu_n (by omega)]; exact hc2,
    by rw [xu_n (by omega), xu_n (by omega), xu_n (by omega), xu_n (by omega), xu_n (by omega), xu_n (by omega), xu_n (by omega)]; exact hc3,
    by exact xu_s,
    by rw [xu_n (by omega), xu_n (by omega), xu_n (by omega), xu_n (by omega), xu_n (by omega), xu_n (by omega), xu_n (by omega)]; exact hc5,
    by rw [xu_n (by omega), xu_n (by omega), xu_n (by omega), xu_n (by omega), xu_n (by omega), xu_n (by omega)]; exact xu_s,
    by rw [xu_n (by omega), xu_n (by omega), xu_n (by omega), xu_n (by omega), xu_n (by omega)]; exact xu_s,
    by rw [xu_n (by omega), xu_n (by omega), xu_n (by omega), xu_n (by omega)]; exact xu_s,
    by rw [xu_n (by omega), xu_n (by omega), xu_n (by omega)]; exact xu_s,
    by rw [xu_n (by omega), xu_n (by omega)]; exact xu_s,
    by rw [xu_n (by omega), xu_n (by omega), xu_n (by omega), xu_n (by omega), xu_n (by omega), xu_n (by omega), xu_n (by omega)]; exact hc11,
    by rw [xu_n (by omega)]; exact xu_s,
    fun i hi => ⟨by rw [xu_n (by omega), xu_n (by omega), xu_n (by omega), xu_n (by omega), xu_n (by omega), xu_n (by omega), xu_n (by omega)]; exact (hnm i hi).1, by rw [xu_n (by omega), xu_n (by omega), xu_n (by omega), xu_n (by omega), xu_n (by omega), xu_n (by omega), xu_n (by omega)]; exact (hnm i hi).2.1, by rw [xu_n (by omega), xu_n (by omega), xu_n (by omega), xu_n (by omega), xu_n (by omega), xu_n (by omega), xu_n (by omega)]; exact (hnm i hi).2.2⟩,
    fun j hj => by rw [xu_n (by omega), xu_n (by omega), xu_n (by omega), xu_n (by omega), xu_n (by omega), xu_n (by omega), xu_n (by omega)]; exact hjn j hj⟩

theorem xRec_frac {G : xG} {M : xM} {ad : Nat → Nat} {nc : Nat} {sd : Nat → Int32} {jn : Nat → Int32} {tc : Nat → Nat} {dt : Nat → Int32} {fd : Nat → Int64} {ld : Nat → Int64} {tk : Nat → Nat → Int32} {kd : Nat → Nat → Int32} {wn : Nat → Nat} {jc : Nat} {jz : Nat → Nat} {jo : Nat → Nat} {ju : Nat → Int32} {bg : Int32} {cn : Nat} {zs : Nat → Nat} {os : Nat → Nat} {ab : Nat → Nat} {bl : Nat → Nat} {od : Nat → Nat} {sp : Nat → Nat} {pr : Nat → Nat} {fa : Int64} {fb : Int64} {fa9 fb9 : Int64} (hR : xRec G M ad nc sd jn tc dt fd ld tk kd wn jc jz jo ju bg cn zs os ab bl od sp pr fa fb) : xRec G (xu M 5 (ad 5, .inr (2, [.long fa9, .long fb9]))) ad nc sd jn tc dt fd ld tk kd wn jc jz jo ju bg cn zs os ab bl od sp pr fa9 fb9 := by
  obtain ⟨hc0, hc1, hc2, hc3, hcL, hc5, hc6, hc7, hc8, hc9, hc10, hc11, hc12, hnm, hjn⟩ := hR
  exact ⟨by rw [xu_n (by omega)]; exact hc0,
    by rw [xu_n (by omega)]; exact hc1,
    by rw [xu_n (by omega)]; exact hc2,
    by rw [xu_n (by omega)]; exact hc3,
    by rw [xu_n (by omega)]; exact hcL,
    by exact xu_s,
    by rw [xu_n (by omega)]; exact hc6,
    by rw [xu_n (by omega)]; exact hc7,
    by rw [xu_n (by omega)]; exact hc8,
    by rw [xu_n (by omega)]; exact hc9,
    by rw [xu_n (by omega)]; exact hc10,
    by rw [xu_n (by omega)]; exact hc11,
    by rw [xu_n (by omega)]; exact hc12,
    fun i hi => ⟨by rw [xu_n (by omega)]; exact (hnm i hi).1, by rw [xu_n (by omega)]; exact (hnm i hi).2.1, by rw [xu_n (by omega)]; exact (hnm i hi).2.2⟩,
    fun j hj => by rw [xu_n (by omega)]; exact hjn j hj⟩

theorem xRec_begin {G : xG} {M : xM} {ad : Nat → Nat} {nc : Nat} {sd : Nat → Int32} {jn : Nat → Int32} {tc : Nat → Nat} {dt : Nat → Int32} {fd : Nat → Int64} {ld : Nat → Int64} {tk : Nat → Nat → Int32} {kd : Nat → Nat → Int32} {wn : Nat → Nat} {jc : Nat} {jz : Nat → Nat} {jo : Nat → Nat} {ju : Nat → Int32} {bg : Int32} {cn : Nat} {zs : Nat → Nat} {os : Nat → Nat} {ab : Nat → Nat} {bl : Nat → Nat} {od : Nat → Nat} {sp : Nat → Nat} {pr : Nat → Nat} {fa : Int64} {fb : Int64}  (hR : xRec G M ad nc sd jn tc dt fd ld tk kd wn jc jz jo ju bg cn zs os ab bl od sp pr fa fb) : xRec G (xu (xu M 4 (ad 4, .inr (4, [.int (nI 1), .int (nI 0), .ref (ad 6), .ref (ad 7), .ref (ad 8), .ref (ad 9), .ref (ad 10), .ref (ad 11), .ref (ad 12)]))) 12 (ad 12, .inl (G.2 2, 51, .inl (fun k => nI ((xClr pr 51) k))))) ad nc sd jn tc dt fd ld tk kd wn jc jz jo ju (nI 1) 0 zs os ab bl od sp (xClr pr 51) fa fb := by
  obtain ⟨hc0, hc1, hc2, hc3, hcL, hc5, hc6, hc7, hc8, hc9, hc10, hc11, hc12, hnm, hjn⟩ := hR
  exact ⟨by rw [xu_n (by omega), xu_n (by omega)]; exact hc0,
    by rw [xu_n (by omega), xu_n (by omega)]; exact hc1,
    by rw [xu_n (by omega), xu_n (by omega)]; exact hc2,
    by rw [xu_n (by omega), xu_n (by omega)]; exact hc3,
    by rw [xu_n (by omega)]; exact xu_s,
    by rw [xu_n (by omega), xu_n (by omega)]; exact hc5,
    by rw [xu_n (by omega), xu_n (by omega)]; exact hc6,
    by rw [xu_n (by omega), xu_n (by omega)]; exact hc7,
    by rw [xu_n (by omega), xu_n (by omega)]; exact hc8,
    by rw [xu_n (by omega), xu_n (by omega)]; exact hc9,
    by rw [xu_n (by omega), xu_n (by omega)]; exact hc10,
    by rw [xu_n (by omega), xu_n (by omega)]; exact hc11,
    by exact xu_s,
    fun i hi => ⟨by rw [xu_n (by omega), xu_n (by omega)]; exact (hnm i hi).1, by rw [xu_n (by omega), xu_n (by omega)]; exact (hnm i hi).2.1, by rw [xu_n (by omega), xu_n (by omega)]; exact (hnm i hi).2.2⟩,
    fun j hj => by rw [xu_n (by omega), xu_n (by omega)]; exact hjn j hj⟩

theorem xRec_sort {G : xG} {M : xM} {ad : Nat → Nat} {nc : Nat} {sd : Nat → Int32} {jn : Nat → Int32} {tc : Nat → Nat} {dt : Nat → Int32} {fd : Nat → Int64} {ld : Nat → Int64} {tk : Nat → Nat → Int32} {kd : Nat → Nat → Int32} {wn : Nat → Nat} {jc : Nat} {jz : Nat → Nat} {jo : Nat → Nat} {ju : Nat → Int32} {bg : Int32} {cn : Nat} {zs : Nat → Nat} {os : Nat → Nat} {ab : Nat → Nat} {bl : Nat → Nat} {od : Nat → Nat} {sp : Nat → Nat} {pr : Nat → Nat} {fa : Int64} {fb : Int64} {o9 s9 : Nat → Nat} (hR : xRec G M ad nc sd jn tc dt fd ld tk kd wn jc jz jo ju bg cn zs os ab bl od sp pr fa fb) : xRec G (xu (xu M 10 (ad 10, .inl (G.2 0, 625, .inl (fun k => nI (o9 k))))) 11 (ad 11, .inl (G.2 0, 625, .inl (fun k => nI (s9 k))))) ad nc sd jn tc dt fd ld tk kd wn jc jz jo ju bg cn zs os ab bl o9 s9 pr fa fb := by
  obtain ⟨hc0, hc1, hc2, hc3, hcL, hc5, hc6, hc7, hc8, hc9, hc10, hc11, hc12, hnm, hjn⟩ := hR
  exact ⟨by rw [xu_n (by omega), xu_n (by omega)]; exact hc0,
    by rw [xu_n (by omega), xu_n (by omega)]; exact hc1,
    by rw [xu_n (by omega), xu_n (by omega)]; exact hc2,
    by rw [xu_n (by omega), xu_n (by omega)]; exact hc3,
    by rw [xu_n (by omega), xu_n (by omega)]; exact hcL,
    by rw [xu_n (by omega), xu_n (by omega)]; exact hc5,
    by rw [xu_n (by omega), xu_n (by omega)]; exact hc6,
    by rw [xu_n (by omega), xu_n (by omega)]; exact hc7,
    by rw [xu_n (by omega), xu_n (by omega)]; exact hc8,
    by rw [xu_n (by omega), xu_n (by omega)]; exact hc9,
    by rw [xu_n (by omega)]; exact xu_s,
    by exact xu_s,
    by rw [xu_n (by omega), xu_n (by omega)]; exact hc12,
    fun i hi => ⟨by rw [xu_n (by omega), xu_n (by omega)]; exact (hnm i hi).1, by rw [xu_n (by omega), xu_n (by omega)]; exact (hnm i hi).2.1, by rw [xu_n (by omega), xu_n (by omega)]; exact (hnm i hi).2.2⟩,
    fun j hj => by rw [xu_n (by omega), xu_n (by omega)]; exact hjn j hj⟩

theorem xRec_spare {G : xG} {M : xM} {ad : Nat → Nat} {nc : Nat} {sd : Nat → Int32} {jn : Nat → Int32} {tc : Nat → Nat} {dt : Nat → Int32} {fd : Nat → Int64} {ld : Nat → Int64} {tk : Nat → Nat → Int32} {kd : Nat → Nat → Int32} {wn : Nat → Nat} {jc : Nat} {jz : Nat → Nat} {jo : Nat → Nat} {ju : Nat → Int32} {bg : Int32} {cn : Nat} {zs : Nat → Nat} {os : Nat → Nat} {ab : Nat → Nat} {bl : Nat → Nat} {od : Nat → Nat} {sp : Nat → Nat} {pr : Nat → Nat} {fa : Int64} {fb : Int64} {s9 : Nat → Nat} (hR : xRec G M ad nc sd jn tc dt fd ld tk kd wn jc jz jo ju bg cn zs os ab bl od sp pr fa fb) : xRec G (xu M 11 (ad 11, .inl (G.2 0, 625, .inl (fun k => nI (s9 k))))) ad nc sd jn tc dt fd ld tk kd wn jc jz jo ju bg cn zs os ab bl od s9 pr fa fb := by
  obtain ⟨hc0, hc1, hc2, hc3, hcL, hc5, hc6, hc7, hc8, hc9, hc10, hc11, hc12, hnm, hjn⟩ := hR
  exact ⟨by rw [xu_n (by omega)]; exact hc0,
    by rw [xu_n (by omega)]; exact hc1,
    by rw [xu_n (by omega)]; exact hc2,
    by rw [xu_n (by omega)]; exact hc3,
    by rw [xu_n (by omega)]; exact hcL,
    by rw [xu_n (by omega)]; exact hc5,
    by rw [xu_n (by omega)]; exact hc6,
    by rw [xu_n (by omega)]; exact hc7,
    by rw [xu_n (by omega)]; exact hc8,
    by rw [xu_n (by omega)]; exact hc9,
    by rw [xu_n (by omega)]; exact hc10,
    by exact xu_s,
    by rw [xu_n (by omega)]; exact hc12,
    fun i hi => ⟨by rw [xu_n (by omega)]; exact (hnm i hi).1, by rw [xu_n (by omega)]; exact (hnm i hi).2.1, by rw [xu_n (by omega)]; exact (hnm i hi).2.2⟩,
    fun j hj => by rw [xu_n (by omega)]; exact hjn j hj⟩

abbrev rmX4_listPairsOf : Room := { frames := 3, cells := 0, slots := 0, locals := 73 }
set_option maxHeartbeats 4000000 in
set_option maxRecDepth 100000 in
/-- listPairsOf -/
theorem ctX4_listPairsOf (l : Launch) (G : xG) (A : Nat → Prop) (M : xM) {ad : Nat → Nat} {nc : Nat} {sd : Nat → Int32} {jn : Nat → Int32} {tc : Nat → Nat} {dt : Nat → Int32} {fd : Nat → Int64} {ld : Nat → Int64} {tk : Nat → Nat → Int32} {kd : Nat → Nat → Int32} {wn : Nat → Nat} {jc : Nat} {jz : Nat → Nat} {jo : Nat → Nat} {ju : Nat → Int32} {bg : Int32} {cn : Nat} {zs : Nat → Nat} {os : Nat → Nat} {ab : Nat → Nat} {bl : Nat → Nat} {od : Nat → Nat} {sp : Nat → Nat} {pr : Nat → Nat} {fa : Int64} {fb : Int64} (hR : xRec G M ad nc sd jn tc dt fd ld tk kd wn jc jz jo ju bg cn zs os ab bl od sp pr fa fb) (i : Nat) (hi : i < nc) (hmi : cMay sd jn tc (nI 0) i) (hlt : ∀ j, j < nc → sd j = nI 1 → (cRow (cIs sd jn tc dt fd ld tk kd wn) (cU tc dt fd ld tk kd wn) (cD tc dt tk kd wn) i j (cn, zs, os, ab, bl, od, pr)).1 < 625) (hnc : nc ≤ 50) (htk : ∀ i, i < nc → tc i ≤ 8 ∧ ∀ j, j < tc i → vp_in (kd i j) 4) (hwn : ∀ k, wn k ≤ 252000) : Met l yX4_listPairsOf wsX4_listPairsOf rmX4_listPairsOf (va_Pc ([.ref (ad 0), .int (nI (i + 1)), .ref (ad (100 + 3 * i))] : List Value) (xPc G A M)) (va_Qv (fun M1 => ∃ (cn9 : Nat) (zs9 os9 ab9 bl9 od9 pr9 : Nat → Nat) (fa9 fb9 : Int64), xRec G M1 ad nc sd jn tc dt fd ld tk kd wn jc jz jo ju bg cn9 zs9 os9 ab9 bl9 od9 sp pr9 fa9 fb9 ∧ (cn9, zs9, os9, ab9, bl9, od9, pr9) = cRow (cIs sd jn tc dt fd ld tk kd wn) (cU tc dt fd ld tk kd wn) (cD tc dt tk kd wn) i nc (cn, zs, os, ab, bl, od, pr) ∧ ∀ t, 500 ≤ t → M1 t = M t) (xPc G A) A) 0 0 A := by
  refine x_met (cc := cX4_listPairsOf) (maxL := 5) (ret := none) RX4 (by decide) rfl (Nat.le_of_ble_eq_true rfl) rfl ?_
  intro p e s m below meth c hx hb hr hts hown hlocks hml hin hK hA hX ls hl
  have inX4 : ∀ w ∈ wsX40, w ∈ wsX4_listPairsOf := by decide +kernel
  have lk_fieldLink_15 := hts (.fieldLink RX4 15 "Reconcile" "nameCount" "I") (by decide +kernel)
  have lk_fieldLink_44 := hts (.fieldLink RX4 44 "Reconcile" "measured" "LReconcile$Fraction;") (by decide +kernel)
  have lk_fieldLink_21 := hts (.fieldLink RX4 21 "Reconcile" "weights" "[J") (by decide +kernel)
  have lk_fieldLink_37 := hts (.fieldLink RX4 37 "Reconcile" "latest" "LReconcile$Listing;") (by decide +kernel)
  have hS : va_S A s.heap s.heap [] := va_S.rf
  have hl : lv_has ls 5 [(0, .ref (ad 0)), (1, .int (nI (i + 1))), (2, .ref (ad (100 + 3 * i)))] := hl
  have hRR := hR
  obtain ⟨hc0, hc1, hc2, hc3, hcL, hc5, hc6, hc7, hc8, hc9, hc10, hc11, hc12, hnm, hjn⟩ := hR
  refine lv_iconst (v := nI 1) hx hb dX4_listPairsOf_0 (by decide) ?_
  refine lv_istore_n (lv' := [(3, .int (nI 1)), (0, .ref (ad 0)), (1, .int (nI (i + 1))), (2, .ref (ad (100 + 3 * i)))]) hx hb dX4_listPairsOf_1 rfl hl (by decide) rfl (fun ls hl => ?_)
  have loop : ∀ (n : Nat) (j : Nat) (M9 : xM) (cn9 : Nat) (zs9 : Nat → Nat) (os9 : Nat → Nat) (ab9 : Nat → Nat) (bl9 : Nat → Nat) (od9 : Nat → Nat) (pr9 : Nat → Nat) (fa9 : Int64) (fb9 : Int64) (H : Heap) (locs : List Loc) (ls : Array Slot), nc < j + n → (j ≤ nc) → (xRec G M9 ad nc sd jn tc dt fd ld tk kd wn jc jz jo ju bg cn9 zs9 os9 ab9 bl9 od9 sp pr9 fa9 fb9) → ((cn9, zs9, os9, ab9, bl9, od9, pr9) = cRow (cIs sd jn tc dt fd ld tk kd wn) (cU tc dt fd ld tk kd wn) (cD tc dt tk kd wn) i j (cn, zs, os, ab, bl, od, pr)) → (∀ t, 500 ≤ t → M9 t = M t) → xw G.1 vwCl A M9 H → va_S A s.heap H locs → lv_has ls 5 [(3, .int (nI (j + 1))), (0, .ref (ad 0)), (1, .int (nI (i + 1))), (2, .ref (ad (100 + 3 * i)))] → W p l e rmX4_listPairsOf s m ([.ref (ad 0), .int (nI (i + 1)), .ref (ad (100 + 3 * i))] : List Value).toArray below meth c H locs 0 0 (MQ below (va_Qv (fun M1 => ∃ (cn9 : Nat) (zs9 os9 ab9 bl9 od9 pr9 : Nat → Nat) (fa9 fb9 : Int64), xRec G M1 ad nc sd jn tc dt fd ld tk kd wn jc jz jo ju bg cn9 zs9 os9 ab9 bl9 od9 sp pr9 fa9 fb9 ∧ (cn9, zs9, os9, ab9, bl9, od9, pr9) = cRow (cIs sd jn tc dt fd ld tk kd wn) (cU tc dt fd ld tk kd wn) (cD tc dt tk kd wn) i nc (cn, zs, os, ab, bl, od, pr) ∧ ∀ t, 500 ≤ t → M1 t = M t) (xPc G A) A) ([.ref (ad 0), .int (nI (i + 1)), .ref (ad (100 + 3 * i))] : List Value).toArray s 0 0 A) (F0 m 2 ls []) := by
    intro n
    induction n with
    | zero => intro j M9 cn9 zs9 os9 ab9 bl9 od9 pr9 fa9 fb9 H locs ls hn0 hj9 hR9 hL9 hfr9; exact absurd hn0 (by omega)
    | succ n ih =>
      intro j M9 cn9 zs9 os9 ab9 bl9 od9 pr9 fa9 fb9 H locs ls hn0 hj9 hR9 hL9 hfr9 hX hS hl
      obtain ⟨hc0, hc1, hc2, hc3, hcL, hc5, hc6, hc7, hc8, hc9, hc10, hc11, hc12, hnm, hjn⟩ := id hR9
      have hRR := hR9
      refine lv_iload_n hx hb dX4_listPairsOf_2 rfl (lv_at hl 0 rfl) ?_
      refine lv_aload_n hx hb dX4_listPairsOf_3 rfl (lv_at hl 1 rfl) ?_
      refine x_get (ci := 6) (v := .int (nI nc)) (C := RX4) (T := TX4) (N := 7) hx hb hts inX4 hown hK hX hc0 rfl 1 (by decide) lk_fieldLink_15 (fun _ h9 => h9) rfl dX4_listPairsOf_4 ?_
      refine lv_icmp_gt (tgt := 84) hx hb dX4_listPairsOf_7 (by decide) (fun c_1 => ?_) (fun c_1 => ?_)
      · have c_1 : nc < (j + 1) := (nI_ltI (by omega) (by omega)).mp c_1
        exact x_vret hx hb hr hlocks hK hA hX hS dX4_listPairsOf_84 (⟨cn9, zs9, os9, ab9, bl9, od9, pr9, fa9, fb9, hR9, by rw [hL9, show j = nc by omega], hfr9⟩)
      · have c_1 : ¬ (nc < (j + 1)) := fun q => c_1 ((nI_ltI (by omega) (by omega)).mpr q)
        refine lv_aload_n hx hb dX4_listPairsOf_10 rfl (lv_at hl 1 rfl) ?_
        refine lv_iload_n hx hb dX4_listPairsOf_11 rfl (lv_at hl 0 rfl) ?_
        refine x_callq (x_runV (q := (RX4, TX4, 7)) (As := [.int (nI (j + 1))]) (rest := []) ⟨hx, hb, hml, hown, hts⟩ (ctX4_find l G A M9 hRR (nI (j + 1)) hnc) (cwV 1 hts gX4_listPairsOf_X4_find rfl rfl rfl (by decide +kernel) ⟨Nat.le_of_ble_eq_true rfl, Nat.le_of_ble_eq_true rfl⟩) hK hA hX hS hc0 rfl rfl hl.1 rfl (lv_room (Nat.le_of_ble_eq_true rfl)) dX4_listPairsOf_12 ⟨by decide, by decide⟩) hS (fun r_2 M_3 H locs hp hX hS => ?_)
        obtain ⟨hM_, hq_r_2⟩ := hp
        rw [hM_] at hX
        rcases hq_r_2 with ⟨j2, hj2, ep, er⟩ | ⟨ep, er⟩
        · have ejj : j = j2 := by have q := (nI_eq (a := j + 1) (b := j2 + 1) (by omega) (by omega)).mp ep; omega
          subst ejj
          subst er
          obtain ⟨hn0j, hn1j, hn2j⟩ := hnm j hj2
          refine x_rv (y := .ref (ad (100 + 3 * j))) rfl ?_
          refine lv_astore (lv' := [(4, .ref (ad (100 + 3 * j))), (3, .int (nI (j + 1))), (0, .ref (ad 0)), (1, .int (nI (i + 1))), (2, .ref (ad (100 + 3 * i)))]) hx hb dX4_listPairsOf_15 hl (by decide) rfl (fun ls hl => ?_)
          refine lv_aload hx hb dX4_listPairsOf_17 (lv_at hl 0 rfl) ?_
          refine lv_ifnull hx hb dX4_listPairsOf_19 ?_
          refine lv_aload hx hb dX4_listPairsOf_22 (lv_at hl 0 rfl) ?_
          refine lv_iconst (v := nI 1) hx hb dX4_listPairsOf_24 (by decide) ?_
          refine x_calli (x_runV (q := (RX3, TX3, 8)) (As := [.int (nI 1)]) (rest := []) ⟨hx, hb, hml, hown, hts⟩ (ctX3_mayPair l G A M9 hn0j hn1j hn2j (htk j hj2).1 (nI 1)) (cwV 1 hts gX4_listPairsOf_X3_mayPair rfl rfl rfl (by decide +kernel) ⟨Nat.le_of_ble_eq_true rfl, Nat.le_of_ble_eq_true rfl⟩) hK hA hX hS hn0j rfl rfl hl.1 rfl (lv_room (Nat.le_of_ble_eq_true rfl)) dX4_listPairsOf_25 ⟨by decide, by decide⟩) hS (fun r_4 M_5 H locs hp hX hS => ?_)
          obtain ⟨hM_, er_4⟩ := hp
          rw [hM_] at hX
          refine lv_if_eq (tgt := 78) hx hb dX4_listPairsOf_28 (by decide) (fun c_6 => ?_) (fun c_6 => ?_)
          · have hmj := x_if0 er_4 c_6
            refine lv_iinc (v := nI ((j + 1) + 1)) (lv' := [(3, .int (nI ((j + 1) + 1))), (4, .ref (ad (100 + 3 * j))), (0, .ref (ad 0)), (1, .int (nI (i + 1))), (2, .ref (ad (100 + 3 * i)))]) hx hb dX4_listPairsOf_78 hl (k := 1) rfl (show nI (j + 1) + Int32.ofInt 1 = _ from nI_add _ 1) (by decide) rfl (fun ls hl => ?_)
            refine lv_goto (tgt := 2) hx hb dX4_listPairsOf_81 (by decide) ?_
            exact ih (j + 1) M9 cn9 zs9 os9 ab9 bl9 od9 pr9 fa9 fb9 _ _ ls (by omega) (by omega) hR9 (by show _ = cStep _ _ _ i j _; rw [cStep_f (fun q => hmj q.1.2)]; exact hL9) hfr9 hX hS (lv_sub hl [0, 2, 3, 4] rfl)
          · have hmj := x_if1 er_4 c_6
            refine lv_aload_n hx hb dX4_listPairsOf_31 rfl (lv_at hl 2 rfl) ?_
            refine x_get (ci := 6) (v := .ref (ad 5)) (C := RX4) (T := TX4) (N := 7) hx hb hts inX4 hown hK hX hc0 rfl 6 (by decide) lk_fieldLink_44 (fun _ h9 => h9) rfl dX4_listPairsOf_32 ?_
            refine lv_aload_n hx hb dX4_listPairsOf_35 rfl (lv_at hl 4 rfl) ?_
            refine lv_aload hx hb dX4_listPairsOf_36 (lv_at hl 0 rfl) ?_
            refine lv_aload_n hx hb dX4_listPairsOf_38 rfl (lv_at hl 2 rfl) ?_
            refine x_get (ci := 6) (v := .ref (ad 2)) (C := RX4) (T := TX4) (N := 7) hx hb hts inX4 hown hK hX hc0 rfl 2 (by decide) lk_fieldLink_21 (fun _ h9 => h9) rfl dX4_listPairsOf_39 ?_
            have hij : i ≠ j := fun q => by rw [q] at hmi; exact absurd (hmi.1.symm.trans hmj.1) (by decide)
            obtain ⟨hn0i, hn1i, hn2i⟩ := hnm i hi
            have hfa : fa9 = fa9 := rfl
            refine x_callv (x_runV (q := (RX0, TX0, 2)) (As := [.ref (ad (100 + 3 * i)), .ref (ad (100 + 3 * j)), .ref (ad 2)]) (rest := []) ⟨hx, hb, hml, hown, hts⟩ (ctX0_measure l G A M9 hc5 hn0i hn1i hn2i (htk i hi).1 hn0j hn1j hn2j (htk j hj2).1 (htk i hi).2 (htk j hj2).2 hc2 (by omega) (by omega) (by omega) (by omega) (by omega) (by omega) (by omega)) (cwV 3 hts gX4_listPairsOf_X0_measure rfl rfl rfl (by decide +kernel) ⟨Nat.le_of_ble_eq_true rfl, Nat.le_of_ble_eq_true rfl⟩) hK hA hX hS hc5 rfl rfl hl.1 rfl (lv_room (Nat.le_of_ble_eq_true rfl)) dX4_listPairsOf_42 ⟨by decide, by decide⟩) hS (fun M_8 H locs hp hX hS => ?_)
            have hMm : M_8 = xu M9 5 (ad 5, .inr (2, [.long (lN (cU tc dt fd ld tk kd wn i j)), .long (lN (cD tc dt tk kd wn i j))])) := hp
            have hc0 : M_8 0 = some (ad 0, .inr (6, [.ref (ad 1), .int (nI nc), .ref (ad 2), .ref (ad 3), .int (nI jc), .ref (ad 4), .ref (ad 5)])) := by rw [hMm, xu_n (by omega)]; exact hc0
            have hc1 : M_8 1 = some (ad 1, .inl (G.2 3, 50, .inr (.inr (.inr (.inr (fun k => if k < nc then some (ad (100 + 3 * k)) else none)))))) := by rw [hMm, xu_n (by omega)]; exact hc1
            have hc2 : M_8 2 = some (ad 2, .inl (G.2 1, 4, .inr (.inl (fun k => lN (wn k))))) := by rw [hMm, xu_n (by omega)]; exact hc2
            have hc3 : M_8 3 = some (ad 3, .inl (G.2 4, 100, .inr (.inr (.inr (.inr (fun k => if k < jc then some (ad (300 + k)) else none)))))) := by rw [hMm, xu_n (by omega)]; exact hc3
            have hcL : M_8 4 = some (ad 4, .inr (4, [.int bg, .int (nI cn9), .ref (ad 6), .ref (ad 7), .ref (ad 8), .ref (ad 9), .ref (ad 10), .ref (ad 11), .ref (ad 12)])) := by rw [hMm, xu_n (by omega)]; exact hcL
            have hc6 : M_8 6 = some (ad 6, .inl (G.2 0, 625, .inl (fun k => nI (zs9 k)))) := by rw [hMm, xu_n (by omega)]; exact hc6
            have hc7 : M_8 7 = some (ad 7, .inl (G.2 0, 625, .inl (fun k => nI (os9 k)))) := by rw [hMm, xu_n (by omega)]; exact hc7
            have hc8 : M_8 8 = some (ad 8, .inl (G.2 1, 625, .inr (.inl (fun k => lN (ab9 k))))) := by rw [hMm, xu_n (by omega)]; exact hc8
            have hc9 : M_8 9 = some (ad 9, .inl (G.2 1, 625, .inr (.inl (fun k => lN (bl9 k))))) := by rw [hMm, xu_n (by omega)]; exact hc9
            have hc10 : M_8 10 = some (ad 10, .inl (G.2 0, 625, .inl (fun k => nI (od9 k)))) := by rw [hMm, xu_n (by omega)]; exact hc10
            have hc11 : M_8 11 = some (ad 11, .inl (G.2 0, 625, .inl (fun k => nI (sp k)))) := by rw [hMm, xu_n (by omega)]; exact hc11
            have hc12 : M_8 12 = some (ad 12, .inl (G.2 2, 51, .inl (fun k => nI (pr9 k)))) := by rw [hMm, xu_n (by omega)]; exact hc12
            have hn0j : M_8 (100 + 3 * j) = some (ad (100 + 3 * j), .inr (5, [.int (sd j), .int (jn j), .ref (ad (100 + 3 * j + 1)), .ref (ad (100 + 3 * j + 2)), .int (nI (tc j)), .int (dt j), .long (fd j), .long (ld j)])) := by rw [hMm, xu_n (by omega)]; exact hn0j
            have hn1j : M_8 (100 + 3 * j + 1) = some (ad (100 + 3 * j + 1), .inl (G.2 0, 8, .inl (tk j))) := by rw [hMm, xu_n (by omega)]; exact hn1j
            have hn2j : M_8 (100 + 3 * j + 2) = some (ad (100 + 3 * j + 2), .inl (G.2 0, 8, .inl (kd j))) := by rw [hMm, xu_n (by omega)]; exact hn2j
            have hc5 : M_8 5 = some (ad 5, .inr (2, [.long (lN (cU tc dt fd ld tk kd wn i j)), .long (lN (cD tc dt tk kd wn i j))])) := by rw [hMm]; exact xu_s
            have hRm : xRec G M_8 ad nc sd jn tc dt fd ld tk kd wn jc jz jo ju bg cn9 zs9 os9 ab9 bl9 od9 sp pr9 (lN (cU tc dt fd ld tk kd wn i j)) (lN (cD tc dt tk kd wn i j)) := by rw [hMm]; exact xRec_frac hR9
            have hfm : ∀ t, 500 ≤ t → M_8 t = M t := fun t ht => by rw [hMm, xu_n (by omega)]; exact hfr9 t ht
            have hbU := cU_le (dt := dt) (fd := fd) (ld := ld) (tk := tk) (kd := kd) (j := j) hwn (htk i hi).1
            have hbD := cD_le (dt := dt) (tk := tk) (kd := kd) hwn (htk i hi).1 (htk j hj2).1
            refine lv_aload_n hx hb dX4_listPairsOf_45 rfl (lv_at hl 2 rfl) ?_
            refine x_get (ci := 6) (v := .ref (ad 5)) (C := RX4) (T := TX4) (N := 7) hx hb hts inX4 hown hK hX hc0 rfl 6 (by decide) lk_fieldLink_44 (fun _ h9 => h9) rfl dX4_listPairsOf_46 ?_
            refine x_calli (x_runV (q := (RX0, TX0, 2)) (As := []) (rest := []) ⟨hx, hb, hml, hown, hts⟩ (ctX0_exists l G A M_8 hc5 hbU hbD) (cwV 0 hts gX4_listPairsOf_X0_exists rfl rfl rfl (by decide +kernel) ⟨Nat.le_of_ble_eq_true rfl, Nat.le_of_ble_eq_true rfl⟩) hK hA hX hS hc5 rfl rfl hl.1 rfl (lv_room (Nat.le_of_ble_eq_true rfl)) dX4_listPairsOf_49 ⟨by decide, by decide⟩) hS (fun r_9 M_10 H locs hp hX hS => ?_)
            obtain ⟨hM_, er_9⟩ := hp
            rw [hM_] at hX
            refine lv_if_eq (tgt := 78) hx hb dX4_listPairsOf_52 (by decide) (fun c_11 => ?_) (fun c_11 => ?_)
            · have hex := x_if0 er_9 c_11
              refine lv_iinc (v := nI ((j + 1) + 1)) (lv' := [(3, .int (nI ((j + 1) + 1))), (4, .ref (ad (100 + 3 * j))), (0, .ref (ad 0)), (1, .int (nI (i + 1))), (2, .ref (ad (100 + 3 * i)))]) hx hb dX4_listPairsOf_78 hl (k := 1) rfl (show nI (j + 1) + Int32.ofInt 1 = _ from nI_add _ 1) (by decide) rfl (fun ls hl => ?_)
              refine lv_goto (tgt := 2) hx hb dX4_listPairsOf_81 (by decide) ?_
              exact ih (j + 1) M_8 cn9 zs9 os9 ab9 bl9 od9 pr9 (lN (cU tc dt fd ld tk kd wn i j)) (lN (cD tc dt tk kd wn i j)) _ _ ls (by omega) (by omega) hRm (by show _ = cStep _ _ _ i j _; rw [cStep_f (fun q => hex q.2.1)]; exact hL9) hfm hX hS (lv_sub hl [0, 2, 3, 4] rfl)
            · have hex := x_if1 er_9 c_11
              refine lv_aload_n hx hb dX4_listPairsOf_55 rfl (lv_at hl 2 rfl) ?_
              refine x_get (ci := 6) (v := .ref (ad 5)) (C := RX4) (T := TX4) (N := 7) hx hb hts inX4 hown hK hX hc0 rfl 6 (by decide) lk_fieldLink_44 (fun _ h9 => h9) rfl dX4_listPairsOf_56 ?_
              refine x_calli (x_runV (q := (RX0, TX0, 2)) (As := []) (rest := []) ⟨hx, hb, hml, hown, hts⟩ (ctX0_isHalfAtLeast l G A M_8 hc5 hbU hbD) (cwV 0 hts gX4_listPairsOf_X0_isHalfAtLeast rfl rfl rfl (by decide +kernel) ⟨Nat.le_of_ble_eq_true rfl, Nat.le_of_ble_eq_true rfl⟩) hK hA hX hS hc5 rfl rfl hl.1 rfl (lv_room (Nat.le_of_ble_eq_true rfl)) dX4_listPairsOf_59 ⟨by decide, by decide⟩) hS (fun r_12 M_13 H locs hp hX hS => ?_)
              obtain ⟨hM_, er_12⟩ := hp
              rw [hM_] at hX
              refine lv_if_eq (tgt := 78) hx hb dX4_listPairsOf_62 (by decide) (fun c_14 => ?_) (fun c_14 => ?_)
              · have hhf := x_if0 er_12 c_14
                refine lv_iinc (v := nI ((j + 1) + 1)) (lv' := [(3, .int (nI ((j + 1) + 1))), (4, .ref (ad (100 + 3 * j))), (0, .ref (ad 0)), (1, .int (nI (i + 1))), (2, .ref (ad (100 + 3 * i)))]) hx hb dX4_listPairsOf_78 hl (k := 1) rfl (show nI (j + 1) + Int32.ofInt 1 = _ from nI_add _ 1) (by decide) rfl (fun ls hl => ?_)
                refine lv_goto (tgt := 2) hx hb dX4_listPairsOf_81 (by decide) ?_
                exact ih (j + 1) M_8 cn9 zs9 os9 ab9 bl9 od9 pr9 (lN (cU tc dt fd ld tk kd wn i j)) (lN (cD tc dt tk kd wn i j)) _ _ ls (by omega) (by omega) hRm (by show _ = cStep _ _ _ i j _; rw [cStep_f (fun q => hhf q.2.2)]; exact hL9) hfm hX hS (lv_sub hl [0, 2, 3, 4] rfl)
              · have hhf := x_if1 er_12 c_14
                refine lv_aload_n hx hb dX4_listPairsOf_65 rfl (lv_at hl 2 rfl) ?_
                refine x_get (ci := 6) (v := .ref (ad 4)) (C := RX4) (T := TX4) (N := 7) hx hb hts inX4 hown hK hX hc0 rfl 5 (by decide) lk_fieldLink_37 (fun _ h9 => h9) rfl dX4_listPairsOf_66 ?_
                refine lv_iload_n hx hb dX4_listPairsOf_69 rfl (lv_at hl 3 rfl) ?_
                refine lv_iload_n hx hb dX4_listPairsOf_70 rfl (lv_at hl 1 rfl) ?_
                refine lv_aload_n hx hb dX4_listPairsOf_71 rfl (lv_at hl 2 rfl) ?_
                refine x_get (ci := 6) (v := .ref (ad 5)) (C := RX4) (T := TX4) (N := 7) hx hb hts inX4 hown hK hX hc0 rfl 6 (by decide) lk_fieldLink_44 (fun _ h9 => h9) rfl dX4_listPairsOf_72 ?_
                have hlt9 : cn9 < 625 := by have q := hlt j hj2 hmj.1; rw [← hL9] at q; exact q
                refine x_callv (x_runV (q := (RX2, TX2, 9)) (As := [.int (nI (i + 1)), .int (nI (j + 1)), .ref (ad 5)]) (rest := []) ⟨hx, hb, hml, hown, hts⟩ (ctX2_add l G A M_8 hcL hc6 hc7 hc8 hc9 hc10 hc11 hc12 (by omega) hc5 (i + 1) (j + 1) (by omega) (by omega) hlt9) (cwV 3 hts gX4_listPairsOf_X2_add rfl rfl rfl (by decide +kernel) ⟨Nat.le_of_ble_eq_true rfl, Nat.le_of_ble_eq_true rfl⟩) hK hA hX hS hcL rfl rfl hl.1 rfl (lv_room (Nat.le_of_ble_eq_true rfl)) dX4_listPairsOf_75 ⟨by decide, by decide⟩) hS (fun M_16 H locs hp hX hS => ?_)
                have hRa : xRec G M_16 ad nc sd jn tc dt fd ld tk kd wn jc jz jo ju bg (cn9 + 1) (va_up zs9 cn9 (i + 1)) (va_up os9 cn9 (j + 1)) (va_up ab9 cn9 (cU tc dt fd ld tk kd wn i j)) (va_up bl9 cn9 (cD tc dt tk kd wn i j)) (va_up od9 cn9 cn9) sp (va_up (va_up pr9 (i + 1) 1) (j + 1) 1) (lN (cU tc dt fd ld tk kd wn i j)) (lN (cD tc dt tk kd wn i j)) := by rw [hp]; exact xRec_add hRm
                have hfa9 : ∀ t, 500 ≤ t → M_16 t = M t := fun t ht => by rw [hp, xu_n (by omega), xu_n (by omega), xu_n (by omega), xu_n (by omega), xu_n (by omega), xu_n (by omega), xu_n (by omega)]; exact hfm t ht
                refine lv_iinc (v := nI ((j + 1) + 1)) (lv' := [(3, .int (nI ((j + 1) + 1))), (4, .ref (ad (100 + 3 * j))), (0, .ref (ad 0)), (1, .int (nI (i + 1))), (2, .ref (ad (100 + 3 * i)))]) hx hb dX4_listPairsOf_78 hl (k := 1) rfl (show nI (j + 1) + Int32.ofInt 1 = _ from nI_add _ 1) (by decide) rfl (fun ls hl => ?_)
                refine lv_goto (tgt := 2) hx hb dX4_listPairsOf_81 (by decide) ?_
                exact ih (j + 1) M_16 (cn9 + 1) (va_up zs9 cn9 (i + 1)) (va_up os9 cn9 (j + 1)) (va_up ab9 cn9 (cU tc dt fd ld tk kd wn i j)) (va_up bl9 cn9 (cD tc dt tk kd wn i j)) (va_up od9 cn9 cn9) (va_up (va_up pr9 (i + 1) 1) (j + 1) 1) (lN (cU tc dt fd ld tk kd wn i j)) (lN (cD tc dt tk kd wn i j)) _ _ ls (by omega) (by omega) hRa (by show _ = cStep _ _ _ i j _; rw [cStep_t ⟨⟨hmi, hmj⟩, hex, hhf⟩, ← hL9]; rfl) hfa9 hX hS (lv_sub hl [0, 2, 3, 4] rfl)
        · exact absurd ep (fun q => q.elim (fun z => by have := (nI_ltI (by omega) (by omega)).mp z; omega) (fun z => z ((nI_leI (by omega) (by omega)).mpr (by omega))))
  exact loop (nc + 1) 0 M cn zs os ab bl od pr fa fb _ _ ls (by omega) (by omega) hRR rfl (fun _ _ => rfl) hX hS (lv_sub hl [0, 1, 2, 3] rfl)
