theorem wb_tb (n : Nat) : (lN n).toBitVec = BitVec.ofNat 64 n := rfl
theorem wb_inj {a b : Int64} (h : a.toBitVec = b.toBitVec) : a = b := Int64.toBitVec_inj.mp h
theorem wb_tn {n : Nat} (h : n < 2 ^ 64) : (lN n).toBitVec.toNat = n := by rw [wb_tb, BitVec.toNat_ofNat, Nat.mod_eq_of_lt h]
theorem wb_of (x : Int64) : ∃ n, n < 2 ^ 64 ∧ x = lN n := ⟨x.toBitVec.toNat, x.toBitVec.isLt, wb_inj (by rw [wb_tb]; simp)⟩
theorem wb_of32 (x : Int32) : ∃ n, n < 2 ^ 32 ∧ x = nI n := ⟨x.toBitVec.toNat, x.toBitVec.isLt, Int32.toBitVec_inj.mp (by show _ = BitVec.ofNat 32 _; simp)⟩
theorem wb_c : ∀ k, k < 64 → ((nI k).toInt64 &&& 63) = lN k := by decide +kernel
theorem wb_cu : ∀ k, k < 64 → ((nI k).toInt64.toUInt64 &&& Int64.toUInt64 63) = UInt64.ofNat k := by decide +kernel
theorem wb_sm : ∀ k, k < 64 → (BitVec.ofNat 64 k).smod 64 = BitVec.ofNat 64 k := by decide +kernel
theorem wb_pw {a b : Nat} (h : a ≤ b) : 2 ^ b = 2 ^ a * 2 ^ (b - a) := by rw [← Nat.pow_add]; congr 1; omega
theorem wb_lt2 {a b : Nat} (h : a < b) : 2 ^ a < 2 ^ b := Nat.pow_lt_pow_right (by decide) h
theorem wb_mod (n : Nat) : lN n = lN (n % 2 ^ 64) := wb_inj (by rw [wb_tb, wb_tb]; apply BitVec.eq_of_toNat_eq; rw [BitVec.toNat_ofNat, BitVec.toNat_ofNat, Nat.mod_mod])
theorem wb_shr {n k : Nat} (hn : n < 2 ^ 64) (hk : k < 64) : ((lN n).toUInt64 >>> ((nI k).toInt64.toUInt64 &&& Int64.toUInt64 63)).toInt64 = lN (n / 2 ^ k) := by
  rw [wb_cu k hk]
  apply wb_inj
  apply BitVec.eq_of_toNat_eq
  show ((lN n).toUInt64 >>> UInt64.ofNat k).toNat = (BitVec.ofNat 64 _).toNat
  have h1 : (UInt64.ofNat k).toNat = k := by
    show (BitVec.ofNat 64 k).toNat = k
    rw [BitVec.toNat_ofNat, Nat.mod_eq_of_lt (by omega)]
  have h2 : (lN n).toUInt64.toNat = n := wb_tn hn
  rw [UInt64.toNat_shiftRight, h1, h2, Nat.mod_eq_of_lt hk, Nat.shiftRight_eq_div_pow, BitVec.toNat_ofNat, Nat.mod_eq_of_lt (Nat.lt_of_le_of_lt (Nat.div_le_self _ _) hn)]
/-! mixing by a seed -/
def mixU (x : Int64) : Nat := x.toBitVec.toNat / 2 ^ 33
def mixS (x : Int64) : Int64 := x * lN 6364136223846793005 + lN 1442695040888963407
theorem mix_shr (x : Int64) : (x.toUInt64 >>> ((nI 33).toInt64.toUInt64 &&& Int64.toUInt64 63)).toInt64 = lN (mixU x) := by
  obtain ⟨n, hn, rfl⟩ := wb_of x
  rw [wb_shr hn (by decide)]
  unfold mixU
  rw [wb_tn hn]
theorem mixU_lt (x : Int64) : mixU x < 2147483648 := by
  unfold mixU
  have h := x.toBitVec.isLt
  rw [Nat.div_lt_iff_lt_mul (by decide)]
  exact Nat.lt_of_lt_of_le h (by decide)
def xIota (sp : Nat → Nat) (i : Nat) : Nat → Nat := fun k => if k < i then k else sp k
theorem xIota_0 {sp : Nat → Nat} : xIota sp 0 = sp := by funext k; simp [xIota]
theorem xIota_s {sp : Nat → Nat} {i : Nat} : va_up (xIota sp i) i i = xIota sp (i + 1) := by
  funext k
  simp only [va_up, xIota]
  by_cases h : k = i
  · rw [if_pos h, if_pos (by omega), h]
  · rw [if_neg h]
    by_cases h2 : k < i
    · rw [if_pos h2, if_pos (by omega)]
    · rw [if_neg h2, if_neg (by omega)]
def xMix : Nat → Int64 → (Nat → Nat) → (Nat → Nat)
  | 0, _, f => f
  | k + 1, st, f => xMix k (mixS st) (va_up (va_up f (k + 1) (f (mixU (mixS st) % (k + 1 + 1)))) (mixU (mixS st) % (k + 1 + 1)) (f (k + 1)))
theorem xMix_s {k : Nat} {st : Int64} {f : Nat → Nat} (h : 1 ≤ k) : xMix k st f = xMix (k - 1) (mixS st) (va_up (va_up f k (f (mixU (mixS st) % (k + 1)))) (mixU (mixS st) % (k + 1)) (f k)) := by
  obtain ⟨j, rfl⟩ : ∃ j, k = j + 1 := ⟨k - 1, by omega⟩
  rfl
theorem xMix_congr : ∀ {k n : Nat} {st : Int64} {f g : Nat → Nat}, k < n → (∀ j, j < n → f j = g j) → ∀ j, j < n → xMix k st f j = xMix k st g j
  | 0, _, _, _, _, _, h, j, hj => h j hj
  | k + 1, n, st, f, g, hk, h, j, hj => by
    have hm : mixU (mixS st) % (k + 1 + 1) < k + 1 + 1 := Nat.mod_lt _ (by omega)
    refine xMix_congr (k := k) (n := n) (by omega) (fun i hi => ?_) j hj
    simp only [va_up]
    rw [h (k + 1) (by omega), h _ (show mixU (mixS st) % (k + 1 + 1) < n by omega), h i hi]
