/-! the reference: reckon, score -/
def xNs (tk kd otk okd : Nat → Int32) (otc : Nat) (wn : Nat → Nat) : Nat → Nat
  | 0 => 0
  | n + 1 => if xHas otk okd (tk n) (kd n) otc then xNs tk kd otk okd otc wn n else xNs tk kd otk okd otc wn n + wn (kd n).toNatClampNeg
theorem xNs_le {tk kd otk okd : Nat → Int32} {otc : Nat} {wn : Nat → Nat} : ∀ n, xNs tk kd otk okd otc wn n ≤ xAll kd wn n
  | 0 => Nat.le_refl _
  | n + 1 => by
    have h := xNs_le (tk := tk) (kd := kd) (otk := otk) (okd := okd) (otc := otc) (wn := wn) n
    simp only [xNs, xAll]
    split <;> omega
def mTk (mT : Nat → Int32) (a : Nat) : Nat → Int32 := fun k => mT (8 * a + k)
def mSh (mT mK : Nat → Int32) (mC : Nat → Nat) (wn : Nat → Nat) (a b : Nat) : Nat := xSh (mTk mT a) (mTk mK a) (mTk mT b) (mTk mK b) (mC b) wn (mC a)
def mDa (mT mK : Nat → Int32) (mC : Nat → Nat) (wn : Nat → Nat) (a b : Nat) : Nat := xAll (mTk mK a) wn (mC a) + xNs (mTk mT b) (mTk mK b) (mTk mT a) (mTk mK a) (mC a) wn (mC b)
def mU (mT mK : Nat → Int32) (mC : Nat → Nat) (mD : Nat → Int32) (mF mO : Nat → Int64) (wn : Nat → Nat) (a b : Nat) : Nat := if (¬ mD a = 0 ∧ ¬ mD b = 0) ∧ ¬ mO b < mF a ∧ ¬ mO a < mF b then mSh mT mK mC wn a b + wn 3 else mSh mT mK mC wn a b
def mDn (mT mK : Nat → Int32) (mC : Nat → Nat) (mD : Nat → Int32) (wn : Nat → Nat) (a b : Nat) : Nat := if ¬ mD a = 0 ∧ ¬ mD b = 0 then mDa mT mK mC wn a b + wn 3 else mDa mT mK mC wn a b
theorem mU_le {mT mK : Nat → Int32} {mC : Nat → Nat} {mD : Nat → Int32} {mF mO : Nat → Int64} {wn : Nat → Nat} {a b : Nat} (hw : ∀ k, wn k ≤ 252000) (ha : mC a ≤ 8) : mU mT mK mC mD mF mO wn a b < 1000000000 := by
  have h1 := xSh_le (tk := mTk mT a) (kd := mTk mK a) (otk := mTk mT b) (okd := mTk mK b) (otc := mC b) (wn := wn) (mC a)
  have h2 := xAll_le (kd := mTk mK a) hw (mC a)
  have h3 := hw 3
  have h4 : mC a * 252000 ≤ 8 * 252000 := Nat.mul_le_mul_right _ ha
  unfold mU mSh
  split <;> omega
theorem mDn_le {mT mK : Nat → Int32} {mC : Nat → Nat} {mD : Nat → Int32} {wn : Nat → Nat} {a b : Nat} (hw : ∀ k, wn k ≤ 252000) (ha : mC a ≤ 8) (hb : mC b ≤ 8) : mDn mT mK mC mD wn a b < 1000000000 := by
  have h1 := xNs_le (tk := mTk mT b) (kd := mTk mK b) (otk := mTk mT a) (okd := mTk mK a) (otc := mC a) (wn := wn) (mC b)
  have h2 := xAll_le (kd := mTk mK a) hw (mC a)
  have h5 := xAll_le (kd := mTk mK b) hw (mC b)
  have h3 := hw 3
  have h4 : mC a * 252000 ≤ 8 * 252000 := Nat.mul_le_mul_right _ ha
  have h6 : mC b * 252000 ≤ 8 * 252000 := Nat.mul_le_mul_right _ hb
  unfold mDn mDa
  split <;> omega

abbrev rmX5_reckon : Room := { frames := 1, cells := 0, slots := 0, locals := 25 }
set_option maxHeartbeats 4000000 in
set_option maxRecDepth 100000 in
/-- reckon -/
theorem ctX5_reckon (l : Launch) (G : xG) (A : Nat → Prop) (M : xM) {ad : Nat → Nat} {th : Int32} {nc : Nat} {mS : Nat → Int32} {mT : Nat → Int32} {mK : Nat → Int32} {mC : Nat → Nat} {mD : Nat → Int32} {mF : Nat → Int64} {mO : Nat → Int64} {mP : Nat → Nat} {wn : Nat → Nat} {rn : Int32} {pn : Nat} {o1 : Nat → Nat} {o2 : Nat → Nat} {u1 : Nat → Nat} {d1 : Nat → Nat} {jc : Nat} {jA : Nat → Nat} {jB : Nat → Nat} {mx : Nat → Nat} {up : Int64} {dn : Int64} (hR : xMod G M ad th nc mS mT mK mC mD mF mO mP wn rn pn o1 o2 u1 d1 jc jA jB mx up dn) (a b : Nat) (ha5 : 1 ≤ a ∧ a ≤ 50) (hb5 : 1 ≤ b ∧ b ≤ 50) (hma : mC a ≤ 8) (hmb : mC b ≤ 8) (hka : ∀ i, i < mC a → vp_in (mK (8 * a + i)) 4) (hkb : ∀ i, i < mC b → vp_in (mK (8 * b + i)) 4) : Met l yX5_reckon wsX5_reckon rmX5_reckon (va_Pc ([.ref (ad 500), .int (nI a), .int (nI b)] : List Value) (xPc G A M)) (va_Qv (fun M1 => xMod G M1 ad th nc mS mT mK mC mD mF mO mP wn rn pn o1 o2 u1 d1 jc jA jB mx (lN (mU mT mK mC mD mF mO wn a b)) (lN (mDn mT mK mC mD wn a b)) ∧ (∀ t, t < 500 ∨ 516 < t → M1 t = M t)) (xPc G A) A) 0 0 A := by
  refine x_met (cc := cX5_reckon) (maxL := 6) (ret := none) RX5 (by decide) rfl (Nat.le_of_ble_eq_true rfl) rfl ?_
  intro p e s m below meth c hx hb hr hts hown hlocks hml hin hK hA hX ls hl
  have inX5 : ∀ w ∈ wsX50, w ∈ wsX5_reckon := by decide +kernel
  have lk_fieldLink_81 := hts (.fieldLink RX5 81 "ReconcileModel" "up" "J") (by decide +kernel)
  have lk_fieldLink_85 := hts (.fieldLink RX5 85 "ReconcileModel" "down" "J") (by decide +kernel)
  have lk_fieldLink_19 := hts (.fieldLink RX5 19 "ReconcileModel" "counts" "[I") (by decide +kernel)
  have lk_fieldLink_22 := hts (.fieldLink RX5 22 "ReconcileModel" "dated" "[Z") (by decide +kernel)
  have lk_fieldLink_38 := hts (.fieldLink RX5 38 "ReconcileModel" "weights" "[J") (by decide +kernel)
  have lk_fieldLink_26 := hts (.fieldLink RX5 26 "ReconcileModel" "froms" "[J") (by decide +kernel)
  have lk_fieldLink_30 := hts (.fieldLink RX5 30 "ReconcileModel" "tos" "[J") (by decide +kernel)
  have lk_fieldLink_13 := hts (.fieldLink RX5 13 "ReconcileModel" "tokens" "[I") (by decide +kernel)
  have lk_fieldLink_16 := hts (.fieldLink RX5 16 "ReconcileModel" "tokenKinds" "[I") (by decide +kernel)
  have hS : va_S A s.heap s.heap [] := va_S.rf
  have hl : lv_has ls 6 [(0, .ref (ad 500)), (1, .int (nI a)), (2, .int (nI b))] := hl
  obtain ⟨hm500, hm501, hm502, hm503, hm504, hm505, hm506, hm507, hm508, hm509, hm510, hm511, hm512, hm513, hm514, hm515, hm516⟩ := id hR
  refine lv_aload_n hx hb dX5_reckon_0 rfl (lv_at hl 0 rfl) ?_
  refine lv_lconst (v := lN 0) hx hb dX5_reckon_1 rfl ?_
  refine x_put (ci := 7) (v := .long (lN 0)) (C := RX5) (T := TX5) (N := 23) hx hb hts inX5 tyX5 tyX5_ok nmX5 hown hK hX hS hm500 rfl 21 (by decide) lk_fieldLink_81 (fun _ h9 => h9) rfl (tyX5_ok 21 (by decide)) rfl rfl (Nat.le_of_ble_eq_true rfl) dX5_reckon_2 (fun H locs hX hS => ?_)
  obtain ⟨M_1, hM_1⟩ : ∃ zM : xM, zM = xu M 500 (ad 500, .inr (7, [.int th, .int (nI nc), .ref (ad 501), .ref (ad 502), .ref (ad 503), .ref (ad 504), .ref (ad 505), .ref (ad 506), .ref (ad 507), .ref (ad 508), .ref (ad 509), .int rn, .int (nI pn), .ref (ad 510), .ref (ad 511), .ref (ad 512), .ref (ad 513), .int (nI jc), .ref (ad 514), .ref (ad 515), .ref (ad 516), .long (lN 0), .long dn])) := ⟨_, rfl⟩
  have hX : xw G.1 vwCl A M_1 H := by rw [hM_1]; exact hX
  have hm501 : M_1 501 = some (ad 501, .inl (G.2 0, 51, .inl mS)) := by rw [hM_1, xu_n (by omega)]; exact hm501
  have hm502 : M_1 502 = some (ad 502, .inl (G.2 0, 408, .inl mT)) := by rw [hM_1, xu_n (by omega)]; exact hm502
  have hm503 : M_1 503 = some (ad 503, .inl (G.2 0, 408, .inl mK)) := by rw [hM_1, xu_n (by omega)]; exact hm503
  have hm504 : M_1 504 = some (ad 504, .inl (G.2 0, 51, .inl (fun k => nI (mC k)))) := by rw [hM_1, xu_n (by omega)]; exact hm504
  have hm505 : M_1 505 = some (ad 505, .inl (G.2 2, 51, .inl mD)) := by rw [hM_1, xu_n (by omega)]; exact hm505
  have hm506 : M_1 506 = some (ad 506, .inl (G.2 1, 51, .inr (.inl mF))) := by rw [hM_1, xu_n (by omega)]; exact hm506
  have hm507 : M_1 507 = some (ad 507, .inl (G.2 1, 51, .inr (.inl mO))) := by rw [hM_1, xu_n (by omega)]; exact hm507
  have hm508 : M_1 508 = some (ad 508, .inl (G.2 0, 51, .inl (fun k => nI (mP k)))) := by rw [hM_1, xu_n (by omega)]; exact hm508
  have hm509 : M_1 509 = some (ad 509, .inl (G.2 1, 4, .inr (.inl (fun k => lN (wn k))))) := by rw [hM_1, xu_n (by omega)]; exact hm509
  have hm510 : M_1 510 = some (ad 510, .inl (G.2 0, 700, .inl (fun k => nI (o1 k)))) := by rw [hM_1, xu_n (by omega)]; exact hm510
  have hm511 : M_1 511 = some (ad 511, .inl (G.2 0, 700, .inl (fun k => nI (o2 k)))) := by rw [hM_1, xu_n (by omega)]; exact hm511
  have hm512 : M_1 512 = some (ad 512, .inl (G.2 1, 700, .inr (.inl (fun k => lN (u1 k))))) := by rw [hM_1, xu_n (by omega)]; exact hm512
  have hm513 : M_1 513 = some (ad 513, .inl (G.2 1, 700, .inr (.inl (fun k => lN (d1 k))))) := by rw [hM_1, xu_n (by omega)]; exact hm513
  have hm514 : M_1 514 = some (ad 514, .inl (G.2 0, 101, .inl (fun k => nI (jA k)))) := by rw [hM_1, xu_n (by omega)]; exact hm514
  have hm515 : M_1 515 = some (ad 515, .inl (G.2 0, 101, .inl (fun k => nI (jB k)))) := by rw [hM_1, xu_n (by omega)]; exact hm515
  have hm516 : M_1 516 = some (ad 516, .inl (G.2 0, 700, .inl (fun k => nI (mx k)))) := by rw [hM_1, xu_n (by omega)]; exact hm516
  have hm500 : M_1 500 = some (ad 500, .inr (7, [.int th, .int (nI nc), .ref (ad 501), .ref (ad 502), .ref (ad 503), .ref (ad 504), .ref (ad 505), .ref (ad 506), .ref (ad 507), .ref (ad 508), .ref (ad 509), .int rn, .int (nI pn), .ref (ad 510), .ref (ad 511), .ref (ad 512), .ref (ad 513), .int (nI jc), .ref (ad 514), .ref (ad 515), .ref (ad 516), .long (lN 0), .long dn])) := by rw [hM_1]; exact xu_s
  refine lv_aload_n hx hb dX5_reckon_5 rfl (lv_at hl 0 rfl) ?_
  refine lv_lconst (v := lN 0) hx hb dX5_reckon_6 rfl ?_
  refine x_put (ci := 7) (v := .long (lN 0)) (C := RX5) (T := TX5) (N := 23) hx hb hts inX5 tyX5 tyX5_ok nmX5 hown hK hX hS hm500 rfl 22 (by decide) lk_fieldLink_85 (fun _ h9 => h9) rfl (tyX5_ok 22 (by decide)) rfl rfl (Nat.le_of_ble_eq_true rfl) dX5_reckon_7 (fun H locs hX hS => ?_)
  obtain ⟨M_2, hM_2⟩ : ∃ zM : xM, zM = xu M_1 500 (ad 500, .inr (7, [.int th, .int (nI nc), .ref (ad 501), .ref (ad 502), .ref (ad 503), .ref (ad 504), .ref (ad 505), .ref (ad 506), .ref (ad 507), .ref (ad 508), .ref (ad 509), .int rn, .int (nI pn), .ref (ad 510), .ref (ad 511), .ref (ad 512), .ref (ad 513), .int (nI jc), .ref (ad 514), .ref (ad 515), .ref (ad 516), .long (lN 0), .long (lN 0)])) := ⟨_, rfl⟩
  have hX : xw G.1 vwCl A M_2 H := by rw [hM_2]; exact hX
  have hm501 : M_2 501 = some (ad 501, .inl (G.2 0, 51, .inl mS)) := by rw [hM_2, xu_n (by omega)]; exact hm501
  have hm502 : M_2 502 = some (ad 502, .inl (G.2 0, 408, .inl mT)) := by rw [hM_2, xu_n (by omega)]; exact hm502
  have hm503 : M_2 503 = some (ad 503, .inl (G.2 0, 408, .inl mK)) := by rw [hM_2, xu_n (by omega)]; exact hm503
  have hm504 : M_2 504 = some (ad 504, .inl (G.2 0, 51, .inl (fun k => nI (mC k)))) := by rw [hM_2, xu_n (by omega)]; exact hm504
  have hm505 : M_2 505 = some (ad 505, .inl (G.2 2, 51, .inl mD)) := by rw [hM_2, xu_n (by omega)]; exact hm505
  have hm506 : M_2 506 = some (ad 506, .inl (G.2 1, 51, .inr (.inl mF))) := by rw [hM_2, xu_n (by omega)]; exact hm506
  have hm507 : M_2 507 = some (ad 507, .inl (G.2 1, 51, .inr (.inl mO))) := by rw [hM_2, xu_n (by omega)]; exact hm507
  have hm508 : M_2 508 = some (ad 508, .inl (G.2 0, 51, .inl (fun k => nI (mP k)))) := by rw [hM_2, xu_n (by omega)]; exact hm508
  have hm509 : M_2 509 = some (ad 509, .inl (G.2 1, 4, .inr (.inl (fun k => lN (wn k))))) := by rw [hM_2, xu_n (by omega)]; exact hm509
  have hm510 : M_2 510 = some (ad 510, .inl (G.2 0, 700, .inl (fun k => nI (o1 k)))) := by rw [hM_2, xu_n (by omega)]; exact hm510
  have hm511 : M_2 511 = some (ad 511, .inl (G.2 0, 700, .inl (fun k => nI (o2 k)))) := by rw [hM_2, xu_n (by omega)]; exact hm511
  have hm512 : M_2 512 = some (ad 512, .inl (G.2 1, 700, .inr (.inl (fun k => lN (u1 k))))) := by rw [hM_2, xu_n (by omega)]; exact hm512
  have hm513 : M_2 513 = some (ad 513, .inl (G.2 1, 700, .inr (.inl (fun k => lN (d1 k))))) := by rw [hM_2, xu_n (by omega)]; exact hm513
  have hm514 : M_2 514 = some (ad 514, .inl (G.2 0, 101, .inl (fun k => nI (jA k)))) := by rw [hM_2, xu_n (by omega)]; exact hm514
  have hm515 : M_2 515 = some (ad 515, .inl (G.2 0, 101, .inl (fun k => nI (jB k)))) := by rw [hM_2, xu_n (by omega)]; exact hm515
  have hm516 : M_2 516 = some (ad 516, .inl (G.2 0, 700, .inl (fun k => nI (mx k)))) := by rw [hM_2, xu_n (by omega)]; exact hm516
  have hm500 : M_2 500 = some (ad 500, .inr (7, [.int th, .int (nI nc), .ref (ad 501), .ref (ad 502), .ref (ad 503), .ref (ad 504), .ref (ad 505), .ref (ad 506), .ref (ad 507), .ref (ad 508), .ref (ad 509), .int rn, .int (nI pn), .ref (ad 510), .ref (ad 511), .ref (ad 512), .ref (ad 513), .int (nI jc), .ref (ad 514), .ref (ad 515), .ref (ad 516), .long (lN 0), .long (lN 0)])) := by rw [hM_2]; exact xu_s
  refine lv_iconst (v := nI 0) hx hb dX5_reckon_10 (by decide) ?_
  refine lv_istore_n (lv' := [(3, .int (nI 0)), (0, .ref (ad 500)), (1, .int (nI a)), (2, .int (nI b))]) hx hb dX5_reckon_11 rfl hl (by decide) rfl (fun ls hl => ?_)
  have hfr0 : ∀ t, t < 500 ∨ 516 < t → M_2 t = M t := fun t ht => by rw [hM_2, xu_n (by omega), hM_1, xu_n (by omega)]
  have loop : ∀ (n : Nat) (i : Nat) (M9 : xM) (H : Heap) (locs : List Loc) (ls : Array Slot), mC a < i + n → (i ≤ mC a) → M9 = xu M_2 500 (ad 500, .inr (7, [.int th, .int (nI nc), .ref (ad 501), .ref (ad 502), .ref (ad 503), .ref (ad 504), .ref (ad 505), .ref (ad 506), .ref (ad 507), .ref (ad 508), .ref (ad 509), .int rn, .int (nI pn), .ref (ad 510), .ref (ad 511), .ref (ad 512), .ref (ad 513), .int (nI jc), .ref (ad 514), .ref (ad 515), .ref (ad 516), .long (lN (xSh (mTk mT a) (mTk mK a) (mTk mT b) (mTk mK b) (mC b) wn i)), .long (lN (xAll (mTk mK a) wn i))])) → xw G.1 vwCl A M9 H → va_S A s.heap H locs → lv_has ls 6 [(3, .int (nI i)), (0, .ref (ad 500)), (1, .int (nI a)), (2, .int (nI b))] → W p l e rmX5_reckon s m ([.ref (ad 500), .int (nI a), .int (nI b)] : List Value).toArray below meth c H locs 0 0 (MQ below (va_Qv (fun M1 => xMod G M1 ad th nc mS mT mK mC mD mF mO mP wn rn pn o1 o2 u1 d1 jc jA jB mx (lN (mU mT mK mC mD mF mO wn a b)) (lN (mDn mT mK mC mD wn a b)) ∧ (∀ t, t < 500 ∨ 516 < t → M1 t = M t)) (xPc G A) A) ([.ref (ad 500), .int (nI a), .int (nI b)] : List Value).toArray s 0 0 A) (F0 m 12 ls []) := by
    intro n
    induction n with
    | zero => intro i M9 H locs ls hn0 hi; exact absurd hn0 (by omega)
    | succ n ih =>
      intro i M9 H locs ls hn0 hi hM9 hX hS hl
      have hm501 : M9 501 = some (ad 501, .inl (G.2 0, 51, .inl mS)) := by rw [hM9, xu_n (by omega)]; exact hm501
      have hm502 : M9 502 = some (ad 502, .inl (G.2 0, 408, .inl mT)) := by rw [hM9, xu_n (by omega)]; exact hm502
      have hm503 : M9 503 = some (ad 503, .inl (G.2 0, 408, .inl mK)) := by rw [hM9, xu_n (by omega)]; exact hm503
      have hm504 : M9 504 = some (ad 504, .inl (G.2 0, 51, .inl (fun k => nI (mC k)))) := by rw [hM9, xu_n (by omega)]; exact hm504
      have hm505 : M9 505 = some (ad 505, .inl (G.2 2, 51, .inl mD)) := by rw [hM9, xu_n (by omega)]; exact hm505
      have hm506 : M9 506 = some (ad 506, .inl (G.2 1, 51, .inr (.inl mF))) := by rw [hM9, xu_n (by omega)]; exact hm506
      have hm507 : M9 507 = some (ad 507, .inl (G.2 1, 51, .inr (.inl mO))) := by rw [hM9, xu_n (by omega)]; exact hm507
      have hm508 : M9 508 = some (ad 508, .inl (G.2 0, 51, .inl (fun k => nI (mP k)))) := by rw [hM9, xu_n (by omega)]; exact hm508
      have hm509 : M9 509 = some (ad 509, .inl (G.2 1, 4, .inr (.inl (fun k => lN (wn k))))) := by rw [hM9, xu_n (by omega)]; exact hm509
      have hm510 : M9 510 = some (ad 510, .inl (G.2 0, 700, .inl (fun k => nI (o1 k)))) := by rw [hM9, xu_n (by omega)]; exact hm510
      have hm511 : M9 511 = some (ad 511, .inl (G.2 0, 700, .inl (fun k => nI (o2 k)))) := by rw [hM9, xu_n (by omega)]; exact hm511
      have hm512 : M9 512 = some (ad 512, .inl (G.2 1, 700, .inr (.inl (fun k => lN (u1 k))))) := by rw [hM9, xu_n (by omega)]; exact hm512
      have hm513 : M9 513 = some (ad 513, .inl (G.2 1, 700, .inr (.inl (fun k => lN (d1 k))))) := by rw [hM9, xu_n (by omega)]; exact hm513
      have hm514 : M9 514 = some (ad 514, .inl (G.2 0, 101, .inl (fun k => nI (jA k)))) := by rw [hM9, xu_n (by omega)]; exact hm514
      have hm515 : M9 515 = some (ad 515, .inl (G.2 0, 101, .inl (fun k => nI (jB k)))) := by rw [hM9, xu_n (by omega)]; exact hm515
      have hm516 : M9 516 = some (ad 516, .inl (G.2 0, 700, .inl (fun k => nI (mx k)))) := by rw [hM9, xu_n (by omega)]; exact hm516
      have hm500 : M9 500 = some (ad 500, .inr (7, [.int th, .int (nI nc), .ref (ad 501), .ref (ad 502), .ref (ad 503), .ref (ad 504), .ref (ad 505), .ref (ad 506), .ref (ad 507), .ref (ad 508), .ref (ad 509), .int rn, .int (nI pn), .ref (ad 510), .ref (ad 511), .ref (ad 512), .ref (ad 513), .int (nI jc), .ref (ad 514), .ref (ad 515), .ref (ad 516), .long (lN (xSh (mTk mT a) (mTk mK a) (mTk mT b) (mTk mK b) (mC b) wn i)), .long (lN (xAll (mTk mK a) wn i))])) := by rw [hM9]; exact xu_s
      refine lv_iload_n hx hb dX5_reckon_12 rfl (lv_at hl 0 rfl) ?_
      refine lv_aload_n hx hb dX5_reckon_13 rfl (lv_at hl 1 rfl) ?_
      refine x_get (ci := 7) (v := .ref (ad 504)) (C := RX5) (T := TX5) (N := 23) hx hb hts inX5 hown hK hX hm500 rfl 5 (by decide) lk_fieldLink_19 (fun _ h9 => h9) rfl dX5_reckon_14 ?_
      refine lv_iload_n hx hb dX5_reckon_17 rfl (lv_at hl 2 rfl) ?_
      refine x_iN hx hb hK hX hm504 (by omega) (by decide) dX5_reckon_18 ?_
      refine lv_icmp_ge (tgt := 102) hx hb dX5_reckon_19 (by decide) (fun c_3 => ?_) (fun c_3 => ?_)
      · have c_3 : (mC a) ≤ i := (nI_leI (by omega) (by omega)).mp c_3
        refine lv_iconst (v := nI 0) hx hb dX5_reckon_102 (by decide) ?_
        refine lv_istore_n (lv' := [(3, .int (nI 0)), (0, .ref (ad 500)), (1, .int (nI a)), (2, .int (nI b))]) hx hb dX5_reckon_103 rfl hl (by decide) rfl (fun ls hl => ?_)
        have hic : i = mC a := by omega
        rw [hic] at hm500 hM9
        refine W.eq (g2 := F0 m 104 ls []) rfl ?_
        have loop_2 : ∀ (n_2 : Nat) (j : Nat) (M9_2 : xM) (H : Heap) (locs : List Loc) (ls : Array Slot), mC b < j + n_2 → (j ≤ mC b) → M9_2 = xu M9 500 (ad 500, .inr (7, [.int th, .int (nI nc), .ref (ad 501), .ref (ad 502), .ref (ad 503), .ref (ad 504), .ref (ad 505), .ref (ad 506), .ref (ad 507), .ref (ad 508), .ref (ad 509), .int rn, .int (nI pn), .ref (ad 510), .ref (ad 511), .ref (ad 512), .ref (ad 513), .int (nI jc), .ref (ad 514), .ref (ad 515), .ref (ad 516), .long (lN (xSh (mTk mT a) (mTk mK a) (mTk mT b) (mTk mK b) (mC b) wn (mC a))), .long (lN (xAll (mTk mK a) wn (mC a) + xNs (mTk mT b) (mTk mK b) (mTk mT a) (mTk mK a) (mC a) wn j))])) → xw G.1 vwCl A M9_2 H → va_S A s.heap H locs → lv_has ls 6 [(3, .int (nI j)), (0, .ref (ad 500)), (1, .int (nI a)), (2, .int (nI b))] → W p l e rmX5_reckon s m ([.ref (ad 500), .int (nI a), .int (nI b)] : List Value).toArray below meth c H locs 0 0 (MQ below (va_Qv (fun M1 => xMod G M1 ad th nc mS mT mK mC mD mF mO mP wn rn pn o1 o2 u1 d1 jc jA jB mx (lN (mU mT mK mC mD mF mO wn a b)) (lN (mDn mT mK mC mD wn a b)) ∧ (∀ t, t < 500 ∨ 516 < t → M1 t = M t)) (xPc G A) A) ([.ref (ad 500), .int (nI a), .int (nI b)] : List Value).toArray s 0 0 A) (F0 m 104 ls []) := by
          intro n_2
          induction n_2 with
          | zero => intro j M9_2 H locs ls hn0_2 hj; exact absurd hn0_2 (by omega)
          | succ n_2 ih_2 =>
            intro j M9_2 H locs ls hn0_2 hj hM9_2 hX hS hl
            have hm501 : M9_2 501 = some (ad 501, .inl (G.2 0, 51, .inl mS)) := by rw [hM9_2, xu_n (by omega)]; exact hm501
            have hm502 : M9_2 502 = some (ad 502, .inl (G.2 0, 408, .inl mT)) := by rw [hM9_2, xu_n (by omega)]; exact hm502
            have hm503 : M9_2 503 = some (ad 503, .inl (G.2 0, 408, .inl mK)) := by rw [hM9_2, xu_n (by omega)]; exact hm503
            have hm504 : M9_2 504 = some (ad 504, .inl (G.2 0, 51, .inl (fun k => nI (mC k)))) := by rw [hM9_2, xu_n (by omega)]; exact hm504
            have hm505 : M9_2 505 = some (ad 505, .inl (G.2 2, 51, .inl mD)) := by rw [hM9_2, xu_n (by omega)]; exact hm505
            have hm506 : M9_2 506 = some (ad 506, .inl (G.2 1, 51, .inr (.inl mF))) := by rw [hM9_2, xu_n (by omega)]; exact hm506
            have hm507 : M9_2 507 = some (ad 507, .inl (G.2 1, 51, .inr (.inl mO))) := by rw [hM9_2, xu_n (by omega)]; exact hm507
            have hm508 : M9_2 508 = some (ad 508, .inl (G.2 0, 51, .inl (fun k => nI (mP k)))) := by rw [hM9_2, xu_n (by omega)]; exact hm508
            have hm509 : M9_2 509 = some (ad 509, .inl (G.2 1, 4, .inr (.inl (fun k => lN (wn k))))) := by rw [hM9_2, xu_n (by omega)]; exact hm509
            have hm510 : M9_2 510 = some (ad 510, .inl (G.2 0, 700, .inl (fun k => nI (o1 k)))) := by rw [hM9_2, xu_n (by omega)]; exact hm510
            have hm511 : M9_2 511 = some (ad 511, .inl (G.2 0, 700, .inl (fun k => nI (o2 k)))) := by rw [hM9_2, xu_n (by omega)]; exact hm511
            have hm512 : M9_2 512 = some (ad 512, .inl (G.2 1, 700, .inr (.inl (fun k => lN (u1 k))))) := by rw [hM9_2, xu_n (by omega)]; exact hm512
            have hm513 : M9_2 513 = some (ad 513, .inl (G.2 1, 700, .inr (.inl (fun k => lN (d1 k))))) := by rw [hM9_2, xu_n (by omega)]; exact hm513
            have hm514 : M9_2 514 = some (ad 514, .inl (G.2 0, 101, .inl (fun k => nI (jA k)))) := by rw [hM9_2, xu_n (by omega)]; exact hm514
            have hm515 : M9_2 515 = some (ad 515, .inl (G.2 0, 101, .inl (fun k => nI (jB k)))) := by rw [hM9_2, xu_n (by omega)]; exact hm515
            have hm516 : M9_2 516 = some (ad 516, .inl (G.2 0, 700, .inl (fun k => nI (mx k)))) := by rw [hM9_2, xu_n (by omega)]; exact hm516
            have hm500 : M9_2 500 = some (ad 500, .inr (7, [.int th, .int (nI nc), .ref (ad 501), .ref (ad 502), .ref (ad 503), .ref (ad 504), .ref (ad 505), .ref (ad 506), .ref (ad 507), .ref (ad 508), .ref (ad 509), .int rn, .int (nI pn), .ref (ad 510), .ref (ad 511), .ref (ad 512), .ref (ad 513), .int (nI jc), .ref (ad 514), .ref (ad 515), .ref (ad 516), .long (lN (xSh (mTk mT a) (mTk mK a) (mTk mT b) (mTk mK b) (mC b) wn (mC a))), .long (lN (xAll (mTk mK a) wn (mC a) + xNs (mTk mT b) (mTk mK b) (mTk mT a) (mTk mK a) (mC a) wn j))])) := by rw [hM9_2]; exact xu_s
            refine lv_iload_n hx hb dX5_reckon_104 rfl (lv_at hl 0 rfl) ?_
            refine lv_aload_n hx hb dX5_reckon_105 rfl (lv_at hl 1 rfl) ?_
            refine x_get (ci := 7) (v := .ref (ad 504)) (C := RX5) (T := TX5) (N := 23) hx hb hts inX5 hown hK hX hm500 rfl 5 (by decide) lk_fieldLink_19 (fun _ h9 => h9) rfl dX5_reckon_106 ?_
            refine lv_iload_n hx hb dX5_reckon_109 rfl (lv_at hl 3 rfl) ?_
            refine x_iN hx hb hK hX hm504 (by omega) (by decide) dX5_reckon_110 ?_
            refine lv_icmp_ge (tgt := 179) hx hb dX5_reckon_111 (by decide) (fun c_4 => ?_) (fun c_4 => ?_)
            · have c_4 : (mC b) ≤ j := (nI_leI (by omega) (by omega)).mp c_4
              have hjc : j = mC b := by omega
              rw [hjc] at hm500 hM9_2
              have hm500 : M9_2 500 = some (ad 500, .inr (7, [.int th, .int (nI nc), .ref (ad 501), .ref (ad 502), .ref (ad 503), .ref (ad 504), .ref (ad 505), .ref (ad 506), .ref (ad 507), .ref (ad 508), .ref (ad 509), .int rn, .int (nI pn), .ref (ad 510), .ref (ad 511), .ref (ad 512), .ref (ad 513), .int (nI jc), .ref (ad 514), .ref (ad 515), .ref (ad 516), .long (lN (mSh mT mK mC wn a b)), .long (lN (mDa mT mK mC wn a b))])) := hm500
              have hfr2 : ∀ t, t < 500 ∨ 516 < t → M9_2 t = M t := fun t ht => by rw [hM9_2, xu_n (by omega), hM9, xu_n (by omega)]; exact hfr0 t ht
              refine lv_aload_n hx hb dX5_reckon_179 rfl (lv_at hl 1 rfl) ?_
              refine x_get (ci := 7) (v := .ref (ad 505)) (C := RX5) (T := TX5) (N := 23) hx hb hts inX5 hown hK hX hm500 rfl 6 (by decide) lk_fieldLink_22 (fun _ h9 => h9) rfl dX5_reckon_180 ?_
              refine lv_iload_n hx hb dX5_reckon_183 rfl (lv_at hl 2 rfl) ?_
              refine x_zN hx hb hK hX hm505 (by omega) (by decide) dX5_reckon_184 ?_
              refine lv_if_eq (tgt := 263) hx hb dX5_reckon_185 (by decide) (fun c_5 => ?_) (fun c_5 => ?_)
              · exact x_vret hx hb hr hlocks hK hA hX hS dX5_reckon_263 (by have hB : ¬ (¬ mD a = 0 ∧ ¬ mD b = 0) := fun q => q.1 c_5; have eU : mU mT mK mC mD mF mO wn a b = mSh mT mK mC wn a b := if_neg (fun q => hB q.1); have eD : mDn mT mK mC mD wn a b = mDa mT mK mC wn a b := if_neg hB; rw [eU, eD]; exact ⟨⟨hm500, hm501, hm502, hm503, hm504, hm505, hm506, hm507, hm508, hm509, hm510, hm511, hm512, hm513, hm514, hm515, hm516⟩, hfr2⟩)
              · refine lv_aload_n hx hb dX5_reckon_188 rfl (lv_at hl 1 rfl) ?_
                refine x_get (ci := 7) (v := .ref (ad 505)) (C := RX5) (T := TX5) (N := 23) hx hb hts inX5 hown hK hX hm500 rfl 6 (by decide) lk_fieldLink_22 (fun _ h9 => h9) rfl dX5_reckon_189 ?_
                refine lv_iload_n hx hb dX5_reckon_192 rfl (lv_at hl 3 rfl) ?_
                refine x_zN hx hb hK hX hm505 (by omega) (by decide) dX5_reckon_193 ?_
                refine lv_if_eq (tgt := 263) hx hb dX5_reckon_194 (by decide) (fun c_6 => ?_) (fun c_6 => ?_)
                · exact x_vret hx hb hr hlocks hK hA hX hS dX5_reckon_263 (by have hB : ¬ (¬ mD a = 0 ∧ ¬ mD b = 0) := fun q => q.2 c_6; have eU : mU mT mK mC mD mF mO wn a b = mSh mT mK mC wn a b := if_neg (fun q => hB q.1); have eD : mDn mT mK mC mD wn a b = mDa mT mK mC wn a b := if_neg hB; rw [eU, eD]; exact ⟨⟨hm500, hm501, hm502, hm503, hm504, hm505, hm506, hm507, hm508, hm509, hm510, hm511, hm512, hm513, hm514, hm515, hm516⟩, hfr2⟩)
                · refine lv_aload_n hx hb dX5_reckon_197 rfl (lv_at hl 1 rfl) ?_
                  refine lv_dup hx hb dX5_reckon_198 rfl ?_
                  refine x_get (ci := 7) (v := .long (lN (mDa mT mK mC wn a b))) (C := RX5) (T := TX5) (N := 23) hx hb hts inX5 hown hK hX hm500 rfl 22 (by decide) lk_fieldLink_85 (fun _ h9 => h9) rfl dX5_reckon_199 ?_
                  refine lv_aload_n hx hb dX5_reckon_202 rfl (lv_at hl 1 rfl) ?_
                  refine x_get (ci := 7) (v := .ref (ad 509)) (C := RX5) (T := TX5) (N := 23) hx hb hts inX5 hown hK hX hm500 rfl 10 (by decide) lk_fieldLink_38 (fun _ h9 => h9) rfl dX5_reckon_203 ?_
                  refine lv_iconst (v := nI 3) hx hb dX5_reckon_206 (by decide) ?_
                  refine x_lN hx hb hK hX hm509 (by omega) (by decide) dX5_reckon_207 ?_
                  refine lv_ladd hx hb dX5_reckon_208 ?_
                  refine x_rl (y := lN ((mDa mT mK mC wn a b) + (wn 3))) (lN_add _ _) ?_
                  refine x_put (ci := 7) (v := .long (lN ((mDa mT mK mC wn a b) + (wn 3)))) (C := RX5) (T := TX5) (N := 23) hx hb hts inX5 tyX5 tyX5_ok nmX5 hown hK hX hS hm500 rfl 22 (by decide) lk_fieldLink_85 (fun _ h9 => h9) rfl (tyX5_ok 22 (by decide)) rfl rfl (Nat.le_of_ble_eq_true rfl) dX5_reckon_209 (fun H locs hX hS => ?_)
                  obtain ⟨M_7, hM_7⟩ : ∃ zM : xM, zM = xu M9_2 500 (ad 500, .inr (7, [.int th, .int (nI nc), .ref (ad 501), .ref (ad 502), .ref (ad 503), .ref (ad 504), .ref (ad 505), .ref (ad 506), .ref (ad 507), .ref (ad 508), .ref (ad 509), .int rn, .int (nI pn), .ref (ad 510), .ref (ad 511), .ref (ad 512), .ref (ad 513), .int (nI jc), .ref (ad 514), .ref (ad 515), .ref (ad 516), .long (lN (mSh mT mK mC wn a b)), .long (lN ((mDa mT mK mC wn a b) + (wn 3)))])) := ⟨_, rfl⟩
                  have hX : xw G.1 vwCl A M_7 H := by rw [hM_7]; exact hX
                  have hm501 : M_7 501 = some (ad 501, .inl (G.2 0, 51, .inl mS)) := by rw [hM_7, xu_n (by omega)]; exact hm501
                  have hm502 : M_7 502 = some (ad 502, .inl (G.2 0, 408, .inl mT)) := by rw [hM_7, xu_n (by omega)]; exact hm502
                  have hm503 : M_7 503 = some (ad 503, .inl (G.2 0, 408, .inl mK)) := by rw [hM_7, xu_n (by omega)]; exact hm503
                  have hm504 : M_7 504 = some (ad 504, .inl (G.2 0, 51, .inl (fun k => nI (mC k)))) := by rw [hM_7, xu_n (by omega)]; exact hm504
                  have hm505 : M_7 505 = some (ad 505, .inl (G.2 2, 51, .inl mD)) := by rw [hM_7, xu_n (by omega)]; exact hm505
                  have hm506 : M_7 506 = some (ad 506, .inl (G.2 1, 51, .inr (.inl mF))) := by rw [hM_7, xu_n (by omega)]; exact hm506
                  have hm507 : M_7 507 = some (ad 507, .inl (G.2 1, 51, .inr (.inl mO))) := by rw [hM_7, xu_n (by omega)]; exact hm507
                  have hm508 : M_7 508 = some (ad 508, .inl (G.2 0, 51, .inl (fun k => nI (mP k)))) := by rw [hM_7, xu_n (by omega)]; exact hm508
                  have hm509 : M_7 509 = some (ad 509, .inl (G.2 1, 4, .inr (.inl (fun k => lN (wn k))))) := by rw [hM_7, xu_n (by omega)]; exact hm509
                  have hm510 : M_7 510 = some (ad 510, .inl (G.2 0, 700, .inl (fun k => nI (o1 k)))) := by rw [hM_7, xu_n (by omega)]; exact hm510
                  have hm511 : M_7 511 = some (ad 511, .inl (G.2 0, 700, .inl (fun k => nI (o2 k)))) := by rw [hM_7, xu_n (by omega)]; exact hm511
                  have hm512 : M_7 512 = some (ad 512, .inl (G.2 1, 700, .inr (.inl (fun k => lN (u1 k))))) := by rw [hM_7, xu_n (by omega)]; exact hm512
                  have hm513 : M_7 513 = some (ad 513, .inl (G.2 1, 700, .inr (.inl (fun k => lN (d1 k))))) := by rw [hM_7, xu_n (by omega)]; exact hm513
                  have hm514 : M_7 514 = some (ad 514, .inl (G.2 0, 101, .inl (fun k => nI (jA k)))) := by rw [hM_7, xu_n (by omega)]; exact hm514
                  have hm515 : M_7 515 = some (ad 515, .inl (G.2 0, 101, .inl (fun k => nI (jB k)))) := by rw [hM_7, xu_n (by omega)]; exact hm515
                  have hm516 : M_7 516 = some (ad 516, .inl (G.2 0, 700, .inl (fun k => nI (mx k)))) := by rw [hM_7, xu_n (by omega)]; exact hm516
                  have hm500 : M_7 500 = some (ad 500, .inr (7, [.int th, .int (nI nc), .ref (ad 501), .ref (ad 502), .ref (ad 503), .ref (ad 504), .ref (ad 505), .ref (ad 506), .ref (ad 507), .ref (ad 508), .ref (ad 509), .int rn, .int (nI pn), .ref (ad 510), .ref (ad 511), .ref (ad 512), .ref (ad 513), .int (nI jc), .ref (ad 514), .ref (ad 515), .ref (ad 516), .long (lN (mSh mT mK mC wn a b)), .long (lN ((mDa mT mK mC wn a b) + (wn 3)))])) := by rw [hM_7]; exact xu_s
                  refine lv_aload_n hx hb dX5_reckon_212 rfl (lv_at hl 1 rfl) ?_
                  refine lv_dup hx hb dX5_reckon_213 rfl ?_
                  refine x_get (ci := 7) (v := .long (lN (mSh mT mK mC wn a b))) (C := RX5) (T := TX5) (N := 23) hx hb hts inX5 hown hK hX hm500 rfl 21 (by decide) lk_fieldLink_81 (fun _ h9 => h9) rfl dX5_reckon_214 ?_
                  refine lv_aload_n hx hb dX5_reckon_217 rfl (lv_at hl 1 rfl) ?_
                  refine x_get (ci := 7) (v := .ref (ad 506)) (C := RX5) (T := TX5) (N := 23) hx hb hts inX5 hown hK hX hm500 rfl 7 (by decide) lk_fieldLink_26 (fun _ h9 => h9) rfl dX5_reckon_218 ?_
                  refine lv_iload_n hx hb dX5_reckon_221 rfl (lv_at hl 2 rfl) ?_
                  refine x_lN hx hb hK hX hm506 (by omega) (by decide) dX5_reckon_222 ?_
                  refine lv_aload_n hx hb dX5_reckon_223 rfl (lv_at hl 1 rfl) ?_
                  refine x_get (ci := 7) (v := .ref (ad 507)) (C := RX5) (T := TX5) (N := 23) hx hb hts inX5 hown hK hX hm500 rfl 8 (by decide) lk_fieldLink_30 (fun _ h9 => h9) rfl dX5_reckon_224 ?_
                  refine lv_iload_n hx hb dX5_reckon_227 rfl (lv_at hl 3 rfl) ?_
                  refine x_lN hx hb hK hX hm507 (by omega) (by decide) dX5_reckon_228 ?_
                  refine W.lcmp hx hb dX5_reckon_229 ?_
                  refine x_lc_gt (tgt := 258) hx hb dX5_reckon_230 (by decide) (fun c_8 => ?_) (fun c_8 => ?_)
                  · refine lv_lconst (v := lN 0) hx hb dX5_reckon_258 rfl ?_
                    refine lv_ladd hx hb dX5_reckon_259 ?_
                    refine x_rl (y := lN ((mSh mT mK mC wn a b) + 0)) (lN_add _ _) ?_
                    refine x_put (ci := 7) (v := .long (lN ((mSh mT mK mC wn a b) + 0))) (C := RX5) (T := TX5) (N := 23) hx hb hts inX5 tyX5 tyX5_ok nmX5 hown hK hX hS hm500 rfl 21 (by decide) lk_fieldLink_81 (fun _ h9 => h9) rfl (tyX5_ok 21 (by decide)) rfl rfl (Nat.le_of_ble_eq_true rfl) dX5_reckon_260 (fun H locs hX hS => ?_)
                    obtain ⟨M_9, hM_9⟩ : ∃ zM : xM, zM = xu M_7 500 (ad 500, .inr (7, [.int th, .int (nI nc), .ref (ad 501), .ref (ad 502), .ref (ad 503), .ref (ad 504), .ref (ad 505), .ref (ad 506), .ref (ad 507), .ref (ad 508), .ref (ad 509), .int rn, .int (nI pn), .ref (ad 510), .ref (ad 511), .ref (ad 512), .ref (ad 513), .int (nI jc), .ref (ad 514), .ref (ad 515), .ref (ad 516), .long (lN ((mSh mT mK mC wn a b) + 0)), .long (lN ((mDa mT mK mC wn a b) + (wn 3)))])) := ⟨_, rfl⟩
                    have hX : xw G.1 vwCl A M_9 H := by rw [hM_9]; exact hX
                    have hm501 : M_9 501 = some (ad 501, .inl (G.2 0, 51, .inl mS)) := by rw [hM_9, xu_n (by omega)]; exact hm501
                    have hm502 : M_9 502 = some (ad 502, .inl (G.2 0, 408, .inl mT)) := by rw [hM_9, xu_n (by omega)]; exact hm502
                    have hm503 : M_9 503 = some (ad 503, .inl (G.2 0, 408, .inl mK)) := by rw [hM_9, xu_n (by omega)]; exact hm503
                    have hm504 : M_9 504 = some (ad 504, .inl (G.2 0, 51, .inl (fun k => nI (mC k)))) := by rw [hM_9, xu_n (by omega)]; exact hm504
                    have hm505 : M_9 505 = some (ad 505, .inl (G.2 2, 51, .inl mD)) := by rw [hM_9, xu_n (by omega)]; exact hm505
                    have hm506 : M_9 506 = some (ad 506, .inl (G.2 1, 51, .inr (.inl mF))) := by rw [hM_9, xu_n (by omega)]; exact hm506
                    have hm507 : M_9 507 = some (ad 507, .inl (G.2 1, 51, .inr (.inl mO))) := by rw [hM_9, xu_n (by omega)]; exact hm507
                    have hm508 : M_9 508 = some (ad 508, .inl (G.2 0, 51, .inl (fun k => nI (mP k)))) := by rw [hM_9, xu_n (by omega)]; exact hm508
                    have hm509 : M_9 509 = some (ad 509, .inl (G.2 1, 4, .inr (.inl (fun k => lN (wn k))))) := by rw [hM_9, xu_n (by omega)]; exact hm509
                    have hm510 : M_9 510 = some (ad 510, .inl (G.2 0, 700, .inl (fun k => nI (o1 k)))) := by rw [hM_9, xu_n (by omega)]; exact hm510
                    have hm511 : M_9 511 = some (ad 511, .inl (G.2 0, 700, .inl (fun k => nI (o2 k)))) := by rw [hM_9, xu_n (by omega)]; exact hm511
                    have hm512 : M_9 512 = some (ad 512, .inl (G.2 1, 700, .inr (.inl (fun k => lN (u1 k))))) := by rw [hM_9, xu_n (by omega)]; exact hm512
                    have hm513 : M_9 513 = some (ad 513, .inl (G.2 1, 700, .inr (.inl (fun k => lN (d1 k))))) := by rw [hM_9, xu_n (by omega)]; exact hm513
                    have hm514 : M_9 514 = some (ad 514, .inl (G.2 0, 101, .inl (fun k => nI (jA k)))) := by rw [hM_9, xu_n (by omega)]; exact hm514
                    have hm515 : M_9 515 = some (ad 515, .inl (G.2 0, 101, .inl (fun k => nI (jB k)))) := by rw [hM_9, xu_n (by omega)]; exact hm515
                    have hm516 : M_9 516 = some (ad 516, .inl (G.2 0, 700, .inl (fun k => nI (mx k)))) := by rw [hM_9, xu_n (by omega)]; exact hm516
                    have hm500 : M_9 500 = some (ad 500, .inr (7, [.int th, .int (nI nc), .ref (ad 501), .ref (ad 502), .ref (ad 503), .ref (ad 504), .ref (ad 505), .ref (ad 506), .ref (ad 507), .ref (ad 508), .ref (ad 509), .int rn, .int (nI pn), .ref (ad 510), .ref (ad 511), .ref (ad 512), .ref (ad 513), .int (nI jc), .ref (ad 514), .ref (ad 515), .ref (ad 516), .long (lN ((mSh mT mK mC wn a b) + 0)), .long (lN ((mDa mT mK mC wn a b) + (wn 3)))])) := by rw [hM_9]; exact xu_s
                    exact x_vret hx hb hr hlocks hK hA hX hS dX5_reckon_263 (by have hB : ¬ mD a = 0 ∧ ¬ mD b = 0 := ⟨c_5, c_6⟩; have eD : mDn mT mK mC mD wn a b = mDa mT mK mC wn a b + wn 3 := if_pos hB; have eU : mU mT mK mC mD mF mO wn a b = mSh mT mK mC wn a b + 0 := if_neg (fun q => q.2.1 c_8); rw [eU, eD]; exact ⟨⟨hm500, hm501, hm502, hm503, hm504, hm505, hm506, hm507, hm508, hm509, hm510, hm511, hm512, hm513, hm514, hm515, hm516⟩, fun t ht => by rw [hM_9, xu_n (by omega), hM_7, xu_n (by omega)]; exact hfr2 t ht⟩)
                  · refine lv_aload_n hx hb dX5_reckon_233 rfl (lv_at hl 1 rfl) ?_
                    refine x_get (ci := 7) (v := .ref (ad 506)) (C := RX5) (T := TX5) (N := 23) hx hb hts inX5 hown hK hX hm500 rfl 7 (by decide) lk_fieldLink_26 (fun _ h9 => h9) rfl dX5_reckon_234 ?_
                    refine lv_iload_n hx hb dX5_reckon_237 rfl (lv_at hl 3 rfl) ?_
                    refine x_lN hx hb hK hX hm506 (by omega) (by decide) dX5_reckon_238 ?_
                    refine lv_aload_n hx hb dX5_reckon_239 rfl (lv_at hl 1 rfl) ?_
                    refine x_get (ci := 7) (v := .ref (ad 507)) (C := RX5) (T := TX5) (N := 23) hx hb hts inX5 hown hK hX hm500 rfl 8 (by decide) lk_fieldLink_30 (fun _ h9 => h9) rfl dX5_reckon_240 ?_
                    refine lv_iload_n hx hb dX5_reckon_243 rfl (lv_at hl 2 rfl) ?_
                    refine x_lN hx hb hK hX hm507 (by omega) (by decide) dX5_reckon_244 ?_
                    refine W.lcmp hx hb dX5_reckon_245 ?_
                    refine x_lc_gt (tgt := 258) hx hb dX5_reckon_246 (by decide) (fun c_10 => ?_) (fun c_10 => ?_)
                    · refine lv_lconst (v := lN 0) hx hb dX5_reckon_258 rfl ?_
                      refine lv_ladd hx hb dX5_reckon_259 ?_
                      refine x_rl (y := lN ((mSh mT mK mC wn a b) + 0)) (lN_add _ _) ?_
                      refine x_put (ci := 7) (v := .long (lN ((mSh mT mK mC wn a b) + 0))) (C := RX5) (T := TX5) (N := 23) hx hb hts inX5 tyX5 tyX5_ok nmX5 hown hK hX hS hm500 rfl 21 (by decide) lk_fieldLink_81 (fun _ h9 => h9) rfl (tyX5_ok 21 (by decide)) rfl rfl (Nat.le_of_ble_eq_true rfl) dX5_reckon_260 (fun H locs hX hS => ?_)
                      obtain ⟨M_11, hM_11⟩ : ∃ zM : xM, zM = xu M_7 500 (ad 500, .inr (7, [.int th, .int (nI nc), .ref (ad 501), .ref (ad 502), .ref (ad 503), .ref (ad 504), .ref (ad 505), .ref (ad 506), .ref (ad 507), .ref (ad 508), .ref (ad 509), .int rn, .int (nI pn), .ref (ad 510), .ref (ad 511), .ref (ad 512), .ref (ad 513), .int (nI jc), .ref (ad 514), .ref (ad 515), .ref (ad 516), .long (lN ((mSh mT mK mC wn a b) + 0)), .long (lN ((mDa mT mK mC wn a b) + (wn 3)))])) := ⟨_, rfl⟩
                      have hX : xw G.1 vwCl A M_11 H := by rw [hM_11]; exact hX
                      have hm501 : M_11 501 = some (ad 501, .inl (G.2 0, 51, .inl mS)) := by rw [hM_11, xu_n (by omega)]; exact hm501
                      have hm502 : M_11 502 = some (ad 502, .inl (G.2 0, 408, .inl mT)) := by rw [hM_11, xu_n (by omega)]; exact hm502
                      have hm503 : M_11 503 = some (ad 503, .inl (G.2 0, 408, .inl mK)) := by rw [hM_11, xu_n (by omega)]; exact hm503
                      have hm504 : M_11 504 = some (ad 504, .inl (G.2 0, 51, .inl (fun k => nI (mC k)))) := by rw [hM_11, xu_n (by omega)]; exact hm504
                      have hm505 : M_11 505 = some (ad 505, .inl (G.2 2, 51, .inl mD)) := by rw [hM_11, xu_n (by omega)]; exact hm505
                      have hm506 : M_11 506 = some (ad 506, .inl (G.2 1, 51, .inr (.inl mF))) := by rw [hM_11, xu_n (by omega)]; exact hm506
                      have hm507 : M_11 507 = some (ad 507, .inl (G.2 1, 51, .inr (.inl mO))) := by rw [hM_11, xu_n (by omega)]; exact hm507
                      have hm508 : M_11 508 = some (ad 508, .inl (G.2 0, 51, .inl (fun k => nI (mP k)))) := by rw [hM_11, xu_n (by omega)]; exact hm508
                      have hm509 : M_11 509 = some (ad 509, .inl (G.2 1, 4, .inr (.inl (fun k => lN (wn k))))) := by rw [hM_11, xu_n (by omega)]; exact hm509
                      have hm510 : M_11 510 = some (ad 510, .inl (G.2 0, 700, .inl (fun k => nI (o1 k)))) := by rw [hM_11, xu_n (by omega)]; exact hm510
                      have hm511 : M_11 511 = some (ad 511, .inl (G.2 0, 700, .inl (fun k => nI (o2 k)))) := by rw [hM_11, xu_n (by omega)]; exact hm511
                      have hm512 : M_11 512 = some (ad 512, .inl (G.2 1, 700, .inr (.inl (fun k => lN (u1 k))))) := by rw [hM_11, xu_n (by omega)]; exact hm512
                      have hm513 : M_11 513 = some (ad 513, .inl (G.2 1, 700, .inr (.inl (fun k => lN (d1 k))))) := by rw [hM_11, xu_n (by omega)]; exact hm513
                      have hm514 : M_11 514 = some (ad 514, .inl (G.2 0, 101, .inl (fun k => nI (jA k)))) := by rw [hM_11, xu_n (by omega)]; exact hm514
                      have hm515 : M_11 515 = some (ad 515, .inl (G.2 0, 101, .inl (fun k => nI (jB k)))) := by rw [hM_11, xu_n (by omega)]; exact hm515
                      have hm516 : M_11 516 = some (ad 516, .inl (G.2 0, 700, .inl (fun k => nI (mx k)))) := by rw [hM_11, xu_n (by omega)]; exact hm516
                      have hm500 : M_11 500 = some (ad 500, .inr (7, [.int th, .int (nI nc), .ref (ad 501), .ref (ad 502), .ref (ad 503), .ref (ad 504), .ref (ad 505), .ref (ad 506), .ref (ad 507), .ref (ad 508), .ref (ad 509), .int rn, .int (nI pn), .ref (ad 510), .ref (ad 511), .ref (ad 512), .ref (ad 513), .int (nI jc), .ref (ad 514), .ref (ad 515), .ref (ad 516), .long (lN ((mSh mT mK mC wn a b) + 0)), .long (lN ((mDa mT mK mC wn a b) + (wn 3)))])) := by rw [hM_11]; exact xu_s
                      exact x_vret hx hb hr hlocks hK hA hX hS dX5_reckon_263 (by have hB : ¬ mD a = 0 ∧ ¬ mD b = 0 := ⟨c_5, c_6⟩; have eD : mDn mT mK mC mD wn a b = mDa mT mK mC wn a b + wn 3 := if_pos hB; have eU : mU mT mK mC mD mF mO wn a b = mSh mT mK mC wn a b + 0 := if_neg (fun q => q.2.2 c_10); rw [eU, eD]; exact ⟨⟨hm500, hm501, hm502, hm503, hm504, hm505, hm506, hm507, hm508, hm509, hm510, hm511, hm512, hm513, hm514, hm515, hm516⟩, fun t ht => by rw [hM_11, xu_n (by omega), hM_7, xu_n (by omega)]; exact hfr2 t ht⟩)
                    · refine lv_aload_n hx hb dX5_reckon_249 rfl (lv_at hl 1 rfl) ?_
                      refine x_get (ci := 7) (v := .ref (ad 509)) (C := RX5) (T := TX5) (N := 23) hx hb hts inX5 hown hK hX hm500 rfl 10 (by decide) lk_fieldLink_38 (fun _ h9 => h9) rfl dX5_reckon_250 ?_
                      refine lv_iconst (v := nI 3) hx hb dX5_reckon_253 (by decide) ?_
                      refine x_lN hx hb hK hX hm509 (by omega) (by decide) dX5_reckon_254 ?_
                      refine lv_goto (tgt := 259) hx hb dX5_reckon_255 (by decide) ?_
                      refine lv_ladd hx hb dX5_reckon_259 ?_
                      refine x_rl (y := lN ((mSh mT mK mC wn a b) + (wn 3))) (lN_add _ _) ?_
                      refine x_put (ci := 7) (v := .long (lN ((mSh mT mK mC wn a b) + (wn 3)))) (C := RX5) (T := TX5) (N := 23) hx hb hts inX5 tyX5 tyX5_ok nmX5 hown hK hX hS hm500 rfl 21 (by decide) lk_fieldLink_81 (fun _ h9 => h9) rfl (tyX5_ok 21 (by decide)) rfl rfl (Nat.le_of_ble_eq_true rfl) dX5_reckon_260 (fun H locs hX hS => ?_)
                      obtain ⟨M_12, hM_12⟩ : ∃ zM : xM, zM = xu M_7 500 (ad 500, .inr (7, [.int th, .int (nI nc), .ref (ad 501), .ref (ad 502), .ref (ad 503), .ref (ad 504), .ref (ad 505), .ref (ad 506), .ref (ad 507), .ref (ad 508), .ref (ad 509), .int rn, .int (nI pn), .ref (ad 510), .ref (ad 511), .ref (ad 512), .ref (ad 513), .int (nI jc), .ref (ad 514), .ref (ad 515), .ref (ad 516), .long (lN ((mSh mT mK mC wn a b) + (wn 3))), .long (lN ((mDa mT mK mC wn a b) + (wn 3)))])) := ⟨_, rfl⟩
                      have hX : xw G.1 vwCl A M_12 H := by rw [hM_12]; exact hX
                      have hm501 : M_12 501 = some (ad 501, .inl (G.2 0, 51, .inl mS)) := by rw [hM_12, xu_n (by omega)]; exact hm501
                      have hm502 : M_12 502 = some (ad 502, .inl (G.2 0, 408, .inl mT)) := by rw [hM_12, xu_n (by omega)]; exact hm502
                      have hm503 : M_12 503 = some (ad 503, .inl (G.2 0, 408, .inl mK)) := by rw [hM_12, xu_n (by omega)]; exact hm503
                      have hm504 : M_12 504 = some (ad 504, .inl (G.2 0, 51, .inl (fun k => nI (mC k)))) := by rw [hM_12, xu_n (by omega)]; exact hm504
                      have hm505 : M_12 505 = some (ad 505, .inl (G.2 2, 51, .inl mD)) := by rw [hM_12, xu_n (by omega)]; exact hm505
                      have hm506 : M_12 506 = some (ad 506, .inl (G.2 1, 51, .inr (.inl mF))) := by rw [hM_12, xu_n (by omega)]; exact hm506
                      have hm507 : M_12 507 = some (ad 507, .inl (G.2 1, 51, .inr (.inl mO))) := by rw [hM_12, xu_n (by omega)]; exact hm507
                      have hm508 : M_12 508 = some (ad 508, .inl (G.2 0, 51, .inl (fun k => nI (mP k)))) := by rw [hM_12, xu_n (by omega)]; exact hm508
                      have hm509 : M_12 509 = some (ad 509, .inl (G.2 1, 4, .inr (.inl (fun k => lN (wn k))))) := by rw [hM_12, xu_n (by omega)]; exact hm509
                      have hm510 : M_12 510 = some (ad 510, .inl (G.2 0, 700, .inl (fun k => nI (o1 k)))) := by rw [hM_12, xu_n (by omega)]; exact hm510
                      have hm511 : M_12 511 = some (ad 511, .inl (G.2 0, 700, .inl (fun k => nI (o2 k)))) := by rw [hM_12, xu_n (by omega)]; exact hm511
                      have hm512 : M_12 512 = some (ad 512, .inl (G.2 1, 700, .inr (.inl (fun k => lN (u1 k))))) := by rw [hM_12, xu_n (by omega)]; exact hm512
                      have hm513 : M_12 513 = some (ad 513, .inl (G.2 1, 700, .inr (.inl (fun k => lN (d1 k))))) := by rw [hM_12, xu_n (by omega)]; exact hm513
                      have hm514 : M_12 514 = some (ad 514, .inl (G.2 0, 101, .inl (fun k => nI (jA k)))) := by rw [hM_12, xu_n (by omega)]; exact hm514
                      have hm515 : M_12 515 = some (ad 515, .inl (G.2 0, 101, .inl (fun k => nI (jB k)))) := by rw [hM_12, xu_n (by omega)]; exact hm515
                      have hm516 : M_12 516 = some (ad 516, .inl (G.2 0, 700, .inl (fun k => nI (mx k)))) := by rw [hM_12, xu_n (by omega)]; exact hm516
                      have hm500 : M_12 500 = some (ad 500, .inr (7, [.int th, .int (nI nc), .ref (ad 501), .ref (ad 502), .ref (ad 503), .ref (ad 504), .ref (ad 505), .ref (ad 506), .ref (ad 507), .ref (ad 508), .ref (ad 509), .int rn, .int (nI pn), .ref (ad 510), .ref (ad 511), .ref (ad 512), .ref (ad 513), .int (nI jc), .ref (ad 514), .ref (ad 515), .ref (ad 516), .long (lN ((mSh mT mK mC wn a b) + (wn 3))), .long (lN ((mDa mT mK mC wn a b) + (wn 3)))])) := by rw [hM_12]; exact xu_s
                      exact x_vret hx hb hr hlocks hK hA hX hS dX5_reckon_263 (by have hB : ¬ mD a = 0 ∧ ¬ mD b = 0 := ⟨c_5, c_6⟩; have eD : mDn mT mK mC mD wn a b = mDa mT mK mC wn a b + wn 3 := if_pos hB; have eU : mU mT mK mC mD mF mO wn a b = mSh mT mK mC wn a b + wn 3 := if_pos ⟨hB, c_8, c_10⟩; rw [eU, eD]; exact ⟨⟨hm500, hm501, hm502, hm503, hm504, hm505, hm506, hm507, hm508, hm509, hm510, hm511, hm512, hm513, hm514, hm515, hm516⟩, fun t ht => by rw [hM_12, xu_n (by omega), hM_7, xu_n (by omega)]; exact hfr2 t ht⟩)
            · have c_4 : ¬ ((mC b) ≤ j) := fun q => c_4 ((nI_leI (by omega) (by omega)).mpr q)
              refine lv_aload_n hx hb dX5_reckon_114 rfl (lv_at hl 1 rfl) ?_
              refine lv_dup hx hb dX5_reckon_115 rfl ?_
              refine x_get (ci := 7) (v := .long (lN (xAll (mTk mK a) wn (mC a) + xNs (mTk mT b) (mTk mK b) (mTk mT a) (mTk mK a) (mC a) wn j))) (C := RX5) (T := TX5) (N := 23) hx hb hts inX5 hown hK hX hm500 rfl 22 (by decide) lk_fieldLink_85 (fun _ h9 => h9) rfl dX5_reckon_116 ?_
              refine lv_aload_n hx hb dX5_reckon_119 rfl (lv_at hl 1 rfl) ?_
              refine lv_iload_n hx hb dX5_reckon_120 rfl (lv_at hl 2 rfl) ?_
              refine lv_aload_n hx hb dX5_reckon_121 rfl (lv_at hl 1 rfl) ?_
              refine x_get (ci := 7) (v := .ref (ad 502)) (C := RX5) (T := TX5) (N := 23) hx hb hts inX5 hown hK hX hm500 rfl 3 (by decide) lk_fieldLink_13 (fun _ h9 => h9) rfl dX5_reckon_122 ?_
              refine lv_bipush (v := nI 8) hx hb dX5_reckon_125 (by decide) ?_
              refine lv_iload_n hx hb dX5_reckon_127 rfl (lv_at hl 3 rfl) ?_
              refine lv_imul hx hb dX5_reckon_128 ?_
              refine x_ri (y := nI (8 * b)) (pk_mul _ _) ?_
              refine lv_iload_n hx hb dX5_reckon_129 rfl (lv_at hl 0 rfl) ?_
              refine lv_iadd hx hb dX5_reckon_130 ?_
              refine x_ri (y := nI ((8 * b) + j)) (nI_add _ _) ?_
              refine x_iN hx hb hK hX hm502 (by omega) (by decide) dX5_reckon_131 ?_
              refine lv_aload_n hx hb dX5_reckon_132 rfl (lv_at hl 1 rfl) ?_
              refine x_get (ci := 7) (v := .ref (ad 503)) (C := RX5) (T := TX5) (N := 23) hx hb hts inX5 hown hK hX hm500 rfl 4 (by decide) lk_fieldLink_16 (fun _ h9 => h9) rfl dX5_reckon_133 ?_
              refine lv_bipush (v := nI 8) hx hb dX5_reckon_136 (by decide) ?_
              refine lv_iload_n hx hb dX5_reckon_138 rfl (lv_at hl 3 rfl) ?_
              refine lv_imul hx hb dX5_reckon_139 ?_
              refine x_ri (y := nI (8 * b)) (pk_mul _ _) ?_
              refine lv_iload_n hx hb dX5_reckon_140 rfl (lv_at hl 0 rfl) ?_
              refine lv_iadd hx hb dX5_reckon_141 ?_
              refine x_ri (y := nI ((8 * b) + j)) (nI_add _ _) ?_
              refine x_iN hx hb hK hX hm503 (by omega) (by decide) dX5_reckon_142 ?_
              refine x_calli (x_runV (q := (RX5, TX5, 23)) (As := [.int (nI a), .int (mT ((8 * b) + j)), .int (mK ((8 * b) + j))]) (rest := [.long (lN (xAll (mTk mK a) wn (mC a) + xNs (mTk mT b) (mTk mK b) (mTk mT a) (mTk mK a) (mC a) wn j)), .ref (ad 500)]) ⟨hx, hb, hml, hown, hts⟩ (ctX5_has l G A M9_2 ⟨hm500, hm501, hm502, hm503, hm504, hm505, hm506, hm507, hm508, hm509, hm510, hm511, hm512, hm513, hm514, hm515, hm516⟩ a (mT (8 * b + j)) (mK (8 * b + j)) ha5 hma) (cwV 3 hts gX5_reckon_X5_has rfl rfl rfl (by decide +kernel) ⟨Nat.le_of_ble_eq_true rfl, Nat.le_of_ble_eq_true rfl⟩) hK hA hX hS hm500 rfl rfl hl.1 rfl (lv_room (Nat.le_of_ble_eq_true rfl)) dX5_reckon_143 ⟨by decide, by decide⟩) hS (fun r_13 M_14 H locs hp hX hS => ?_)
              obtain ⟨hM_, er_13⟩ := hp
              rw [hM_] at hX
              refine lv_if_eq (tgt := 153) hx hb dX5_reckon_146 (by decide) (fun c_15 => ?_) (fun c_15 => ?_)
              · have c_15 := x_ib0 er_13 c_15
                have ens : xNs (mTk mT b) (mTk mK b) (mTk mT a) (mTk mK a) (mC a) wn (j + 1) = xNs (mTk mT b) (mTk mK b) (mTk mT a) (mTk mK a) (mC a) wn j + wn (mK (8 * b + j)).toNatClampNeg := by show (if xHas (mTk mT a) (mTk mK a) (mT (8 * b + j)) (mK (8 * b + j)) (mC a) then _ else _) = _; rw [show xHas (mTk mT a) (mTk mK a) (mT (8 * b + j)) (mK (8 * b + j)) (mC a) = false from c_15]; rfl
                refine lv_aload_n hx hb dX5_reckon_153 rfl (lv_at hl 1 rfl) ?_
                refine x_get (ci := 7) (v := .ref (ad 509)) (C := RX5) (T := TX5) (N := 23) hx hb hts inX5 hown hK hX hm500 rfl 10 (by decide) lk_fieldLink_38 (fun _ h9 => h9) rfl dX5_reckon_154 ?_
                refine lv_aload_n hx hb dX5_reckon_157 rfl (lv_at hl 1 rfl) ?_
                refine x_get (ci := 7) (v := .ref (ad 503)) (C := RX5) (T := TX5) (N := 23) hx hb hts inX5 hown hK hX hm500 rfl 4 (by decide) lk_fieldLink_16 (fun _ h9 => h9) rfl dX5_reckon_158 ?_
                refine lv_bipush (v := nI 8) hx hb dX5_reckon_161 (by decide) ?_
                refine lv_iload_n hx hb dX5_reckon_163 rfl (lv_at hl 3 rfl) ?_
                refine lv_imul hx hb dX5_reckon_164 ?_
                refine x_ri (y := nI (8 * b)) (pk_mul _ _) ?_
                refine lv_iload_n hx hb dX5_reckon_165 rfl (lv_at hl 0 rfl) ?_
                refine lv_iadd hx hb dX5_reckon_166 ?_
                refine x_ri (y := nI ((8 * b) + j)) (nI_add _ _) ?_
                refine x_iN hx hb hK hX hm503 (by omega) (by decide) dX5_reckon_167 ?_
                obtain ⟨ek, hk4⟩ := x_ki (hkb j (by omega)) (by decide)
                refine x_ri (y := nI (mK (8 * b + j)).toNatClampNeg) (ek) ?_
                refine x_lN hx hb hK hX hm509 hk4 (by decide) dX5_reckon_168 ?_
                refine lv_ladd hx hb dX5_reckon_169 ?_
                refine x_rl (y := lN ((xAll (mTk mK a) wn (mC a) + xNs (mTk mT b) (mTk mK b) (mTk mT a) (mTk mK a) (mC a) wn j) + (wn (mK (8 * b + j)).toNatClampNeg))) (lN_add _ _) ?_
                refine x_rl (y := lN (xAll (mTk mK a) wn (mC a) + xNs (mTk mT b) (mTk mK b) (mTk mT a) (mTk mK a) (mC a) wn (j + 1))) (congrArg lN (by rw [ens]; omega)) ?_
                refine x_put (ci := 7) (v := .long (lN (xAll (mTk mK a) wn (mC a) + xNs (mTk mT b) (mTk mK b) (mTk mT a) (mTk mK a) (mC a) wn (j + 1)))) (C := RX5) (T := TX5) (N := 23) hx hb hts inX5 tyX5 tyX5_ok nmX5 hown hK hX hS hm500 rfl 22 (by decide) lk_fieldLink_85 (fun _ h9 => h9) rfl (tyX5_ok 22 (by decide)) rfl rfl (Nat.le_of_ble_eq_true rfl) dX5_reckon_170 (fun H locs hX hS => ?_)
                obtain ⟨M_16, hM_16⟩ : ∃ zM : xM, zM = xu M9_2 500 (ad 500, .inr (7, [.int th, .int (nI nc), .ref (ad 501), .ref (ad 502), .ref (ad 503), .ref (ad 504), .ref (ad 505), .ref (ad 506), .ref (ad 507), .ref (ad 508), .ref (ad 509), .int rn, .int (nI pn), .ref (ad 510), .ref (ad 511), .ref (ad 512), .ref (ad 513), .int (nI jc), .ref (ad 514), .ref (ad 515), .ref (ad 516), .long (lN (xSh (mTk mT a) (mTk mK a) (mTk mT b) (mTk mK b) (mC b) wn (mC a))), .long (lN (xAll (mTk mK a) wn (mC a) + xNs (mTk mT b) (mTk mK b) (mTk mT a) (mTk mK a) (mC a) wn (j + 1)))])) := ⟨_, rfl⟩
                have hX : xw G.1 vwCl A M_16 H := by rw [hM_16]; exact hX
                have hm501 : M_16 501 = some (ad 501, .inl (G.2 0, 51, .inl mS)) := by rw [hM_16, xu_n (by omega)]; exact hm501
                have hm502 : M_16 502 = some (ad 502, .inl (G.2 0, 408, .inl mT)) := by rw [hM_16, xu_n (by omega)]; exact hm502
                have hm503 : M_16 503 = some (ad 503, .inl (G.2 0, 408, .inl mK)) := by rw [hM_16, xu_n (by omega)]; exact hm503
                have hm504 : M_16 504 = some (ad 504, .inl (G.2 0, 51, .inl (fun k => nI (mC k)))) := by rw [hM_16, xu_n (by omega)]; exact hm504
                have hm505 : M_16 505 = some (ad 505, .inl (G.2 2, 51, .inl mD)) := by rw [hM_16, xu_n (by omega)]; exact hm505
                have hm506 : M_16 506 = some (ad 506, .inl (G.2 1, 51, .inr (.inl mF))) := by rw [hM_16, xu_n (by omega)]; exact hm506
                have hm507 : M_16 507 = some (ad 507, .inl (G.2 1, 51, .inr (.inl mO))) := by rw [hM_16, xu_n (by omega)]; exact hm507
                have hm508 : M_16 508 = some (ad 508, .inl (G.2 0, 51, .inl (fun k => nI (mP k)))) := by rw [hM_16, xu_n (by omega)]; exact hm508
                have hm509 : M_16 509 = some (ad 509, .inl (G.2 1, 4, .inr (.inl (fun k => lN (wn k))))) := by rw [hM_16, xu_n (by omega)]; exact hm509
                have hm510 : M_16 510 = some (ad 510, .inl (G.2 0, 700, .inl (fun k => nI (o1 k)))) := by rw [hM_16, xu_n (by omega)]; exact hm510
                have hm511 : M_16 511 = some (ad 511, .inl (G.2 0, 700, .inl (fun k => nI (o2 k)))) := by rw [hM_16, xu_n (by omega)]; exact hm511
                have hm512 : M_16 512 = some (ad 512, .inl (G.2 1, 700, .inr (.inl (fun k => lN (u1 k))))) := by rw [hM_16, xu_n (by omega)]; exact hm512
                have hm513 : M_16 513 = some (ad 513, .inl (G.2 1, 700, .inr (.inl (fun k => lN (d1 k))))) := by rw [hM_16, xu_n (by omega)]; exact hm513
                have hm514 : M_16 514 = some (ad 514, .inl (G.2 0, 101, .inl (fun k => nI (jA k)))) := by rw [hM_16, xu_n (by omega)]; exact hm514
                have hm515 : M_16 515 = some (ad 515, .inl (G.2 0, 101, .inl (fun k => nI (jB k)))) := by rw [hM_16, xu_n (by omega)]; exact hm515
                have hm516 : M_16 516 = some (ad 516, .inl (G.2 0, 700, .inl (fun k => nI (mx k)))) := by rw [hM_16, xu_n (by omega)]; exact hm516
                have hm500 : M_16 500 = some (ad 500, .inr (7, [.int th, .int (nI nc), .ref (ad 501), .ref (ad 502), .ref (ad 503), .ref (ad 504), .ref (ad 505), .ref (ad 506), .ref (ad 507), .ref (ad 508), .ref (ad 509), .int rn, .int (nI pn), .ref (ad 510), .ref (ad 511), .ref (ad 512), .ref (ad 513), .int (nI jc), .ref (ad 514), .ref (ad 515), .ref (ad 516), .long (lN (xSh (mTk mT a) (mTk mK a) (mTk mT b) (mTk mK b) (mC b) wn (mC a))), .long (lN (xAll (mTk mK a) wn (mC a) + xNs (mTk mT b) (mTk mK b) (mTk mT a) (mTk mK a) (mC a) wn (j + 1)))])) := by rw [hM_16]; exact xu_s
                refine lv_iinc (v := nI (j + 1)) (lv' := [(3, .int (nI (j + 1))), (0, .ref (ad 500)), (1, .int (nI a)), (2, .int (nI b))]) hx hb dX5_reckon_173 hl (k := 0) rfl (show nI j + Int32.ofInt 1 = _ from nI_add _ 1) (by decide) rfl (fun ls hl => ?_)
                refine lv_goto (tgt := 104) hx hb dX5_reckon_176 (by decide) ?_
                exact ih_2 (j + 1) M_16 _ _ ls (by omega) (by omega) (by rw [hM_16, hM9_2]; simp only [x_uu]) hX hS (lv_sub hl [0, 1, 2, 3] rfl)
              · have c_15 := x_ib1 er_13 c_15
                have ens : xNs (mTk mT b) (mTk mK b) (mTk mT a) (mTk mK a) (mC a) wn (j + 1) = xNs (mTk mT b) (mTk mK b) (mTk mT a) (mTk mK a) (mC a) wn j := by show (if xHas (mTk mT a) (mTk mK a) (mT (8 * b + j)) (mK (8 * b + j)) (mC a) then _ else _) = _; rw [show xHas (mTk mT a) (mTk mK a) (mT (8 * b + j)) (mK (8 * b + j)) (mC a) = true from c_15]; rfl
                refine lv_lconst (v := lN 0) hx hb dX5_reckon_149 rfl ?_
                refine lv_goto (tgt := 169) hx hb dX5_reckon_150 (by decide) ?_
                refine lv_ladd hx hb dX5_reckon_169 ?_
                refine x_rl (y := lN ((xAll (mTk mK a) wn (mC a) + xNs (mTk mT b) (mTk mK b) (mTk mT a) (mTk mK a) (mC a) wn j) + 0)) (lN_add _ _) ?_
                refine x_rl (y := lN (xAll (mTk mK a) wn (mC a) + xNs (mTk mT b) (mTk mK b) (mTk mT a) (mTk mK a) (mC a) wn (j + 1))) (congrArg lN (by rw [ens]; omega)) ?_
                refine x_put (ci := 7) (v := .long (lN (xAll (mTk mK a) wn (mC a) + xNs (mTk mT b) (mTk mK b) (mTk mT a) (mTk mK a) (mC a) wn (j + 1)))) (C := RX5) (T := TX5) (N := 23) hx hb hts inX5 tyX5 tyX5_ok nmX5 hown hK hX hS hm500 rfl 22 (by decide) lk_fieldLink_85 (fun _ h9 => h9) rfl (tyX5_ok 22 (by decide)) rfl rfl (Nat.le_of_ble_eq_true rfl) dX5_reckon_170 (fun H locs hX hS => ?_)
                obtain ⟨M_17, hM_17⟩ : ∃ zM : xM, zM = xu M9_2 500 (ad 500, .inr (7, [.int th, .int (nI nc), .ref (ad 501), .ref (ad 502), .ref (ad 503), .ref (ad 504), .ref (ad 505), .ref (ad 506), .ref (ad 507), .ref (ad 508), .ref (ad 509), .int rn, .int (nI pn), .ref (ad 510), .ref (ad 511), .ref (ad 512), .ref (ad 513), .int (nI jc), .ref (ad 514), .ref (ad 515), .ref (ad 516), .long (lN (xSh (mTk mT a) (mTk mK a) (mTk mT b) (mTk mK b) (mC b) wn (mC a))), .long (lN (xAll (mTk mK a) wn (mC a) + xNs (mTk mT b) (mTk mK b) (mTk mT a) (mTk mK a) (mC a) wn (j + 1)))])) := ⟨_, rfl⟩
                have hX : xw G.1 vwCl A M_17 H := by rw [hM_17]; exact hX
                have hm501 : M_17 501 = some (ad 501, .inl (G.2 0, 51, .inl mS)) := by rw [hM_17, xu_n (by omega)]; exact hm501
                have hm502 : M_17 502 = some (ad 502, .inl (G.2 0, 408, .inl mT)) := by rw [hM_17, xu_n (by omega)]; exact hm502
                have hm503 : M_17 503 = some (ad 503, .inl (G.2 0, 408, .inl mK)) := by rw [hM_17, xu_n (by omega)]; exact hm503
                have hm504 : M_17 504 = some (ad 504, .inl (G.2 0, 51, .inl (fun k => nI (mC k)))) := by rw [hM_17, xu_n (by omega)]; exact hm504
                have hm505 : M_17 505 = some (ad 505, .inl (G.2 2, 51, .inl mD)) := by rw [hM_17, xu_n (by omega)]; exact hm505
                have hm506 : M_17 506 = some (ad 506, .inl (G.2 1, 51, .inr (.inl mF))) := by rw [hM_17, xu_n (by omega)]; exact hm506
                have hm507 : M_17 507 = some (ad 507, .inl (G.2 1, 51, .inr (.inl mO))) := by rw [hM_17, xu_n (by omega)]; exact hm507
                have hm508 : M_17 508 = some (ad 508, .inl (G.2 0, 51, .inl (fun k => nI (mP k)))) := by rw [hM_17, xu_n (by omega)]; exact hm508
                have hm509 : M_17 509 = some (ad 509, .inl (G.2 1, 4, .inr (.inl (fun k => lN (wn k))))) := by rw [hM_17, xu_n (by omega)]; exact hm509
                have hm510 : M_17 510 = some (ad 510, .inl (G.2 0, 700, .inl (fun k => nI (o1 k)))) := by rw [hM_17, xu_n (by omega)]; exact hm510
                have hm511 : M_17 511 = some (ad 511, .inl (G.2 0, 700, .inl (fun k => nI (o2 k)))) := by rw [hM_17, xu_n (by omega)]; exact hm511
                have hm512 : M_17 512 = some (ad 512, .inl (G.2 1, 700, .inr (.inl (fun k => lN (u1 k))))) := by rw [hM_17, xu_n (by omega)]; exact hm512
                have hm513 : M_17 513 = some (ad 513, .inl (G.2 1, 700, .inr (.inl (fun k => lN (d1 k))))) := by rw [hM_17, xu_n (by omega)]; exact hm513
                have hm514 : M_17 514 = some (ad 514, .inl (G.2 0, 101, .inl (fun k => nI (jA k)))) := by rw [hM_17, xu_n (by omega)]; exact hm514
                have hm515 : M_17 515 = some (ad 515, .inl (G.2 0, 101, .inl (fun k => nI (jB k)))) := by rw [hM_17, xu_n (by omega)]; exact hm515
                have hm516 : M_17 516 = some (ad 516, .inl (G.2 0, 700, .inl (fun k => nI (mx k)))) := by rw [hM_17, xu_n (by omega)]; exact hm516
                have hm500 : M_17 500 = some (ad 500, .inr (7, [.int th, .int (nI nc), .ref (ad 501), .ref (ad 502), .ref (ad 503), .ref (ad 504), .ref (ad 505), .ref (ad 506), .ref (ad 507), .ref (ad 508), .ref (ad 509), .int rn, .int (nI pn), .ref (ad 510), .ref (ad 511), .ref (ad 512), .ref (ad 513), .int (nI jc), .ref (ad 514), .ref (ad 515), .ref (ad 516), .long (lN (xSh (mTk mT a) (mTk mK a) (mTk mT b) (mTk mK b) (mC b) wn (mC a))), .long (lN (xAll (mTk mK a) wn (mC a) + xNs (mTk mT b) (mTk mK b) (mTk mT a) (mTk mK a) (mC a) wn (j + 1)))])) := by rw [hM_17]; exact xu_s
                refine lv_iinc (v := nI (j + 1)) (lv' := [(3, .int (nI (j + 1))), (0, .ref (ad 500)), (1, .int (nI a)), (2, .int (nI b))]) hx hb dX5_reckon_173 hl (k := 0) rfl (show nI j + Int32.ofInt 1 = _ from nI_add _ 1) (by decide) rfl (fun ls hl => ?_)
                refine lv_goto (tgt := 104) hx hb dX5_reckon_176 (by decide) ?_
                exact ih_2 (j + 1) M_17 _ _ ls (by omega) (by omega) (by rw [hM_17, hM9_2]; simp only [x_uu]) hX hS (lv_sub hl [0, 1, 2, 3] rfl)
        exact loop_2 (mC b + 1) 0 M9 _ _ ls (by omega) (by omega) ((x_us hm500).symm) hX hS (lv_sub hl [0, 1, 2, 3] rfl)
      · have c_3 : ¬ ((mC a) ≤ i) := fun q => c_3 ((nI_leI (by omega) (by omega)).mpr q)
        refine lv_aload_n hx hb dX5_reckon_22 rfl (lv_at hl 1 rfl) ?_
        refine x_get (ci := 7) (v := .ref (ad 509)) (C := RX5) (T := TX5) (N := 23) hx hb hts inX5 hown hK hX hm500 rfl 10 (by decide) lk_fieldLink_38 (fun _ h9 => h9) rfl dX5_reckon_23 ?_
        refine lv_aload_n hx hb dX5_reckon_26 rfl (lv_at hl 1 rfl) ?_
        refine x_get (ci := 7) (v := .ref (ad 503)) (C := RX5) (T := TX5) (N := 23) hx hb hts inX5 hown hK hX hm500 rfl 4 (by decide) lk_fieldLink_16 (fun _ h9 => h9) rfl dX5_reckon_27 ?_
        refine lv_bipush (v := nI 8) hx hb dX5_reckon_30 (by decide) ?_
        refine lv_iload_n hx hb dX5_reckon_32 rfl (lv_at hl 2 rfl) ?_
        refine lv_imul hx hb dX5_reckon_33 ?_
        refine x_ri (y := nI (8 * a)) (pk_mul _ _) ?_
        refine lv_iload_n hx hb dX5_reckon_34 rfl (lv_at hl 0 rfl) ?_
        refine lv_iadd hx hb dX5_reckon_35 ?_
        refine x_ri (y := nI ((8 * a) + i)) (nI_add _ _) ?_
        refine x_iN hx hb hK hX hm503 (by omega) (by decide) dX5_reckon_36 ?_
        obtain ⟨ek, hk4⟩ := x_ki (hka i (by omega)) (by decide)
        refine x_ri (y := nI (mK (8 * a + i)).toNatClampNeg) (ek) ?_
        refine x_lN hx hb hK hX hm509 hk4 (by decide) dX5_reckon_37 ?_
        refine lv_lstore (lv' := [(4, .long (lN (wn (mK (8 * a + i)).toNatClampNeg))), (3, .int (nI i)), (0, .ref (ad 500)), (1, .int (nI a)), (2, .int (nI b))]) hx hb dX5_reckon_38 hl (by decide) rfl (fun ls hl => ?_)
        refine lv_aload_n hx hb dX5_reckon_40 rfl (lv_at hl 2 rfl) ?_
        refine lv_dup hx hb dX5_reckon_41 rfl ?_
        refine x_get (ci := 7) (v := .long (lN (xAll (mTk mK a) wn i))) (C := RX5) (T := TX5) (N := 23) hx hb hts inX5 hown hK hX hm500 rfl 22 (by decide) lk_fieldLink_85 (fun _ h9 => h9) rfl dX5_reckon_42 ?_
        refine lv_lload hx hb dX5_reckon_45 (lv_at hl 0 rfl) ?_
        refine lv_ladd hx hb dX5_reckon_47 ?_
        refine x_rl (y := lN ((xAll (mTk mK a) wn i) + (wn (mK (8 * a + i)).toNatClampNeg))) (lN_add _ _) ?_
        refine x_put (ci := 7) (v := .long (lN (xAll (mTk mK a) wn (i + 1)))) (C := RX5) (T := TX5) (N := 23) hx hb hts inX5 tyX5 tyX5_ok nmX5 hown hK hX hS hm500 rfl 22 (by decide) lk_fieldLink_85 (fun _ h9 => h9) rfl (tyX5_ok 22 (by decide)) rfl rfl (Nat.le_of_ble_eq_true rfl) dX5_reckon_48 (fun H locs hX hS => ?_)
        obtain ⟨M_18, hM_18⟩ : ∃ zM : xM, zM = xu M9 500 (ad 500, .inr (7, [.int th, .int (nI nc), .ref (ad 501), .ref (ad 502), .ref (ad 503), .ref (ad 504), .ref (ad 505), .ref (ad 506), .ref (ad 507), .ref (ad 508), .ref (ad 509), .int rn, .int (nI pn), .ref (ad 510), .ref (ad 511), .ref (ad 512), .ref (ad 513), .int (nI jc), .ref (ad 514), .ref (ad 515), .ref (ad 516), .long (lN (xSh (mTk mT a) (mTk mK a) (mTk mT b) (mTk mK b) (mC b) wn i)), .long (lN (xAll (mTk mK a) wn (i + 1)))])) := ⟨_, rfl⟩
        have hX : xw G.1 vwCl A M_18 H := by rw [hM_18]; exact hX
        have hm501 : M_18 501 = some (ad 501, .inl (G.2 0, 51, .inl mS)) := by rw [hM_18, xu_n (by omega)]; exact hm501
        have hm502 : M_18 502 = some (ad 502, .inl (G.2 0, 408, .inl mT)) := by rw [hM_18, xu_n (by omega)]; exact hm502
        have hm503 : M_18 503 = some (ad 503, .inl (G.2 0, 408, .inl mK)) := by rw [hM_18, xu_n (by omega)]; exact hm503
        have hm504 : M_18 504 = some (ad 504, .inl (G.2 0, 51, .inl (fun k => nI (mC k)))) := by rw [hM_18, xu_n (by omega)]; exact hm504
        have hm505 : M_18 505 = some (ad 505, .inl (G.2 2, 51, .inl mD)) := by rw [hM_18, xu_n (by omega)]; exact hm505
        have hm506 : M_18 506 = some (ad 506, .inl (G.2 1, 51, .inr (.inl mF))) := by rw [hM_18, xu_n (by omega)]; exact hm506
        have hm507 : M_18 507 = some (ad 507, .inl (G.2 1, 51, .inr (.inl mO))) := by rw [hM_18, xu_n (by omega)]; exact hm507
        have hm508 : M_18 508 = some (ad 508, .inl (G.2 0, 51, .inl (fun k => nI (mP k)))) := by rw [hM_18, xu_n (by omega)]; exact hm508
        have hm509 : M_18 509 = some (ad 509, .inl (G.2 1, 4, .inr (.inl (fun k => lN (wn k))))) := by rw [hM_18, xu_n (by omega)]; exact hm509
        have hm510 : M_18 510 = some (ad 510, .inl (G.2 0, 700, .inl (fun k => nI (o1 k)))) := by rw [hM_18, xu_n (by omega)]; exact hm510
        have hm511 : M_18 511 = some (ad 511, .inl (G.2 0, 700, .inl (fun k => nI (o2 k)))) := by rw [hM_18, xu_n (by omega)]; exact hm511
        have hm512 : M_18 512 = some (ad 512, .inl (G.2 1, 700, .inr (.inl (fun k => lN (u1 k))))) := by rw [hM_18, xu_n (by omega)]; exact hm512
        have hm513 : M_18 513 = some (ad 513, .inl (G.2 1, 700, .inr (.inl (fun k => lN (d1 k))))) := by rw [hM_18, xu_n (by omega)]; exact hm513
        have hm514 : M_18 514 = some (ad 514, .inl (G.2 0, 101, .inl (fun k => nI (jA k)))) := by rw [hM_18, xu_n (by omega)]; exact hm514
        have hm515 : M_18 515 = some (ad 515, .inl (G.2 0, 101, .inl (fun k => nI (jB k)))) := by rw [hM_18, xu_n (by omega)]; exact hm515
        have hm516 : M_18 516 = some (ad 516, .inl (G.2 0, 700, .inl (fun k => nI (mx k)))) := by rw [hM_18, xu_n (by omega)]; exact hm516
        have hm500 : M_18 500 = some (ad 500, .inr (7, [.int th, .int (nI nc), .ref (ad 501), .ref (ad 502), .ref (ad 503), .ref (ad 504), .ref (ad 505), .ref (ad 506), .ref (ad 507), .ref (ad 508), .ref (ad 509), .int rn, .int (nI pn), .ref (ad 510), .ref (ad 511), .ref (ad 512), .ref (ad 513), .int (nI jc), .ref (ad 514), .ref (ad 515), .ref (ad 516), .long (lN (xSh (mTk mT a) (mTk mK a) (mTk mT b) (mTk mK b) (mC b) wn i)), .long (lN (xAll (mTk mK a) wn (i + 1)))])) := by rw [hM_18]; exact xu_s
        refine lv_aload_n hx hb dX5_reckon_51 rfl (lv_at hl 2 rfl) ?_
        refine lv_dup hx hb dX5_reckon_52 rfl ?_
        refine x_get (ci := 7) (v := .long (lN (xSh (mTk mT a) (mTk mK a) (mTk mT b) (mTk mK b) (mC b) wn i))) (C := RX5) (T := TX5) (N := 23) hx hb hts inX5 hown hK hX hm500 rfl 21 (by decide) lk_fieldLink_81 (fun _ h9 => h9) rfl dX5_reckon_53 ?_
        refine lv_aload_n hx hb dX5_reckon_56 rfl (lv_at hl 2 rfl) ?_
        refine lv_iload_n hx hb dX5_reckon_57 rfl (lv_at hl 4 rfl) ?_
        refine lv_aload_n hx hb dX5_reckon_58 rfl (lv_at hl 2 rfl) ?_
        refine x_get (ci := 7) (v := .ref (ad 502)) (C := RX5) (T := TX5) (N := 23) hx hb hts inX5 hown hK hX hm500 rfl 3 (by decide) lk_fieldLink_13 (fun _ h9 => h9) rfl dX5_reckon_59 ?_
        refine lv_bipush (v := nI 8) hx hb dX5_reckon_62 (by decide) ?_
        refine lv_iload_n hx hb dX5_reckon_64 rfl (lv_at hl 3 rfl) ?_
        refine lv_imul hx hb dX5_reckon_65 ?_
        refine x_ri (y := nI (8 * a)) (pk_mul _ _) ?_
        refine lv_iload_n hx hb dX5_reckon_66 rfl (lv_at hl 1 rfl) ?_
        refine lv_iadd hx hb dX5_reckon_67 ?_
        refine x_ri (y := nI ((8 * a) + i)) (nI_add _ _) ?_
        refine x_iN hx hb hK hX hm502 (by omega) (by decide) dX5_reckon_68 ?_
        refine lv_aload_n hx hb dX5_reckon_69 rfl (lv_at hl 2 rfl) ?_
        refine x_get (ci := 7) (v := .ref (ad 503)) (C := RX5) (T := TX5) (N := 23) hx hb hts inX5 hown hK hX hm500 rfl 4 (by decide) lk_fieldLink_16 (fun _ h9 => h9) rfl dX5_reckon_70 ?_
        refine lv_bipush (v := nI 8) hx hb dX5_reckon_73 (by decide) ?_
        refine lv_iload_n hx hb dX5_reckon_75 rfl (lv_at hl 3 rfl) ?_
        refine lv_imul hx hb dX5_reckon_76 ?_
        refine x_ri (y := nI (8 * a)) (pk_mul _ _) ?_
        refine lv_iload_n hx hb dX5_reckon_77 rfl (lv_at hl 1 rfl) ?_
        refine lv_iadd hx hb dX5_reckon_78 ?_
        refine x_ri (y := nI ((8 * a) + i)) (nI_add _ _) ?_
        refine x_iN hx hb hK hX hm503 (by omega) (by decide) dX5_reckon_79 ?_
        refine x_calli (x_runV (q := (RX5, TX5, 23)) (As := [.int (nI b), .int (mT ((8 * a) + i)), .int (mK ((8 * a) + i))]) (rest := [.long (lN (xSh (mTk mT a) (mTk mK a) (mTk mT b) (mTk mK b) (mC b) wn i)), .ref (ad 500)]) ⟨hx, hb, hml, hown, hts⟩ (ctX5_has l G A M_18 ⟨hm500, hm501, hm502, hm503, hm504, hm505, hm506, hm507, hm508, hm509, hm510, hm511, hm512, hm513, hm514, hm515, hm516⟩ b (mT (8 * a + i)) (mK (8 * a + i)) hb5 hmb) (cwV 3 hts gX5_reckon_X5_has rfl rfl rfl (by decide +kernel) ⟨Nat.le_of_ble_eq_true rfl, Nat.le_of_ble_eq_true rfl⟩) hK hA hX hS hm500 rfl rfl hl.1 rfl (lv_room (Nat.le_of_ble_eq_true rfl)) dX5_reckon_80 ⟨by decide, by decide⟩) hS (fun r_19 M_20 H locs hp hX hS => ?_)
        obtain ⟨hM_, er_19⟩ := hp
        rw [hM_] at hX
        refine lv_if_eq (tgt := 91) hx hb dX5_reckon_83 (by decide) (fun c_21 => ?_) (fun c_21 => ?_)
        · have c_21 := x_ib0 er_19 c_21
          have esh : xSh (mTk mT a) (mTk mK a) (mTk mT b) (mTk mK b) (mC b) wn (i + 1) = xSh (mTk mT a) (mTk mK a) (mTk mT b) (mTk mK b) (mC b) wn i := by show (if xHas (mTk mT b) (mTk mK b) (mT (8 * a + i)) (mK (8 * a + i)) (mC b) then _ else _) = _; rw [show xHas (mTk mT b) (mTk mK b) (mT (8 * a + i)) (mK (8 * a + i)) (mC b) = false from c_21]; rfl
          refine lv_lconst (v := lN 0) hx hb dX5_reckon_91 rfl ?_
          refine lv_ladd hx hb dX5_reckon_92 ?_
          refine x_rl (y := lN ((xSh (mTk mT a) (mTk mK a) (mTk mT b) (mTk mK b) (mC b) wn i) + 0)) (lN_add _ _) ?_
          refine x_rl (y := lN (xSh (mTk mT a) (mTk mK a) (mTk mT b) (mTk mK b) (mC b) wn (i + 1))) (by rw [esh] <;> rfl) ?_
          refine x_put (ci := 7) (v := .long (lN (xSh (mTk mT a) (mTk mK a) (mTk mT b) (mTk mK b) (mC b) wn (i + 1)))) (C := RX5) (T := TX5) (N := 23) hx hb hts inX5 tyX5 tyX5_ok nmX5 hown hK hX hS hm500 rfl 21 (by decide) lk_fieldLink_81 (fun _ h9 => h9) rfl (tyX5_ok 21 (by decide)) rfl rfl (Nat.le_of_ble_eq_true rfl) dX5_reckon_93 (fun H locs hX hS => ?_)
          obtain ⟨M_22, hM_22⟩ : ∃ zM : xM, zM = xu M_18 500 (ad 500, .inr (7, [.int th, .int (nI nc), .ref (ad 501), .ref (ad 502), .ref (ad 503), .ref (ad 504), .ref (ad 505), .ref (ad 506), .ref (ad 507), .ref (ad 508), .ref (ad 509), .int rn, .int (nI pn), .ref (ad 510), .ref (ad 511), .ref (ad 512), .ref (ad 513), .int (nI jc), .ref (ad 514), .ref (ad 515), .ref (ad 516), .long (lN (xSh (mTk mT a) (mTk mK a) (mTk mT b) (mTk mK b) (mC b) wn (i + 1))), .long (lN (xAll (mTk mK a) wn (i + 1)))])) := ⟨_, rfl⟩
          have hX : xw G.1 vwCl A M_22 H := by rw [hM_22]; exact hX
          have hm501 : M_22 501 = some (ad 501, .inl (G.2 0, 51, .inl mS)) := by rw [hM_22, xu_n (by omega)]; exact hm501
          have hm502 : M_22 502 = some (ad 502, .inl (G.2 0, 408, .inl mT)) := by rw [hM_22, xu_n (by omega)]; exact hm502
          have hm503 : M_22 503 = some (ad 503, .inl (G.2 0, 408, .inl mK)) := by rw [hM_22, xu_n (by omega)]; exact hm503
          have hm504 : M_22 504 = some (ad 504, .inl (G.2 0, 51, .inl (fun k => nI (mC k)))) := by rw [hM_22, xu_n (by omega)]; exact hm504
          have hm505 : M_22 505 = some (ad 505, .inl (G.2 2, 51, .inl mD)) := by rw [hM_22, xu_n (by omega)]; exact hm505
          have hm506 : M_22 506 = some (ad 506, .inl (G.2 1, 51, .inr (.inl mF))) := by rw [hM_22, xu_n (by omega)]; exact hm506
          have hm507 : M_22 507 = some (ad 507, .inl (G.2 1, 51, .inr (.inl mO))) := by rw [hM_22, xu_n (by omega)]; exact hm507
          have hm508 : M_22 508 = some (ad 508, .inl (G.2 0, 51, .inl (fun k => nI (mP k)))) := by rw [hM_22, xu_n (by omega)]; exact hm508
          have hm509 : M_22 509 = some (ad 509, .inl (G.2 1, 4, .inr (.inl (fun k => lN (wn k))))) := by rw [hM_22, xu_n (by omega)]; exact hm509
          have hm510 : M_22 510 = some (ad 510, .inl (G.2 0, 700, .inl (fun k => nI (o1 k)))) := by rw [hM_22, xu_n (by omega)]; exact hm510
          have hm511 : M_22 511 = some (ad 511, .inl (G.2 0, 700, .inl (fun k => nI (o2 k)))) := by rw [hM_22, xu_n (by omega)]; exact hm511
          have hm512 : M_22 512 = some (ad 512, .inl (G.2 1, 700, .inr (.inl (fun k => lN (u1 k))))) := by rw [hM_22, xu_n (by omega)]; exact hm512
          have hm513 : M_22 513 = some (ad 513, .inl (G.2 1, 700, .inr (.inl (fun k => lN (d1 k))))) := by rw [hM_22, xu_n (by omega)]; exact hm513
          have hm514 : M_22 514 = some (ad 514, .inl (G.2 0, 101, .inl (fun k => nI (jA k)))) := by rw [hM_22, xu_n (by omega)]; exact hm514
          have hm515 : M_22 515 = some (ad 515, .inl (G.2 0, 101, .inl (fun k => nI (jB k)))) := by rw [hM_22, xu_n (by omega)]; exact hm515
          have hm516 : M_22 516 = some (ad 516, .inl (G.2 0, 700, .inl (fun k => nI (mx k)))) := by rw [hM_22, xu_n (by omega)]; exact hm516
          have hm500 : M_22 500 = some (ad 500, .inr (7, [.int th, .int (nI nc), .ref (ad 501), .ref (ad 502), .ref (ad 503), .ref (ad 504), .ref (ad 505), .ref (ad 506), .ref (ad 507), .ref (ad 508), .ref (ad 509), .int rn, .int (nI pn), .ref (ad 510), .ref (ad 511), .ref (ad 512), .ref (ad 513), .int (nI jc), .ref (ad 514), .ref (ad 515), .ref (ad 516), .long (lN (xSh (mTk mT a) (mTk mK a) (mTk mT b) (mTk mK b) (mC b) wn (i + 1))), .long (lN (xAll (mTk mK a) wn (i + 1)))])) := by rw [hM_22]; exact xu_s
          refine lv_iinc (v := nI (i + 1)) (lv' := [(3, .int (nI (i + 1))), (4, .long (lN (wn (mK (8 * a + i)).toNatClampNeg))), (0, .ref (ad 500)), (1, .int (nI a)), (2, .int (nI b))]) hx hb dX5_reckon_96 hl (k := 1) rfl (show nI i + Int32.ofInt 1 = _ from nI_add _ 1) (by decide) rfl (fun ls hl => ?_)
          refine lv_goto (tgt := 12) hx hb dX5_reckon_99 (by decide) ?_
          exact ih (i + 1) M_22 _ _ ls (by omega) (by omega) (by rw [hM_22, hM_18, hM9]; simp only [x_uu]) hX hS (lv_sub hl [0, 2, 3, 4] rfl)
        · have c_21 := x_ib1 er_19 c_21
          have esh : xSh (mTk mT a) (mTk mK a) (mTk mT b) (mTk mK b) (mC b) wn (i + 1) = xSh (mTk mT a) (mTk mK a) (mTk mT b) (mTk mK b) (mC b) wn i + wn (mK (8 * a + i)).toNatClampNeg := by show (if xHas (mTk mT b) (mTk mK b) (mT (8 * a + i)) (mK (8 * a + i)) (mC b) then _ else _) = _; rw [show xHas (mTk mT b) (mTk mK b) (mT (8 * a + i)) (mK (8 * a + i)) (mC b) = true from c_21]; rfl
          refine lv_lload hx hb dX5_reckon_86 (lv_at hl 0 rfl) ?_
          refine lv_goto (tgt := 92) hx hb dX5_reckon_88 (by decide) ?_
          refine lv_ladd hx hb dX5_reckon_92 ?_
          refine x_rl (y := lN ((xSh (mTk mT a) (mTk mK a) (mTk mT b) (mTk mK b) (mC b) wn i) + (wn (mK (8 * a + i)).toNatClampNeg))) (lN_add _ _) ?_
          refine x_rl (y := lN (xSh (mTk mT a) (mTk mK a) (mTk mT b) (mTk mK b) (mC b) wn (i + 1))) (by rw [esh] <;> rfl) ?_
          refine x_put (ci := 7) (v := .long (lN (xSh (mTk mT a) (mTk mK a) (mTk mT b) (mTk mK b) (mC b) wn (i + 1)))) (C := RX5) (T := TX5) (N := 23) hx hb hts inX5 tyX5 tyX5_ok nmX5 hown hK hX hS hm500 rfl 21 (by decide) lk_fieldLink_81 (fun _ h9 => h9) rfl (tyX5_ok 21 (by decide)) rfl rfl (Nat.le_of_ble_eq_true rfl) dX5_reckon_93 (fun H locs hX hS => ?_)
          obtain ⟨M_23, hM_23⟩ : ∃ zM : xM, zM = xu M_18 500 (ad 500, .inr (7, [.int th, .int (nI nc), .ref (ad 501), .ref (ad 502), .ref (ad 503), .ref (ad 504), .ref (ad 505), .ref (ad 506), .ref (ad 507), .ref (ad 508), .ref (ad 509), .int rn, .int (nI pn), .ref (ad 510), .ref (ad 511), .ref (ad 512), .ref (ad 513), .int (nI jc), .ref (ad 514), .ref (ad 515), .ref (ad 516), .long (lN (xSh (mTk mT a) (mTk mK a) (mTk mT b) (mTk mK b) (mC b) wn (i + 1))), .long (lN (xAll (mTk mK a) wn (i + 1)))])) := ⟨_, rfl⟩
          have hX : xw G.1 vwCl A M_23 H := by rw [hM_23]; exact hX
          have hm501 : M_23 501 = some (ad 501, .inl (G.2 0, 51, .inl mS)) := by rw [hM_23, xu_n (by omega)]; exact hm501
          have hm502 : M_23 502 = some (ad 502, .inl (G.2 0, 408, .inl mT)) := by rw [hM_23, xu_n (by omega)]; exact hm502
          have hm503 : M_23 503 = some (ad 503, .inl (G.2 0, 408, .inl mK)) := by rw [hM_23, xu_n (by omega)]; exact hm503
          have hm504 : M_23 504 = some (ad 504, .inl (G.2 0, 51, .inl (fun k => nI (mC k)))) := by rw [hM_23, xu_n (by omega)]; exact hm504
          have hm505 : M_23 505 = some (ad 505, .inl (G.2 2, 51, .inl mD)) := by rw [hM_23, xu_n (by omega)]; exact hm505
          have hm506 : M_23 506 = some (ad 506, .inl (G.2 1, 51, .inr (.inl mF))) := by rw [hM_23, xu_n (by omega)]; exact hm506
          have hm507 : M_23 507 = some (ad 507, .inl (G.2 1, 51, .inr (.inl mO))) := by rw [hM_23, xu_n (by omega)]; exact hm507
          have hm508 : M_23 508 = some (ad 508, .inl (G.2 0, 51, .inl (fun k => nI (mP k)))) := by rw [hM_23, xu_n (by omega)]; exact hm508
          have hm509 : M_23 509 = some (ad 509, .inl (G.2 1, 4, .inr (.inl (fun k => lN (wn k))))) := by rw [hM_23, xu_n (by omega)]; exact hm509
          have hm510 : M_23 510 = some (ad 510, .inl (G.2 0, 700, .inl (fun k => nI (o1 k)))) := by rw [hM_23, xu_n (by omega)]; exact hm510
          have hm511 : M_23 511 = some (ad 511, .inl (G.2 0, 700, .inl (fun k => nI (o2 k)))) := by rw [hM_23, xu_n (by omega)]; exact hm511
          have hm512 : M_23 512 = some (ad 512, .inl (G.2 1, 700, .inr (.inl (fun k => lN (u1 k))))) := by rw [hM_23, xu_n (by omega)]; exact hm512
          have hm513 : M_23 513 = some (ad 513, .inl (G.2 1, 700, .inr (.inl (fun k => lN (d1 k))))) := by rw [hM_23, xu_n (by omega)]; exact hm513
          have hm514 : M_23 514 = some (ad 514, .inl (G.2 0, 101, .inl (fun k => nI (jA k)))) := by rw [hM_23, xu_n (by omega)]; exact hm514
          have hm515 : M_23 515 = some (ad 515, .inl (G.2 0, 101, .inl (fun k => nI (jB k)))) := by rw [hM_23, xu_n (by omega)]; exact hm515
          have hm516 : M_23 516 = some (ad 516, .inl (G.2 0, 700, .inl (fun k => nI (mx k)))) := by rw [hM_23, xu_n (by omega)]; exact hm516
          have hm500 : M_23 500 = some (ad 500, .inr (7, [.int th, .int (nI nc), .ref (ad 501), .ref (ad 502), .ref (ad 503), .ref (ad 504), .ref (ad 505), .ref (ad 506), .ref (ad 507), .ref (ad 508), .ref (ad 509), .int rn, .int (nI pn), .ref (ad 510), .ref (ad 511), .ref (ad 512), .ref (ad 513), .int (nI jc), .ref (ad 514), .ref (ad 515), .ref (ad 516), .long (lN (xSh (mTk mT a) (mTk mK a) (mTk mT b) (mTk mK b) (mC b) wn (i + 1))), .long (lN (xAll (mTk mK a) wn (i + 1)))])) := by rw [hM_23]; exact xu_s
          refine lv_iinc (v := nI (i + 1)) (lv' := [(3, .int (nI (i + 1))), (4, .long (lN (wn (mK (8 * a + i)).toNatClampNeg))), (0, .ref (ad 500)), (1, .int (nI a)), (2, .int (nI b))]) hx hb dX5_reckon_96 hl (k := 1) rfl (show nI i + Int32.ofInt 1 = _ from nI_add _ 1) (by decide) rfl (fun ls hl => ?_)
          refine lv_goto (tgt := 12) hx hb dX5_reckon_99 (by decide) ?_
          exact ih (i + 1) M_23 _ _ ls (by omega) (by omega) (by rw [hM_23, hM_18, hM9]; simp only [x_uu]) hX hS (lv_sub hl [0, 2, 3, 4] rfl)
  exact loop (mC a + 1) 0 M_2 _ _ ls (by omega) (by omega) ((x_us hm500).symm) hX hS (lv_sub hl [0, 1, 2, 3] rfl)

abbrev rmX5_score : Room := { frames := 2, cells := 0, slots := 0, locals := 50 }
set_option maxHeartbeats 4000000 in
set_option maxRecDepth 100000 in
/-- score -/
theorem ctX5_score (l : Launch) (G : xG) (A : Nat → Prop) (M : xM) {ad : Nat → Nat} {th : Int32} {nc : Nat} {mS : Nat → Int32} {mT : Nat → Int32} {mK : Nat → Int32} {mC : Nat → Nat} {mD : Nat → Int32} {mF : Nat → Int64} {mO : Nat → Int64} {mP : Nat → Nat} {wn : Nat → Nat} {rn : Int32} {pn : Nat} {o1 : Nat → Nat} {o2 : Nat → Nat} {u1 : Nat → Nat} {d1 : Nat → Nat} {jc : Nat} {jA : Nat → Nat} {jB : Nat → Nat} {mx : Nat → Nat} {up : Int64} {dn : Int64} (hR : xMod G M ad th nc mS mT mK mC mD mF mO mP wn rn pn o1 o2 u1 d1 jc jA jB mx up dn) (p0 p1 : Int32) (hpn : pn ≤ 625) (hoo : ∀ k, k < pn → (1 ≤ o1 k ∧ o1 k ≤ 50) ∧ (1 ≤ o2 k ∧ o2 k ≤ 50)) (hmc : ∀ n, n ≤ 50 → mC n ≤ 8) (hmk : ∀ n, n ≤ 50 → ∀ i, i < mC n → vp_in (mK (8 * n + i)) 4) (hwn : ∀ k, wn k ≤ 252000) : Met l yX5_score wsX5_score rmX5_score (va_Pc ([.ref (ad 500), .int p0, .int p1] : List Value) (xPc G A M)) (va_Ql (fun r M1 => ((∃ i0, i0 < pn ∧ p0 = nI i0 ∧ ((mDn mT mK mC mD wn (o1 i0) (o2 i0) = 0 ∧ xMod G M1 ad (nI 1) nc mS mT mK mC mD mF mO mP wn rn pn o1 o2 u1 d1 jc jA jB mx (lN (mU mT mK mC mD mF mO wn (o1 i0) (o2 i0))) (lN (mDn mT mK mC mD wn (o1 i0) (o2 i0)))) ∨ (0 < mDn mT mK mC mD wn (o1 i0) (o2 i0) ∧ (r = if p1 = 0 then lN (mU mT mK mC mD mF mO wn (o1 i0) (o2 i0) / Nat.gcd (mU mT mK mC mD mF mO wn (o1 i0) (o2 i0)) (mDn mT mK mC mD wn (o1 i0) (o2 i0))) else lN (mDn mT mK mC mD wn (o1 i0) (o2 i0) / Nat.gcd (mU mT mK mC mD mF mO wn (o1 i0) (o2 i0)) (mDn mT mK mC mD wn (o1 i0) (o2 i0)))) ∧ xMod G M1 ad (nI 0) nc mS mT mK mC mD mF mO mP wn rn pn o1 o2 u1 d1 jc jA jB mx (lN (mU mT mK mC mD mF mO wn (o1 i0) (o2 i0))) (lN (mDn mT mK mC mD wn (o1 i0) (o2 i0)))))) ∨ (¬ (¬ p0 < 0 ∧ ¬ nI pn ≤ p0) ∧ r = (-1) ∧ xMod G M1 ad (nI 0) nc mS mT mK mC mD mF mO mP wn rn pn o1 o2 u1 d1 jc jA jB mx up dn)) ∧ (∀ t, t < 500 ∨ 516 < t → M1 t = M t)) (xPc G A) A) 0 0 A := by
  refine x_met (cc := cX5_score) (maxL := 9) (ret := (some .long)) RX5 (by decide) rfl (Nat.le_of_ble_eq_true rfl) rfl ?_
  intro p e s m below meth c hx hb hr hts hown hlocks hml hin hK hA hX ls hl
  have inX5 : ∀ w ∈ wsX50, w ∈ wsX5_score := by decide +kernel
  have lk_fieldLink_62 := hts (.fieldLink RX5 62 "ReconcileModel" "thrown" "I") (by decide +kernel)
  have lk_fieldLink_41 := hts (.fieldLink RX5 41 "ReconcileModel" "ones" "[I") (by decide +kernel)
  have lk_fieldLink_44 := hts (.fieldLink RX5 44 "ReconcileModel" "twos" "[I") (by decide +kernel)
  have lk_fieldLink_85 := hts (.fieldLink RX5 85 "ReconcileModel" "down" "J") (by decide +kernel)
  have lk_fieldLink_81 := hts (.fieldLink RX5 81 "ReconcileModel" "up" "J") (by decide +kernel)
  have lk_constantLong_104 := hts (.constantLong RX5 104 (-1)) (by decide +kernel)
  have hS : va_S A s.heap s.heap [] := va_S.rf
  have hl : lv_has ls 9 [(0, .ref (ad 500)), (1, .int p0), (2, .int p1)] := hl
  obtain ⟨hm500, hm501, hm502, hm503, hm504, hm505, hm506, hm507, hm508, hm509, hm510, hm511, hm512, hm513, hm514, hm515, hm516⟩ := id hR
  refine lv_aload_n hx hb dX5_score_0 rfl (lv_at hl 0 rfl) ?_
  refine lv_iconst (v := nI 0) hx hb dX5_score_1 (by decide) ?_
  refine x_put (ci := 7) (v := .int (nI 0)) (C := RX5) (T := TX5) (N := 23) hx hb hts inX5 tyX5 tyX5_ok nmX5 hown hK hX hS hm500 rfl 0 (by decide) lk_fieldLink_62 (fun _ h9 => h9) rfl (tyX5_ok 0 (by decide)) rfl rfl (Nat.le_of_ble_eq_true rfl) dX5_score_2 (fun H locs hX hS => ?_)
  obtain ⟨M_1, hM_1⟩ : ∃ zM : xM, zM = xu M 500 (ad 500, .inr (7, [.int (nI 0), .int (nI nc), .ref (ad 501), .ref (ad 502), .ref (ad 503), .ref (ad 504), .ref (ad 505), .ref (ad 506), .ref (ad 507), .ref (ad 508), .ref (ad 509), .int rn, .int (nI pn), .ref (ad 510), .ref (ad 511), .ref (ad 512), .ref (ad 513), .int (nI jc), .ref (ad 514), .ref (ad 515), .ref (ad 516), .long up, .long dn])) := ⟨_, rfl⟩
  have hX : xw G.1 vwCl A M_1 H := by rw [hM_1]; exact hX
  have hm501 : M_1 501 = some (ad 501, .inl (G.2 0, 51, .inl mS)) := by rw [hM_1, xu_n (by omega)]; exact hm501
  have hm502 : M_1 502 = some (ad 502, .inl (G.2 0, 408, .inl mT)) := by rw [hM_1, xu_n (by omega)]; exact hm502
  have hm503 : M_1 503 = some (ad 503, .inl (G.2 0, 408, .inl mK)) := by rw [hM_1, xu_n (by omega)]; exact hm503
  have hm504 : M_1 504 = some (ad 504, .inl (G.2 0, 51, .inl (fun k => nI (mC k)))) := by rw [hM_1, xu_n (by omega)]; exact hm504
  have hm505 : M_1 505 = some (ad 505, .inl (G.2 2, 51, .inl mD)) := by rw [hM_1, xu_n (by omega)]; exact hm505
  have hm506 : M_1 506 = some (ad 506, .inl (G.2 1, 51, .inr (.inl mF))) := by rw [hM_1, xu_n (by omega)]; exact hm506
  have hm507 : M_1 507 = some (ad 507, .inl (G.2 1, 51, .inr (.inl mO))) := by rw [hM_1, xu_n (by omega)]; exact hm507
  have hm508 : M_1 508 = some (ad 508, .inl (G.2 0, 51, .inl (fun k => nI (mP k)))) := by rw [hM_1, xu_n (by omega)]; exact hm508
  have hm509 : M_1 509 = some (ad 509, .inl (G.2 1, 4, .inr (.inl (fun k => lN (wn k))))) := by rw [hM_1, xu_n (by omega)]; exact hm509
  have hm510 : M_1 510 = some (ad 510, .inl (G.2 0, 700, .inl (fun k => nI (o1 k)))) := by rw [hM_1, xu_n (by omega)]; exact hm510
  have hm511 : M_1 511 = some (ad 511, .inl (G.2 0, 700, .inl (fun k => nI (o2 k)))) := by rw [hM_1, xu_n (by omega)]; exact hm511
  have hm512 : M_1 512 = some (ad 512, .inl (G.2 1, 700, .inr (.inl (fun k => lN (u1 k))))) := by rw [hM_1, xu_n (by omega)]; exact hm512
  have hm513 : M_1 513 = some (ad 513, .inl (G.2 1, 700, .inr (.inl (fun k => lN (d1 k))))) := by rw [hM_1, xu_n (by omega)]; exact hm513
  have hm514 : M_1 514 = some (ad 514, .inl (G.2 0, 101, .inl (fun k => nI (jA k)))) := by rw [hM_1, xu_n (by omega)]; exact hm514
  have hm515 : M_1 515 = some (ad 515, .inl (G.2 0, 101, .inl (fun k => nI (jB k)))) := by rw [hM_1, xu_n (by omega)]; exact hm515
  have hm516 : M_1 516 = some (ad 516, .inl (G.2 0, 700, .inl (fun k => nI (mx k)))) := by rw [hM_1, xu_n (by omega)]; exact hm516
  have hm500 : M_1 500 = some (ad 500, .inr (7, [.int (nI 0), .int (nI nc), .ref (ad 501), .ref (ad 502), .ref (ad 503), .ref (ad 504), .ref (ad 505), .ref (ad 506), .ref (ad 507), .ref (ad 508), .ref (ad 509), .int rn, .int (nI pn), .ref (ad 510), .ref (ad 511), .ref (ad 512), .ref (ad 513), .int (nI jc), .ref (ad 514), .ref (ad 515), .ref (ad 516), .long up, .long dn])) := by rw [hM_1]; exact xu_s
  refine lv_aload_n hx hb dX5_score_5 rfl (lv_at hl 0 rfl) ?_
  refine lv_iload_n hx hb dX5_score_6 rfl (lv_at hl 1 rfl) ?_
  refine x_calli (x_runV (q := (RX5, TX5, 23)) (As := [.int p0]) (rest := []) ⟨hx, hb, hml, hown, hts⟩ (ctX5_isPair l G A M_1 ⟨hm500, hm501, hm502, hm503, hm504, hm505, hm506, hm507, hm508, hm509, hm510, hm511, hm512, hm513, hm514, hm515, hm516⟩ p0 hpn) (cwV 1 hts gX5_score_X5_isPair rfl rfl rfl (by decide +kernel) ⟨Nat.le_of_ble_eq_true rfl, Nat.le_of_ble_eq_true rfl⟩) hK hA hX hS hm500 rfl rfl hl.1 rfl (lv_room (Nat.le_of_ble_eq_true rfl)) dX5_score_7 ⟨by decide, by decide⟩) hS (fun r_2 M_3 H locs hp hX hS => ?_)
  obtain ⟨hM_, hq_r_2⟩ := hp
  rw [hM_] at hX
  rcases hq_r_2 with ⟨i, hi, ep, er⟩ | ⟨ep, er⟩
  · rw [er]
    subst ep
    refine lv_if_ne (tgt := 17) hx hb dX5_score_10 (by decide) (fun c_4 => ?_) (fun c_4 => ?_)
    · have c_4 : ¬ (1 = 0) := fun q => c_4 ((nI_eq (a := 1) (b := 0) (by omega) (by omega)).mpr q)
      obtain ⟨hA5, hB5⟩ := hoo i hi
      refine lv_aload_n hx hb dX5_score_17 rfl (lv_at hl 0 rfl) ?_
      refine lv_aload_n hx hb dX5_score_18 rfl (lv_at hl 0 rfl) ?_
      refine x_get (ci := 7) (v := .ref (ad 510)) (C := RX5) (T := TX5) (N := 23) hx hb hts inX5 hown hK hX hm500 rfl 13 (by decide) lk_fieldLink_41 (fun _ h9 => h9) rfl dX5_score_19 ?_
      refine lv_iload_n hx hb dX5_score_22 rfl (lv_at hl 1 rfl) ?_
      refine x_iN hx hb hK hX hm510 (by omega) (by decide) dX5_score_23 ?_
      refine lv_aload_n hx hb dX5_score_24 rfl (lv_at hl 0 rfl) ?_
      refine x_get (ci := 7) (v := .ref (ad 511)) (C := RX5) (T := TX5) (N := 23) hx hb hts inX5 hown hK hX hm500 rfl 14 (by decide) lk_fieldLink_44 (fun _ h9 => h9) rfl dX5_score_25 ?_
      refine lv_iload_n hx hb dX5_score_28 rfl (lv_at hl 1 rfl) ?_
      refine x_iN hx hb hK hX hm511 (by omega) (by decide) dX5_score_29 ?_
      have hfr0 : ∀ t, t < 500 ∨ 516 < t → M_1 t = M t := fun t ht => by rw [hM_1, xu_n (by omega)]
      refine x_callv (x_runV (q := (RX5, TX5, 23)) (As := [.int (nI (o1 i)), .int (nI (o2 i))]) (rest := []) ⟨hx, hb, hml, hown, hts⟩ (ctX5_reckon l G A M_1 ⟨hm500, hm501, hm502, hm503, hm504, hm505, hm506, hm507, hm508, hm509, hm510, hm511, hm512, hm513, hm514, hm515, hm516⟩ (o1 i) (o2 i) hA5 hB5 (hmc _ hA5.2) (hmc _ hB5.2) (hmk _ hA5.2) (hmk _ hB5.2)) (cwV 2 hts gX5_score_X5_reckon rfl rfl rfl (by decide +kernel) ⟨Nat.le_of_ble_eq_true rfl, Nat.le_of_ble_eq_true rfl⟩) hK hA hX hS hm500 rfl rfl hl.1 rfl (lv_room (Nat.le_of_ble_eq_true rfl)) dX5_score_30 ⟨by decide, by decide⟩) hS (fun M_6 H locs hp hX hS => ?_)
      obtain ⟨⟨hm500, hm501, hm502, hm503, hm504, hm505, hm506, hm507, hm508, hm509, hm510, hm511, hm512, hm513, hm514, hm515, hm516⟩, hfr1⟩ := hp
      have hfr2 : ∀ t, t < 500 ∨ 516 < t → M_6 t = M t := fun t ht => (hfr1 t ht).trans (hfr0 t ht)
      have hbU := mU_le (mT := mT) (mK := mK) (mD := mD) (mF := mF) (mO := mO) (b := o2 i) hwn (hmc _ hA5.2)
      have hbD := mDn_le (mT := mT) (mK := mK) (mD := mD) hwn (hmc _ hA5.2) (hmc _ hB5.2)
      refine lv_aload_n hx hb dX5_score_33 rfl (lv_at hl 0 rfl) ?_
      refine x_get (ci := 7) (v := .long (lN (mDn mT mK mC mD wn (o1 i) (o2 i)))) (C := RX5) (T := TX5) (N := 23) hx hb hts inX5 hown hK hX hm500 rfl 22 (by decide) lk_fieldLink_85 (fun _ h9 => h9) rfl dX5_score_34 ?_
      refine lv_lconst (v := lN 0) hx hb dX5_score_37 rfl ?_
      refine W.lcmp hx hb dX5_score_38 ?_
      refine x_lc_ne (tgt := 49) hx hb dX5_score_39 (by decide) (fun c_7 => ?_) (fun c_7 => ?_)
      · have c_7 : ¬ ((mDn mT mK mC mD wn (o1 i) (o2 i)) = 0) := fun q => c_7 ((pk_lEQ (by omega) (by omega)).mpr q)
        refine lv_aload_n hx hb dX5_score_49 rfl (lv_at hl 0 rfl) ?_
        refine x_get (ci := 7) (v := .long (lN (mU mT mK mC mD mF mO wn (o1 i) (o2 i)))) (C := RX5) (T := TX5) (N := 23) hx hb hts inX5 hown hK hX hm500 rfl 21 (by decide) lk_fieldLink_81 (fun _ h9 => h9) rfl dX5_score_50 ?_
        refine lv_lstore_n (lv' := [(3, .long (lN (mU mT mK mC mD mF mO wn (o1 i) (o2 i)))), (0, .ref (ad 500)), (1, .int (nI i)), (2, .int p1)]) hx hb dX5_score_53 rfl hl (by decide) rfl (fun ls hl => ?_)
        refine lv_aload_n hx hb dX5_score_54 rfl (lv_at hl 1 rfl) ?_
        refine x_get (ci := 7) (v := .long (lN (mDn mT mK mC mD wn (o1 i) (o2 i)))) (C := RX5) (T := TX5) (N := 23) hx hb hts inX5 hown hK hX hm500 rfl 22 (by decide) lk_fieldLink_85 (fun _ h9 => h9) rfl dX5_score_55 ?_
        refine lv_lstore (lv' := [(5, .long (lN (mDn mT mK mC mD wn (o1 i) (o2 i)))), (3, .long (lN (mU mT mK mC mD mF mO wn (o1 i) (o2 i)))), (0, .ref (ad 500)), (1, .int (nI i)), (2, .int p1)]) hx hb dX5_score_58 hl (by decide) rfl (fun ls hl => ?_)
        have loop : ∀ (n : Nat) (g : Nat) (r : Nat) (H : Heap) (locs : List Loc) (ls : Array Slot), r < n → (Nat.gcd g r = Nat.gcd (mU mT mK mC mD mF mO wn (o1 i) (o2 i)) (mDn mT mK mC mD wn (o1 i) (o2 i))) → (g < 1000000000 ∧ r < 1000000000) → xw G.1 vwCl A M_6 H → va_S A s.heap H locs → lv_has ls 9 [(5, .long (lN r)), (3, .long (lN g)), (0, .ref (ad 500)), (1, .int (nI i)), (2, .int p1)] → W p l e rmX5_score s m ([.ref (ad 500), .int (nI i), .int p1] : List Value).toArray below meth c H locs 0 0 (MQ below (va_Ql (fun r M1 => ((∃ i0, i0 < pn ∧ (nI i) = nI i0 ∧ ((mDn mT mK mC mD wn (o1 i0) (o2 i0) = 0 ∧ xMod G M1 ad (nI 1) nc mS mT mK mC mD mF mO mP wn rn pn o1 o2 u1 d1 jc jA jB mx (lN (mU mT mK mC mD mF mO wn (o1 i0) (o2 i0))) (lN (mDn mT mK mC mD wn (o1 i0) (o2 i0)))) ∨ (0 < mDn mT mK mC mD wn (o1 i0) (o2 i0) ∧ (r = if p1 = 0 then lN (mU mT mK mC mD mF mO wn (o1 i0) (o2 i0) / Nat.gcd (mU mT mK mC mD mF mO wn (o1 i0) (o2 i0)) (mDn mT mK mC mD wn (o1 i0) (o2 i0))) else lN (mDn mT mK mC mD wn (o1 i0) (o2 i0) / Nat.gcd (mU mT mK mC mD mF mO wn (o1 i0) (o2 i0)) (mDn mT mK mC mD wn (o1 i0) (o2 i0)))) ∧ xMod G M1 ad (nI 0) nc mS mT mK mC mD mF mO mP wn rn pn o1 o2 u1 d1 jc jA jB mx (lN (mU mT mK mC mD mF mO wn (o1 i0) (o2 i0))) (lN (mDn mT mK mC mD wn (o1 i0) (o2 i0)))))) ∨ (¬ (¬ (nI i) < 0 ∧ ¬ nI pn ≤ (nI i)) ∧ r = (-1) ∧ xMod G M1 ad (nI 0) nc mS mT mK mC mD mF mO mP wn rn pn o1 o2 u1 d1 jc jA jB mx up dn)) ∧ (∀ t, t < 500 ∨ 516 < t → M1 t = M t)) (xPc G A) A) ([.ref (ad 500), .int (nI i), .int p1] : List Value).toArray s 0 0 A) (F0 m 60 ls []) := by
          intro n
          induction n with
          | zero => intro g r H locs ls hn0 hg hgb; exact absurd hn0 (by omega)
          | succ n ih =>
            intro g r H locs ls hn0 hg hgb hX hS hl
            refine lv_lload hx hb dX5_score_60 (lv_at hl 0 rfl) ?_
            refine lv_lconst (v := lN 0) hx hb dX5_score_62 rfl ?_
            refine W.lcmp hx hb dX5_score_63 ?_
            refine x_lc_le (tgt := 83) hx hb dX5_score_64 (by decide) (fun c_8 => ?_) (fun c_8 => ?_)
            · have c_8 : r ≤ 0 := (pk_lLE (by omega) (by omega)).mp c_8
              have hgg : g = Nat.gcd (mU mT mK mC mD mF mO wn (o1 i) (o2 i)) (mDn mT mK mC mD wn (o1 i) (o2 i)) := by rw [← hg, show r = 0 by omega, Nat.gcd_zero_right]
              have hg0 : 0 < g := by rw [hgg]; exact Nat.gcd_pos_of_pos_right _ (by omega)
              refine lv_iload_n hx hb dX5_score_83 rfl (lv_at hl 4 rfl) ?_
              refine lv_if_ne (tgt := 96) hx hb dX5_score_84 (by decide) (fun c_9 => ?_) (fun c_9 => ?_)
              · refine lv_aload_n hx hb dX5_score_96 rfl (lv_at hl 2 rfl) ?_
                refine x_get (ci := 7) (v := .long (lN (mDn mT mK mC mD wn (o1 i) (o2 i)))) (C := RX5) (T := TX5) (N := 23) hx hb hts inX5 hown hK hX hm500 rfl 22 (by decide) lk_fieldLink_85 (fun _ h9 => h9) rfl dX5_score_97 ?_
                refine lv_lload_n hx hb dX5_score_100 rfl (lv_at hl 1 rfl) ?_
                refine lv_ldiv hx hb dX5_score_101 (by rw [show (0 : Int64) = lN 0 from rfl, pk_lEQ (by omega) (by omega)]; omega) ?_
                refine x_rl (y := lN ((mDn mT mK mC mD wn (o1 i) (o2 i)) / g)) (pk_lDiv (by omega) (by omega) (by omega)) ?_
                exact x_lret hx hb hr hlocks hK hA hX hS dX5_score_102 (⟨Or.inl ⟨i, hi, rfl, Or.inr ⟨by omega, by rw [if_neg c_9, ← hgg], ⟨hm500, hm501, hm502, hm503, hm504, hm505, hm506, hm507, hm508, hm509, hm510, hm511, hm512, hm513, hm514, hm515, hm516⟩⟩⟩, hfr2⟩)
              · refine lv_aload_n hx hb dX5_score_87 rfl (lv_at hl 2 rfl) ?_
                refine x_get (ci := 7) (v := .long (lN (mU mT mK mC mD mF mO wn (o1 i) (o2 i)))) (C := RX5) (T := TX5) (N := 23) hx hb hts inX5 hown hK hX hm500 rfl 21 (by decide) lk_fieldLink_81 (fun _ h9 => h9) rfl dX5_score_88 ?_
                refine lv_lload_n hx hb dX5_score_91 rfl (lv_at hl 1 rfl) ?_
                refine lv_ldiv hx hb dX5_score_92 (by rw [show (0 : Int64) = lN 0 from rfl, pk_lEQ (by omega) (by omega)]; omega) ?_
                refine x_rl (y := lN ((mU mT mK mC mD mF mO wn (o1 i) (o2 i)) / g)) (pk_lDiv (by omega) (by omega) (by omega)) ?_
                refine lv_goto (tgt := 102) hx hb dX5_score_93 (by decide) ?_
                exact x_lret hx hb hr hlocks hK hA hX hS dX5_score_102 (⟨Or.inl ⟨i, hi, rfl, Or.inr ⟨by omega, by rw [if_pos c_9, ← hgg], ⟨hm500, hm501, hm502, hm503, hm504, hm505, hm506, hm507, hm508, hm509, hm510, hm511, hm512, hm513, hm514, hm515, hm516⟩⟩⟩, hfr2⟩)
            · have c_8 : ¬ (r ≤ 0) := fun q => c_8 ((pk_lLE (by omega) (by omega)).mpr q)
              have hml9 : g % r < r := Nat.mod_lt _ (by omega)
              refine lv_lload_n hx hb dX5_score_67 rfl (lv_at hl 1 rfl) ?_
              refine lv_lload hx hb dX5_score_68 (lv_at hl 0 rfl) ?_
              refine lv_lrem hx hb dX5_score_70 (by rw [show (0 : Int64) = lN 0 from rfl, pk_lEQ (by omega) (by omega)]; omega) ?_
              refine x_rl (y := lN (g % r)) (pk_lRem (by omega) (by omega) (by omega)) ?_
              refine lv_lstore (lv' := [(7, .long (lN (g % r))), (5, .long (lN r)), (3, .long (lN g)), (0, .ref (ad 500)), (1, .int (nI i)), (2, .int p1)]) hx hb dX5_score_71 hl (by decide) rfl (fun ls hl => ?_)
              refine lv_lload hx hb dX5_score_73 (lv_at hl 1 rfl) ?_
              refine lv_lstore_n (lv' := [(3, .long (lN r)), (7, .long (lN (g % r))), (5, .long (lN r)), (0, .ref (ad 500)), (1, .int (nI i)), (2, .int p1)]) hx hb dX5_score_75 rfl hl (by decide) rfl (fun ls hl => ?_)
              refine lv_lload hx hb dX5_score_76 (lv_at hl 1 rfl) ?_
              refine lv_lstore (lv' := [(5, .long (lN (g % r))), (3, .long (lN r)), (7, .long (lN (g % r))), (0, .ref (ad 500)), (1, .int (nI i)), (2, .int p1)]) hx hb dX5_score_78 hl (by decide) rfl (fun ls hl => ?_)
              refine lv_goto (tgt := 60) hx hb dX5_score_80 (by decide) ?_
              exact ih r (g % r) _ _ ls (by omega) (by rw [Nat.gcd_comm, ← Nat.gcd_rec, Nat.gcd_comm]; exact hg) (⟨by omega, by omega⟩) hX hS (lv_sub hl [0, 1, 3, 4, 5] rfl)
        exact loop (mDn mT mK mC mD wn (o1 i) (o2 i) + 1) (mU mT mK mC mD mF mO wn (o1 i) (o2 i)) (mDn mT mK mC mD wn (o1 i) (o2 i)) _ _ ls (by omega) rfl (⟨hbU, hbD⟩) hX hS (lv_sub hl [0, 1, 2, 3, 4] rfl)
      · have c_7 : (mDn mT mK mC mD wn (o1 i) (o2 i)) = 0 := (pk_lEQ (by omega) (by omega)).mp c_7
        refine lv_aload_n hx hb dX5_score_42 rfl (lv_at hl 0 rfl) ?_
        refine lv_iconst (v := nI 1) hx hb dX5_score_43 (by decide) ?_
        refine x_put (ci := 7) (v := .int (nI 1)) (C := RX5) (T := TX5) (N := 23) hx hb hts inX5 tyX5 tyX5_ok nmX5 hown hK hX hS hm500 rfl 0 (by decide) lk_fieldLink_62 (fun _ h9 => h9) rfl (tyX5_ok 0 (by decide)) rfl rfl (Nat.le_of_ble_eq_true rfl) dX5_score_44 (fun H locs hX hS => ?_)
        obtain ⟨M_10, hM_10⟩ : ∃ zM : xM, zM = xu M_6 500 (ad 500, .inr (7, [.int (nI 1), .int (nI nc), .ref (ad 501), .ref (ad 502), .ref (ad 503), .ref (ad 504), .ref (ad 505), .ref (ad 506), .ref (ad 507), .ref (ad 508), .ref (ad 509), .int rn, .int (nI pn), .ref (ad 510), .ref (ad 511), .ref (ad 512), .ref (ad 513), .int (nI jc), .ref (ad 514), .ref (ad 515), .ref (ad 516), .long (lN (mU mT mK mC mD mF mO wn (o1 i) (o2 i))), .long (lN (mDn mT mK mC mD wn (o1 i) (o2 i)))])) := ⟨_, rfl⟩
        have hX : xw G.1 vwCl A M_10 H := by rw [hM_10]; exact hX
        have hm501 : M_10 501 = some (ad 501, .inl (G.2 0, 51, .inl mS)) := by rw [hM_10, xu_n (by omega)]; exact hm501
        have hm502 : M_10 502 = some (ad 502, .inl (G.2 0, 408, .inl mT)) := by rw [hM_10, xu_n (by omega)]; exact hm502
        have hm503 : M_10 503 = some (ad 503, .inl (G.2 0, 408, .inl mK)) := by rw [hM_10, xu_n (by omega)]; exact hm503
        have hm504 : M_10 504 = some (ad 504, .inl (G.2 0, 51, .inl (fun k => nI (mC k)))) := by rw [hM_10, xu_n (by omega)]; exact hm504
        have hm505 : M_10 505 = some (ad 505, .inl (G.2 2, 51, .inl mD)) := by rw [hM_10, xu_n (by omega)]; exact hm505
        have hm506 : M_10 506 = some (ad 506, .inl (G.2 1, 51, .inr (.inl mF))) := by rw [hM_10, xu_n (by omega)]; exact hm506
        have hm507 : M_10 507 = some (ad 507, .inl (G.2 1, 51, .inr (.inl mO))) := by rw [hM_10, xu_n (by omega)]; exact hm507
        have hm508 : M_10 508 = some (ad 508, .inl (G.2 0, 51, .inl (fun k => nI (mP k)))) := by rw [hM_10, xu_n (by omega)]; exact hm508
        have hm509 : M_10 509 = some (ad 509, .inl (G.2 1, 4, .inr (.inl (fun k => lN (wn k))))) := by rw [hM_10, xu_n (by omega)]; exact hm509
        have hm510 : M_10 510 = some (ad 510, .inl (G.2 0, 700, .inl (fun k => nI (o1 k)))) := by rw [hM_10, xu_n (by omega)]; exact hm510
        have hm511 : M_10 511 = some (ad 511, .inl (G.2 0, 700, .inl (fun k => nI (o2 k)))) := by rw [hM_10, xu_n (by omega)]; exact hm511
        have hm512 : M_10 512 = some (ad 512, .inl (G.2 1, 700, .inr (.inl (fun k => lN (u1 k))))) := by rw [hM_10, xu_n (by omega)]; exact hm512
        have hm513 : M_10 513 = some (ad 513, .inl (G.2 1, 700, .inr (.inl (fun k => lN (d1 k))))) := by rw [hM_10, xu_n (by omega)]; exact hm513
        have hm514 : M_10 514 = some (ad 514, .inl (G.2 0, 101, .inl (fun k => nI (jA k)))) := by rw [hM_10, xu_n (by omega)]; exact hm514
        have hm515 : M_10 515 = some (ad 515, .inl (G.2 0, 101, .inl (fun k => nI (jB k)))) := by rw [hM_10, xu_n (by omega)]; exact hm515
        have hm516 : M_10 516 = some (ad 516, .inl (G.2 0, 700, .inl (fun k => nI (mx k)))) := by rw [hM_10, xu_n (by omega)]; exact hm516
        have hm500 : M_10 500 = some (ad 500, .inr (7, [.int (nI 1), .int (nI nc), .ref (ad 501), .ref (ad 502), .ref (ad 503), .ref (ad 504), .ref (ad 505), .ref (ad 506), .ref (ad 507), .ref (ad 508), .ref (ad 509), .int rn, .int (nI pn), .ref (ad 510), .ref (ad 511), .ref (ad 512), .ref (ad 513), .int (nI jc), .ref (ad 514), .ref (ad 515), .ref (ad 516), .long (lN (mU mT mK mC mD mF mO wn (o1 i) (o2 i))), .long (lN (mDn mT mK mC mD wn (o1 i) (o2 i)))])) := by rw [hM_10]; exact xu_s
        refine lv_lconst (v := lN 0) hx hb dX5_score_47 rfl ?_
        exact x_lret hx hb hr hlocks hK hA hX hS dX5_score_48 (⟨Or.inl ⟨i, hi, rfl, Or.inl ⟨c_7, ⟨hm500, hm501, hm502, hm503, hm504, hm505, hm506, hm507, hm508, hm509, hm510, hm511, hm512, hm513, hm514, hm515, hm516⟩⟩⟩, fun t ht => by rw [hM_10, xu_n (by omega)]; exact hfr2 t ht⟩)
    · have c_4 : 1 = 0 := (nI_eq (a := 1) (b := 0) (by omega) (by omega)).mp c_4
      exact absurd c_4 (by omega)
  · rw [er]
    refine lv_if_ne (tgt := 17) hx hb dX5_score_10 (by decide) (fun c_11 => ?_) (fun c_11 => ?_)
    · have c_11 : ¬ (0 = 0) := fun q => c_11 ((nI_eq (a := 0) (b := 0) (by omega) (by omega)).mpr q)
      exact absurd c_11 (by omega)
    · have c_11 : 0 = 0 := (nI_eq (a := 0) (b := 0) (by omega) (by omega)).mp c_11
      refine lv_ldc2 (v := (-1)) hx hb hown lk_constantLong_104 dX5_score_13 ?_
      exact x_lret hx hb hr hlocks hK hA hX hS dX5_score_16 (⟨Or.inr ⟨ep, rfl, ⟨hm500, hm501, hm502, hm503, hm504, hm505, hm506, hm507, hm508, hm509, hm510, hm511, hm512, hm513, hm514, hm515, hm516⟩⟩, fun t ht => by rw [hM_1, xu_n (by omega)]⟩)
