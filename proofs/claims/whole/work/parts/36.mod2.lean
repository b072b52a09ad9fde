/-! the reference: more methods -/
def b2n (b : Bool) : Nat := if b then 1 else 0
theorem b2n_le {b : Bool} : b2n b ≤ 1 := by cases b <;> decide
theorem b2n_0 {b : Bool} (h : b2n b = 0) : b = false := by cases b; rfl; exact absurd h (by decide)
theorem b2n_1 {b : Bool} (h : ¬ b2n b = 0) : b = true := by cases b; exact absurd rfl h; rfl
theorem x_nar {n : Nat} (h : n ≤ 1) : narrow .boolean (.int (nI n)) = .int (nI n) := by
  rcases (show n = 0 ∨ n = 1 by omega) with rfl | rfl <;> rfl
def mBest (o1 o2 u1 d1 : Nat → Nat) (i n : Nat) : Prop := ∀ k, k < n → ¬ ((o1 k = o1 i ∨ o2 k = o2 i) ∧ u1 i * d1 k < u1 k * d1 i)
def mNo (o1 : Nat → Nat) (n : Nat) : Nat → Bool
  | 0 => true
  | k + 1 => mNo o1 n k && !(decide (o1 k = n))

abbrev rmX5_has : Room := { frames := 0, cells := 0, slots := 0, locals := 0 }
set_option maxHeartbeats 4000000 in
set_option maxRecDepth 100000 in
/-- has -/
theorem ctX5_has (l : Launch) (G : xG) (A : Nat → Prop) (M : xM) {ad : Nat → Nat} {th : Int32} {nc : Nat} {mS : Nat → Int32} {mT : Nat → Int32} {mK : Nat → Int32} {mC : Nat → Nat} {mD : Nat → Int32} {mF : Nat → Int64} {mO : Nat → Int64} {mP : Nat → Nat} {wn : Nat → Nat} {rn : Int32} {pn : Nat} {o1 : Nat → Nat} {o2 : Nat → Nat} {u1 : Nat → Nat} {d1 : Nat → Nat} {jc : Nat} {jA : Nat → Nat} {jB : Nat → Nat} {mx : Nat → Nat} {up : Int64} {dn : Int64} (hR : xMod G M ad th nc mS mT mK mC mD mF mO mP wn rn pn o1 o2 u1 d1 jc jA jB mx up dn) (a : Nat) (p1 p2 : Int32) (ha : 1 ≤ a ∧ a ≤ 50) (hma : mC a ≤ 8) : Met l yX5_has wsX5_has rmX5_has (va_Pc ([.ref (ad 500), .int (nI a), .int p1, .int p2] : List Value) (xPc G A M)) (va_Qi (fun r M1 => M1 = M ∧ r = if xHas (fun k => mT (8 * a + k)) (fun k => mK (8 * a + k)) p1 p2 (mC a) then 1 else 0) (xPc G A) A) 0 0 A := by
  refine x_met (cc := cX5_has) (maxL := 6) (ret := (some .boolean)) RX5 (by decide) rfl (Nat.le_of_ble_eq_true rfl) rfl ?_
  intro p e s m below meth c hx hb hr hts hown hlocks hml hin hK hA hX ls hl
  have inX5 : ∀ w ∈ wsX50, w ∈ wsX5_has := by decide +kernel
  have lk_fieldLink_19 := hts (.fieldLink RX5 19 "ReconcileModel" "counts" "[I") (by decide +kernel)
  have lk_fieldLink_13 := hts (.fieldLink RX5 13 "ReconcileModel" "tokens" "[I") (by decide +kernel)
  have lk_fieldLink_16 := hts (.fieldLink RX5 16 "ReconcileModel" "tokenKinds" "[I") (by decide +kernel)
  have hS : va_S A s.heap s.heap [] := va_S.rf
  have hl : lv_has ls 6 [(0, .ref (ad 500)), (1, .int (nI a)), (2, .int p1), (3, .int p2)] := hl
  obtain ⟨hm500, hm501, hm502, hm503, hm504, hm505, hm506, hm507, hm508, hm509, hm510, hm511, hm512, hm513, hm514, hm515, hm516⟩ := id hR
  refine lv_iconst (v := nI 0) hx hb dX5_has_0 (by decide) ?_
  refine lv_istore (lv' := [(4, .int (nI 0)), (0, .ref (ad 500)), (1, .int (nI a)), (2, .int p1), (3, .int p2)]) hx hb dX5_has_1 hl (by decide) rfl (fun ls hl => ?_)
  refine lv_iconst (v := nI 0) hx hb dX5_has_3 (by decide) ?_
  refine lv_istore (lv' := [(5, .int (nI 0)), (4, .int (nI 0)), (0, .ref (ad 500)), (1, .int (nI a)), (2, .int p1), (3, .int p2)]) hx hb dX5_has_4 hl (by decide) rfl (fun ls hl => ?_)
  have loop : ∀ (n : Nat) (i : Nat) (e9 : Nat) (ls : Array Slot), mC a < i + n → (i ≤ mC a) → (e9 = b2n (xHas (fun k => mT (8 * a + k)) (fun k => mK (8 * a + k)) p1 p2 i)) → lv_has ls 6 [(5, .int (nI i)), (4, .int (nI e9)), (0, .ref (ad 500)), (1, .int (nI a)), (2, .int p1), (3, .int p2)] → W p l e rmX5_has s m ([.ref (ad 500), .int (nI a), .int p1, .int p2] : List Value).toArray below meth c s.heap [] 0 0 (MQ below (va_Qi (fun r M1 => M1 = M ∧ r = if xHas (fun k => mT (8 * a + k)) (fun k => mK (8 * a + k)) p1 p2 (mC a) then 1 else 0) (xPc G A) A) ([.ref (ad 500), .int (nI a), .int p1, .int p2] : List Value).toArray s 0 0 A) (F0 m 6 ls []) := by
    intro n
    induction n with
    | zero => intro i e9 ls hn0 hi he; exact absurd hn0 (by omega)
    | succ n ih =>
      intro i e9 ls hn0 hi he hl
      have he1 : e9 ≤ 1 := by rw [he]; exact b2n_le
      refine lv_iload hx hb dX5_has_6 (lv_at hl 0 rfl) ?_
      refine lv_aload_n hx hb dX5_has_8 rfl (lv_at hl 2 rfl) ?_
      refine x_get (ci := 7) (v := .ref (ad 504)) (C := RX5) (T := TX5) (N := 23) hx hb hts inX5 hown hK hX hm500 rfl 5 (by decide) lk_fieldLink_19 (fun _ h9 => h9) rfl dX5_has_9 ?_
      refine lv_iload_n hx hb dX5_has_12 rfl (lv_at hl 3 rfl) ?_
      refine x_iN hx hb hK hX hm504 (by omega) (by decide) dX5_has_13 ?_
      refine lv_icmp_ge (tgt := 67) hx hb dX5_has_14 (by decide) (fun c_1 => ?_) (fun c_1 => ?_)
      · have c_1 : (mC a) ≤ i := (nI_leI (by omega) (by omega)).mp c_1
        refine lv_iload hx hb dX5_has_67 (lv_at hl 1 rfl) ?_
        exact x_zret hx hb hr hlocks hK hA hX hS dX5_has_69 (x_nar he1) (⟨rfl, by rw [he, show i = mC a by omega]; cases xHas (fun k => mT (8 * a + k)) (fun k => mK (8 * a + k)) p1 p2 (mC a) <;> rfl⟩)
      · have c_1 : ¬ ((mC a) ≤ i) := fun q => c_1 ((nI_leI (by omega) (by omega)).mpr q)
        refine lv_iload hx hb dX5_has_17 (lv_at hl 1 rfl) ?_
        refine lv_if_ne (tgt := 54) hx hb dX5_has_19 (by decide) (fun c_2 => ?_) (fun c_2 => ?_)
        · have c_2 : ¬ (e9 = 0) := fun q => c_2 ((nI_eq (a := e9) (b := 0) (by omega) (by omega)).mpr q)
          refine lv_iconst (v := nI 1) hx hb dX5_has_54 (by decide) ?_
          refine lv_goto (tgt := 59) hx hb dX5_has_55 (by decide) ?_
          refine lv_istore (lv' := [(4, .int (nI 1)), (5, .int (nI i)), (0, .ref (ad 500)), (1, .int (nI a)), (2, .int p1), (3, .int p2)]) hx hb dX5_has_59 hl (by decide) rfl (fun ls hl => ?_)
          refine lv_iinc (v := nI (i + 1)) (lv' := [(5, .int (nI (i + 1))), (4, .int (nI 1)), (0, .ref (ad 500)), (1, .int (nI a)), (2, .int p1), (3, .int p2)]) hx hb dX5_has_61 hl (k := 1) rfl (show nI i + Int32.ofInt 1 = _ from nI_add _ 1) (by decide) rfl (fun ls hl => ?_)
          refine lv_goto (tgt := 6) hx hb dX5_has_64 (by decide) ?_
          exact ih (i + 1) 1 ls (by omega) (by omega) (by show _ = b2n (xHas (fun k => mT (8 * a + k)) (fun k => mK (8 * a + k)) p1 p2 i || (decide (mT (8 * a + i) = p1) && decide (mK (8 * a + i) = p2))); rw [b2n_1 (b := xHas (fun k => mT (8 * a + k)) (fun k => mK (8 * a + k)) p1 p2 i) (by rw [← he]; exact c_2)]; rfl) (lv_sub hl [0, 1, 2, 3, 4, 5] rfl)
        · have c_2 : e9 = 0 := (nI_eq (a := e9) (b := 0) (by omega) (by omega)).mp c_2
          have hf0 := b2n_0 (b := xHas (fun k => mT (8 * a + k)) (fun k => mK (8 * a + k)) p1 p2 i) (by rw [← he]; exact c_2)
          refine lv_aload_n hx hb dX5_has_22 rfl (lv_at hl 2 rfl) ?_
          refine x_get (ci := 7) (v := .ref (ad 502)) (C := RX5) (T := TX5) (N := 23) hx hb hts inX5 hown hK hX hm500 rfl 3 (by decide) lk_fieldLink_13 (fun _ h9 => h9) rfl dX5_has_23 ?_
          refine lv_bipush (v := nI 8) hx hb dX5_has_26 (by decide) ?_
          refine lv_iload_n hx hb dX5_has_28 rfl (lv_at hl 3 rfl) ?_
          refine lv_imul hx hb dX5_has_29 ?_
          refine x_ri (pk_mul _ _) ?_
          refine lv_iload hx hb dX5_has_30 (lv_at hl 0 rfl) ?_
          refine lv_iadd hx hb dX5_has_32 ?_
          refine x_ri (nI_add _ _) ?_
          refine x_iN hx hb hK hX hm502 (by omega) (by decide) dX5_has_33 ?_
          refine lv_iload_n hx hb dX5_has_34 rfl (lv_at hl 4 rfl) ?_
          refine lv_icmp_ne (tgt := 58) hx hb dX5_has_35 (by decide) (fun c_3 => ?_) (fun c_3 => ?_)
          · refine lv_iconst (v := nI 0) hx hb dX5_has_58 (by decide) ?_
            refine lv_istore (lv' := [(4, .int (nI 0)), (5, .int (nI i)), (0, .ref (ad 500)), (1, .int (nI a)), (2, .int p1), (3, .int p2)]) hx hb dX5_has_59 hl (by decide) rfl (fun ls hl => ?_)
            refine lv_iinc (v := nI (i + 1)) (lv' := [(5, .int (nI (i + 1))), (4, .int (nI 0)), (0, .ref (ad 500)), (1, .int (nI a)), (2, .int p1), (3, .int p2)]) hx hb dX5_has_61 hl (k := 1) rfl (show nI i + Int32.ofInt 1 = _ from nI_add _ 1) (by decide) rfl (fun ls hl => ?_)
            refine lv_goto (tgt := 6) hx hb dX5_has_64 (by decide) ?_
            exact ih (i + 1) 0 ls (by omega) (by omega) (by show _ = b2n (xHas (fun k => mT (8 * a + k)) (fun k => mK (8 * a + k)) p1 p2 i || (decide (mT (8 * a + i) = p1) && decide (mK (8 * a + i) = p2))); rw [hf0, decide_eq_false c_3]; rfl) (lv_sub hl [0, 1, 2, 3, 4, 5] rfl)
          · refine lv_aload_n hx hb dX5_has_38 rfl (lv_at hl 2 rfl) ?_
            refine x_get (ci := 7) (v := .ref (ad 503)) (C := RX5) (T := TX5) (N := 23) hx hb hts inX5 hown hK hX hm500 rfl 4 (by decide) lk_fieldLink_16 (fun _ h9 => h9) rfl dX5_has_39 ?_
            refine lv_bipush (v := nI 8) hx hb dX5_has_42 (by decide) ?_
            refine lv_iload_n hx hb dX5_has_44 rfl (lv_at hl 3 rfl) ?_
            refine lv_imul hx hb dX5_has_45 ?_
            refine x_ri (pk_mul _ _) ?_
            refine lv_iload hx hb dX5_has_46 (lv_at hl 0 rfl) ?_
            refine lv_iadd hx hb dX5_has_48 ?_
            refine x_ri (nI_add _ _) ?_
            refine x_iN hx hb hK hX hm503 (by omega) (by decide) dX5_has_49 ?_
            refine lv_iload_n hx hb dX5_has_50 rfl (lv_at hl 5 rfl) ?_
            refine lv_icmp_ne (tgt := 58) hx hb dX5_has_51 (by decide) (fun c_4 => ?_) (fun c_4 => ?_)
            · refine lv_iconst (v := nI 0) hx hb dX5_has_58 (by decide) ?_
              refine lv_istore (lv' := [(4, .int (nI 0)), (5, .int (nI i)), (0, .ref (ad 500)), (1, .int (nI a)), (2, .int p1), (3, .int p2)]) hx hb dX5_has_59 hl (by decide) rfl (fun ls hl => ?_)
              refine lv_iinc (v := nI (i + 1)) (lv' := [(5, .int (nI (i + 1))), (4, .int (nI 0)), (0, .ref (ad 500)), (1, .int (nI a)), (2, .int p1), (3, .int p2)]) hx hb dX5_has_61 hl (k := 1) rfl (show nI i + Int32.ofInt 1 = _ from nI_add _ 1) (by decide) rfl (fun ls hl => ?_)
              refine lv_goto (tgt := 6) hx hb dX5_has_64 (by decide) ?_
              exact ih (i + 1) 0 ls (by omega) (by omega) (by show _ = b2n (xHas (fun k => mT (8 * a + k)) (fun k => mK (8 * a + k)) p1 p2 i || (decide (mT (8 * a + i) = p1) && decide (mK (8 * a + i) = p2))); rw [hf0, decide_eq_false c_4, Bool.and_false]; rfl) (lv_sub hl [0, 1, 2, 3, 4, 5] rfl)
            · refine lv_iconst (v := nI 1) hx hb dX5_has_54 (by decide) ?_
              refine lv_goto (tgt := 59) hx hb dX5_has_55 (by decide) ?_
              refine lv_istore (lv' := [(4, .int (nI 1)), (5, .int (nI i)), (0, .ref (ad 500)), (1, .int (nI a)), (2, .int p1), (3, .int p2)]) hx hb dX5_has_59 hl (by decide) rfl (fun ls hl => ?_)
              refine lv_iinc (v := nI (i + 1)) (lv' := [(5, .int (nI (i + 1))), (4, .int (nI 1)), (0, .ref (ad 500)), (1, .int (nI a)), (2, .int p1), (3, .int p2)]) hx hb dX5_has_61 hl (k := 1) rfl (show nI i + Int32.ofInt 1 = _ from nI_add _ 1) (by decide) rfl (fun ls hl => ?_)
              refine lv_goto (tgt := 6) hx hb dX5_has_64 (by decide) ?_
              exact ih (i + 1) 1 ls (by omega) (by omega) (by show _ = b2n (xHas (fun k => mT (8 * a + k)) (fun k => mK (8 * a + k)) p1 p2 i || (decide (mT (8 * a + i) = p1) && decide (mK (8 * a + i) = p2))); rw [decide_eq_true c_3, decide_eq_true c_4, Bool.and_self, Bool.or_true]; rfl) (lv_sub hl [0, 1, 2, 3, 4, 5] rfl)
  exact loop (mC a + 1) 0 0 ls (by omega) (by omega) rfl (lv_sub hl [0, 1, 2, 3, 4, 5] rfl)

abbrev rmX5_token : Room := { frames := 1, cells := 0, slots := 0, locals := 25 }
set_option maxHeartbeats 4000000 in
set_option maxRecDepth 100000 in
/-- token -/
theorem ctX5_token (l : Launch) (G : xG) (A : Nat → Prop) (M : xM) {ad : Nat → Nat} {th : Int32} {nc : Nat} {mS : Nat → Int32} {mT : Nat → Int32} {mK : Nat → Int32} {mC : Nat → Nat} {mD : Nat → Int32} {mF : Nat → Int64} {mO : Nat → Int64} {mP : Nat → Nat} {wn : Nat → Nat} {rn : Int32} {pn : Nat} {o1 : Nat → Nat} {o2 : Nat → Nat} {u1 : Nat → Nat} {d1 : Nat → Nat} {jc : Nat} {jA : Nat → Nat} {jB : Nat → Nat} {mx : Nat → Nat} {up : Int64} {dn : Int64} (hR : xMod G M ad th nc mS mT mK mC mD mF mO mP wn rn pn o1 o2 u1 d1 jc jA jB mx up dn) (p0 p1 p2 : Int32) (hnc : nc ≤ 50) (hmc : ∀ n, n ≤ 50 → mC n ≤ 8) : Met l yX5_token wsX5_token rmX5_token (va_Pc ([.ref (ad 500), .int p0, .int p1, .int p2] : List Value) (xPc G A M)) (va_Qv (fun M1 => ((∃ i, i < nc ∧ p0 = nI (i + 1) ∧ (¬ p2 < 0 ∧ p2 < nI 3) ∧ (((mC (i + 1) < 8 ∧ xHas (fun k => mT (8 * (i + 1) + k)) (fun k => mK (8 * (i + 1) + k)) p1 p2 (mC (i + 1)) = false) ∧ xMod G M1 ad (nI 0) nc mS (upd mT (8 * (i + 1) + mC (i + 1)) p1) (upd mK (8 * (i + 1) + mC (i + 1)) p2) (va_up mC (i + 1) (mC (i + 1) + 1)) mD mF mO mP wn rn pn o1 o2 u1 d1 jc jA jB mx up dn) ∨ (¬ (mC (i + 1) < 8 ∧ xHas (fun k => mT (8 * (i + 1) + k)) (fun k => mK (8 * (i + 1) + k)) p1 p2 (mC (i + 1)) = false) ∧ xMod G M1 ad (nI 0) nc mS mT mK mC mD mF mO mP wn rn pn o1 o2 u1 d1 jc jA jB mx up dn))) ∨ (((p0 < nI 1 ∨ ¬ p0 ≤ nI nc) ∨ ¬ (¬ p2 < 0 ∧ p2 < nI 3)) ∧ xMod G M1 ad (nI 0) nc mS mT mK mC mD mF mO mP wn rn pn o1 o2 u1 d1 jc jA jB mx up dn)) ∧ (∀ t, t < 500 ∨ 516 < t → M1 t = M t)) (xPc G A) A) 0 0 A := by
  refine x_met (cc := cX5_token) (maxL := 4) (ret := none) RX5 (by decide) rfl (Nat.le_of_ble_eq_true rfl) rfl ?_
  intro p e s m below meth c hx hb hr hts hown hlocks hml hin hK hA hX ls hl
  have inX5 : ∀ w ∈ wsX50, w ∈ wsX5_token := by decide +kernel
  have lk_fieldLink_62 := hts (.fieldLink RX5 62 "ReconcileModel" "thrown" "I") (by decide +kernel)
  have lk_fieldLink_19 := hts (.fieldLink RX5 19 "ReconcileModel" "counts" "[I") (by decide +kernel)
  have lk_fieldLink_13 := hts (.fieldLink RX5 13 "ReconcileModel" "tokens" "[I") (by decide +kernel)
  have lk_fieldLink_16 := hts (.fieldLink RX5 16 "ReconcileModel" "tokenKinds" "[I") (by decide +kernel)
  have hS : va_S A s.heap s.heap [] := va_S.rf
  have hl : lv_has ls 4 [(0, .ref (ad 500)), (1, .int p0), (2, .int p1), (3, .int p2)] := hl
  obtain ⟨hm500, hm501, hm502, hm503, hm504, hm505, hm506, hm507, hm508, hm509, hm510, hm511, hm512, hm513, hm514, hm515, hm516⟩ := id hR
  refine lv_aload_n hx hb dX5_token_0 rfl (lv_at hl 0 rfl) ?_
  refine lv_iconst (v := nI 0) hx hb dX5_token_1 (by decide) ?_
  refine x_put (ci := 7) (v := .int (nI 0)) (C := RX5) (T := TX5) (N := 23) hx hb hts inX5 tyX5 tyX5_ok nmX5 hown hK hX hS hm500 rfl 0 (by decide) lk_fieldLink_62 (fun _ h9 => h9) rfl (tyX5_ok 0 (by decide)) rfl rfl (Nat.le_of_ble_eq_true rfl) dX5_token_2 (fun H locs hX hS => ?_)
  obtain ⟨M_1, hM_1⟩ : ∃ zM : xM, zM = xu M 500 (ad 500, .inr (7, [.int (nI 0), .int (nI nc), .ref (ad 501), .ref (ad 502), .ref (ad 503), .ref (ad 504), .ref (ad 505), .ref (ad 506), .ref (ad 507), .ref (ad 508), .ref (ad 509), .int rn, .int (nI pn), .ref (ad 510), .ref (ad 511), .ref (ad 512), .ref (ad 513), .int (nI jc), .ref (ad 514), .ref (ad 515), .ref (ad 516), .long up, .long dn])) := ⟨_, rfl⟩
  have hX : xw G.1 vwCl A M_1 H := by rw [hM_1]; exact hX
  have hm501 : M_1 501 = some (ad 501, .inl (G.2 0, 51, .inl mS)) := by rw [hM_1, xu_n (by omega)]; exact hm501
  have hm502 : M_1 502 = some (ad 502, .inl (G.2 0, 408, .inl mT)) := by rw [hM_1, xu_n (by omega)]; exact hm502
  have hm503 : M_1 503 = some (ad 503, .inl (G.2 0, 408, .inl mK)) := by rw [hM_1, xu_n (by omega)]; exact hm503
  have hm504 : M_1 504 = some (ad 504, .inl (G.2 0, 51, .inl (fun k => nI (mC k)))) := by rw [hM_1, xu_n (by omega)]; exact hm504
  have hm505 : M_1 505 = some (ad 505, .inl (G.2 2, 51, .inl mD)) := by rw [hM_1, xu_n (by omega)]; exact hm505
  have hm506 : M_1 506 = some (ad 506, .inl (G.2 1, 51, .inr (.inl mF))) := by rw [hM_1, xu_n (by omega)]; exact hm506
  have hm507 : M_1 507 = some (ad 507, .inl (G.2 1, 51, .inr (.inl mO))) := by rw [hM_1, xu_n (by omega)]; exact hm507
  have hm508 : M_1 508 = some (ad 508, .inl (G.2 0, 51, .inl (fun k => nI (mP k)))) := by rw [hM_1, xu_n (by omega)]; exact hm508
  have hm509 : M_1 509 = some (ad 509, .inl (G.2 1, 4, .inr (.inl (fun k => lN (wn k))))) := by rw [hM_1, xu_n (by omega)]; exact hm509
  have hm510 : M_1 510 = some (ad 510, .inl (G.2 0, 700, .inl (fun k => nI (o1 k)))) := by rw [hM_1, xu_n (by omega)]; exact hm510
  have hm511 : M_1 511 = some (ad 511, .inl (G.2 0, 700, .inl (fun k => nI (o2 k)))) := by rw [hM_1, xu_n (by omega)]; exact hm511
  have hm512 : M_1 512 = some (ad 512, .inl (G.2 1, 700, .inr (.inl (fun k => lN (u1 k))))) := by rw [hM_1, xu_n (by omega)]; exact hm512
  have hm513 : M_1 513 = some (ad 513, .inl (G.2 1, 700, .inr (.inl (fun k => lN (d1 k))))) := by rw [hM_1, xu_n (by omega)]; exact hm513
  have hm514 : M_1 514 = some (ad 514, .inl (G.2 0, 101, .inl (fun k => nI (jA k)))) := by rw [hM_1, xu_n (by omega)]; exact hm514
  have hm515 : M_1 515 = some (ad 515, .inl (G.2 0, 101, .inl (fun k => nI (jB k)))) := by rw [hM_1, xu_n (by omega)]; exact hm515
  have hm516 : M_1 516 = some (ad 516, .inl (G.2 0, 700, .inl (fun k => nI (mx k)))) := by rw [hM_1, xu_n (by omega)]; exact hm516
  have hm500 : M_1 500 = some (ad 500, .inr (7, [.int (nI 0), .int (nI nc), .ref (ad 501), .ref (ad 502), .ref (ad 503), .ref (ad 504), .ref (ad 505), .ref (ad 506), .ref (ad 507), .ref (ad 508), .ref (ad 509), .int rn, .int (nI pn), .ref (ad 510), .ref (ad 511), .ref (ad 512), .ref (ad 513), .int (nI jc), .ref (ad 514), .ref (ad 515), .ref (ad 516), .long up, .long dn])) := by rw [hM_1]; exact xu_s
  refine lv_aload_n hx hb dX5_token_5 rfl (lv_at hl 0 rfl) ?_
  refine lv_iload_n hx hb dX5_token_6 rfl (lv_at hl 1 rfl) ?_
  refine x_calli (x_runV (q := (RX5, TX5, 23)) (As := [.int p0]) (rest := []) ⟨hx, hb, hml, hown, hts⟩ (ctX5_isName l G A M_1 ⟨hm500, hm501, hm502, hm503, hm504, hm505, hm506, hm507, hm508, hm509, hm510, hm511, hm512, hm513, hm514, hm515, hm516⟩ p0 hnc) (cwV 1 hts gX5_token_X5_isName rfl rfl rfl (by decide +kernel) ⟨Nat.le_of_ble_eq_true rfl, Nat.le_of_ble_eq_true rfl⟩) hK hA hX hS hm500 rfl rfl hl.1 rfl (lv_room (Nat.le_of_ble_eq_true rfl)) dX5_token_7 ⟨by decide, by decide⟩) hS (fun r_2 M_3 H locs hp hX hS => ?_)
  obtain ⟨hM_, hq_r_2⟩ := hp
  rw [hM_] at hX
  rcases hq_r_2 with ⟨i, hi, ep, er⟩ | ⟨ep, er⟩
  · rw [er]
    subst ep
    refine lv_if_eq (tgt := 87) hx hb dX5_token_10 (by decide) (fun c_4 => ?_) (fun c_4 => ?_)
    · have c_4 : 1 = 0 := (nI_eq (a := 1) (b := 0) (by omega) (by omega)).mp c_4
      exact absurd c_4 (by omega)
    · have c_4 : ¬ (1 = 0) := fun q => c_4 ((nI_eq (a := 1) (b := 0) (by omega) (by omega)).mpr q)
      refine lv_iload_n hx hb dX5_token_13 rfl (lv_at hl 3 rfl) ?_
      refine lv_if_lt (tgt := 87) hx hb dX5_token_14 (by decide) (fun c_5 => ?_) (fun c_5 => ?_)
      · exact x_vret hx hb hr hlocks hK hA hX hS dX5_token_87 (⟨Or.inr ⟨Or.inr (fun q => q.1 c_5), ⟨hm500, hm501, hm502, hm503, hm504, hm505, hm506, hm507, hm508, hm509, hm510, hm511, hm512, hm513, hm514, hm515, hm516⟩⟩, fun t ht => by rw [hM_1, xu_n (by omega)]⟩)
      · refine lv_iload_n hx hb dX5_token_17 rfl (lv_at hl 3 rfl) ?_
        refine lv_iconst (v := nI 3) hx hb dX5_token_18 (by decide) ?_
        refine lv_icmp_ge (tgt := 87) hx hb dX5_token_19 (by decide) (fun c_6 => ?_) (fun c_6 => ?_)
        · exact x_vret hx hb hr hlocks hK hA hX hS dX5_token_87 (⟨Or.inr ⟨Or.inr (fun q => (x_nlt.mpr c_6) q.2), ⟨hm500, hm501, hm502, hm503, hm504, hm505, hm506, hm507, hm508, hm509, hm510, hm511, hm512, hm513, hm514, hm515, hm516⟩⟩, fun t ht => by rw [hM_1, xu_n (by omega)]⟩)
        · have hm8 := hmc (i + 1) (by omega)
          refine lv_aload_n hx hb dX5_token_22 rfl (lv_at hl 0 rfl) ?_
          refine x_get (ci := 7) (v := .ref (ad 504)) (C := RX5) (T := TX5) (N := 23) hx hb hts inX5 hown hK hX hm500 rfl 5 (by decide) lk_fieldLink_19 (fun _ h9 => h9) rfl dX5_token_23 ?_
          refine lv_iload_n hx hb dX5_token_26 rfl (lv_at hl 1 rfl) ?_
          refine x_iN hx hb hK hX hm504 (by omega) (by decide) dX5_token_27 ?_
          refine lv_bipush (v := nI 8) hx hb dX5_token_28 (by decide) ?_
          refine lv_icmp_ge (tgt := 87) hx hb dX5_token_30 (by decide) (fun c_7 => ?_) (fun c_7 => ?_)
          · have c_7 : 8 ≤ (mC (i + 1)) := (nI_leI (by omega) (by omega)).mp c_7
            exact x_vret hx hb hr hlocks hK hA hX hS dX5_token_87 (⟨Or.inl ⟨i, hi, rfl, ⟨c_5, (by exact Classical.byContradiction (fun q => c_6 (x_nlt.mp q)))⟩, Or.inr ⟨fun q => by have := q.1; omega, ⟨hm500, hm501, hm502, hm503, hm504, hm505, hm506, hm507, hm508, hm509, hm510, hm511, hm512, hm513, hm514, hm515, hm516⟩⟩⟩, fun t ht => by rw [hM_1, xu_n (by omega)]⟩)
          · have c_7 : ¬ (8 ≤ (mC (i + 1))) := fun q => c_7 ((nI_leI (by omega) (by omega)).mpr q)
            refine lv_aload_n hx hb dX5_token_33 rfl (lv_at hl 0 rfl) ?_
            refine lv_iload_n hx hb dX5_token_34 rfl (lv_at hl 1 rfl) ?_
            refine lv_iload_n hx hb dX5_token_35 rfl (lv_at hl 2 rfl) ?_
            refine lv_iload_n hx hb dX5_token_36 rfl (lv_at hl 3 rfl) ?_
            refine x_calli (x_runV (q := (RX5, TX5, 23)) (As := [.int (nI (i + 1)), .int p1, .int p2]) (rest := []) ⟨hx, hb, hml, hown, hts⟩ (ctX5_has l G A M_1 ⟨hm500, hm501, hm502, hm503, hm504, hm505, hm506, hm507, hm508, hm509, hm510, hm511, hm512, hm513, hm514, hm515, hm516⟩ (i + 1) p1 p2 (by omega) hm8) (cwV 3 hts gX5_token_X5_has rfl rfl rfl (by decide +kernel) ⟨Nat.le_of_ble_eq_true rfl, Nat.le_of_ble_eq_true rfl⟩) hK hA hX hS hm500 rfl rfl hl.1 rfl (lv_room (Nat.le_of_ble_eq_true rfl)) dX5_token_37 ⟨by decide, by decide⟩) hS (fun r_8 M_9 H locs hp hX hS => ?_)
            obtain ⟨hM_, er_8⟩ := hp
            rw [hM_] at hX
            refine lv_if_ne (tgt := 87) hx hb dX5_token_40 (by decide) (fun c_10 => ?_) (fun c_10 => ?_)
            · have hh := x_ib1 er_8 c_10
              exact x_vret hx hb hr hlocks hK hA hX hS dX5_token_87 (⟨Or.inl ⟨i, hi, rfl, ⟨c_5, (by exact Classical.byContradiction (fun q => c_6 (x_nlt.mp q)))⟩, Or.inr ⟨fun q => by rw [hh] at q; exact absurd q.2 (by decide), ⟨hm500, hm501, hm502, hm503, hm504, hm505, hm506, hm507, hm508, hm509, hm510, hm511, hm512, hm513, hm514, hm515, hm516⟩⟩⟩, fun t ht => by rw [hM_1, xu_n (by omega)]⟩)
            · have hh := x_ib0 er_8 c_10
              refine lv_aload_n hx hb dX5_token_43 rfl (lv_at hl 0 rfl) ?_
              refine x_get (ci := 7) (v := .ref (ad 502)) (C := RX5) (T := TX5) (N := 23) hx hb hts inX5 hown hK hX hm500 rfl 3 (by decide) lk_fieldLink_13 (fun _ h9 => h9) rfl dX5_token_44 ?_
              refine lv_bipush (v := nI 8) hx hb dX5_token_47 (by decide) ?_
              refine lv_iload_n hx hb dX5_token_49 rfl (lv_at hl 1 rfl) ?_
              refine lv_imul hx hb dX5_token_50 ?_
              refine x_ri (pk_mul _ _) ?_
              refine lv_aload_n hx hb dX5_token_51 rfl (lv_at hl 0 rfl) ?_
              refine x_get (ci := 7) (v := .ref (ad 504)) (C := RX5) (T := TX5) (N := 23) hx hb hts inX5 hown hK hX hm500 rfl 5 (by decide) lk_fieldLink_19 (fun _ h9 => h9) rfl dX5_token_52 ?_
              refine lv_iload_n hx hb dX5_token_55 rfl (lv_at hl 1 rfl) ?_
              refine x_iN hx hb hK hX hm504 (by omega) (by decide) dX5_token_56 ?_
              refine lv_iadd hx hb dX5_token_57 ?_
              refine x_ri (nI_add _ _) ?_
              refine lv_iload_n hx hb dX5_token_58 rfl (lv_at hl 2 rfl) ?_
              refine x_isN hx hb hK hX hS hm502 (by omega) (by decide) dX5_token_59 (fun H locs hX hS => ?_)
              obtain ⟨M_11, hM_11⟩ : ∃ zM : xM, zM = xu M_1 502 (ad 502, .inl (G.2 0, 408, .inl (upd mT ((8 * (i + 1)) + (mC (i + 1))) p1))) := ⟨_, rfl⟩
              have hX : xw G.1 vwCl A M_11 H := by rw [hM_11]; exact hX
              have hm500 : M_11 500 = some (ad 500, .inr (7, [.int (nI 0), .int (nI nc), .ref (ad 501), .ref (ad 502), .ref (ad 503), .ref (ad 504), .ref (ad 505), .ref (ad 506), .ref (ad 507), .ref (ad 508), .ref (ad 509), .int rn, .int (nI pn), .ref (ad 510), .ref (ad 511), .ref (ad 512), .ref (ad 513), .int (nI jc), .ref (ad 514), .ref (ad 515), .ref (ad 516), .long up, .long dn])) := by rw [hM_11, xu_n (by omega)]; exact hm500
              have hm501 : M_11 501 = some (ad 501, .inl (G.2 0, 51, .inl mS)) := by rw [hM_11, xu_n (by omega)]; exact hm501
              have hm503 : M_11 503 = some (ad 503, .inl (G.2 0, 408, .inl mK)) := by rw [hM_11, xu_n (by omega)]; exact hm503
              have hm504 : M_11 504 = some (ad 504, .inl (G.2 0, 51, .inl (fun k => nI (mC k)))) := by rw [hM_11, xu_n (by omega)]; exact hm504
              have hm505 : M_11 505 = some (ad 505, .inl (G.2 2, 51, .inl mD)) := by rw [hM_11, xu_n (by omega)]; exact hm505
              have hm506 : M_11 506 = some (ad 506, .inl (G.2 1, 51, .inr (.inl mF))) := by rw [hM_11, xu_n (by omega)]; exact hm506
              have hm507 : M_11 507 = some (ad 507, .inl (G.2 1, 51, .inr (.inl mO))) := by rw [hM_11, xu_n (by omega)]; exact hm507
              have hm508 : M_11 508 = some (ad 508, .inl (G.2 0, 51, .inl (fun k => nI (mP k)))) := by rw [hM_11, xu_n (by omega)]; exact hm508
              have hm509 : M_11 509 = some (ad 509, .inl (G.2 1, 4, .inr (.inl (fun k => lN (wn k))))) := by rw [hM_11, xu_n (by omega)]; exact hm509
              have hm510 : M_11 510 = some (ad 510, .inl (G.2 0, 700, .inl (fun k => nI (o1 k)))) := by rw [hM_11, xu_n (by omega)]; exact hm510
              have hm511 : M_11 511 = some (ad 511, .inl (G.2 0, 700, .inl (fun k => nI (o2 k)))) := by rw [hM_11, xu_n (by omega)]; exact hm511
              have hm512 : M_11 512 = some (ad 512, .inl (G.2 1, 700, .inr (.inl (fun k => lN (u1 k))))) := by rw [hM_11, xu_n (by omega)]; exact hm512
              have hm513 : M_11 513 = some (ad 513, .inl (G.2 1, 700, .inr (.inl (fun k => lN (d1 k))))) := by rw [hM_11, xu_n (by omega)]; exact hm513
              have hm514 : M_11 514 = some (ad 514, .inl (G.2 0, 101, .inl (fun k => nI (jA k)))) := by rw [hM_11, xu_n (by omega)]; exact hm514
              have hm515 : M_11 515 = some (ad 515, .inl (G.2 0, 101, .inl (fun k => nI (jB k)))) := by rw [hM_11, xu_n (by omega)]; exact hm515
              have hm516 : M_11 516 = some (ad 516, .inl (G.2 0, 700, .inl (fun k => nI (mx k)))) := by rw [hM_11, xu_n (by omega)]; exact hm516
              have hm502 : M_11 502 = some (ad 502, .inl (G.2 0, 408, .inl (upd mT ((8 * (i + 1)) + (mC (i + 1))) p1))) := by rw [hM_11]; exact xu_s
              refine lv_aload_n hx hb dX5_token_60 rfl (lv_at hl 0 rfl) ?_
              refine x_get (ci := 7) (v := .ref (ad 503)) (C := RX5) (T := TX5) (N := 23) hx hb hts inX5 hown hK hX hm500 rfl 4 (by decide) lk_fieldLink_16 (fun _ h9 => h9) rfl dX5_token_61 ?_
              refine lv_bipush (v := nI 8) hx hb dX5_token_64 (by decide) ?_
              refine lv_iload_n hx hb dX5_token_66 rfl (lv_at hl 1 rfl) ?_
              refine lv_imul hx hb dX5_token_67 ?_
              refine x_ri (pk_mul _ _) ?_
              refine lv_aload_n hx hb dX5_token_68 rfl (lv_at hl 0 rfl) ?_
              refine x_get (ci := 7) (v := .ref (ad 504)) (C := RX5) (T := TX5) (N := 23) hx hb hts inX5 hown hK hX hm500 rfl 5 (by decide) lk_fieldLink_19 (fun _ h9 => h9) rfl dX5_token_69 ?_
              refine lv_iload_n hx hb dX5_token_72 rfl (lv_at hl 1 rfl) ?_
              refine x_iN hx hb hK hX hm504 (by omega) (by decide) dX5_token_73 ?_
              refine lv_iadd hx hb dX5_token_74 ?_
              refine x_ri (nI_add _ _) ?_
              refine lv_iload_n hx hb dX5_token_75 rfl (lv_at hl 3 rfl) ?_
              refine x_isN hx hb hK hX hS hm503 (by omega) (by decide) dX5_token_76 (fun H locs hX hS => ?_)
              obtain ⟨M_12, hM_12⟩ : ∃ zM : xM, zM = xu M_11 503 (ad 503, .inl (G.2 0, 408, .inl (upd mK ((8 * (i + 1)) + (mC (i + 1))) p2))) := ⟨_, rfl⟩
              have hX : xw G.1 vwCl A M_12 H := by rw [hM_12]; exact hX
              have hm500 : M_12 500 = some (ad 500, .inr (7, [.int (nI 0), .int (nI nc), .ref (ad 501), .ref (ad 502), .ref (ad 503), .ref (ad 504), .ref (ad 505), .ref (ad 506), .ref (ad 507), .ref (ad 508), .ref (ad 509), .int rn, .int (nI pn), .ref (ad 510), .ref (ad 511), .ref (ad 512), .ref (ad 513), .int (nI jc), .ref (ad 514), .ref (ad 515), .ref (ad 516), .long up, .long dn])) := by rw [hM_12, xu_n (by omega)]; exact hm500
              have hm501 : M_12 501 = some (ad 501, .inl (G.2 0, 51, .inl mS)) := by rw [hM_12, xu_n (by omega)]; exact hm501
              have hm502 : M_12 502 = some (ad 502, .inl (G.2 0, 408, .inl (upd mT ((8 * (i + 1)) + (mC (i + 1))) p1))) := by rw [hM_12, xu_n (by omega)]; exact hm502
              have hm504 : M_12 504 = some (ad 504, .inl (G.2 0, 51, .inl (fun k => nI (mC k)))) := by rw [hM_12, xu_n (by omega)]; exact hm504
              have hm505 : M_12 505 = some (ad 505, .inl (G.2 2, 51, .inl mD)) := by rw [hM_12, xu_n (by omega)]; exact hm505
              have hm506 : M_12 506 = some (ad 506, .inl (G.2 1, 51, .inr (.inl mF))) := by rw [hM_12, xu_n (by omega)]; exact hm506
              have hm507 : M_12 507 = some (ad 507, .inl (G.2 1, 51, .inr (.inl mO))) := by rw [hM_12, xu_n (by omega)]; exact hm507
              have hm508 : M_12 508 = some (ad 508, .inl (G.2 0, 51, .inl (fun k => nI (mP k)))) := by rw [hM_12, xu_n (by omega)]; exact hm508
              have hm509 : M_12 509 = some (ad 509, .inl (G.2 1, 4, .inr (.inl (fun k => lN (wn k))))) := by rw [hM_12, xu_n (by omega)]; exact hm509
              have hm510 : M_12 510 = some (ad 510, .inl (G.2 0, 700, .inl (fun k => nI (o1 k)))) := by rw [hM_12, xu_n (by omega)]; exact hm510
              have hm511 : M_12 511 = some (ad 511, .inl (G.2 0, 700, .inl (fun k => nI (o2 k)))) := by rw [hM_12, xu_n (by omega)]; exact hm511
              have hm512 : M_12 512 = some (ad 512, .inl (G.2 1, 700, .inr (.inl (fun k => lN (u1 k))))) := by rw [hM_12, xu_n (by omega)]; exact hm512
              have hm513 : M_12 513 = some (ad 513, .inl (G.2 1, 700, .inr (.inl (fun k => lN (d1 k))))) := by rw [hM_12, xu_n (by omega)]; exact hm513
              have hm514 : M_12 514 = some (ad 514, .inl (G.2 0, 101, .inl (fun k => nI (jA k)))) := by rw [hM_12, xu_n (by omega)]; exact hm514
              have hm515 : M_12 515 = some (ad 515, .inl (G.2 0, 101, .inl (fun k => nI (jB k)))) := by rw [hM_12, xu_n (by omega)]; exact hm515
              have hm516 : M_12 516 = some (ad 516, .inl (G.2 0, 700, .inl (fun k => nI (mx k)))) := by rw [hM_12, xu_n (by omega)]; exact hm516
              have hm503 : M_12 503 = some (ad 503, .inl (G.2 0, 408, .inl (upd mK ((8 * (i + 1)) + (mC (i + 1))) p2))) := by rw [hM_12]; exact xu_s
              refine lv_aload_n hx hb dX5_token_77 rfl (lv_at hl 0 rfl) ?_
              refine x_get (ci := 7) (v := .ref (ad 504)) (C := RX5) (T := TX5) (N := 23) hx hb hts inX5 hown hK hX hm500 rfl 5 (by decide) lk_fieldLink_19 (fun _ h9 => h9) rfl dX5_token_78 ?_
              refine lv_iload_n hx hb dX5_token_81 rfl (lv_at hl 1 rfl) ?_
              refine lv_dup2_11 hx hb dX5_token_82 rfl rfl ?_
              refine x_iN hx hb hK hX hm504 (by omega) (by decide) dX5_token_83 ?_
              refine lv_iconst (v := nI 1) hx hb dX5_token_84 (by decide) ?_
              refine lv_iadd hx hb dX5_token_85 ?_
              refine x_ri (nI_add _ _) ?_
              refine x_isN hx hb hK hX hS hm504 (by omega) (by decide) dX5_token_86 (fun H locs hX hS => ?_)
              rw [upd_n] at hX
              obtain ⟨M_13, hM_13⟩ : ∃ zM : xM, zM = xu M_12 504 (ad 504, .inl (G.2 0, 51, .inl (fun k => nI ((va_up mC (i + 1) ((mC (i + 1)) + 1)) k)))) := ⟨_, rfl⟩
              have hX : xw G.1 vwCl A M_13 H := by rw [hM_13]; exact hX
              have hm500 : M_13 500 = some (ad 500, .inr (7, [.int (nI 0), .int (nI nc), .ref (ad 501), .ref (ad 502), .ref (ad 503), .ref (ad 504), .ref (ad 505), .ref (ad 506), .ref (ad 507), .ref (ad 508), .ref (ad 509), .int rn, .int (nI pn), .ref (ad 510), .ref (ad 511), .ref (ad 512), .ref (ad 513), .int (nI jc), .ref (ad 514), .ref (ad 515), .ref (ad 516), .long up, .long dn])) := by rw [hM_13, xu_n (by omega)]; exact hm500
              have hm501 : M_13 501 = some (ad 501, .inl (G.2 0, 51, .inl mS)) := by rw [hM_13, xu_n (by omega)]; exact hm501
              have hm502 : M_13 502 = some (ad 502, .inl (G.2 0, 408, .inl (upd mT ((8 * (i + 1)) + (mC (i + 1))) p1))) := by rw [hM_13, xu_n (by omega)]; exact hm502
              have hm503 : M_13 503 = some (ad 503, .inl (G.2 0, 408, .inl (upd mK ((8 * (i + 1)) + (mC (i + 1))) p2))) := by rw [hM_13, xu_n (by omega)]; exact hm503
              have hm505 : M_13 505 = some (ad 505, .inl (G.2 2, 51, .inl mD)) := by rw [hM_13, xu_n (by omega)]; exact hm505
              have hm506 : M_13 506 = some (ad 506, .inl (G.2 1, 51, .inr (.inl mF))) := by rw [hM_13, xu_n (by omega)]; exact hm506
              have hm507 : M_13 507 = some (ad 507, .inl (G.2 1, 51, .inr (.inl mO))) := by rw [hM_13, xu_n (by omega)]; exact hm507
              have hm508 : M_13 508 = some (ad 508, .inl (G.2 0, 51, .inl (fun k => nI (mP k)))) := by rw [hM_13, xu_n (by omega)]; exact hm508
              have hm509 : M_13 509 = some (ad 509, .inl (G.2 1, 4, .inr (.inl (fun k => lN (wn k))))) := by rw [hM_13, xu_n (by omega)]; exact hm509
              have hm510 : M_13 510 = some (ad 510, .inl (G.2 0, 700, .inl (fun k => nI (o1 k)))) := by rw [hM_13, xu_n (by omega)]; exact hm510
              have hm511 : M_13 511 = some (ad 511, .inl (G.2 0, 700, .inl (fun k => nI (o2 k)))) := by rw [hM_13, xu_n (by omega)]; exact hm511
              have hm512 : M_13 512 = some (ad 512, .inl (G.2 1, 700, .inr (.inl (fun k => lN (u1 k))))) := by rw [hM_13, xu_n (by omega)]; exact hm512
              have hm513 : M_13 513 = some (ad 513, .inl (G.2 1, 700, .inr (.inl (fun k => lN (d1 k))))) := by rw [hM_13, xu_n (by omega)]; exact hm513
              have hm514 : M_13 514 = some (ad 514, .inl (G.2 0, 101, .inl (fun k => nI (jA k)))) := by rw [hM_13, xu_n (by omega)]; exact hm514
              have hm515 : M_13 515 = some (ad 515, .inl (G.2 0, 101, .inl (fun k => nI (jB k)))) := by rw [hM_13, xu_n (by omega)]; exact hm515
              have hm516 : M_13 516 = some (ad 516, .inl (G.2 0, 700, .inl (fun k => nI (mx k)))) := by rw [hM_13, xu_n (by omega)]; exact hm516
              have hm504 : M_13 504 = some (ad 504, .inl (G.2 0, 51, .inl (fun k => nI ((va_up mC (i + 1) ((mC (i + 1)) + 1)) k)))) := by rw [hM_13]; exact xu_s
              exact x_vret hx hb hr hlocks hK hA hX hS dX5_token_87 (⟨Or.inl ⟨i, hi, rfl, ⟨c_5, (by exact Classical.byContradiction (fun q => c_6 (x_nlt.mp q)))⟩, Or.inl ⟨⟨by omega, hh⟩, ⟨hm500, hm501, hm502, hm503, hm504, hm505, hm506, hm507, hm508, hm509, hm510, hm511, hm512, hm513, hm514, hm515, hm516⟩⟩⟩, fun t ht => by rw [hM_13, xu_n (by omega), hM_12, xu_n (by omega), hM_11, xu_n (by omega), hM_1, xu_n (by omega)]⟩)
  · rw [er]
    refine lv_if_eq (tgt := 87) hx hb dX5_token_10 (by decide) (fun c_14 => ?_) (fun c_14 => ?_)
    · have c_14 : 0 = 0 := (nI_eq (a := 0) (b := 0) (by omega) (by omega)).mp c_14
      exact x_vret hx hb hr hlocks hK hA hX hS dX5_token_87 (⟨Or.inr ⟨Or.inl ep, ⟨hm500, hm501, hm502, hm503, hm504, hm505, hm506, hm507, hm508, hm509, hm510, hm511, hm512, hm513, hm514, hm515, hm516⟩⟩, fun t ht => by rw [hM_1, xu_n (by omega)]⟩)
    · have c_14 : ¬ (0 = 0) := fun q => c_14 ((nI_eq (a := 0) (b := 0) (by omega) (by omega)).mpr q)
      exact absurd c_14 (by omega)

abbrev rmX5_mutual : Room := { frames := 1, cells := 0, slots := 0, locals := 21 }
set_option maxHeartbeats 4000000 in
set_option maxRecDepth 100000 in
/-- mutual -/
theorem ctX5_mutual (l : Launch) (G : xG) (A : Nat → Prop) (M : xM) {ad : Nat → Nat} {th : Int32} {nc : Nat} {mS : Nat → Int32} {mT : Nat → Int32} {mK : Nat → Int32} {mC : Nat → Nat} {mD : Nat → Int32} {mF : Nat → Int64} {mO : Nat → Int64} {mP : Nat → Nat} {wn : Nat → Nat} {rn : Int32} {pn : Nat} {o1 : Nat → Nat} {o2 : Nat → Nat} {u1 : Nat → Nat} {d1 : Nat → Nat} {jc : Nat} {jA : Nat → Nat} {jB : Nat → Nat} {mx : Nat → Nat} {up : Int64} {dn : Int64} (hR : xMod G M ad th nc mS mT mK mC mD mF mO mP wn rn pn o1 o2 u1 d1 jc jA jB mx up dn) (p0 : Int32) (hpn : pn ≤ 625) (hub : ∀ k, k < pn → o1 k < 1000 ∧ o2 k < 1000 ∧ u1 k < 1000000000 ∧ d1 k < 1000000000) : Met l yX5_mutual wsX5_mutual rmX5_mutual (va_Pc ([.ref (ad 500), .int p0] : List Value) (xPc G A M)) (va_Qi (fun r M1 => ((∃ i0, i0 < pn ∧ p0 = nI i0 ∧ (r = nI 0 ∧ ¬ mBest o1 o2 u1 d1 i0 pn ∨ r = nI 1 ∧ mBest o1 o2 u1 d1 i0 pn)) ∨ (¬ (¬ p0 < 0 ∧ ¬ nI pn ≤ p0) ∧ r = (-1))) ∧ xMod G M1 ad (nI 0) nc mS mT mK mC mD mF mO mP wn rn pn o1 o2 u1 d1 jc jA jB mx up dn ∧ (∀ t, t < 500 ∨ 516 < t → M1 t = M t)) (xPc G A) A) 0 0 A := by
  refine x_met (cc := cX5_mutual) (maxL := 3) (ret := (some .int)) RX5 (by decide) rfl (Nat.le_of_ble_eq_true rfl) rfl ?_
  intro p e s m below meth c hx hb hr hts hown hlocks hml hin hK hA hX ls hl
  have inX5 : ∀ w ∈ wsX50, w ∈ wsX5_mutual := by decide +kernel
  have lk_fieldLink_62 := hts (.fieldLink RX5 62 "ReconcileModel" "thrown" "I") (by decide +kernel)
  have lk_fieldLink_92 := hts (.fieldLink RX5 92 "ReconcileModel" "pairs" "I") (by decide +kernel)
  have lk_fieldLink_41 := hts (.fieldLink RX5 41 "ReconcileModel" "ones" "[I") (by decide +kernel)
  have lk_fieldLink_47 := hts (.fieldLink RX5 47 "ReconcileModel" "ups" "[J") (by decide +kernel)
  have lk_fieldLink_50 := hts (.fieldLink RX5 50 "ReconcileModel" "downs" "[J") (by decide +kernel)
  have lk_fieldLink_44 := hts (.fieldLink RX5 44 "ReconcileModel" "twos" "[I") (by decide +kernel)
  have hS : va_S A s.heap s.heap [] := va_S.rf
  have hl : lv_has ls 3 [(0, .ref (ad 500)), (1, .int p0)] := hl
  obtain ⟨hm500, hm501, hm502, hm503, hm504, hm505, hm506, hm507, hm508, hm509, hm510, hm511, hm512, hm513, hm514, hm515, hm516⟩ := id hR
  refine lv_aload_n hx hb dX5_mutual_0 rfl (lv_at hl 0 rfl) ?_
  refine lv_iconst (v := nI 0) hx hb dX5_mutual_1 (by decide) ?_
  refine x_put (ci := 7) (v := .int (nI 0)) (C := RX5) (T := TX5) (N := 23) hx hb hts inX5 tyX5 tyX5_ok nmX5 hown hK hX hS hm500 rfl 0 (by decide) lk_fieldLink_62 (fun _ h9 => h9) rfl (tyX5_ok 0 (by decide)) rfl rfl (Nat.le_of_ble_eq_true rfl) dX5_mutual_2 (fun H locs hX hS => ?_)
  obtain ⟨M_1, hM_1⟩ : ∃ zM : xM, zM = xu M 500 (ad 500, .inr (7, [.int (nI 0), .int (nI nc), .ref (ad 501), .ref (ad 502), .ref (ad 503), .ref (ad 504), .ref (ad 505), .ref (ad 506), .ref (ad 507), .ref (ad 508), .ref (ad 509), .int rn, .int (nI pn), .ref (ad 510), .ref (ad 511), .ref (ad 512), .ref (ad 513), .int (nI jc), .ref (ad 514), .ref (ad 515), .ref (ad 516), .long up, .long dn])) := ⟨_, rfl⟩
  have hX : xw G.1 vwCl A M_1 H := by rw [hM_1]; exact hX
  have hm501 : M_1 501 = some (ad 501, .inl (G.2 0, 51, .inl mS)) := by rw [hM_1, xu_n (by omega)]; exact hm501
  have hm502 : M_1 502 = some (ad 502, .inl (G.2 0, 408, .inl mT)) := by rw [hM_1, xu_n (by omega)]; exact hm502
  have hm503 : M_1 503 = some (ad 503, .inl (G.2 0, 408, .inl mK)) := by rw [hM_1, xu_n (by omega)]; exact hm503
  have hm504 : M_1 504 = some (ad 504, .inl (G.2 0, 51, .inl (fun k => nI (mC k)))) := by rw [hM_1, xu_n (by omega)]; exact hm504
  have hm505 : M_1 505 = some (ad 505, .inl (G.2 2, 51, .inl mD)) := by rw [hM_1, xu_n (by omega)]; exact hm505
  have hm506 : M_1 506 = some (ad 506, .inl (G.2 1, 51, .inr (.inl mF))) := by rw [hM_1, xu_n (by omega)]; exact hm506
  have hm507 : M_1 507 = some (ad 507, .inl (G.2 1, 51, .inr (.inl mO))) := by rw [hM_1, xu_n (by omega)]; exact hm507
  have hm508 : M_1 508 = some (ad 508, .inl (G.2 0, 51, .inl (fun k => nI (mP k)))) := by rw [hM_1, xu_n (by omega)]; exact hm508
  have hm509 : M_1 509 = some (ad 509, .inl (G.2 1, 4, .inr (.inl (fun k => lN (wn k))))) := by rw [hM_1, xu_n (by omega)]; exact hm509
  have hm510 : M_1 510 = some (ad 510, .inl (G.2 0, 700, .inl (fun k => nI (o1 k)))) := by rw [hM_1, xu_n (by omega)]; exact hm510
  have hm511 : M_1 511 = some (ad 511, .inl (G.2 0, 700, .inl (fun k => nI (o2 k)))) := by rw [hM_1, xu_n (by omega)]; exact hm511
  have hm512 : M_1 512 = some (ad 512, .inl (G.2 1, 700, .inr (.inl (fun k => lN (u1 k))))) := by rw [hM_1, xu_n (by omega)]; exact hm512
  have hm513 : M_1 513 = some (ad 513, .inl (G.2 1, 700, .inr (.inl (fun k => lN (d1 k))))) := by rw [hM_1, xu_n (by omega)]; exact hm513
  have hm514 : M_1 514 = some (ad 514, .inl (G.2 0, 101, .inl (fun k => nI (jA k)))) := by rw [hM_1, xu_n (by omega)]; exact hm514
  have hm515 : M_1 515 = some (ad 515, .inl (G.2 0, 101, .inl (fun k => nI (jB k)))) := by rw [hM_1, xu_n (by omega)]; exact hm515
  have hm516 : M_1 516 = some (ad 516, .inl (G.2 0, 700, .inl (fun k => nI (mx k)))) := by rw [hM_1, xu_n (by omega)]; exact hm516
  have hm500 : M_1 500 = some (ad 500, .inr (7, [.int (nI 0), .int (nI nc), .ref (ad 501), .ref (ad 502), .ref (ad 503), .ref (ad 504), .ref (ad 505), .ref (ad 506), .ref (ad 507), .ref (ad 508), .ref (ad 509), .int rn, .int (nI pn), .ref (ad 510), .ref (ad 511), .ref (ad 512), .ref (ad 513), .int (nI jc), .ref (ad 514), .ref (ad 515), .ref (ad 516), .long up, .long dn])) := by rw [hM_1]; exact xu_s
  refine lv_aload_n hx hb dX5_mutual_5 rfl (lv_at hl 0 rfl) ?_
  refine lv_iload_n hx hb dX5_mutual_6 rfl (lv_at hl 1 rfl) ?_
  refine x_calli (x_runV (q := (RX5, TX5, 23)) (As := [.int p0]) (rest := []) ⟨hx, hb, hml, hown, hts⟩ (ctX5_isPair l G A M_1 ⟨hm500, hm501, hm502, hm503, hm504, hm505, hm506, hm507, hm508, hm509, hm510, hm511, hm512, hm513, hm514, hm515, hm516⟩ p0 hpn) (cwV 1 hts gX5_mutual_X5_isPair rfl rfl rfl (by decide +kernel) ⟨Nat.le_of_ble_eq_true rfl, Nat.le_of_ble_eq_true rfl⟩) hK hA hX hS hm500 rfl rfl hl.1 rfl (lv_room (Nat.le_of_ble_eq_true rfl)) dX5_mutual_7 ⟨by decide, by decide⟩) hS (fun r_2 M_3 H locs hp hX hS => ?_)
  obtain ⟨hM_, hq_r_2⟩ := hp
  rw [hM_] at hX
  rcases hq_r_2 with ⟨i, hi, ep, er⟩ | ⟨ep, er⟩
  · rw [er]
    subst ep
    refine lv_if_ne (tgt := 15) hx hb dX5_mutual_10 (by decide) (fun c_4 => ?_) (fun c_4 => ?_)
    · have c_4 : ¬ (1 = 0) := fun q => c_4 ((nI_eq (a := 1) (b := 0) (by omega) (by omega)).mpr q)
      refine lv_iconst (v := nI 0) hx hb dX5_mutual_15 (by decide) ?_
      refine lv_istore_n (lv' := [(2, .int (nI 0)), (0, .ref (ad 500)), (1, .int (nI i))]) hx hb dX5_mutual_16 rfl hl (by decide) rfl (fun ls hl => ?_)
      have hbi := hub i (by omega)
      have loop : ∀ (n : Nat) (kx : Nat) (H : Heap) (locs : List Loc) (ls : Array Slot), pn < kx + n → (kx ≤ pn) → (mBest o1 o2 u1 d1 i kx) → xw G.1 vwCl A M_1 H → va_S A s.heap H locs → lv_has ls 3 [(2, .int (nI kx)), (0, .ref (ad 500)), (1, .int (nI i))] → W p l e rmX5_mutual s m ([.ref (ad 500), .int (nI i)] : List Value).toArray below meth c H locs 0 0 (MQ below (va_Qi (fun r M1 => ((∃ i0, i0 < pn ∧ (nI i) = nI i0 ∧ (r = nI 0 ∧ ¬ mBest o1 o2 u1 d1 i0 pn ∨ r = nI 1 ∧ mBest o1 o2 u1 d1 i0 pn)) ∨ (¬ (¬ (nI i) < 0 ∧ ¬ nI pn ≤ (nI i)) ∧ r = (-1))) ∧ xMod G M1 ad (nI 0) nc mS mT mK mC mD mF mO mP wn rn pn o1 o2 u1 d1 jc jA jB mx up dn ∧ (∀ t, t < 500 ∨ 516 < t → M1 t = M t)) (xPc G A) A) ([.ref (ad 500), .int (nI i)] : List Value).toArray s 0 0 A) (F0 m 17 ls []) := by
        intro n
        induction n with
        | zero => intro kx H locs ls hn0 hk hv; exact absurd hn0 (by omega)
        | succ n ih =>
          intro kx H locs ls hn0 hk hv hX hS hl
          refine lv_iload_n hx hb dX5_mutual_17 rfl (lv_at hl 0 rfl) ?_
          refine lv_aload_n hx hb dX5_mutual_18 rfl (lv_at hl 1 rfl) ?_
          refine x_get (ci := 7) (v := .int (nI pn)) (C := RX5) (T := TX5) (N := 23) hx hb hts inX5 hown hK hX hm500 rfl 12 (by decide) lk_fieldLink_92 (fun _ h9 => h9) rfl dX5_mutual_19 ?_
          refine lv_icmp_ge (tgt := 93) hx hb dX5_mutual_22 (by decide) (fun c_5 => ?_) (fun c_5 => ?_)
          · have c_5 : pn ≤ kx := (nI_leI (by omega) (by omega)).mp c_5
            refine lv_iconst (v := nI 1) hx hb dX5_mutual_93 (by decide) ?_
            exact x_iret hx hb hr hlocks hK hA hX hS dX5_mutual_94 (⟨Or.inl ⟨i, hi, rfl, Or.inr ⟨rfl, by rw [show kx = pn by omega] at hv; exact hv⟩⟩, ⟨hm500, hm501, hm502, hm503, hm504, hm505, hm506, hm507, hm508, hm509, hm510, hm511, hm512, hm513, hm514, hm515, hm516⟩, fun t ht => by rw [hM_1, xu_n (by omega)]⟩)
          · have c_5 : ¬ (pn ≤ kx) := fun q => c_5 ((nI_leI (by omega) (by omega)).mpr q)
            have hbk := hub kx (by omega)
            have hm1 := x_mulb hbk.2.2.1 hbi.2.2.2
            have hm2 := x_mulb hbi.2.2.1 hbk.2.2.2
            have hb4 := hbk.1
            have hb5 := hbk.2.1
            have hb6 := hbi.1
            have hb7 := hbi.2.1
            refine lv_aload_n hx hb dX5_mutual_25 rfl (lv_at hl 1 rfl) ?_
            refine x_get (ci := 7) (v := .ref (ad 510)) (C := RX5) (T := TX5) (N := 23) hx hb hts inX5 hown hK hX hm500 rfl 13 (by decide) lk_fieldLink_41 (fun _ h9 => h9) rfl dX5_mutual_26 ?_
            refine lv_iload_n hx hb dX5_mutual_29 rfl (lv_at hl 0 rfl) ?_
            refine x_iN hx hb hK hX hm510 (by omega) (by decide) dX5_mutual_30 ?_
            refine lv_aload_n hx hb dX5_mutual_31 rfl (lv_at hl 1 rfl) ?_
            refine x_get (ci := 7) (v := .ref (ad 510)) (C := RX5) (T := TX5) (N := 23) hx hb hts inX5 hown hK hX hm500 rfl 13 (by decide) lk_fieldLink_41 (fun _ h9 => h9) rfl dX5_mutual_32 ?_
            refine lv_iload_n hx hb dX5_mutual_35 rfl (lv_at hl 2 rfl) ?_
            refine x_iN hx hb hK hX hm510 (by omega) (by decide) dX5_mutual_36 ?_
            refine lv_icmp_eq (tgt := 55) hx hb dX5_mutual_37 (by decide) (fun c_6 => ?_) (fun c_6 => ?_)
            · have c_6 : (o1 kx) = (o1 i) := (nI_eq (by omega) (by omega)).mp c_6
              refine lv_aload_n hx hb dX5_mutual_55 rfl (lv_at hl 1 rfl) ?_
              refine x_get (ci := 7) (v := .ref (ad 512)) (C := RX5) (T := TX5) (N := 23) hx hb hts inX5 hown hK hX hm500 rfl 15 (by decide) lk_fieldLink_47 (fun _ h9 => h9) rfl dX5_mutual_56 ?_
              refine lv_iload_n hx hb dX5_mutual_59 rfl (lv_at hl 0 rfl) ?_
              refine x_lN hx hb hK hX hm512 (by omega) (by decide) dX5_mutual_60 ?_
              refine lv_aload_n hx hb dX5_mutual_61 rfl (lv_at hl 1 rfl) ?_
              refine x_get (ci := 7) (v := .ref (ad 513)) (C := RX5) (T := TX5) (N := 23) hx hb hts inX5 hown hK hX hm500 rfl 16 (by decide) lk_fieldLink_50 (fun _ h9 => h9) rfl dX5_mutual_62 ?_
              refine lv_iload_n hx hb dX5_mutual_65 rfl (lv_at hl 2 rfl) ?_
              refine x_lN hx hb hK hX hm513 (by omega) (by decide) dX5_mutual_66 ?_
              refine lv_lmul hx hb dX5_mutual_67 ?_
              refine x_rl (lN_mul _ _) ?_
              refine lv_aload_n hx hb dX5_mutual_68 rfl (lv_at hl 1 rfl) ?_
              refine x_get (ci := 7) (v := .ref (ad 512)) (C := RX5) (T := TX5) (N := 23) hx hb hts inX5 hown hK hX hm500 rfl 15 (by decide) lk_fieldLink_47 (fun _ h9 => h9) rfl dX5_mutual_69 ?_
              refine lv_iload_n hx hb dX5_mutual_72 rfl (lv_at hl 2 rfl) ?_
              refine x_lN hx hb hK hX hm512 (by omega) (by decide) dX5_mutual_73 ?_
              refine lv_aload_n hx hb dX5_mutual_74 rfl (lv_at hl 1 rfl) ?_
              refine x_get (ci := 7) (v := .ref (ad 513)) (C := RX5) (T := TX5) (N := 23) hx hb hts inX5 hown hK hX hm500 rfl 16 (by decide) lk_fieldLink_50 (fun _ h9 => h9) rfl dX5_mutual_75 ?_
              refine lv_iload_n hx hb dX5_mutual_78 rfl (lv_at hl 0 rfl) ?_
              refine x_lN hx hb hK hX hm513 (by omega) (by decide) dX5_mutual_79 ?_
              refine lv_lmul hx hb dX5_mutual_80 ?_
              refine x_rl (lN_mul _ _) ?_
              refine W.lcmp hx hb dX5_mutual_81 ?_
              refine x_lc_le (tgt := 87) hx hb dX5_mutual_82 (by decide) (fun c_7 => ?_) (fun c_7 => ?_)
              · have c_7 : ((u1 kx) * (d1 i)) ≤ ((u1 i) * (d1 kx)) := (pk_lLE (by omega) (by omega)).mp c_7
                refine lv_iinc (v := nI (kx + 1)) (lv' := [(2, .int (nI (kx + 1))), (0, .ref (ad 500)), (1, .int (nI i))]) hx hb dX5_mutual_87 hl (k := 0) rfl (show nI kx + Int32.ofInt 1 = _ from nI_add _ 1) (by decide) rfl (fun ls hl => ?_)
                refine lv_goto (tgt := 17) hx hb dX5_mutual_90 (by decide) ?_
                exact ih (kx + 1) _ _ ls (by omega) (by omega) (lt_s hv (fun q => by have := q.2; omega)) hX hS (lv_sub hl [0, 1, 2] rfl)
              · have c_7 : ¬ (((u1 kx) * (d1 i)) ≤ ((u1 i) * (d1 kx))) := fun q => c_7 ((pk_lLE (by omega) (by omega)).mpr q)
                refine lv_iconst (v := nI 0) hx hb dX5_mutual_85 (by decide) ?_
                exact x_iret hx hb hr hlocks hK hA hX hS dX5_mutual_86 (⟨Or.inl ⟨i, hi, rfl, Or.inl ⟨rfl, fun q => q kx (by omega) ⟨Or.inl c_6, by omega⟩⟩⟩, ⟨hm500, hm501, hm502, hm503, hm504, hm505, hm506, hm507, hm508, hm509, hm510, hm511, hm512, hm513, hm514, hm515, hm516⟩, fun t ht => by rw [hM_1, xu_n (by omega)]⟩)
            · have c_6 : ¬ ((o1 kx) = (o1 i)) := fun q => c_6 ((nI_eq (by omega) (by omega)).mpr q)
              refine lv_aload_n hx hb dX5_mutual_40 rfl (lv_at hl 1 rfl) ?_
              refine x_get (ci := 7) (v := .ref (ad 511)) (C := RX5) (T := TX5) (N := 23) hx hb hts inX5 hown hK hX hm500 rfl 14 (by decide) lk_fieldLink_44 (fun _ h9 => h9) rfl dX5_mutual_41 ?_
              refine lv_iload_n hx hb dX5_mutual_44 rfl (lv_at hl 0 rfl) ?_
              refine x_iN hx hb hK hX hm511 (by omega) (by decide) dX5_mutual_45 ?_
              refine lv_aload_n hx hb dX5_mutual_46 rfl (lv_at hl 1 rfl) ?_
              refine x_get (ci := 7) (v := .ref (ad 511)) (C := RX5) (T := TX5) (N := 23) hx hb hts inX5 hown hK hX hm500 rfl 14 (by decide) lk_fieldLink_44 (fun _ h9 => h9) rfl dX5_mutual_47 ?_
              refine lv_iload_n hx hb dX5_mutual_50 rfl (lv_at hl 2 rfl) ?_
              refine x_iN hx hb hK hX hm511 (by omega) (by decide) dX5_mutual_51 ?_
              refine lv_icmp_ne (tgt := 87) hx hb dX5_mutual_52 (by decide) (fun c_8 => ?_) (fun c_8 => ?_)
              · have c_8 : ¬ ((o2 kx) = (o2 i)) := fun q => c_8 ((nI_eq (by omega) (by omega)).mpr q)
                refine lv_iinc (v := nI (kx + 1)) (lv' := [(2, .int (nI (kx + 1))), (0, .ref (ad 500)), (1, .int (nI i))]) hx hb dX5_mutual_87 hl (k := 0) rfl (show nI kx + Int32.ofInt 1 = _ from nI_add _ 1) (by decide) rfl (fun ls hl => ?_)
                refine lv_goto (tgt := 17) hx hb dX5_mutual_90 (by decide) ?_
                exact ih (kx + 1) _ _ ls (by omega) (by omega) (lt_s hv (fun q => q.1.elim (fun z => c_6 z) (fun z => c_8 z))) hX hS (lv_sub hl [0, 1, 2] rfl)
              · have c_8 : (o2 kx) = (o2 i) := (nI_eq (by omega) (by omega)).mp c_8
                refine lv_aload_n hx hb dX5_mutual_55 rfl (lv_at hl 1 rfl) ?_
                refine x_get (ci := 7) (v := .ref (ad 512)) (C := RX5) (T := TX5) (N := 23) hx hb hts inX5 hown hK hX hm500 rfl 15 (by decide) lk_fieldLink_47 (fun _ h9 => h9) rfl dX5_mutual_56 ?_
                refine lv_iload_n hx hb dX5_mutual_59 rfl (lv_at hl 0 rfl) ?_
                refine x_lN hx hb hK hX hm512 (by omega) (by decide) dX5_mutual_60 ?_
                refine lv_aload_n hx hb dX5_mutual_61 rfl (lv_at hl 1 rfl) ?_
                refine x_get (ci := 7) (v := .ref (ad 513)) (C := RX5) (T := TX5) (N := 23) hx hb hts inX5 hown hK hX hm500 rfl 16 (by decide) lk_fieldLink_50 (fun _ h9 => h9) rfl dX5_mutual_62 ?_
                refine lv_iload_n hx hb dX5_mutual_65 rfl (lv_at hl 2 rfl) ?_
                refine x_lN hx hb hK hX hm513 (by omega) (by decide) dX5_mutual_66 ?_
                refine lv_lmul hx hb dX5_mutual_67 ?_
                refine x_rl (lN_mul _ _) ?_
                refine lv_aload_n hx hb dX5_mutual_68 rfl (lv_at hl 1 rfl) ?_
                refine x_get (ci := 7) (v := .ref (ad 512)) (C := RX5) (T := TX5) (N := 23) hx hb hts inX5 hown hK hX hm500 rfl 15 (by decide) lk_fieldLink_47 (fun _ h9 => h9) rfl dX5_mutual_69 ?_
                refine lv_iload_n hx hb dX5_mutual_72 rfl (lv_at hl 2 rfl) ?_
                refine x_lN hx hb hK hX hm512 (by omega) (by decide) dX5_mutual_73 ?_
                refine lv_aload_n hx hb dX5_mutual_74 rfl (lv_at hl 1 rfl) ?_
                refine x_get (ci := 7) (v := .ref (ad 513)) (C := RX5) (T := TX5) (N := 23) hx hb hts inX5 hown hK hX hm500 rfl 16 (by decide) lk_fieldLink_50 (fun _ h9 => h9) rfl dX5_mutual_75 ?_
                refine lv_iload_n hx hb dX5_mutual_78 rfl (lv_at hl 0 rfl) ?_
                refine x_lN hx hb hK hX hm513 (by omega) (by decide) dX5_mutual_79 ?_
                refine lv_lmul hx hb dX5_mutual_80 ?_
                refine x_rl (lN_mul _ _) ?_
                refine W.lcmp hx hb dX5_mutual_81 ?_
                refine x_lc_le (tgt := 87) hx hb dX5_mutual_82 (by decide) (fun c_9 => ?_) (fun c_9 => ?_)
                · have c_9 : ((u1 kx) * (d1 i)) ≤ ((u1 i) * (d1 kx)) := (pk_lLE (by omega) (by omega)).mp c_9
                  refine lv_iinc (v := nI (kx + 1)) (lv' := [(2, .int (nI (kx + 1))), (0, .ref (ad 500)), (1, .int (nI i))]) hx hb dX5_mutual_87 hl (k := 0) rfl (show nI kx + Int32.ofInt 1 = _ from nI_add _ 1) (by decide) rfl (fun ls hl => ?_)
                  refine lv_goto (tgt := 17) hx hb dX5_mutual_90 (by decide) ?_
                  exact ih (kx + 1) _ _ ls (by omega) (by omega) (lt_s hv (fun q => by have := q.2; omega)) hX hS (lv_sub hl [0, 1, 2] rfl)
                · have c_9 : ¬ (((u1 kx) * (d1 i)) ≤ ((u1 i) * (d1 kx))) := fun q => c_9 ((pk_lLE (by omega) (by omega)).mpr q)
                  refine lv_iconst (v := nI 0) hx hb dX5_mutual_85 (by decide) ?_
                  exact x_iret hx hb hr hlocks hK hA hX hS dX5_mutual_86 (⟨Or.inl ⟨i, hi, rfl, Or.inl ⟨rfl, fun q => q kx (by omega) ⟨Or.inr c_8, by omega⟩⟩⟩, ⟨hm500, hm501, hm502, hm503, hm504, hm505, hm506, hm507, hm508, hm509, hm510, hm511, hm512, hm513, hm514, hm515, hm516⟩, fun t ht => by rw [hM_1, xu_n (by omega)]⟩)
      exact loop (pn + 1) 0 _ _ ls (by omega) (by omega) (fun q hq => absurd hq (by omega)) hX hS (lv_sub hl [0, 1, 2] rfl)
    · have c_4 : 1 = 0 := (nI_eq (a := 1) (b := 0) (by omega) (by omega)).mp c_4
      exact absurd c_4 (by omega)
  · rw [er]
    refine lv_if_ne (tgt := 15) hx hb dX5_mutual_10 (by decide) (fun c_10 => ?_) (fun c_10 => ?_)
    · have c_10 : ¬ (0 = 0) := fun q => c_10 ((nI_eq (a := 0) (b := 0) (by omega) (by omega)).mpr q)
      exact absurd c_10 (by omega)
    · have c_10 : 0 = 0 := (nI_eq (a := 0) (b := 0) (by omega) (by omega)).mp c_10
      refine lv_iconst (v := (-1)) hx hb dX5_mutual_13 (by decide) ?_
      exact x_iret hx hb hr hlocks hK hA hX hS dX5_mutual_14 (⟨Or.inr ⟨ep, rfl⟩, ⟨hm500, hm501, hm502, hm503, hm504, hm505, hm506, hm507, hm508, hm509, hm510, hm511, hm512, hm513, hm514, hm515, hm516⟩, fun t ht => by rw [hM_1, xu_n (by omega)]⟩)

abbrev rmX5_join : Room := { frames := 1, cells := 0, slots := 0, locals := 21 }
set_option maxHeartbeats 4000000 in
set_option maxRecDepth 100000 in
/-- join -/
theorem ctX5_join (l : Launch) (G : xG) (A : Nat → Prop) (M : xM) {ad : Nat → Nat} {th : Int32} {nc : Nat} {mS : Nat → Int32} {mT : Nat → Int32} {mK : Nat → Int32} {mC : Nat → Nat} {mD : Nat → Int32} {mF : Nat → Int64} {mO : Nat → Int64} {mP : Nat → Nat} {wn : Nat → Nat} {rn : Int32} {pn : Nat} {o1 : Nat → Nat} {o2 : Nat → Nat} {u1 : Nat → Nat} {d1 : Nat → Nat} {jc : Nat} {jA : Nat → Nat} {jB : Nat → Nat} {mx : Nat → Nat} {up : Int64} {dn : Int64} (hR : xMod G M ad th nc mS mT mK mC mD mF mO mP wn rn pn o1 o2 u1 d1 jc jA jB mx up dn) (p0 p1 : Int32) (hnc : nc ≤ 50) (hjc : jc ≤ 100) (hmp : ∀ n, n ≤ 50 → mP n ≤ 100) : Met l yX5_join wsX5_join rmX5_join (va_Pc ([.ref (ad 500), .int p0, .int p1] : List Value) (xPc G A M)) (va_Qi (fun r M1 => ((∃ i j, (i < nc ∧ j < nc ∧ (p0 = nI (i + 1) ∧ p1 = nI (j + 1)) ∧ jc < 100 ∧ ((mS (i + 1) = nI 0 ∧ mP (i + 1) = 0) ∧ (mS (j + 1) = nI 1 ∧ mP (j + 1) = 0))) ∧ r = nI (jc + 1) ∧ xMod G M1 ad (nI 0) nc mS mT mK mC mD mF mO (va_up (va_up mP (i + 1) (jc + 1)) (j + 1) (jc + 1)) wn rn pn o1 o2 u1 d1 (jc + 1) (va_up jA (jc + 1) (i + 1)) (va_up jB (jc + 1) (j + 1)) mx up dn) ∨ (¬ (∃ i j, i < nc ∧ j < nc ∧ (p0 = nI (i + 1) ∧ p1 = nI (j + 1)) ∧ jc < 100 ∧ ((mS (i + 1) = nI 0 ∧ mP (i + 1) = 0) ∧ (mS (j + 1) = nI 1 ∧ mP (j + 1) = 0))) ∧ r = nI 0 ∧ xMod G M1 ad (nI 0) nc mS mT mK mC mD mF mO mP wn rn pn o1 o2 u1 d1 jc jA jB mx up dn)) ∧ (∀ t, t < 500 ∨ 516 < t → M1 t = M t)) (xPc G A) A) 0 0 A := by
  refine x_met (cc := cX5_join) (maxL := 3) (ret := (some .int)) RX5 (by decide) rfl (Nat.le_of_ble_eq_true rfl) rfl ?_
  intro p e s m below meth c hx hb hr hts hown hlocks hml hin hK hA hX ls hl
  have inX5 : ∀ w ∈ wsX50, w ∈ wsX5_join := by decide +kernel
  have lk_fieldLink_62 := hts (.fieldLink RX5 62 "ReconcileModel" "thrown" "I") (by decide +kernel)
  have lk_fieldLink_7 := hts (.fieldLink RX5 7 "ReconcileModel" "sides" "[I") (by decide +kernel)
  have lk_fieldLink_33 := hts (.fieldLink RX5 33 "ReconcileModel" "partners" "[I") (by decide +kernel)
  have lk_fieldLink_106 := hts (.fieldLink RX5 106 "ReconcileModel" "joins" "I") (by decide +kernel)
  have lk_fieldLink_53 := hts (.fieldLink RX5 53 "ReconcileModel" "joinA" "[I") (by decide +kernel)
  have lk_fieldLink_56 := hts (.fieldLink RX5 56 "ReconcileModel" "joinB" "[I") (by decide +kernel)
  have hS : va_S A s.heap s.heap [] := va_S.rf
  have hl : lv_has ls 3 [(0, .ref (ad 500)), (1, .int p0), (2, .int p1)] := hl
  obtain ⟨hm500, hm501, hm502, hm503, hm504, hm505, hm506, hm507, hm508, hm509, hm510, hm511, hm512, hm513, hm514, hm515, hm516⟩ := id hR
  refine lv_aload_n hx hb dX5_join_0 rfl (lv_at hl 0 rfl) ?_
  refine lv_iconst (v := nI 0) hx hb dX5_join_1 (by decide) ?_
  refine x_put (ci := 7) (v := .int (nI 0)) (C := RX5) (T := TX5) (N := 23) hx hb hts inX5 tyX5 tyX5_ok nmX5 hown hK hX hS hm500 rfl 0 (by decide) lk_fieldLink_62 (fun _ h9 => h9) rfl (tyX5_ok 0 (by decide)) rfl rfl (Nat.le_of_ble_eq_true rfl) dX5_join_2 (fun H locs hX hS => ?_)
  obtain ⟨M_1, hM_1⟩ : ∃ zM : xM, zM = xu M 500 (ad 500, .inr (7, [.int (nI 0), .int (nI nc), .ref (ad 501), .ref (ad 502), .ref (ad 503), .ref (ad 504), .ref (ad 505), .ref (ad 506), .ref (ad 507), .ref (ad 508), .ref (ad 509), .int rn, .int (nI pn), .ref (ad 510), .ref (ad 511), .ref (ad 512), .ref (ad 513), .int (nI jc), .ref (ad 514), .ref (ad 515), .ref (ad 516), .long up, .long dn])) := ⟨_, rfl⟩
  have hX : xw G.1 vwCl A M_1 H := by rw [hM_1]; exact hX
  have hm501 : M_1 501 = some (ad 501, .inl (G.2 0, 51, .inl mS)) := by rw [hM_1, xu_n (by omega)]; exact hm501
  have hm502 : M_1 502 = some (ad 502, .inl (G.2 0, 408, .inl mT)) := by rw [hM_1, xu_n (by omega)]; exact hm502
  have hm503 : M_1 503 = some (ad 503, .inl (G.2 0, 408, .inl mK)) := by rw [hM_1, xu_n (by omega)]; exact hm503
  have hm504 : M_1 504 = some (ad 504, .inl (G.2 0, 51, .inl (fun k => nI (mC k)))) := by rw [hM_1, xu_n (by omega)]; exact hm504
  have hm505 : M_1 505 = some (ad 505, .inl (G.2 2, 51, .inl mD)) := by rw [hM_1, xu_n (by omega)]; exact hm505
  have hm506 : M_1 506 = some (ad 506, .inl (G.2 1, 51, .inr (.inl mF))) := by rw [hM_1, xu_n (by omega)]; exact hm506
  have hm507 : M_1 507 = some (ad 507, .inl (G.2 1, 51, .inr (.inl mO))) := by rw [hM_1, xu_n (by omega)]; exact hm507
  have hm508 : M_1 508 = some (ad 508, .inl (G.2 0, 51, .inl (fun k => nI (mP k)))) := by rw [hM_1, xu_n (by omega)]; exact hm508
  have hm509 : M_1 509 = some (ad 509, .inl (G.2 1, 4, .inr (.inl (fun k => lN (wn k))))) := by rw [hM_1, xu_n (by omega)]; exact hm509
  have hm510 : M_1 510 = some (ad 510, .inl (G.2 0, 700, .inl (fun k => nI (o1 k)))) := by rw [hM_1, xu_n (by omega)]; exact hm510
  have hm511 : M_1 511 = some (ad 511, .inl (G.2 0, 700, .inl (fun k => nI (o2 k)))) := by rw [hM_1, xu_n (by omega)]; exact hm511
  have hm512 : M_1 512 = some (ad 512, .inl (G.2 1, 700, .inr (.inl (fun k => lN (u1 k))))) := by rw [hM_1, xu_n (by omega)]; exact hm512
  have hm513 : M_1 513 = some (ad 513, .inl (G.2 1, 700, .inr (.inl (fun k => lN (d1 k))))) := by rw [hM_1, xu_n (by omega)]; exact hm513
  have hm514 : M_1 514 = some (ad 514, .inl (G.2 0, 101, .inl (fun k => nI (jA k)))) := by rw [hM_1, xu_n (by omega)]; exact hm514
  have hm515 : M_1 515 = some (ad 515, .inl (G.2 0, 101, .inl (fun k => nI (jB k)))) := by rw [hM_1, xu_n (by omega)]; exact hm515
  have hm516 : M_1 516 = some (ad 516, .inl (G.2 0, 700, .inl (fun k => nI (mx k)))) := by rw [hM_1, xu_n (by omega)]; exact hm516
  have hm500 : M_1 500 = some (ad 500, .inr (7, [.int (nI 0), .int (nI nc), .ref (ad 501), .ref (ad 502), .ref (ad 503), .ref (ad 504), .ref (ad 505), .ref (ad 506), .ref (ad 507), .ref (ad 508), .ref (ad 509), .int rn, .int (nI pn), .ref (ad 510), .ref (ad 511), .ref (ad 512), .ref (ad 513), .int (nI jc), .ref (ad 514), .ref (ad 515), .ref (ad 516), .long up, .long dn])) := by rw [hM_1]; exact xu_s
  refine lv_aload_n hx hb dX5_join_5 rfl (lv_at hl 0 rfl) ?_
  refine lv_iload_n hx hb dX5_join_6 rfl (lv_at hl 1 rfl) ?_
  refine x_calli (x_runV (q := (RX5, TX5, 23)) (As := [.int p0]) (rest := []) ⟨hx, hb, hml, hown, hts⟩ (ctX5_isName l G A M_1 ⟨hm500, hm501, hm502, hm503, hm504, hm505, hm506, hm507, hm508, hm509, hm510, hm511, hm512, hm513, hm514, hm515, hm516⟩ p0 hnc) (cwV 1 hts gX5_join_X5_isName rfl rfl rfl (by decide +kernel) ⟨Nat.le_of_ble_eq_true rfl, Nat.le_of_ble_eq_true rfl⟩) hK hA hX hS hm500 rfl rfl hl.1 rfl (lv_room (Nat.le_of_ble_eq_true rfl)) dX5_join_7 ⟨by decide, by decide⟩) hS (fun r_2 M_3 H locs hp hX hS => ?_)
  obtain ⟨hM_, hq_r_2⟩ := hp
  rw [hM_] at hX
  rcases hq_r_2 with ⟨i, hi, epi, eri⟩ | ⟨epi, eri⟩
  · rw [eri]
    subst epi
    refine lv_if_eq (tgt := 67) hx hb dX5_join_10 (by decide) (fun c_4 => ?_) (fun c_4 => ?_)
    · have c_4 : 1 = 0 := (nI_eq (a := 1) (b := 0) (by omega) (by omega)).mp c_4
      exact absurd c_4 (by omega)
    · have c_4 : ¬ (1 = 0) := fun q => c_4 ((nI_eq (a := 1) (b := 0) (by omega) (by omega)).mpr q)
      refine lv_aload_n hx hb dX5_join_13 rfl (lv_at hl 0 rfl) ?_
      refine lv_iload_n hx hb dX5_join_14 rfl (lv_at hl 2 rfl) ?_
      refine x_calli (x_runV (q := (RX5, TX5, 23)) (As := [.int p1]) (rest := []) ⟨hx, hb, hml, hown, hts⟩ (ctX5_isName l G A M_1 ⟨hm500, hm501, hm502, hm503, hm504, hm505, hm506, hm507, hm508, hm509, hm510, hm511, hm512, hm513, hm514, hm515, hm516⟩ p1 hnc) (cwV 1 hts gX5_join_X5_isName rfl rfl rfl (by decide +kernel) ⟨Nat.le_of_ble_eq_true rfl, Nat.le_of_ble_eq_true rfl⟩) hK hA hX hS hm500 rfl rfl hl.1 rfl (lv_room (Nat.le_of_ble_eq_true rfl)) dX5_join_15 ⟨by decide, by decide⟩) hS (fun r_5 M_6 H locs hp hX hS => ?_)
      obtain ⟨hM_, hq_r_5⟩ := hp
      rw [hM_] at hX
      rcases hq_r_5 with ⟨j, hj, epj, erj⟩ | ⟨epj, erj⟩
      · rw [erj]
        subst epj
        refine lv_if_eq (tgt := 67) hx hb dX5_join_18 (by decide) (fun c_7 => ?_) (fun c_7 => ?_)
        · have c_7 : 1 = 0 := (nI_eq (a := 1) (b := 0) (by omega) (by omega)).mp c_7
          exact absurd c_7 (by omega)
        · have c_7 : ¬ (1 = 0) := fun q => c_7 ((nI_eq (a := 1) (b := 0) (by omega) (by omega)).mpr q)
          have hpi := hmp (i + 1) (by omega)
          have hpj := hmp (j + 1) (by omega)
          refine lv_aload_n hx hb dX5_join_21 rfl (lv_at hl 0 rfl) ?_
          refine x_get (ci := 7) (v := .ref (ad 501)) (C := RX5) (T := TX5) (N := 23) hx hb hts inX5 hown hK hX hm500 rfl 2 (by decide) lk_fieldLink_7 (fun _ h9 => h9) rfl dX5_join_22 ?_
          refine lv_iload_n hx hb dX5_join_25 rfl (lv_at hl 1 rfl) ?_
          refine x_iN hx hb hK hX hm501 (by omega) (by decide) dX5_join_26 ?_
          refine lv_if_ne (tgt := 67) hx hb dX5_join_27 (by decide) (fun c_8 => ?_) (fun c_8 => ?_)
          · refine lv_iconst (v := nI 0) hx hb dX5_join_67 (by decide) ?_
            exact x_iret hx hb hr hlocks hK hA hX hS dX5_join_68 (⟨Or.inr ⟨fun q => by obtain ⟨i9, j9, hi9, hj9, ⟨e1, e2⟩, hjc9, hh9⟩ := q; have zi : i9 = i := (by have z := (nI_eq (a := i + 1) (b := i9 + 1) (by omega) (by omega)).mp e1; omega); rw [zi] at hh9; exact c_8 hh9.1.1, rfl, ⟨hm500, hm501, hm502, hm503, hm504, hm505, hm506, hm507, hm508, hm509, hm510, hm511, hm512, hm513, hm514, hm515, hm516⟩⟩, fun t ht => by rw [hM_1, xu_n (by omega)]⟩)
          · refine lv_aload_n hx hb dX5_join_30 rfl (lv_at hl 0 rfl) ?_
            refine x_get (ci := 7) (v := .ref (ad 501)) (C := RX5) (T := TX5) (N := 23) hx hb hts inX5 hown hK hX hm500 rfl 2 (by decide) lk_fieldLink_7 (fun _ h9 => h9) rfl dX5_join_31 ?_
            refine lv_iload_n hx hb dX5_join_34 rfl (lv_at hl 2 rfl) ?_
            refine x_iN hx hb hK hX hm501 (by omega) (by decide) dX5_join_35 ?_
            refine lv_iconst (v := nI 1) hx hb dX5_join_36 (by decide) ?_
            refine lv_icmp_ne (tgt := 67) hx hb dX5_join_37 (by decide) (fun c_9 => ?_) (fun c_9 => ?_)
            · refine lv_iconst (v := nI 0) hx hb dX5_join_67 (by decide) ?_
              exact x_iret hx hb hr hlocks hK hA hX hS dX5_join_68 (⟨Or.inr ⟨fun q => by obtain ⟨i9, j9, hi9, hj9, ⟨e1, e2⟩, hjc9, hh9⟩ := q; have zj : j9 = j := (by have z := (nI_eq (a := j + 1) (b := j9 + 1) (by omega) (by omega)).mp e2; omega); rw [zj] at hh9; exact c_9 hh9.2.1, rfl, ⟨hm500, hm501, hm502, hm503, hm504, hm505, hm506, hm507, hm508, hm509, hm510, hm511, hm512, hm513, hm514, hm515, hm516⟩⟩, fun t ht => by rw [hM_1, xu_n (by omega)]⟩)
            · refine lv_aload_n hx hb dX5_join_40 rfl (lv_at hl 0 rfl) ?_
              refine x_get (ci := 7) (v := .ref (ad 508)) (C := RX5) (T := TX5) (N := 23) hx hb hts inX5 hown hK hX hm500 rfl 9 (by decide) lk_fieldLink_33 (fun _ h9 => h9) rfl dX5_join_41 ?_
              refine lv_iload_n hx hb dX5_join_44 rfl (lv_at hl 1 rfl) ?_
              refine x_iN hx hb hK hX hm508 (by omega) (by decide) dX5_join_45 ?_
              refine lv_if_ne (tgt := 67) hx hb dX5_join_46 (by decide) (fun c_10 => ?_) (fun c_10 => ?_)
              · have c_10 : ¬ ((mP (i + 1)) = 0) := fun q => c_10 ((nI_eq (a := (mP (i + 1))) (b := 0) (by omega) (by omega)).mpr q)
                refine lv_iconst (v := nI 0) hx hb dX5_join_67 (by decide) ?_
                exact x_iret hx hb hr hlocks hK hA hX hS dX5_join_68 (⟨Or.inr ⟨fun q => by obtain ⟨i9, j9, hi9, hj9, ⟨e1, e2⟩, hjc9, hh9⟩ := q; have zi : i9 = i := (by have z := (nI_eq (a := i + 1) (b := i9 + 1) (by omega) (by omega)).mp e1; omega); rw [zi] at hh9; exact c_10 hh9.1.2, rfl, ⟨hm500, hm501, hm502, hm503, hm504, hm505, hm506, hm507, hm508, hm509, hm510, hm511, hm512, hm513, hm514, hm515, hm516⟩⟩, fun t ht => by rw [hM_1, xu_n (by omega)]⟩)
              · have c_10 : (mP (i + 1)) = 0 := (nI_eq (a := (mP (i + 1))) (b := 0) (by omega) (by omega)).mp c_10
                refine lv_aload_n hx hb dX5_join_49 rfl (lv_at hl 0 rfl) ?_
                refine x_get (ci := 7) (v := .ref (ad 508)) (C := RX5) (T := TX5) (N := 23) hx hb hts inX5 hown hK hX hm500 rfl 9 (by decide) lk_fieldLink_33 (fun _ h9 => h9) rfl dX5_join_50 ?_
                refine lv_iload_n hx hb dX5_join_53 rfl (lv_at hl 2 rfl) ?_
                refine x_iN hx hb hK hX hm508 (by omega) (by decide) dX5_join_54 ?_
                refine lv_if_ne (tgt := 67) hx hb dX5_join_55 (by decide) (fun c_11 => ?_) (fun c_11 => ?_)
                · have c_11 : ¬ ((mP (j + 1)) = 0) := fun q => c_11 ((nI_eq (a := (mP (j + 1))) (b := 0) (by omega) (by omega)).mpr q)
                  refine lv_iconst (v := nI 0) hx hb dX5_join_67 (by decide) ?_
                  exact x_iret hx hb hr hlocks hK hA hX hS dX5_join_68 (⟨Or.inr ⟨fun q => by obtain ⟨i9, j9, hi9, hj9, ⟨e1, e2⟩, hjc9, hh9⟩ := q; have zj : j9 = j := (by have z := (nI_eq (a := j + 1) (b := j9 + 1) (by omega) (by omega)).mp e2; omega); rw [zj] at hh9; exact c_11 hh9.2.2, rfl, ⟨hm500, hm501, hm502, hm503, hm504, hm505, hm506, hm507, hm508, hm509, hm510, hm511, hm512, hm513, hm514, hm515, hm516⟩⟩, fun t ht => by rw [hM_1, xu_n (by omega)]⟩)
                · have c_11 : (mP (j + 1)) = 0 := (nI_eq (a := (mP (j + 1))) (b := 0) (by omega) (by omega)).mp c_11
                  refine lv_aload_n hx hb dX5_join_58 rfl (lv_at hl 0 rfl) ?_
                  refine x_get (ci := 7) (v := .int (nI jc)) (C := RX5) (T := TX5) (N := 23) hx hb hts inX5 hown hK hX hm500 rfl 17 (by decide) lk_fieldLink_106 (fun _ h9 => h9) rfl dX5_join_59 ?_
                  refine lv_bipush (v := nI 100) hx hb dX5_join_62 (by decide) ?_
                  refine lv_icmp_ne (tgt := 69) hx hb dX5_join_64 (by decide) (fun c_12 => ?_) (fun c_12 => ?_)
                  · have c_12 : ¬ (jc = 100) := fun q => c_12 ((nI_eq (by omega) (by omega)).mpr q)
                    refine lv_aload_n hx hb dX5_join_69 rfl (lv_at hl 0 rfl) ?_
                    refine lv_dup hx hb dX5_join_70 rfl ?_
                    refine x_get (ci := 7) (v := .int (nI jc)) (C := RX5) (T := TX5) (N := 23) hx hb hts inX5 hown hK hX hm500 rfl 17 (by decide) lk_fieldLink_106 (fun _ h9 => h9) rfl dX5_join_71 ?_
                    refine lv_iconst (v := nI 1) hx hb dX5_join_74 (by decide) ?_
                    refine lv_iadd hx hb dX5_join_75 ?_
                    refine x_ri (nI_add _ _) ?_
                    refine x_put (ci := 7) (v := .int (nI (jc + 1))) (C := RX5) (T := TX5) (N := 23) hx hb hts inX5 tyX5 tyX5_ok nmX5 hown hK hX hS hm500 rfl 17 (by decide) lk_fieldLink_106 (fun _ h9 => h9) rfl (tyX5_ok 17 (by decide)) rfl rfl (Nat.le_of_ble_eq_true rfl) dX5_join_76 (fun H locs hX hS => ?_)
                    obtain ⟨M_13, hM_13⟩ : ∃ zM : xM, zM = xu M_1 500 (ad 500, .inr (7, [.int (nI 0), .int (nI nc), .ref (ad 501), .ref (ad 502), .ref (ad 503), .ref (ad 504), .ref (ad 505), .ref (ad 506), .ref (ad 507), .ref (ad 508), .ref (ad 509), .int rn, .int (nI pn), .ref (ad 510), .ref (ad 511), .ref (ad 512), .ref (ad 513), .int (nI (jc + 1)), .ref (ad 514), .ref (ad 515), .ref (ad 516), .long up, .long dn])) := ⟨_, rfl⟩
                    have hX : xw G.1 vwCl A M_13 H := by rw [hM_13]; exact hX
                    have hm501 : M_13 501 = some (ad 501, .inl (G.2 0, 51, .inl mS)) := by rw [hM_13, xu_n (by omega)]; exact hm501
                    have hm502 : M_13 502 = some (ad 502, .inl (G.2 0, 408, .inl mT)) := by rw [hM_13, xu_n (by omega)]; exact hm502
                    have hm503 : M_13 503 = some (ad 503, .inl (G.2 0, 408, .inl mK)) := by rw [hM_13, xu_n (by omega)]; exact hm503
                    have hm504 : M_13 504 = some (ad 504, .inl (G.2 0, 51, .inl (fun k => nI (mC k)))) := by rw [hM_13, xu_n (by omega)]; exact hm504
                    have hm505 : M_13 505 = some (ad 505, .inl (G.2 2, 51, .inl mD)) := by rw [hM_13, xu_n (by omega)]; exact hm505
                    have hm506 : M_13 506 = some (ad 506, .inl (G.2 1, 51, .inr (.inl mF))) := by rw [hM_13, xu_n (by omega)]; exact hm506
                    have hm507 : M_13 507 = some (ad 507, .inl (G.2 1, 51, .inr (.inl mO))) := by rw [hM_13, xu_n (by omega)]; exact hm507
                    have hm508 : M_13 508 = some (ad 508, .inl (G.2 0, 51, .inl (fun k => nI (mP k)))) := by rw [hM_13, xu_n (by omega)]; exact hm508
                    have hm509 : M_13 509 = some (ad 509, .inl (G.2 1, 4, .inr (.inl (fun k => lN (wn k))))) := by rw [hM_13, xu_n (by omega)]; exact hm509
                    have hm510 : M_13 510 = some (ad 510, .inl (G.2 0, 700, .inl (fun k => nI (o1 k)))) := by rw [hM_13, xu_n (by omega)]; exact hm510
                    have hm511 : M_13 511 = some (ad 511, .inl (G.2 0, 700, .inl (fun k => nI (o2 k)))) := by rw [hM_13, xu_n (by omega)]; exact hm511
                    have hm512 : M_13 512 = some (ad 512, .inl (G.2 1, 700, .inr (.inl (fun k => lN (u1 k))))) := by rw [hM_13, xu_n (by omega)]; exact hm512
                    have hm513 : M_13 513 = some (ad 513, .inl (G.2 1, 700, .inr (.inl (fun k => lN (d1 k))))) := by rw [hM_13, xu_n (by omega)]; exact hm513
                    have hm514 : M_13 514 = some (ad 514, .inl (G.2 0, 101, .inl (fun k => nI (jA k)))) := by rw [hM_13, xu_n (by omega)]; exact hm514
                    have hm515 : M_13 515 = some (ad 515, .inl (G.2 0, 101, .inl (fun k => nI (jB k)))) := by rw [hM_13, xu_n (by omega)]; exact hm515
                    have hm516 : M_13 516 = some (ad 516, .inl (G.2 0, 700, .inl (fun k => nI (mx k)))) := by rw [hM_13, xu_n (by omega)]; exact hm516
                    have hm500 : M_13 500 = some (ad 500, .inr (7, [.int (nI 0), .int (nI nc), .ref (ad 501), .ref (ad 502), .ref (ad 503), .ref (ad 504), .ref (ad 505), .ref (ad 506), .ref (ad 507), .ref (ad 508), .ref (ad 509), .int rn, .int (nI pn), .ref (ad 510), .ref (ad 511), .ref (ad 512), .ref (ad 513), .int (nI (jc + 1)), .ref (ad 514), .ref (ad 515), .ref (ad 516), .long up, .long dn])) := by rw [hM_13]; exact xu_s
                    refine lv_aload_n hx hb dX5_join_79 rfl (lv_at hl 0 rfl) ?_
                    refine x_get (ci := 7) (v := .ref (ad 514)) (C := RX5) (T := TX5) (N := 23) hx hb hts inX5 hown hK hX hm500 rfl 18 (by decide) lk_fieldLink_53 (fun _ h9 => h9) rfl dX5_join_80 ?_
                    refine lv_aload_n hx hb dX5_join_83 rfl (lv_at hl 0 rfl) ?_
                    refine x_get (ci := 7) (v := .int (nI (jc + 1))) (C := RX5) (T := TX5) (N := 23) hx hb hts inX5 hown hK hX hm500 rfl 17 (by decide) lk_fieldLink_106 (fun _ h9 => h9) rfl dX5_join_84 ?_
                    refine lv_iload_n hx hb dX5_join_87 rfl (lv_at hl 1 rfl) ?_
                    refine x_isN hx hb hK hX hS hm514 (by omega) (by decide) dX5_join_88 (fun H locs hX hS => ?_)
                    rw [upd_n] at hX
                    obtain ⟨M_14, hM_14⟩ : ∃ zM : xM, zM = xu M_13 514 (ad 514, .inl (G.2 0, 101, .inl (fun k => nI ((va_up jA (jc + 1) (i + 1)) k)))) := ⟨_, rfl⟩
                    have hX : xw G.1 vwCl A M_14 H := by rw [hM_14]; exact hX
                    have hm500 : M_14 500 = some (ad 500, .inr (7, [.int (nI 0), .int (nI nc), .ref (ad 501), .ref (ad 502), .ref (ad 503), .ref (ad 504), .ref (ad 505), .ref (ad 506), .ref (ad 507), .ref (ad 508), .ref (ad 509), .int rn, .int (nI pn), .ref (ad 510), .ref (ad 511), .ref (ad 512), .ref (ad 513), .int (nI (jc + 1)), .ref (ad 514), .ref (ad 515), .ref (ad 516), .long up, .long dn])) := by rw [hM_14, xu_n (by omega)]; exact hm500
                    have hm501 : M_14 501 = some (ad 501, .inl (G.2 0, 51, .inl mS)) := by rw [hM_14, xu_n (by omega)]; exact hm501
                    have hm502 : M_14 502 = some (ad 502, .inl (G.2 0, 408, .inl mT)) := by rw [hM_14, xu_n (by omega)]; exact hm502
                    have hm503 : M_14 503 = some (ad 503, .inl (G.2 0, 408, .inl mK)) := by rw [hM_14, xu_n (by omega)]; exact hm503
                    have hm504 : M_14 504 = some (ad 504, .inl (G.2 0, 51, .inl (fun k => nI (mC k)))) := by rw [hM_14, xu_n (by omega)]; exact hm504
                    have hm505 : M_14 505 = some (ad 505, .inl (G.2 2, 51, .inl mD)) := by rw [hM_14, xu_n (by omega)]; exact hm505
                    have hm506 : M_14 506 = some (ad 506, .inl (G.2 1, 51, .inr (.inl mF))) := by rw [hM_14, xu_n (by omega)]; exact hm506
                    have hm507 : M_14 507 = some (ad 507, .inl (G.2 1, 51, .inr (.inl mO))) := by rw [hM_14, xu_n (by omega)]; exact hm507
                    have hm508 : M_14 508 = some (ad 508, .inl (G.2 0, 51, .inl (fun k => nI (mP k)))) := by rw [hM_14, xu_n (by omega)]; exact hm508
                    have hm509 : M_14 509 = some (ad 509, .inl (G.2 1, 4, .inr (.inl (fun k => lN (wn k))))) := by rw [hM_14, xu_n (by omega)]; exact hm509
                    have hm510 : M_14 510 = some (ad 510, .inl (G.2 0, 700, .inl (fun k => nI (o1 k)))) := by rw [hM_14, xu_n (by omega)]; exact hm510
                    have hm511 : M_14 511 = some (ad 511, .inl (G.2 0, 700, .inl (fun k => nI (o2 k)))) := by rw [hM_14, xu_n (by omega)]; exact hm511
                    have hm512 : M_14 512 = some (ad 512, .inl (G.2 1, 700, .inr (.inl (fun k => lN (u1 k))))) := by rw [hM_14, xu_n (by omega)]; exact hm512
                    have hm513 : M_14 513 = some (ad 513, .inl (G.2 1, 700, .inr (.inl (fun k => lN (d1 k))))) := by rw [hM_14, xu_n (by omega)]; exact hm513
                    have hm515 : M_14 515 = some (ad 515, .inl (G.2 0, 101, .inl (fun k => nI (jB k)))) := by rw [hM_14, xu_n (by omega)]; exact hm515
                    have hm516 : M_14 516 = some (ad 516, .inl (G.2 0, 700, .inl (fun k => nI (mx k)))) := by rw [hM_14, xu_n (by omega)]; exact hm516
                    have hm514 : M_14 514 = some (ad 514, .inl (G.2 0, 101, .inl (fun k => nI ((va_up jA (jc + 1) (i + 1)) k)))) := by rw [hM_14]; exact xu_s
                    refine lv_aload_n hx hb dX5_join_89 rfl (lv_at hl 0 rfl) ?_
                    refine x_get (ci := 7) (v := .ref (ad 515)) (C := RX5) (T := TX5) (N := 23) hx hb hts inX5 hown hK hX hm500 rfl 19 (by decide) lk_fieldLink_56 (fun _ h9 => h9) rfl dX5_join_90 ?_
                    refine lv_aload_n hx hb dX5_join_93 rfl (lv_at hl 0 rfl) ?_
                    refine x_get (ci := 7) (v := .int (nI (jc + 1))) (C := RX5) (T := TX5) (N := 23) hx hb hts inX5 hown hK hX hm500 rfl 17 (by decide) lk_fieldLink_106 (fun _ h9 => h9) rfl dX5_join_94 ?_
                    refine lv_iload_n hx hb dX5_join_97 rfl (lv_at hl 2 rfl) ?_
                    refine x_isN hx hb hK hX hS hm515 (by omega) (by decide) dX5_join_98 (fun H locs hX hS => ?_)
                    rw [upd_n] at hX
                    obtain ⟨M_15, hM_15⟩ : ∃ zM : xM, zM = xu M_14 515 (ad 515, .inl (G.2 0, 101, .inl (fun k => nI ((va_up jB (jc + 1) (j + 1)) k)))) := ⟨_, rfl⟩
                    have hX : xw G.1 vwCl A M_15 H := by rw [hM_15]; exact hX
                    have hm500 : M_15 500 = some (ad 500, .inr (7, [.int (nI 0), .int (nI nc), .ref (ad 501), .ref (ad 502), .ref (ad 503), .ref (ad 504), .ref (ad 505), .ref (ad 506), .ref (ad 507), .ref (ad 508), .ref (ad 509), .int rn, .int (nI pn), .ref (ad 510), .ref (ad 511), .ref (ad 512), .ref (ad 513), .int (nI (jc + 1)), .ref (ad 514), .ref (ad 515), .ref (ad 516), .long up, .long dn])) := by rw [hM_15, xu_n (by omega)]; exact hm500
                    have hm501 : M_15 501 = some (ad 501, .inl (G.2 0, 51, .inl mS)) := by rw [hM_15, xu_n (by omega)]; exact hm501
                    have hm502 : M_15 502 = some (ad 502, .inl (G.2 0, 408, .inl mT)) := by rw [hM_15, xu_n (by omega)]; exact hm502
                    have hm503 : M_15 503 = some (ad 503, .inl (G.2 0, 408, .inl mK)) := by rw [hM_15, xu_n (by omega)]; exact hm503
                    have hm504 : M_15 504 = some (ad 504, .inl (G.2 0, 51, .inl (fun k => nI (mC k)))) := by rw [hM_15, xu_n (by omega)]; exact hm504
                    have hm505 : M_15 505 = some (ad 505, .inl (G.2 2, 51, .inl mD)) := by rw [hM_15, xu_n (by omega)]; exact hm505
                    have hm506 : M_15 506 = some (ad 506, .inl (G.2 1, 51, .inr (.inl mF))) := by rw [hM_15, xu_n (by omega)]; exact hm506
                    have hm507 : M_15 507 = some (ad 507, .inl (G.2 1, 51, .inr (.inl mO))) := by rw [hM_15, xu_n (by omega)]; exact hm507
                    have hm508 : M_15 508 = some (ad 508, .inl (G.2 0, 51, .inl (fun k => nI (mP k)))) := by rw [hM_15, xu_n (by omega)]; exact hm508
                    have hm509 : M_15 509 = some (ad 509, .inl (G.2 1, 4, .inr (.inl (fun k => lN (wn k))))) := by rw [hM_15, xu_n (by omega)]; exact hm509
                    have hm510 : M_15 510 = some (ad 510, .inl (G.2 0, 700, .inl (fun k => nI (o1 k)))) := by rw [hM_15, xu_n (by omega)]; exact hm510
                    have hm511 : M_15 511 = some (ad 511, .inl (G.2 0, 700, .inl (fun k => nI (o2 k)))) := by rw [hM_15, xu_n (by omega)]; exact hm511
                    have hm512 : M_15 512 = some (ad 512, .inl (G.2 1, 700, .inr (.inl (fun k => lN (u1 k))))) := by rw [hM_15, xu_n (by omega)]; exact hm512
                    have hm513 : M_15 513 = some (ad 513, .inl (G.2 1, 700, .inr (.inl (fun k => lN (d1 k))))) := by rw [hM_15, xu_n (by omega)]; exact hm513
                    have hm514 : M_15 514 = some (ad 514, .inl (G.2 0, 101, .inl (fun k => nI ((va_up jA (jc + 1) (i + 1)) k)))) := by rw [hM_15, xu_n (by omega)]; exact hm514
                    have hm516 : M_15 516 = some (ad 516, .inl (G.2 0, 700, .inl (fun k => nI (mx k)))) := by rw [hM_15, xu_n (by omega)]; exact hm516
                    have hm515 : M_15 515 = some (ad 515, .inl (G.2 0, 101, .inl (fun k => nI ((va_up jB (jc + 1) (j + 1)) k)))) := by rw [hM_15]; exact xu_s
                    refine lv_aload_n hx hb dX5_join_99 rfl (lv_at hl 0 rfl) ?_
                    refine x_get (ci := 7) (v := .ref (ad 508)) (C := RX5) (T := TX5) (N := 23) hx hb hts inX5 hown hK hX hm500 rfl 9 (by decide) lk_fieldLink_33 (fun _ h9 => h9) rfl dX5_join_100 ?_
                    refine lv_iload_n hx hb dX5_join_103 rfl (lv_at hl 1 rfl) ?_
                    refine lv_aload_n hx hb dX5_join_104 rfl (lv_at hl 0 rfl) ?_
                    refine x_get (ci := 7) (v := .int (nI (jc + 1))) (C := RX5) (T := TX5) (N := 23) hx hb hts inX5 hown hK hX hm500 rfl 17 (by decide) lk_fieldLink_106 (fun _ h9 => h9) rfl dX5_join_105 ?_
                    refine x_isN hx hb hK hX hS hm508 (by omega) (by decide) dX5_join_108 (fun H locs hX hS => ?_)
                    rw [upd_n] at hX
                    obtain ⟨M_16, hM_16⟩ : ∃ zM : xM, zM = xu M_15 508 (ad 508, .inl (G.2 0, 51, .inl (fun k => nI ((va_up mP (i + 1) (jc + 1)) k)))) := ⟨_, rfl⟩
                    have hX : xw G.1 vwCl A M_16 H := by rw [hM_16]; exact hX
                    have hm500 : M_16 500 = some (ad 500, .inr (7, [.int (nI 0), .int (nI nc), .ref (ad 501), .ref (ad 502), .ref (ad 503), .ref (ad 504), .ref (ad 505), .ref (ad 506), .ref (ad 507), .ref (ad 508), .ref (ad 509), .int rn, .int (nI pn), .ref (ad 510), .ref (ad 511), .ref (ad 512), .ref (ad 513), .int (nI (jc + 1)), .ref (ad 514), .ref (ad 515), .ref (ad 516), .long up, .long dn])) := by rw [hM_16, xu_n (by omega)]; exact hm500
                    have hm501 : M_16 501 = some (ad 501, .inl (G.2 0, 51, .inl mS)) := by rw [hM_16, xu_n (by omega)]; exact hm501
                    have hm502 : M_16 502 = some (ad 502, .inl (G.2 0, 408, .inl mT)) := by rw [hM_16, xu_n (by omega)]; exact hm502
                    have hm503 : M_16 503 = some (ad 503, .inl (G.2 0, 408, .inl mK)) := by rw [hM_16, xu_n (by omega)]; exact hm503
                    have hm504 : M_16 504 = some (ad 504, .inl (G.2 0, 51, .inl (fun k => nI (mC k)))) := by rw [hM_16, xu_n (by omega)]; exact hm504
                    have hm505 : M_16 505 = some (ad 505, .inl (G.2 2, 51, .inl mD)) := by rw [hM_16, xu_n (by omega)]; exact hm505
                    have hm506 : M_16 506 = some (ad 506, .inl (G.2 1, 51, .inr (.inl mF))) := by rw [hM_16, xu_n (by omega)]; exact hm506
                    have hm507 : M_16 507 = some (ad 507, .inl (G.2 1, 51, .inr (.inl mO))) := by rw [hM_16, xu_n (by omega)]; exact hm507
                    have hm509 : M_16 509 = some (ad 509, .inl (G.2 1, 4, .inr (.inl (fun k => lN (wn k))))) := by rw [hM_16, xu_n (by omega)]; exact hm509
                    have hm510 : M_16 510 = some (ad 510, .inl (G.2 0, 700, .inl (fun k => nI (o1 k)))) := by rw [hM_16, xu_n (by omega)]; exact hm510
                    have hm511 : M_16 511 = some (ad 511, .inl (G.2 0, 700, .inl (fun k => nI (o2 k)))) := by rw [hM_16, xu_n (by omega)]; exact hm511
                    have hm512 : M_16 512 = some (ad 512, .inl (G.2 1, 700, .inr (.inl (fun k => lN (u1 k))))) := by rw [hM_16, xu_n (by omega)]; exact hm512
                    have hm513 : M_16 513 = some (ad 513, .inl (G.2 1, 700, .inr (.inl (fun k => lN (d1 k))))) := by rw [hM_16, xu_n (by omega)]; exact hm513
                    have hm514 : M_16 514 = some (ad 514, .inl (G.2 0, 101, .inl (fun k => nI ((va_up jA (jc + 1) (i + 1)) k)))) := by rw [hM_16, xu_n (by omega)]; exact hm514
                    have hm515 : M_16 515 = some (ad 515, .inl (G.2 0, 101, .inl (fun k => nI ((va_up jB (jc + 1) (j + 1)) k)))) := by rw [hM_16, xu_n (by omega)]; exact hm515
                    have hm516 : M_16 516 = some (ad 516, .inl (G.2 0, 700, .inl (fun k => nI (mx k)))) := by rw [hM_16, xu_n (by omega)]; exact hm516
                    have hm508 : M_16 508 = some (ad 508, .inl (G.2 0, 51, .inl (fun k => nI ((va_up mP (i + 1) (jc + 1)) k)))) := by rw [hM_16]; exact xu_s
                    refine lv_aload_n hx hb dX5_join_109 rfl (lv_at hl 0 rfl) ?_
                    refine x_get (ci := 7) (v := .ref (ad 508)) (C := RX5) (T := TX5) (N := 23) hx hb hts inX5 hown hK hX hm500 rfl 9 (by decide) lk_fieldLink_33 (fun _ h9 => h9) rfl dX5_join_110 ?_
                    refine lv_iload_n hx hb dX5_join_113 rfl (lv_at hl 2 rfl) ?_
                    refine lv_aload_n hx hb dX5_join_114 rfl (lv_at hl 0 rfl) ?_
                    refine x_get (ci := 7) (v := .int (nI (jc + 1))) (C := RX5) (T := TX5) (N := 23) hx hb hts inX5 hown hK hX hm500 rfl 17 (by decide) lk_fieldLink_106 (fun _ h9 => h9) rfl dX5_join_115 ?_
                    refine x_isN hx hb hK hX hS hm508 (by omega) (by decide) dX5_join_118 (fun H locs hX hS => ?_)
                    rw [upd_n] at hX
                    obtain ⟨M_17, hM_17⟩ : ∃ zM : xM, zM = xu M_16 508 (ad 508, .inl (G.2 0, 51, .inl (fun k => nI ((va_up (va_up mP (i + 1) (jc + 1)) (j + 1) (jc + 1)) k)))) := ⟨_, rfl⟩
                    have hX : xw G.1 vwCl A M_17 H := by rw [hM_17]; exact hX
                    have hm500 : M_17 500 = some (ad 500, .inr (7, [.int (nI 0), .int (nI nc), .ref (ad 501), .ref (ad 502), .ref (ad 503), .ref (ad 504), .ref (ad 505), .ref (ad 506), .ref (ad 507), .ref (ad 508), .ref (ad 509), .int rn, .int (nI pn), .ref (ad 510), .ref (ad 511), .ref (ad 512), .ref (ad 513), .int (nI (jc + 1)), .ref (ad 514), .ref (ad 515), .ref (ad 516), .long up, .long dn])) := by rw [hM_17, xu_n (by omega)]; exact hm500
                    have hm501 : M_17 501 = some (ad 501, .inl (G.2 0, 51, .inl mS)) := by rw [hM_17, xu_n (by omega)]; exact hm501
                    have hm502 : M_17 502 = some (ad 502, .inl (G.2 0, 408, .inl mT)) := by rw [hM_17, xu_n (by omega)]; exact hm502
                    have hm503 : M_17 503 = some (ad 503, .inl (G.2 0, 408, .inl mK)) := by rw [hM_17, xu_n (by omega)]; exact hm503
                    have hm504 : M_17 504 = some (ad 504, .inl (G.2 0, 51, .inl (fun k => nI (mC k)))) := by rw [hM_17, xu_n (by omega)]; exact hm504
                    have hm505 : M_17 505 = some (ad 505, .inl (G.2 2, 51, .inl mD)) := by rw [hM_17, xu_n (by omega)]; exact hm505
                    have hm506 : M_17 506 = some (ad 506, .inl (G.2 1, 51, .inr (.inl mF))) := by rw [hM_17, xu_n (by omega)]; exact hm506
                    have hm507 : M_17 507 = some (ad 507, .inl (G.2 1, 51, .inr (.inl mO))) := by rw [hM_17, xu_n (by omega)]; exact hm507
                    have hm509 : M_17 509 = some (ad 509, .inl (G.2 1, 4, .inr (.inl (fun k => lN (wn k))))) := by rw [hM_17, xu_n (by omega)]; exact hm509
                    have hm510 : M_17 510 = some (ad 510, .inl (G.2 0, 700, .inl (fun k => nI (o1 k)))) := by rw [hM_17, xu_n (by omega)]; exact hm510
                    have hm511 : M_17 511 = some (ad 511, .inl (G.2 0, 700, .inl (fun k => nI (o2 k)))) := by rw [hM_17, xu_n (by omega)]; exact hm511
                    have hm512 : M_17 512 = some (ad 512, .inl (G.2 1, 700, .inr (.inl (fun k => lN (u1 k))))) := by rw [hM_17, xu_n (by omega)]; exact hm512
                    have hm513 : M_17 513 = some (ad 513, .inl (G.2 1, 700, .inr (.inl (fun k => lN (d1 k))))) := by rw [hM_17, xu_n (by omega)]; exact hm513
                    have hm514 : M_17 514 = some (ad 514, .inl (G.2 0, 101, .inl (fun k => nI ((va_up jA (jc + 1) (i + 1)) k)))) := by rw [hM_17, xu_n (by omega)]; exact hm514
                    have hm515 : M_17 515 = some (ad 515, .inl (G.2 0, 101, .inl (fun k => nI ((va_up jB (jc + 1) (j + 1)) k)))) := by rw [hM_17, xu_n (by omega)]; exact hm515
                    have hm516 : M_17 516 = some (ad 516, .inl (G.2 0, 700, .inl (fun k => nI (mx k)))) := by rw [hM_17, xu_n (by omega)]; exact hm516
                    have hm508 : M_17 508 = some (ad 508, .inl (G.2 0, 51, .inl (fun k => nI ((va_up (va_up mP (i + 1) (jc + 1)) (j + 1) (jc + 1)) k)))) := by rw [hM_17]; exact xu_s
                    refine lv_aload_n hx hb dX5_join_119 rfl (lv_at hl 0 rfl) ?_
                    refine x_get (ci := 7) (v := .int (nI (jc + 1))) (C := RX5) (T := TX5) (N := 23) hx hb hts inX5 hown hK hX hm500 rfl 17 (by decide) lk_fieldLink_106 (fun _ h9 => h9) rfl dX5_join_120 ?_
                    exact x_iret hx hb hr hlocks hK hA hX hS dX5_join_123 (⟨Or.inl ⟨i, j, ⟨hi, hj, ⟨rfl, rfl⟩, by omega, ⟨⟨c_8, c_10⟩, ⟨c_9, c_11⟩⟩⟩, rfl, ⟨hm500, hm501, hm502, hm503, hm504, hm505, hm506, hm507, hm508, hm509, hm510, hm511, hm512, hm513, hm514, hm515, hm516⟩⟩, fun t ht => by rw [hM_17, xu_n (by omega), hM_16, xu_n (by omega), hM_15, xu_n (by omega), hM_14, xu_n (by omega), hM_13, xu_n (by omega), hM_1, xu_n (by omega)]⟩)
                  · have c_12 : jc = 100 := (nI_eq (by omega) (by omega)).mp c_12
                    refine lv_iconst (v := nI 0) hx hb dX5_join_67 (by decide) ?_
                    exact x_iret hx hb hr hlocks hK hA hX hS dX5_join_68 (⟨Or.inr ⟨fun q => by obtain ⟨i9, j9, hi9, hj9, ⟨e1, e2⟩, hjc9, hh9⟩ := q; omega, rfl, ⟨hm500, hm501, hm502, hm503, hm504, hm505, hm506, hm507, hm508, hm509, hm510, hm511, hm512, hm513, hm514, hm515, hm516⟩⟩, fun t ht => by rw [hM_1, xu_n (by omega)]⟩)
      · rw [erj]
        refine lv_if_eq (tgt := 67) hx hb dX5_join_18 (by decide) (fun c_18 => ?_) (fun c_18 => ?_)
        · have c_18 : 0 = 0 := (nI_eq (a := 0) (b := 0) (by omega) (by omega)).mp c_18
          refine lv_iconst (v := nI 0) hx hb dX5_join_67 (by decide) ?_
          exact x_iret hx hb hr hlocks hK hA hX hS dX5_join_68 (⟨Or.inr ⟨fun q => by obtain ⟨i9, j9, hi9, hj9, ⟨e1, e2⟩, hjc9, hh9⟩ := q; exact epj.elim (fun z => by rw [e2] at z; have := (nI_ltI (by omega) (by omega)).mp z; omega) (fun z => z (by rw [e2]; exact (nI_leI (by omega) (by omega)).mpr (by omega))), rfl, ⟨hm500, hm501, hm502, hm503, hm504, hm505, hm506, hm507, hm508, hm509, hm510, hm511, hm512, hm513, hm514, hm515, hm516⟩⟩, fun t ht => by rw [hM_1, xu_n (by omega)]⟩)
        · have c_18 : ¬ (0 = 0) := fun q => c_18 ((nI_eq (a := 0) (b := 0) (by omega) (by omega)).mpr q)
          exact absurd c_18 (by omega)
  · rw [eri]
    refine lv_if_eq (tgt := 67) hx hb dX5_join_10 (by decide) (fun c_19 => ?_) (fun c_19 => ?_)
    · have c_19 : 0 = 0 := (nI_eq (a := 0) (b := 0) (by omega) (by omega)).mp c_19
      refine lv_iconst (v := nI 0) hx hb dX5_join_67 (by decide) ?_
      exact x_iret hx hb hr hlocks hK hA hX hS dX5_join_68 (⟨Or.inr ⟨fun q => by obtain ⟨i9, j9, hi9, hj9, ⟨e1, e2⟩, hjc9, hh9⟩ := q; exact epi.elim (fun z => by rw [e1] at z; have := (nI_ltI (by omega) (by omega)).mp z; omega) (fun z => z (by rw [e1]; exact (nI_leI (by omega) (by omega)).mpr (by omega))), rfl, ⟨hm500, hm501, hm502, hm503, hm504, hm505, hm506, hm507, hm508, hm509, hm510, hm511, hm512, hm513, hm514, hm515, hm516⟩⟩, fun t ht => by rw [hM_1, xu_n (by omega)]⟩)
    · have c_19 : ¬ (0 = 0) := fun q => c_19 ((nI_eq (a := 0) (b := 0) (by omega) (by omega)).mpr q)
      exact absurd c_19 (by omega)

abbrev rmX5_undo : Room := { frames := 0, cells := 0, slots := 0, locals := 0 }
set_option maxHeartbeats 4000000 in
set_option maxRecDepth 100000 in
/-- undo -/
theorem ctX5_undo (l : Launch) (G : xG) (A : Nat → Prop) (M : xM) {ad : Nat → Nat} {th : Int32} {nc : Nat} {mS : Nat → Int32} {mT : Nat → Int32} {mK : Nat → Int32} {mC : Nat → Nat} {mD : Nat → Int32} {mF : Nat → Int64} {mO : Nat → Int64} {mP : Nat → Nat} {wn : Nat → Nat} {rn : Int32} {pn : Nat} {o1 : Nat → Nat} {o2 : Nat → Nat} {u1 : Nat → Nat} {d1 : Nat → Nat} {jc : Nat} {jA : Nat → Nat} {jB : Nat → Nat} {mx : Nat → Nat} {up : Int64} {dn : Int64} (hR : xMod G M ad th nc mS mT mK mC mD mF mO mP wn rn pn o1 o2 u1 d1 jc jA jB mx up dn) (p0 : Int32) (hjc : jc ≤ 100) (hmp : ∀ n, n ≤ 50 → mP n ≤ 100) (hjk : ∀ j, j < jc → jA (j + 1) ≤ 50 ∧ jB (j + 1) ≤ 50) : Met l yX5_undo wsX5_undo rmX5_undo (va_Pc ([.ref (ad 500), .int p0] : List Value) (xPc G A M)) (va_Qi (fun r M1 => ((∃ i, i < jc ∧ p0 = nI (i + 1) ∧ mP (jA (i + 1)) = i + 1 ∧ r = nI 1 ∧ xMod G M1 ad (nI 0) nc mS mT mK mC mD mF mO (va_up (va_up mP (jA (i + 1)) 0) (jB (i + 1)) 0) wn rn pn o1 o2 u1 d1 jc jA jB mx up dn) ∨ (((p0 < nI 1 ∨ ¬ p0 ≤ nI jc) ∨ ∃ i, i < jc ∧ p0 = nI (i + 1) ∧ ¬ mP (jA (i + 1)) = i + 1) ∧ r = nI 0 ∧ xMod G M1 ad (nI 0) nc mS mT mK mC mD mF mO mP wn rn pn o1 o2 u1 d1 jc jA jB mx up dn)) ∧ (∀ t, t < 500 ∨ 516 < t → M1 t = M t)) (xPc G A) A) 0 0 A := by
  refine x_met (cc := cX5_undo) (maxL := 2) (ret := (some .int)) RX5 (by decide) rfl (Nat.le_of_ble_eq_true rfl) rfl ?_
  intro p e s m below meth c hx hb hr hts hown hlocks hml hin hK hA hX ls hl
  have inX5 : ∀ w ∈ wsX50, w ∈ wsX5_undo := by decide +kernel
  have lk_fieldLink_62 := hts (.fieldLink RX5 62 "ReconcileModel" "thrown" "I") (by decide +kernel)
  have lk_fieldLink_106 := hts (.fieldLink RX5 106 "ReconcileModel" "joins" "I") (by decide +kernel)
  have lk_fieldLink_33 := hts (.fieldLink RX5 33 "ReconcileModel" "partners" "[I") (by decide +kernel)
  have lk_fieldLink_53 := hts (.fieldLink RX5 53 "ReconcileModel" "joinA" "[I") (by decide +kernel)
  have lk_fieldLink_56 := hts (.fieldLink RX5 56 "ReconcileModel" "joinB" "[I") (by decide +kernel)
  have hS : va_S A s.heap s.heap [] := va_S.rf
  have hl : lv_has ls 2 [(0, .ref (ad 500)), (1, .int p0)] := hl
  obtain ⟨hm500, hm501, hm502, hm503, hm504, hm505, hm506, hm507, hm508, hm509, hm510, hm511, hm512, hm513, hm514, hm515, hm516⟩ := id hR
  refine lv_aload_n hx hb dX5_undo_0 rfl (lv_at hl 0 rfl) ?_
  refine lv_iconst (v := nI 0) hx hb dX5_undo_1 (by decide) ?_
  refine x_put (ci := 7) (v := .int (nI 0)) (C := RX5) (T := TX5) (N := 23) hx hb hts inX5 tyX5 tyX5_ok nmX5 hown hK hX hS hm500 rfl 0 (by decide) lk_fieldLink_62 (fun _ h9 => h9) rfl (tyX5_ok 0 (by decide)) rfl rfl (Nat.le_of_ble_eq_true rfl) dX5_undo_2 (fun H locs hX hS => ?_)
  obtain ⟨M_1, hM_1⟩ : ∃ zM : xM, zM = xu M 500 (ad 500, .inr (7, [.int (nI 0), .int (nI nc), .ref (ad 501), .ref (ad 502), .ref (ad 503), .ref (ad 504), .ref (ad 505), .ref (ad 506), .ref (ad 507), .ref (ad 508), .ref (ad 509), .int rn, .int (nI pn), .ref (ad 510), .ref (ad 511), .ref (ad 512), .ref (ad 513), .int (nI jc), .ref (ad 514), .ref (ad 515), .ref (ad 516), .long up, .long dn])) := ⟨_, rfl⟩
  have hX : xw G.1 vwCl A M_1 H := by rw [hM_1]; exact hX
  have hm501 : M_1 501 = some (ad 501, .inl (G.2 0, 51, .inl mS)) := by rw [hM_1, xu_n (by omega)]; exact hm501
  have hm502 : M_1 502 = some (ad 502, .inl (G.2 0, 408, .inl mT)) := by rw [hM_1, xu_n (by omega)]; exact hm502
  have hm503 : M_1 503 = some (ad 503, .inl (G.2 0, 408, .inl mK)) := by rw [hM_1, xu_n (by omega)]; exact hm503
  have hm504 : M_1 504 = some (ad 504, .inl (G.2 0, 51, .inl (fun k => nI (mC k)))) := by rw [hM_1, xu_n (by omega)]; exact hm504
  have hm505 : M_1 505 = some (ad 505, .inl (G.2 2, 51, .inl mD)) := by rw [hM_1, xu_n (by omega)]; exact hm505
  have hm506 : M_1 506 = some (ad 506, .inl (G.2 1, 51, .inr (.inl mF))) := by rw [hM_1, xu_n (by omega)]; exact hm506
  have hm507 : M_1 507 = some (ad 507, .inl (G.2 1, 51, .inr (.inl mO))) := by rw [hM_1, xu_n (by omega)]; exact hm507
  have hm508 : M_1 508 = some (ad 508, .inl (G.2 0, 51, .inl (fun k => nI (mP k)))) := by rw [hM_1, xu_n (by omega)]; exact hm508
  have hm509 : M_1 509 = some (ad 509, .inl (G.2 1, 4, .inr (.inl (fun k => lN (wn k))))) := by rw [hM_1, xu_n (by omega)]; exact hm509
  have hm510 : M_1 510 = some (ad 510, .inl (G.2 0, 700, .inl (fun k => nI (o1 k)))) := by rw [hM_1, xu_n (by omega)]; exact hm510
  have hm511 : M_1 511 = some (ad 511, .inl (G.2 0, 700, .inl (fun k => nI (o2 k)))) := by rw [hM_1, xu_n (by omega)]; exact hm511
  have hm512 : M_1 512 = some (ad 512, .inl (G.2 1, 700, .inr (.inl (fun k => lN (u1 k))))) := by rw [hM_1, xu_n (by omega)]; exact hm512
  have hm513 : M_1 513 = some (ad 513, .inl (G.2 1, 700, .inr (.inl (fun k => lN (d1 k))))) := by rw [hM_1, xu_n (by omega)]; exact hm513
  have hm514 : M_1 514 = some (ad 514, .inl (G.2 0, 101, .inl (fun k => nI (jA k)))) := by rw [hM_1, xu_n (by omega)]; exact hm514
  have hm515 : M_1 515 = some (ad 515, .inl (G.2 0, 101, .inl (fun k => nI (jB k)))) := by rw [hM_1, xu_n (by omega)]; exact hm515
  have hm516 : M_1 516 = some (ad 516, .inl (G.2 0, 700, .inl (fun k => nI (mx k)))) := by rw [hM_1, xu_n (by omega)]; exact hm516
  have hm500 : M_1 500 = some (ad 500, .inr (7, [.int (nI 0), .int (nI nc), .ref (ad 501), .ref (ad 502), .ref (ad 503), .ref (ad 504), .ref (ad 505), .ref (ad 506), .ref (ad 507), .ref (ad 508), .ref (ad 509), .int rn, .int (nI pn), .ref (ad 510), .ref (ad 511), .ref (ad 512), .ref (ad 513), .int (nI jc), .ref (ad 514), .ref (ad 515), .ref (ad 516), .long up, .long dn])) := by rw [hM_1]; exact xu_s
  refine lv_iload_n hx hb dX5_undo_5 rfl (lv_at hl 1 rfl) ?_
  refine lv_iconst (v := nI 1) hx hb dX5_undo_6 (by decide) ?_
  refine lv_icmp_lt (tgt := 33) hx hb dX5_undo_7 (by decide) (fun c_2 => ?_) (fun c_2 => ?_)
  · refine lv_iconst (v := nI 0) hx hb dX5_undo_33 (by decide) ?_
    exact x_iret hx hb hr hlocks hK hA hX hS dX5_undo_34 (⟨Or.inr ⟨Or.inl (Or.inl c_2), rfl, ⟨hm500, hm501, hm502, hm503, hm504, hm505, hm506, hm507, hm508, hm509, hm510, hm511, hm512, hm513, hm514, hm515, hm516⟩⟩, fun t ht => by rw [hM_1, xu_n (by omega)]⟩)
  · refine lv_iload_n hx hb dX5_undo_10 rfl (lv_at hl 1 rfl) ?_
    refine lv_aload_n hx hb dX5_undo_11 rfl (lv_at hl 0 rfl) ?_
    refine x_get (ci := 7) (v := .int (nI jc)) (C := RX5) (T := TX5) (N := 23) hx hb hts inX5 hown hK hX hm500 rfl 17 (by decide) lk_fieldLink_106 (fun _ h9 => h9) rfl dX5_undo_12 ?_
    refine lv_icmp_gt (tgt := 33) hx hb dX5_undo_15 (by decide) (fun c_3 => ?_) (fun c_3 => ?_)
    · refine lv_iconst (v := nI 0) hx hb dX5_undo_33 (by decide) ?_
      exact x_iret hx hb hr hlocks hK hA hX hS dX5_undo_34 (⟨Or.inr ⟨Or.inl (Or.inr (x_nle.mpr c_3)), rfl, ⟨hm500, hm501, hm502, hm503, hm504, hm505, hm506, hm507, hm508, hm509, hm510, hm511, hm512, hm513, hm514, hm515, hm516⟩⟩, fun t ht => by rw [hM_1, xu_n (by omega)]⟩)
    · obtain ⟨i, hi, ep⟩ := x_p1 (by omega) c_2 (x_nlt.mp c_3)
      subst ep
      have hj9 := hjk i hi
      have hp9 := hmp (jA (i + 1)) (by omega)
      refine lv_aload_n hx hb dX5_undo_18 rfl (lv_at hl 0 rfl) ?_
      refine x_get (ci := 7) (v := .ref (ad 508)) (C := RX5) (T := TX5) (N := 23) hx hb hts inX5 hown hK hX hm500 rfl 9 (by decide) lk_fieldLink_33 (fun _ h9 => h9) rfl dX5_undo_19 ?_
      refine lv_aload_n hx hb dX5_undo_22 rfl (lv_at hl 0 rfl) ?_
      refine x_get (ci := 7) (v := .ref (ad 514)) (C := RX5) (T := TX5) (N := 23) hx hb hts inX5 hown hK hX hm500 rfl 18 (by decide) lk_fieldLink_53 (fun _ h9 => h9) rfl dX5_undo_23 ?_
      refine lv_iload_n hx hb dX5_undo_26 rfl (lv_at hl 1 rfl) ?_
      refine x_iN hx hb hK hX hm514 (by omega) (by decide) dX5_undo_27 ?_
      refine x_iN hx hb hK hX hm508 (by omega) (by decide) dX5_undo_28 ?_
      refine lv_iload_n hx hb dX5_undo_29 rfl (lv_at hl 1 rfl) ?_
      refine lv_icmp_eq (tgt := 35) hx hb dX5_undo_30 (by decide) (fun c_4 => ?_) (fun c_4 => ?_)
      · have c_4 : (mP (jA (i + 1))) = (i + 1) := (nI_eq (by omega) (by omega)).mp c_4
        refine lv_aload_n hx hb dX5_undo_35 rfl (lv_at hl 0 rfl) ?_
        refine x_get (ci := 7) (v := .ref (ad 508)) (C := RX5) (T := TX5) (N := 23) hx hb hts inX5 hown hK hX hm500 rfl 9 (by decide) lk_fieldLink_33 (fun _ h9 => h9) rfl dX5_undo_36 ?_
        refine lv_aload_n hx hb dX5_undo_39 rfl (lv_at hl 0 rfl) ?_
        refine x_get (ci := 7) (v := .ref (ad 514)) (C := RX5) (T := TX5) (N := 23) hx hb hts inX5 hown hK hX hm500 rfl 18 (by decide) lk_fieldLink_53 (fun _ h9 => h9) rfl dX5_undo_40 ?_
        refine lv_iload_n hx hb dX5_undo_43 rfl (lv_at hl 1 rfl) ?_
        refine x_iN hx hb hK hX hm514 (by omega) (by decide) dX5_undo_44 ?_
        refine lv_iconst (v := nI 0) hx hb dX5_undo_45 (by decide) ?_
        refine x_isN hx hb hK hX hS hm508 (by omega) (by decide) dX5_undo_46 (fun H locs hX hS => ?_)
        rw [upd_n] at hX
        obtain ⟨M_5, hM_5⟩ : ∃ zM : xM, zM = xu M_1 508 (ad 508, .inl (G.2 0, 51, .inl (fun k => nI ((va_up mP (jA (i + 1)) 0) k)))) := ⟨_, rfl⟩
        have hX : xw G.1 vwCl A M_5 H := by rw [hM_5]; exact hX
        have hm500 : M_5 500 = some (ad 500, .inr (7, [.int (nI 0), .int (nI nc), .ref (ad 501), .ref (ad 502), .ref (ad 503), .ref (ad 504), .ref (ad 505), .ref (ad 506), .ref (ad 507), .ref (ad 508), .ref (ad 509), .int rn, .int (nI pn), .ref (ad 510), .ref (ad 511), .ref (ad 512), .ref (ad 513), .int (nI jc), .ref (ad 514), .ref (ad 515), .ref (ad 516), .long up, .long dn])) := by rw [hM_5, xu_n (by omega)]; exact hm500
        have hm501 : M_5 501 = some (ad 501, .inl (G.2 0, 51, .inl mS)) := by rw [hM_5, xu_n (by omega)]; exact hm501
        have hm502 : M_5 502 = some (ad 502, .inl (G.2 0, 408, .inl mT)) := by rw [hM_5, xu_n (by omega)]; exact hm502
        have hm503 : M_5 503 = some (ad 503, .inl (G.2 0, 408, .inl mK)) := by rw [hM_5, xu_n (by omega)]; exact hm503
        have hm504 : M_5 504 = some (ad 504, .inl (G.2 0, 51, .inl (fun k => nI (mC k)))) := by rw [hM_5, xu_n (by omega)]; exact hm504
        have hm505 : M_5 505 = some (ad 505, .inl (G.2 2, 51, .inl mD)) := by rw [hM_5, xu_n (by omega)]; exact hm505
        have hm506 : M_5 506 = some (ad 506, .inl (G.2 1, 51, .inr (.inl mF))) := by rw [hM_5, xu_n (by omega)]; exact hm506
        have hm507 : M_5 507 = some (ad 507, .inl (G.2 1, 51, .inr (.inl mO))) := by rw [hM_5, xu_n (by omega)]; exact hm507
        have hm509 : M_5 509 = some (ad 509, .inl (G.2 1, 4, .inr (.inl (fun k => lN (wn k))))) := by rw [hM_5, xu_n (by omega)]; exact hm509
        have hm510 : M_5 510 = some (ad 510, .inl (G.2 0, 700, .inl (fun k => nI (o1 k)))) := by rw [hM_5, xu_n (by omega)]; exact hm510
        have hm511 : M_5 511 = some (ad 511, .inl (G.2 0, 700, .inl (fun k => nI (o2 k)))) := by rw [hM_5, xu_n (by omega)]; exact hm511
        have hm512 : M_5 512 = some (ad 512, .inl (G.2 1, 700, .inr (.inl (fun k => lN (u1 k))))) := by rw [hM_5, xu_n (by omega)]; exact hm512
        have hm513 : M_5 513 = some (ad 513, .inl (G.2 1, 700, .inr (.inl (fun k => lN (d1 k))))) := by rw [hM_5, xu_n (by omega)]; exact hm513
        have hm514 : M_5 514 = some (ad 514, .inl (G.2 0, 101, .inl (fun k => nI (jA k)))) := by rw [hM_5, xu_n (by omega)]; exact hm514
        have hm515 : M_5 515 = some (ad 515, .inl (G.2 0, 101, .inl (fun k => nI (jB k)))) := by rw [hM_5, xu_n (by omega)]; exact hm515
        have hm516 : M_5 516 = some (ad 516, .inl (G.2 0, 700, .inl (fun k => nI (mx k)))) := by rw [hM_5, xu_n (by omega)]; exact hm516
        have hm508 : M_5 508 = some (ad 508, .inl (G.2 0, 51, .inl (fun k => nI ((va_up mP (jA (i + 1)) 0) k)))) := by rw [hM_5]; exact xu_s
        refine lv_aload_n hx hb dX5_undo_47 rfl (lv_at hl 0 rfl) ?_
        refine x_get (ci := 7) (v := .ref (ad 508)) (C := RX5) (T := TX5) (N := 23) hx hb hts inX5 hown hK hX hm500 rfl 9 (by decide) lk_fieldLink_33 (fun _ h9 => h9) rfl dX5_undo_48 ?_
        refine lv_aload_n hx hb dX5_undo_51 rfl (lv_at hl 0 rfl) ?_
        refine x_get (ci := 7) (v := .ref (ad 515)) (C := RX5) (T := TX5) (N := 23) hx hb hts inX5 hown hK hX hm500 rfl 19 (by decide) lk_fieldLink_56 (fun _ h9 => h9) rfl dX5_undo_52 ?_
        refine lv_iload_n hx hb dX5_undo_55 rfl (lv_at hl 1 rfl) ?_
        refine x_iN hx hb hK hX hm515 (by omega) (by decide) dX5_undo_56 ?_
        refine lv_iconst (v := nI 0) hx hb dX5_undo_57 (by decide) ?_
        refine x_isN hx hb hK hX hS hm508 (by omega) (by decide) dX5_undo_58 (fun H locs hX hS => ?_)
        rw [upd_n] at hX
        obtain ⟨M_6, hM_6⟩ : ∃ zM : xM, zM = xu M_5 508 (ad 508, .inl (G.2 0, 51, .inl (fun k => nI ((va_up (va_up mP (jA (i + 1)) 0) (jB (i + 1)) 0) k)))) := ⟨_, rfl⟩
        have hX : xw G.1 vwCl A M_6 H := by rw [hM_6]; exact hX
        have hm500 : M_6 500 = some (ad 500, .inr (7, [.int (nI 0), .int (nI nc), .ref (ad 501), .ref (ad 502), .ref (ad 503), .ref (ad 504), .ref (ad 505), .ref (ad 506), .ref (ad 507), .ref (ad 508), .ref (ad 509), .int rn, .int (nI pn), .ref (ad 510), .ref (ad 511), .ref (ad 512), .ref (ad 513), .int (nI jc), .ref (ad 514), .ref (ad 515), .ref (ad 516), .long up, .long dn])) := by rw [hM_6, xu_n (by omega)]; exact hm500
        have hm501 : M_6 501 = some (ad 501, .inl (G.2 0, 51, .inl mS)) := by rw [hM_6, xu_n (by omega)]; exact hm501
        have hm502 : M_6 502 = some (ad 502, .inl (G.2 0, 408, .inl mT)) := by rw [hM_6, xu_n (by omega)]; exact hm502
        have hm503 : M_6 503 = some (ad 503, .inl (G.2 0, 408, .inl mK)) := by rw [hM_6, xu_n (by omega)]; exact hm503
        have hm504 : M_6 504 = some (ad 504, .inl (G.2 0, 51, .inl (fun k => nI (mC k)))) := by rw [hM_6, xu_n (by omega)]; exact hm504
        have hm505 : M_6 505 = some (ad 505, .inl (G.2 2, 51, .inl mD)) := by rw [hM_6, xu_n (by omega)]; exact hm505
        have hm506 : M_6 506 = some (ad 506, .inl (G.2 1, 51, .inr (.inl mF))) := by rw [hM_6, xu_n (by omega)]; exact hm506
        have hm507 : M_6 507 = some (ad 507, .inl (G.2 1, 51, .inr (.inl mO))) := by rw [hM_6, xu_n (by omega)]; exact hm507
        have hm509 : M_6 509 = some (ad 509, .inl (G.2 1, 4, .inr (.inl (fun k => lN (wn k))))) := by rw [hM_6, xu_n (by omega)]; exact hm509
        have hm510 : M_6 510 = some (ad 510, .inl (G.2 0, 700, .inl (fun k => nI (o1 k)))) := by rw [hM_6, xu_n (by omega)]; exact hm510
        have hm511 : M_6 511 = some (ad 511, .inl (G.2 0, 700, .inl (fun k => nI (o2 k)))) := by rw [hM_6, xu_n (by omega)]; exact hm511
        have hm512 : M_6 512 = some (ad 512, .inl (G.2 1, 700, .inr (.inl (fun k => lN (u1 k))))) := by rw [hM_6, xu_n (by omega)]; exact hm512
        have hm513 : M_6 513 = some (ad 513, .inl (G.2 1, 700, .inr (.inl (fun k => lN (d1 k))))) := by rw [hM_6, xu_n (by omega)]; exact hm513
        have hm514 : M_6 514 = some (ad 514, .inl (G.2 0, 101, .inl (fun k => nI (jA k)))) := by rw [hM_6, xu_n (by omega)]; exact hm514
        have hm515 : M_6 515 = some (ad 515, .inl (G.2 0, 101, .inl (fun k => nI (jB k)))) := by rw [hM_6, xu_n (by omega)]; exact hm515
        have hm516 : M_6 516 = some (ad 516, .inl (G.2 0, 700, .inl (fun k => nI (mx k)))) := by rw [hM_6, xu_n (by omega)]; exact hm516
        have hm508 : M_6 508 = some (ad 508, .inl (G.2 0, 51, .inl (fun k => nI ((va_up (va_up mP (jA (i + 1)) 0) (jB (i + 1)) 0) k)))) := by rw [hM_6]; exact xu_s
        refine lv_iconst (v := nI 1) hx hb dX5_undo_59 (by decide) ?_
        exact x_iret hx hb hr hlocks hK hA hX hS dX5_undo_60 (⟨Or.inl ⟨i, hi, rfl, c_4, rfl, ⟨hm500, hm501, hm502, hm503, hm504, hm505, hm506, hm507, hm508, hm509, hm510, hm511, hm512, hm513, hm514, hm515, hm516⟩⟩, fun t ht => by rw [hM_6, xu_n (by omega), hM_5, xu_n (by omega), hM_1, xu_n (by omega)]⟩)
      · have c_4 : ¬ ((mP (jA (i + 1))) = (i + 1)) := fun q => c_4 ((nI_eq (by omega) (by omega)).mpr q)
        refine lv_iconst (v := nI 0) hx hb dX5_undo_33 (by decide) ?_
        exact x_iret hx hb hr hlocks hK hA hX hS dX5_undo_34 (⟨Or.inr ⟨Or.inr ⟨i, hi, rfl, c_4⟩, rfl, ⟨hm500, hm501, hm502, hm503, hm504, hm505, hm506, hm507, hm508, hm509, hm510, hm511, hm512, hm513, hm514, hm515, hm516⟩⟩, fun t ht => by rw [hM_1, xu_n (by omega)]⟩)
