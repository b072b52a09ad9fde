/-! Reconcile: weight, pair, mutual, sample, best, undo, none -/
theorem x_l64 {x : Int64} {n : Nat} (hn : n < 2 ^ 62) (h1 : ¬ x < lN 0) (h2 : x ≤ lN n) : ∃ k, k ≤ n ∧ x = lN k := by
  obtain ⟨k, hk, rfl⟩ := pk_lOf (x := x) h1
  exact ⟨k, (pk_lLE hk (by omega)).mp h2, rfl⟩
theorem x_le_nlt {x y : Int64} (h : ¬ y < x) : x ≤ y := lc_n64.mpr h

abbrev rmX4_weight : Room := { frames := 0, cells := 0, slots := 0, locals := 0 }
set_option maxHeartbeats 4000000 in
set_option maxRecDepth 100000 in
/-- weight -/
theorem ctX4_weight (l : Launch) (G : xG) (A : Nat → Prop) (M : xM) {ad : Nat → Nat} {nc : Nat} {sd : Nat → Int32} {jn : Nat → Int32} {tc : Nat → Nat} {dt : Nat → Int32} {fd : Nat → Int64} {ld : Nat → Int64} {tk : Nat → Nat → Int32} {kd : Nat → Nat → Int32} {wn : Nat → Nat} {jc : Nat} {jz : Nat → Nat} {jo : Nat → Nat} {ju : Nat → Int32} {bg : Int32} {cn : Nat} {zs : Nat → Nat} {os : Nat → Nat} {ab : Nat → Nat} {bl : Nat → Nat} {od : Nat → Nat} {sp : Nat → Nat} {pr : Nat → Nat} {fa : Int64} {fb : Int64} (hR : xRec G M ad nc sd jn tc dt fd ld tk kd wn jc jz jo ju bg cn zs os ab bl od sp pr fa fb) (p0 : Int32) (p1 p2 : Int64) : Met l yX4_weight wsX4_weight rmX4_weight (va_Pc ([.ref (ad 0), .int p0, .long p1, .long p2] : List Value) (xPc G A M)) (va_Qi (fun r M1 => (∃ kk u d : Nat, (kk < 4 ∧ u ≤ 100 ∧ 1 ≤ d ∧ d ≤ 10) ∧ (p0 = nI kk ∧ p1 = lN u ∧ p2 = lN d) ∧ r = nI 1 ∧ M1 = xu M 2 (ad 2, .inl (G.2 1, 4, .inr (.inl (fun j => lN (va_up wn kk (u * (2520 / d)) j)))))) ∨ ((p0 < 0 ∨ nI 4 ≤ p0 ∨ p1 < lN 0 ∨ lN 100 < p1 ∨ p2 < lN 1 ∨ ¬ p2 ≤ lN 10) ∧ r = nI 0 ∧ M1 = M)) (xPc G A) A) 0 0 A := by
  refine x_met (cc := cX4_weight) (maxL := 6) (ret := (some .int)) RX4 (by decide) rfl (Nat.le_of_ble_eq_true rfl) rfl ?_
  intro p e s m below meth c hx hb hr hts hown hlocks hml hin hK hA hX ls hl
  have inX4 : ∀ w ∈ wsX40, w ∈ wsX4_weight := by decide +kernel
  have lk_constantLong_67 := hts (.constantLong RX4 67 (100)) (by decide +kernel)
  have lk_constantLong_69 := hts (.constantLong RX4 69 (10)) (by decide +kernel)
  have lk_fieldLink_21 := hts (.fieldLink RX4 21 "Reconcile" "weights" "[J") (by decide +kernel)
  have lk_constantLong_19 := hts (.constantLong RX4 19 (2520)) (by decide +kernel)
  have hS : va_S A s.heap s.heap [] := va_S.rf
  have hl : lv_has ls 6 [(0, .ref (ad 0)), (1, .int p0), (2, .long p1), (4, .long p2)] := hl
  obtain ⟨hc0, hc1, hc2, hc3, hcL, hc5, hc6, hc7, hc8, hc9, hc10, hc11, hc12, hnm, hjn⟩ := hR
  refine lv_iload_n hx hb dX4_weight_0 rfl (lv_at hl 1 rfl) ?_
  refine lv_if_lt (tgt := 39) hx hb dX4_weight_1 (by decide) (fun c_1 => ?_) (fun c_1 => ?_)
  · refine lv_iconst (v := nI 0) hx hb dX4_weight_39 (by decide) ?_
    exact x_iret hx hb hr hlocks hK hA hX hS dX4_weight_40 (Or.inr ⟨Or.inl c_1, rfl, rfl⟩)
  · refine lv_iload_n hx hb dX4_weight_4 rfl (lv_at hl 1 rfl) ?_
    refine lv_iconst (v := nI 4) hx hb dX4_weight_5 (by decide) ?_
    refine lv_icmp_ge (tgt := 39) hx hb dX4_weight_6 (by decide) (fun c_2 => ?_) (fun c_2 => ?_)
    · refine lv_iconst (v := nI 0) hx hb dX4_weight_39 (by decide) ?_
      exact x_iret hx hb hr hlocks hK hA hX hS dX4_weight_40 (Or.inr ⟨Or.inr (Or.inl c_2), rfl, rfl⟩)
    · refine lv_lload_n hx hb dX4_weight_9 rfl (lv_at hl 2 rfl) ?_
      refine lv_lconst (v := lN 0) hx hb dX4_weight_10 rfl ?_
      refine W.lcmp hx hb dX4_weight_11 ?_
      refine x_lc_lt (tgt := 39) hx hb dX4_weight_12 (by decide) (fun c_3 => ?_) (fun c_3 => ?_)
      · refine lv_iconst (v := nI 0) hx hb dX4_weight_39 (by decide) ?_
        exact x_iret hx hb hr hlocks hK hA hX hS dX4_weight_40 (Or.inr ⟨Or.inr (Or.inr (Or.inl c_3)), rfl, rfl⟩)
      · refine lv_lload_n hx hb dX4_weight_15 rfl (lv_at hl 2 rfl) ?_
        refine lv_ldc2 (v := 100) hx hb hown lk_constantLong_67 dX4_weight_16 ?_
        refine x_rl (y := lN 100) rfl ?_
        refine W.lcmp hx hb dX4_weight_19 ?_
        refine x_lc_gt (tgt := 39) hx hb dX4_weight_20 (by decide) (fun c_4 => ?_) (fun c_4 => ?_)
        · refine lv_iconst (v := nI 0) hx hb dX4_weight_39 (by decide) ?_
          exact x_iret hx hb hr hlocks hK hA hX hS dX4_weight_40 (Or.inr ⟨Or.inr (Or.inr (Or.inr (Or.inl c_4))), rfl, rfl⟩)
        · refine lv_lload hx hb dX4_weight_23 (lv_at hl 3 rfl) ?_
          refine lv_lconst (v := lN 1) hx hb dX4_weight_25 rfl ?_
          refine W.lcmp hx hb dX4_weight_26 ?_
          refine x_lc_lt (tgt := 39) hx hb dX4_weight_27 (by decide) (fun c_5 => ?_) (fun c_5 => ?_)
          · refine lv_iconst (v := nI 0) hx hb dX4_weight_39 (by decide) ?_
            exact x_iret hx hb hr hlocks hK hA hX hS dX4_weight_40 (Or.inr ⟨Or.inr (Or.inr (Or.inr (Or.inr (Or.inl c_5)))), rfl, rfl⟩)
          · refine lv_lload hx hb dX4_weight_30 (lv_at hl 3 rfl) ?_
            refine lv_ldc2 (v := 10) hx hb hown lk_constantLong_69 dX4_weight_32 ?_
            refine x_rl (y := lN 10) rfl ?_
            refine W.lcmp hx hb dX4_weight_35 ?_
            refine x_lc_le (tgt := 41) hx hb dX4_weight_36 (by decide) (fun c_6 => ?_) (fun c_6 => ?_)
            · obtain ⟨kk, hk, ek⟩ := x_in (n := 4) (by omega) c_1 c_2
              obtain ⟨u, hu, eu⟩ := x_l64 (n := 100) (by omega) c_3 (x_le_nlt c_4)
              have hd0 : ¬ p2 < lN 0 := fun q => c_5 (by rw [Int64.lt_iff_toInt_lt] at q ⊢; rw [lN_toInt (by omega)] at *; omega)
              obtain ⟨d, hd, ed⟩ := x_l64 (n := 10) (by omega) hd0 c_6
              have hd1 : 1 ≤ d := Nat.le_of_not_lt (fun q => c_5 (by rw [ed]; exact (pk_lLT (by omega) (by omega)).mpr q))
              subst ek eu ed
              refine lv_aload_n hx hb dX4_weight_41 rfl (lv_at hl 0 rfl) ?_
              refine x_get (ci := 6) (v := .ref (ad 2)) (C := RX4) (T := TX4) (N := 7) hx hb hts inX4 hown hK hX hc0 rfl 2 (by decide) lk_fieldLink_21 (fun _ h9 => h9) rfl dX4_weight_42 ?_
              refine lv_iload_n hx hb dX4_weight_45 rfl (lv_at hl 1 rfl) ?_
              refine lv_lload_n hx hb dX4_weight_46 rfl (lv_at hl 2 rfl) ?_
              refine lv_ldc2 (v := 2520) hx hb hown lk_constantLong_19 dX4_weight_47 ?_
              refine x_rl (y := lN 2520) rfl ?_
              refine lv_lload hx hb dX4_weight_50 (lv_at hl 3 rfl) ?_
              refine lv_ldiv hx hb dX4_weight_52 (by rw [show (0 : Int64) = lN 0 from rfl, pk_lEQ (by omega) (by omega)]; omega) ?_
              refine x_rl (pk_lDiv (by omega) (by omega) (by omega)) ?_
              refine lv_lmul hx hb dX4_weight_53 ?_
              refine x_rl (lN_mul _ _) ?_
              refine x_lsN hx hb hK hX hS hc2 (by omega) (by decide) dX4_weight_54 (fun H locs hX hS => ?_)
              rw [updL_n] at hX
              obtain ⟨M_7, hM_7⟩ : ∃ zM : xM, zM = xu M 2 (ad 2, .inl (G.2 1, 4, .inr (.inl (fun k => lN ((va_up wn kk (u * (2520 / d))) k))))) := ⟨_, rfl⟩
              have hX : xw G.1 vwCl A M_7 H := by rw [hM_7]; exact hX
              have hc0 : M_7 0 = some (ad 0, .inr (6, [.ref (ad 1), .int (nI nc), .ref (ad 2), .ref (ad 3), .int (nI jc), .ref (ad 4), .ref (ad 5)])) := by rw [hM_7, xu_n (by omega)]; exact hc0
              have hc1 : M_7 1 = some (ad 1, .inl (G.2 3, 50, .inr (.inr (.inr (.inr (fun k => if k < nc then some (ad (100 + 3 * k)) else none)))))) := by rw [hM_7, xu_n (by omega)]; exact hc1
              have hc3 : M_7 3 = some (ad 3, .inl (G.2 4, 100, .inr (.inr (.inr (.inr (fun k => if k < jc then some (ad (300 + k)) else none)))))) := by rw [hM_7, xu_n (by omega)]; exact hc3
              have hcL : M_7 4 = some (ad 4, .inr (4, [.int bg, .int (nI cn), .ref (ad 6), .ref (ad 7), .ref (ad 8), .ref (ad 9), .ref (ad 10), .ref (ad 11), .ref (ad 12)])) := by rw [hM_7, xu_n (by omega)]; exact hcL
              have hc5 : M_7 5 = some (ad 5, .inr (2, [.long fa, .long fb])) := by rw [hM_7, xu_n (by omega)]; exact hc5
              have hc6 : M_7 6 = some (ad 6, .inl (G.2 0, 625, .inl (fun k => nI (zs k)))) := by rw [hM_7, xu_n (by omega)]; exact hc6
              have hc7 : M_7 7 = some (ad 7, .inl (G.2 0, 625, .inl (fun k => nI (os k)))) := by rw [hM_7, xu_n (by omega)]; exact hc7
              have hc8 : M_7 8 = some (ad 8, .inl (G.2 1, 625, .inr (.inl (fun k => lN (ab k))))) := by rw [hM_7, xu_n (by omega)]; exact hc8
              have hc9 : M_7 9 = some (ad 9, .inl (G.2 1, 625, .inr (.inl (fun k => lN (bl k))))) := by rw [hM_7, xu_n (by omega)]; exact hc9
              have hc10 : M_7 10 = some (ad 10, .inl (G.2 0, 625, .inl (fun k => nI (od k)))) := by rw [hM_7, xu_n (by omega)]; exact hc10
              have hc11 : M_7 11 = some (ad 11, .inl (G.2 0, 625, .inl (fun k => nI (sp k)))) := by rw [hM_7, xu_n (by omega)]; exact hc11
              have hc12 : M_7 12 = some (ad 12, .inl (G.2 2, 51, .inl (fun k => nI (pr k)))) := by rw [hM_7, xu_n (by omega)]; exact hc12
              have hc2 : M_7 2 = some (ad 2, .inl (G.2 1, 4, .inr (.inl (fun k => lN ((va_up wn kk (u * (2520 / d))) k))))) := by rw [hM_7]; exact xu_s
              refine lv_iconst (v := nI 1) hx hb dX4_weight_55 (by decide) ?_
              exact x_iret hx hb hr hlocks hK hA hX hS dX4_weight_56 (Or.inl ⟨kk, u, d, ⟨hk, hu, hd1, hd⟩, ⟨rfl, rfl, rfl⟩, rfl, hM_7⟩)
            · refine lv_iconst (v := nI 0) hx hb dX4_weight_39 (by decide) ?_
              exact x_iret hx hb hr hlocks hK hA hX hS dX4_weight_40 (Or.inr ⟨Or.inr (Or.inr (Or.inr (Or.inr (Or.inr (c_6))))), rfl, rfl⟩)

abbrev rmX4_pair : Room := { frames := 1, cells := 0, slots := 0, locals := 23 }
set_option maxHeartbeats 4000000 in
set_option maxRecDepth 100000 in
/-- pair -/
theorem ctX4_pair (l : Launch) (G : xG) (A : Nat → Prop) (M : xM) {ad : Nat → Nat} {nc : Nat} {sd : Nat → Int32} {jn : Nat → Int32} {tc : Nat → Nat} {dt : Nat → Int32} {fd : Nat → Int64} {ld : Nat → Int64} {tk : Nat → Nat → Int32} {kd : Nat → Nat → Int32} {wn : Nat → Nat} {jc : Nat} {jz : Nat → Nat} {jo : Nat → Nat} {ju : Nat → Int32} {bg : Int32} {cn : Nat} {zs : Nat → Nat} {os : Nat → Nat} {ab : Nat → Nat} {bl : Nat → Nat} {od : Nat → Nat} {sp : Nat → Nat} {pr : Nat → Nat} {fa : Int64} {fb : Int64} (hR : xRec G M ad nc sd jn tc dt fd ld tk kd wn jc jz jo ju bg cn zs os ab bl od sp pr fa fb) (p0 p1 : Int32) (hcn : cn ≤ 625) (hod : ∀ j, j < cn → od j < 625) : Met l yX4_pair wsX4_pair rmX4_pair (va_Pc ([.ref (ad 0), .int p0, .int p1] : List Value) (xPc G A M)) (va_Qi (fun r M1 => M1 = M ∧ ((∃ i, i < cn ∧ p0 = nI i ∧ (p1 = 0 ∨ p1 = nI 1) ∧ r = if p1 = nI 1 then nI (os (od i)) else nI (zs (od i))) ∨ (¬ ((¬ p0 < 0 ∧ ¬ nI cn ≤ p0) ∧ (p1 = 0 ∨ p1 = nI 1)) ∧ r = nI 0))) (xPc G A) A) 0 0 A := by
  refine x_met (cc := cX4_pair) (maxL := 3) (ret := (some .int)) RX4 (by decide) rfl (Nat.le_of_ble_eq_true rfl) rfl ?_
  intro p e s m below meth c hx hb hr hts hown hlocks hml hin hK hA hX ls hl
  have inX4 : ∀ w ∈ wsX40, w ∈ wsX4_pair := by decide +kernel
  have lk_fieldLink_37 := hts (.fieldLink RX4 37 "Reconcile" "latest" "LReconcile$Listing;") (by decide +kernel)
  have hS : va_S A s.heap s.heap [] := va_S.rf
  have hl : lv_has ls 3 [(0, .ref (ad 0)), (1, .int p0), (2, .int p1)] := hl
  obtain ⟨hc0, hc1, hc2, hc3, hcL, hc5, hc6, hc7, hc8, hc9, hc10, hc11, hc12, hnm, hjn⟩ := hR
  refine lv_aload_n hx hb dX4_pair_0 rfl (lv_at hl 0 rfl) ?_
  refine x_get (ci := 6) (v := .ref (ad 4)) (C := RX4) (T := TX4) (N := 7) hx hb hts inX4 hown hK hX hc0 rfl 5 (by decide) lk_fieldLink_37 (fun _ h9 => h9) rfl dX4_pair_1 ?_
  refine lv_iload_n hx hb dX4_pair_4 rfl (lv_at hl 1 rfl) ?_
  refine x_calli (x_runV (q := (RX2, TX2, 9)) (As := [.int p0]) (rest := []) ⟨hx, hb, hml, hown, hts⟩ (ctX2_holds l G A M hcL hc6 hc7 hc8 hc9 hc10 hc11 hc12 hcn p0) (cwV 1 hts gX4_pair_X2_holds rfl rfl rfl (by decide +kernel) ⟨Nat.le_of_ble_eq_true rfl, Nat.le_of_ble_eq_true rfl⟩) hK hA hX hS hcL rfl rfl hl.1 rfl (lv_room (Nat.le_of_ble_eq_true rfl)) dX4_pair_5 ⟨by decide, by decide⟩) hS (fun r_1 M_2 H locs hp hX hS => ?_)
  obtain ⟨hM_, er_1⟩ := hp
  rw [hM_] at hX
  refine lv_if_eq (tgt := 18) hx hb dX4_pair_8 (by decide) (fun c_3 => ?_) (fun c_3 => ?_)
  · have hh := x_if0 er_1 c_3
    refine lv_iconst (v := nI 0) hx hb dX4_pair_18 (by decide) ?_
    exact x_iret hx hb hr hlocks hK hA hX hS dX4_pair_19 (⟨rfl, Or.inr ⟨fun q => hh q.1, rfl⟩⟩)
  · have hh := x_if1 er_1 c_3
    obtain ⟨i, hi, ei⟩ := x_in (by omega) hh.1 hh.2
    subst ei
    refine lv_iload_n hx hb dX4_pair_11 rfl (lv_at hl 2 rfl) ?_
    refine x_calli (x_runS (As := [.int p1]) (rest := []) ⟨hx, hb, hml, hown, hts⟩ (ctX4_isSide l G A M p1) (cwS 1 hts gX4_pair_X4_isSide rfl rfl rfl (by decide +kernel) ⟨Nat.le_of_ble_eq_true rfl, Nat.le_of_ble_eq_true rfl⟩) hK hA hX hS rfl hl.1 rfl (lv_room (Nat.le_of_ble_eq_true rfl)) dX4_pair_12 ⟨by decide, by decide⟩) hS (fun r_4 M_5 H locs hp hX hS => ?_)
    obtain ⟨hM_, er_4⟩ := hp
    rw [hM_] at hX
    refine lv_if_ne (tgt := 20) hx hb dX4_pair_15 (by decide) (fun c_6 => ?_) (fun c_6 => ?_)
    · have hs := x_if1 er_4 c_6
      refine lv_aload_n hx hb dX4_pair_20 rfl (lv_at hl 0 rfl) ?_
      refine x_get (ci := 6) (v := .ref (ad 4)) (C := RX4) (T := TX4) (N := 7) hx hb hts inX4 hown hK hX hc0 rfl 5 (by decide) lk_fieldLink_37 (fun _ h9 => h9) rfl dX4_pair_21 ?_
      refine lv_iload_n hx hb dX4_pair_24 rfl (lv_at hl 1 rfl) ?_
      refine lv_iload_n hx hb dX4_pair_25 rfl (lv_at hl 2 rfl) ?_
      refine x_calli (x_runV (q := (RX2, TX2, 9)) (As := [.int (nI i), .int p1]) (rest := []) ⟨hx, hb, hml, hown, hts⟩ (ctX2_nameAt l G A M hcL hc6 hc7 hc8 hc9 hc10 hc11 hc12 hcn i p1 (by omega) (hod i hi)) (cwV 2 hts gX4_pair_X2_nameAt rfl rfl rfl (by decide +kernel) ⟨Nat.le_of_ble_eq_true rfl, Nat.le_of_ble_eq_true rfl⟩) hK hA hX hS hcL rfl rfl hl.1 rfl (lv_room (Nat.le_of_ble_eq_true rfl)) dX4_pair_26 ⟨by decide, by decide⟩) hS (fun r_7 M_8 H locs hp hX hS => ?_)
      obtain ⟨hM_, er_7⟩ := hp
      rw [hM_] at hX
      exact x_iret hx hb hr hlocks hK hA hX hS dX4_pair_29 (⟨rfl, Or.inl ⟨i, hi, rfl, hs, er_7⟩⟩)
    · have hs := x_if0 er_4 c_6
      refine lv_iconst (v := nI 0) hx hb dX4_pair_18 (by decide) ?_
      exact x_iret hx hb hr hlocks hK hA hX hS dX4_pair_19 (⟨rfl, Or.inr ⟨fun q => hs q.2, rfl⟩⟩)

abbrev rmX4_mutual : Room := { frames := 2, cells := 0, slots := 0, locals := 47 }
set_option maxHeartbeats 4000000 in
set_option maxRecDepth 100000 in
/-- mutual -/
theorem ctX4_mutual (l : Launch) (G : xG) (A : Nat → Prop) (M : xM) {ad : Nat → Nat} {nc : Nat} {sd : Nat → Int32} {jn : Nat → Int32} {tc : Nat → Nat} {dt : Nat → Int32} {fd : Nat → Int64} {ld : Nat → Int64} {tk : Nat → Nat → Int32} {kd : Nat → Nat → Int32} {wn : Nat → Nat} {jc : Nat} {jz : Nat → Nat} {jo : Nat → Nat} {ju : Nat → Int32} {bg : Int32} {cn : Nat} {zs : Nat → Nat} {os : Nat → Nat} {ab : Nat → Nat} {bl : Nat → Nat} {od : Nat → Nat} {sp : Nat → Nat} {pr : Nat → Nat} {fa : Int64} {fb : Int64} (hR : xRec G M ad nc sd jn tc dt fd ld tk kd wn jc jz jo ju bg cn zs os ab bl od sp pr fa fb) (p0 : Int32) (hcn : cn ≤ 625) (hob : ∀ j, j < cn → od j < 625 ∧ ab (od j) < 1000000000 ∧ bl (od j) < 1000000000) (hzs : ∀ j, j < 625 → zs j < 1000) (hos : ∀ j, j < 625 → os j < 1000) : Met l yX4_mutual wsX4_mutual rmX4_mutual (va_Pc ([.ref (ad 0), .int p0] : List Value) (xPc G A M)) (va_Qi (fun r M1 => M1 = M ∧ ((∃ i, i < cn ∧ p0 = nI i ∧ (r = 0 ∧ ¬ xBest zs os ab bl od i i ∨ r = 1 ∧ xBest zs os ab bl od i i)) ∨ (¬ (¬ p0 < 0 ∧ ¬ nI cn ≤ p0) ∧ r = (-1)))) (xPc G A) A) 0 0 A := by
  refine x_met (cc := cX4_mutual) (maxL := 2) (ret := (some .int)) RX4 (by decide) rfl (Nat.le_of_ble_eq_true rfl) rfl ?_
  intro p e s m below meth c hx hb hr hts hown hlocks hml hin hK hA hX ls hl
  have inX4 : ∀ w ∈ wsX40, w ∈ wsX4_mutual := by decide +kernel
  have lk_fieldLink_37 := hts (.fieldLink RX4 37 "Reconcile" "latest" "LReconcile$Listing;") (by decide +kernel)
  have hS : va_S A s.heap s.heap [] := va_S.rf
  have hl : lv_has ls 2 [(0, .ref (ad 0)), (1, .int p0)] := hl
  obtain ⟨hc0, hc1, hc2, hc3, hcL, hc5, hc6, hc7, hc8, hc9, hc10, hc11, hc12, hnm, hjn⟩ := hR
  refine lv_aload_n hx hb dX4_mutual_0 rfl (lv_at hl 0 rfl) ?_
  refine x_get (ci := 6) (v := .ref (ad 4)) (C := RX4) (T := TX4) (N := 7) hx hb hts inX4 hown hK hX hc0 rfl 5 (by decide) lk_fieldLink_37 (fun _ h9 => h9) rfl dX4_mutual_1 ?_
  refine lv_iload_n hx hb dX4_mutual_4 rfl (lv_at hl 1 rfl) ?_
  refine x_calli (x_runV (q := (RX2, TX2, 9)) (As := [.int p0]) (rest := []) ⟨hx, hb, hml, hown, hts⟩ (ctX2_holds l G A M hcL hc6 hc7 hc8 hc9 hc10 hc11 hc12 hcn p0) (cwV 1 hts gX4_mutual_X2_holds rfl rfl rfl (by decide +kernel) ⟨Nat.le_of_ble_eq_true rfl, Nat.le_of_ble_eq_true rfl⟩) hK hA hX hS hcL rfl rfl hl.1 rfl (lv_room (Nat.le_of_ble_eq_true rfl)) dX4_mutual_5 ⟨by decide, by decide⟩) hS (fun r_1 M_2 H locs hp hX hS => ?_)
  obtain ⟨hM_, er_1⟩ := hp
  rw [hM_] at hX
  refine lv_if_ne (tgt := 13) hx hb dX4_mutual_8 (by decide) (fun c_3 => ?_) (fun c_3 => ?_)
  · have hh := x_if1 er_1 c_3
    obtain ⟨i, hi, ei⟩ := x_in (by omega) hh.1 hh.2
    subst ei
    refine lv_aload_n hx hb dX4_mutual_13 rfl (lv_at hl 0 rfl) ?_
    refine x_get (ci := 6) (v := .ref (ad 4)) (C := RX4) (T := TX4) (N := 7) hx hb hts inX4 hown hK hX hc0 rfl 5 (by decide) lk_fieldLink_37 (fun _ h9 => h9) rfl dX4_mutual_14 ?_
    refine lv_iload_n hx hb dX4_mutual_17 rfl (lv_at hl 1 rfl) ?_
    refine x_calli (x_runV (q := (RX2, TX2, 9)) (As := [.int (nI i)]) (rest := []) ⟨hx, hb, hml, hown, hts⟩ (ctX2_isBestOfBoth l G A M hcL hc6 hc7 hc8 hc9 hc10 hc11 hc12 hcn i hi hob hzs hos) (cwV 1 hts gX4_mutual_X2_isBestOfBoth rfl rfl rfl (by decide +kernel) ⟨Nat.le_of_ble_eq_true rfl, Nat.le_of_ble_eq_true rfl⟩) hK hA hX hS hcL rfl rfl hl.1 rfl (lv_room (Nat.le_of_ble_eq_true rfl)) dX4_mutual_18 ⟨by decide, by decide⟩) hS (fun r_4 M_5 H locs hp hX hS => ?_)
    obtain ⟨hM_, er_4⟩ := hp
    rw [hM_] at hX
    refine lv_if_eq (tgt := 28) hx hb dX4_mutual_21 (by decide) (fun c_6 => ?_) (fun c_6 => ?_)
    · refine lv_iconst (v := nI 0) hx hb dX4_mutual_28 (by decide) ?_
      exact x_iret hx hb hr hlocks hK hA hX hS dX4_mutual_29 (⟨rfl, Or.inl ⟨i, hi, rfl, Or.inl ⟨rfl, er_4.elim (fun q => q.2) (fun q => absurd (q.1.symm.trans c_6) (by decide))⟩⟩⟩)
    · refine lv_iconst (v := nI 1) hx hb dX4_mutual_24 (by decide) ?_
      refine lv_goto (tgt := 29) hx hb dX4_mutual_25 (by decide) ?_
      exact x_iret hx hb hr hlocks hK hA hX hS dX4_mutual_29 (⟨rfl, Or.inl ⟨i, hi, rfl, Or.inr ⟨rfl, er_4.elim (fun q => absurd q.1 c_6) (fun q => q.2)⟩⟩⟩)
  · have hh := x_if0 er_1 c_3
    refine lv_iconst (v := (-1)) hx hb dX4_mutual_11 (by decide) ?_
    exact x_iret hx hb hr hlocks hK hA hX hS dX4_mutual_12 (⟨rfl, Or.inr ⟨hh, rfl⟩⟩)

abbrev rmX4_sample : Room := { frames := 1, cells := 0, slots := 0, locals := 28 }
set_option maxHeartbeats 4000000 in
set_option maxRecDepth 100000 in
/-- sample -/
theorem ctX4_sample (l : Launch) (G : xG) (A : Nat → Prop) (M : xM) {ad : Nat → Nat} {nc : Nat} {sd : Nat → Int32} {jn : Nat → Int32} {tc : Nat → Nat} {dt : Nat → Int32} {fd : Nat → Int64} {ld : Nat → Int64} {tk : Nat → Nat → Int32} {kd : Nat → Nat → Int32} {wn : Nat → Nat} {jc : Nat} {jz : Nat → Nat} {jo : Nat → Nat} {ju : Nat → Int32} {bg : Int32} {cn : Nat} {zs : Nat → Nat} {os : Nat → Nat} {ab : Nat → Nat} {bl : Nat → Nat} {od : Nat → Nat} {sp : Nat → Nat} {pr : Nat → Nat} {fa : Int64} {fb : Int64} (hR : xRec G M ad nc sd jn tc dt fd ld tk kd wn jc jz jo ju bg cn zs os ab bl od sp pr fa fb) (p1 : Int64) (p0 : Int32) (hcn : cn ≤ 625) : Met l yX4_sample wsX4_sample rmX4_sample (va_Pc ([.ref (ad 0), .long p1, .int p0] : List Value) (xPc G A M)) (va_Qi (fun r M1 => (∃ i, i < cn ∧ p0 = nI i ∧ r = nI (xMix (cn - 1) p1 (xIota sp cn) i) ∧ ∃ s7 : Nat → Nat, M1 = xu M 11 (ad 11, .inl (G.2 0, 625, .inl (fun k => nI (s7 k))))) ∨ (¬ (¬ p0 < 0 ∧ ¬ nI cn ≤ p0) ∧ r = (-1) ∧ M1 = M)) (xPc G A) A) 0 0 A := by
  refine x_met (cc := cX4_sample) (maxL := 4) (ret := (some .int)) RX4 (by decide) rfl (Nat.le_of_ble_eq_true rfl) rfl ?_
  intro p e s m below meth c hx hb hr hts hown hlocks hml hin hK hA hX ls hl
  have inX4 : ∀ w ∈ wsX40, w ∈ wsX4_sample := by decide +kernel
  have lk_fieldLink_37 := hts (.fieldLink RX4 37 "Reconcile" "latest" "LReconcile$Listing;") (by decide +kernel)
  have hS : va_S A s.heap s.heap [] := va_S.rf
  have hl : lv_has ls 4 [(0, .ref (ad 0)), (1, .long p1), (3, .int p0)] := hl
  obtain ⟨hc0, hc1, hc2, hc3, hcL, hc5, hc6, hc7, hc8, hc9, hc10, hc11, hc12, hnm, hjn⟩ := hR
  refine lv_aload_n hx hb dX4_sample_0 rfl (lv_at hl 0 rfl) ?_
  refine x_get (ci := 6) (v := .ref (ad 4)) (C := RX4) (T := TX4) (N := 7) hx hb hts inX4 hown hK hX hc0 rfl 5 (by decide) lk_fieldLink_37 (fun _ h9 => h9) rfl dX4_sample_1 ?_
  refine lv_iload_n hx hb dX4_sample_4 rfl (lv_at hl 2 rfl) ?_
  refine x_calli (x_runV (q := (RX2, TX2, 9)) (As := [.int p0]) (rest := []) ⟨hx, hb, hml, hown, hts⟩ (ctX2_holds l G A M hcL hc6 hc7 hc8 hc9 hc10 hc11 hc12 hcn p0) (cwV 1 hts gX4_sample_X2_holds rfl rfl rfl (by decide +kernel) ⟨Nat.le_of_ble_eq_true rfl, Nat.le_of_ble_eq_true rfl⟩) hK hA hX hS hcL rfl rfl hl.1 rfl (lv_room (Nat.le_of_ble_eq_true rfl)) dX4_sample_5 ⟨by decide, by decide⟩) hS (fun r_1 M_2 H locs hp hX hS => ?_)
  obtain ⟨hM_, er_1⟩ := hp
  rw [hM_] at hX
  refine lv_if_ne (tgt := 13) hx hb dX4_sample_8 (by decide) (fun c_3 => ?_) (fun c_3 => ?_)
  · have hh := x_if1 er_1 c_3
    obtain ⟨i, hi, ei⟩ := x_in (by omega) hh.1 hh.2
    subst ei
    refine lv_aload_n hx hb dX4_sample_13 rfl (lv_at hl 0 rfl) ?_
    refine x_get (ci := 6) (v := .ref (ad 4)) (C := RX4) (T := TX4) (N := 7) hx hb hts inX4 hown hK hX hc0 rfl 5 (by decide) lk_fieldLink_37 (fun _ h9 => h9) rfl dX4_sample_14 ?_
    refine lv_lload_n hx hb dX4_sample_17 rfl (lv_at hl 1 rfl) ?_
    refine lv_iload_n hx hb dX4_sample_18 rfl (lv_at hl 2 rfl) ?_
    refine x_calli (x_runV (q := (RX2, TX2, 9)) (As := [.long p1, .int (nI i)]) (rest := []) ⟨hx, hb, hml, hown, hts⟩ (ctX2_placeAfterMixing l G A M hcL hc6 hc7 hc8 hc9 hc10 hc11 hc12 hcn p1 i hi) (cwV 2 hts gX4_sample_X2_placeAfterMixing rfl rfl rfl (by decide +kernel) ⟨Nat.le_of_ble_eq_true rfl, Nat.le_of_ble_eq_true rfl⟩) hK hA hX hS hcL rfl rfl hl.1 rfl (lv_room (Nat.le_of_ble_eq_true rfl)) dX4_sample_19 ⟨by decide, by decide⟩) hS (fun r_4 M_5 H locs hp hX hS => ?_)
    obtain ⟨s7, hM7, e7⟩ := hp
    exact x_iret hx hb hr hlocks hK hA hX hS dX4_sample_22 (Or.inl ⟨i, hi, rfl, e7, s7, hM7⟩)
  · have hh := x_if0 er_1 c_3
    refine lv_iconst (v := (-1)) hx hb dX4_sample_11 (by decide) ?_
    exact x_iret hx hb hr hlocks hK hA hX hS dX4_sample_12 (Or.inr ⟨hh, rfl, rfl⟩)

abbrev rmX4_best : Room := { frames := 2, cells := 0, slots := 0, locals := 48 }
set_option maxHeartbeats 4000000 in
set_option maxRecDepth 100000 in
/-- best -/
theorem ctX4_best (l : Launch) (G : xG) (A : Nat → Prop) (M : xM) {ad : Nat → Nat} {nc : Nat} {sd : Nat → Int32} {jn : Nat → Int32} {tc : Nat → Nat} {dt : Nat → Int32} {fd : Nat → Int64} {ld : Nat → Int64} {tk : Nat → Nat → Int32} {kd : Nat → Nat → Int32} {wn : Nat → Nat} {jc : Nat} {jz : Nat → Nat} {jo : Nat → Nat} {ju : Nat → Int32} {bg : Int32} {cn : Nat} {zs : Nat → Nat} {os : Nat → Nat} {ab : Nat → Nat} {bl : Nat → Nat} {od : Nat → Nat} {sp : Nat → Nat} {pr : Nat → Nat} {fa : Int64} {fb : Int64} (hR : xRec G M ad nc sd jn tc dt fd ld tk kd wn jc jz jo ju bg cn zs os ab bl od sp pr fa fb) (p0 p1 p2 : Int32) (hcn : cn ≤ 625) (hod : ∀ j, j < cn → od j < 625) : Met l yX4_best wsX4_best rmX4_best (va_Pc ([.ref (ad 0), .int p0, .int p1, .int p2] : List Value) (xPc G A M)) (va_Qi (fun r M1 => M1 = M ∧ ((∃ sx, sx ≤ 1 ∧ p0 = nI sx ∧ 0 ≤ p2 ∧ r = xScan (fun j => decide ((if sx = 1 then nI (os (od j)) else nI (zs (od j))) = p1)) (fun j => if sx = 1 then nI (zs (od j)) else nI (os (od j))) p2 cn 0 0) ∨ (¬ ((p0 = 0 ∨ p0 = nI 1) ∧ 0 ≤ p2) ∧ r = nI 0))) (xPc G A) A) 0 0 A := by
  refine x_met (cc := cX4_best) (maxL := 4) (ret := (some .int)) RX4 (by decide) rfl (Nat.le_of_ble_eq_true rfl) rfl ?_
  intro p e s m below meth c hx hb hr hts hown hlocks hml hin hK hA hX ls hl
  have inX4 : ∀ w ∈ wsX40, w ∈ wsX4_best := by decide +kernel
  have lk_fieldLink_37 := hts (.fieldLink RX4 37 "Reconcile" "latest" "LReconcile$Listing;") (by decide +kernel)
  have hS : va_S A s.heap s.heap [] := va_S.rf
  have hl : lv_has ls 4 [(0, .ref (ad 0)), (1, .int p0), (2, .int p1), (3, .int p2)] := hl
  obtain ⟨hc0, hc1, hc2, hc3, hcL, hc5, hc6, hc7, hc8, hc9, hc10, hc11, hc12, hnm, hjn⟩ := hR
  refine lv_iload_n hx hb dX4_best_0 rfl (lv_at hl 1 rfl) ?_
  refine x_calli (x_runS (As := [.int p0]) (rest := []) ⟨hx, hb, hml, hown, hts⟩ (ctX4_isSide l G A M p0) (cwS 1 hts gX4_best_X4_isSide rfl rfl rfl (by decide +kernel) ⟨Nat.le_of_ble_eq_true rfl, Nat.le_of_ble_eq_true rfl⟩) hK hA hX hS rfl hl.1 rfl (lv_room (Nat.le_of_ble_eq_true rfl)) dX4_best_1 ⟨by decide, by decide⟩) hS (fun r_1 M_2 H locs hp hX hS => ?_)
  obtain ⟨hM_, er_1⟩ := hp
  rw [hM_] at hX
  refine lv_if_eq (tgt := 11) hx hb dX4_best_4 (by decide) (fun c_3 => ?_) (fun c_3 => ?_)
  · have hs := x_if0 er_1 c_3
    refine lv_iconst (v := nI 0) hx hb dX4_best_11 (by decide) ?_
    exact x_iret hx hb hr hlocks hK hA hX hS dX4_best_12 (⟨rfl, Or.inr ⟨fun q => hs q.1, rfl⟩⟩)
  · have hs := x_if1 er_1 c_3
    refine lv_iload_n hx hb dX4_best_7 rfl (lv_at hl 3 rfl) ?_
    refine lv_if_ge (tgt := 13) hx hb dX4_best_8 (by decide) (fun c_4 => ?_) (fun c_4 => ?_)
    · obtain ⟨sx, hsx, es⟩ : ∃ sx, sx ≤ 1 ∧ p0 = nI sx := by rcases hs with q | q; exact ⟨0, by omega, q⟩; exact ⟨1, by omega, q⟩
      subst es
      refine lv_aload_n hx hb dX4_best_13 rfl (lv_at hl 0 rfl) ?_
      refine x_get (ci := 6) (v := .ref (ad 4)) (C := RX4) (T := TX4) (N := 7) hx hb hts inX4 hown hK hX hc0 rfl 5 (by decide) lk_fieldLink_37 (fun _ h9 => h9) rfl dX4_best_14 ?_
      refine lv_iload_n hx hb dX4_best_17 rfl (lv_at hl 1 rfl) ?_
      refine lv_iload_n hx hb dX4_best_18 rfl (lv_at hl 2 rfl) ?_
      refine lv_iload_n hx hb dX4_best_19 rfl (lv_at hl 3 rfl) ?_
      refine x_calli (x_runV (q := (RX2, TX2, 9)) (As := [.int (nI sx), .int p1, .int p2]) (rest := []) ⟨hx, hb, hml, hown, hts⟩ (ctX2_partner l G A M hcL hc6 hc7 hc8 hc9 hc10 hc11 hc12 hcn sx hsx p1 p2 hod) (cwV 3 hts gX4_best_X2_partner rfl rfl rfl (by decide +kernel) ⟨Nat.le_of_ble_eq_true rfl, Nat.le_of_ble_eq_true rfl⟩) hK hA hX hS hcL rfl rfl hl.1 rfl (lv_room (Nat.le_of_ble_eq_true rfl)) dX4_best_20 ⟨by decide, by decide⟩) hS (fun r_5 M_6 H locs hp hX hS => ?_)
      obtain ⟨hM_, er_5⟩ := hp
      rw [hM_] at hX
      exact x_iret hx hb hr hlocks hK hA hX hS dX4_best_23 (⟨rfl, Or.inl ⟨sx, hsx, rfl, c_4, er_5⟩⟩)
    · refine lv_iconst (v := nI 0) hx hb dX4_best_11 (by decide) ?_
      exact x_iret hx hb hr hlocks hK hA hX hS dX4_best_12 (⟨rfl, Or.inr ⟨fun q => c_4 q.2, rfl⟩⟩)

abbrev rmX4_none : Room := { frames := 1, cells := 0, slots := 0, locals := 21 }
set_option maxHeartbeats 4000000 in
set_option maxRecDepth 100000 in
/-- none -/
theorem ctX4_none (l : Launch) (G : xG) (A : Nat → Prop) (M : xM) {ad : Nat → Nat} {nc : Nat} {sd : Nat → Int32} {jn : Nat → Int32} {tc : Nat → Nat} {dt : Nat → Int32} {fd : Nat → Int64} {ld : Nat → Int64} {tk : Nat → Nat → Int32} {kd : Nat → Nat → Int32} {wn : Nat → Nat} {jc : Nat} {jz : Nat → Nat} {jo : Nat → Nat} {ju : Nat → Int32} {bg : Int32} {cn : Nat} {zs : Nat → Nat} {os : Nat → Nat} {ab : Nat → Nat} {bl : Nat → Nat} {od : Nat → Nat} {sp : Nat → Nat} {pr : Nat → Nat} {fa : Int64} {fb : Int64} (hR : xRec G M ad nc sd jn tc dt fd ld tk kd wn jc jz jo ju bg cn zs os ab bl od sp pr fa fb) (p0 : Int32) (hnc : nc ≤ 50) (hcn : cn ≤ 625) (hpr : ∀ j, j ≤ 50 → pr j ≤ 1) : Met l yX4_none wsX4_none rmX4_none (va_Pc ([.ref (ad 0), .int p0] : List Value) (xPc G A M)) (va_Qi (fun r M1 => M1 = M ∧ r = if p0 < 0 ∨ bg = 0 then nI 0 else xScan (fun j => decide (sd j = 0) && decide (pr (j + 1) = 0)) (fun j => nI (j + 1)) p0 nc 0 0) (xPc G A) A) 0 0 A := by
  refine x_met (cc := cX4_none) (maxL := 5) (ret := (some .int)) RX4 (by decide) rfl (Nat.le_of_ble_eq_true rfl) rfl ?_
  intro p e s m below meth c hx hb hr hts hown hlocks hml hin hK hA hX ls hl
  have inX2 : ∀ w ∈ wsX20, w ∈ wsX4_none := by decide +kernel
  have inX3 : ∀ w ∈ wsX30, w ∈ wsX4_none := by decide +kernel
  have inX4 : ∀ w ∈ wsX40, w ∈ wsX4_none := by decide +kernel
  have lk_fieldLink_37 := hts (.fieldLink RX4 37 "Reconcile" "latest" "LReconcile$Listing;") (by decide +kernel)
  have lk_fieldLink_145 := hts (.fieldLink RX4 145 "Reconcile$Listing" "begun" "Z") (by decide +kernel)
  have lk_fieldLink_15 := hts (.fieldLink RX4 15 "Reconcile" "nameCount" "I") (by decide +kernel)
  have lk_fieldLink_148 := hts (.fieldLink RX4 148 "Reconcile$Name" "side" "I") (by decide +kernel)
  have hS : va_S A s.heap s.heap [] := va_S.rf
  have hl : lv_has ls 5 [(0, .ref (ad 0)), (1, .int p0)] := hl
  have hRR := hR
  obtain ⟨hc0, hc1, hc2, hc3, hcL, hc5, hc6, hc7, hc8, hc9, hc10, hc11, hc12, hnm, hjn⟩ := hR
  refine lv_iload_n hx hb dX4_none_0 rfl (lv_at hl 1 rfl) ?_
  refine lv_if_lt (tgt := 14) hx hb dX4_none_1 (by decide) (fun c_1 => ?_) (fun c_1 => ?_)
  · refine lv_iconst (v := nI 0) hx hb dX4_none_14 (by decide) ?_
    exact x_iret hx hb hr hlocks hK hA hX hS dX4_none_15 (⟨rfl, by rw [if_pos (Or.inl c_1)]⟩)
  · refine lv_aload_n hx hb dX4_none_4 rfl (lv_at hl 0 rfl) ?_
    refine x_get (ci := 6) (v := .ref (ad 4)) (C := RX4) (T := TX4) (N := 7) hx hb hts inX4 hown hK hX hc0 rfl 5 (by decide) lk_fieldLink_37 (fun _ h9 => h9) rfl dX4_none_5 ?_
    refine x_get (ci := 4) (v := .int bg) (C := RX2) (T := TX2) (N := 9) hx hb hts inX2 hown hK hX hcL rfl 0 (by decide) lk_fieldLink_145 (fun _ h9 => h9) rfl dX4_none_8 ?_
    refine lv_if_ne (tgt := 16) hx hb dX4_none_11 (by decide) (fun c_2 => ?_) (fun c_2 => ?_)
    · refine lv_iconst (v := nI 0) hx hb dX4_none_16 (by decide) ?_
      refine lv_istore_n (lv' := [(2, .int (nI 0)), (0, .ref (ad 0)), (1, .int p0)]) hx hb dX4_none_17 rfl hl (by decide) rfl (fun ls hl => ?_)
      refine lv_iconst (v := nI 1) hx hb dX4_none_18 (by decide) ?_
      refine lv_istore_n (lv' := [(3, .int (nI 1)), (2, .int (nI 0)), (0, .ref (ad 0)), (1, .int p0)]) hx hb dX4_none_19 rfl hl (by decide) rfl (fun ls hl => ?_)
      refine W.eq (g2 := F0 m 20 ls []) rfl ?_
      have hng : ¬ (p0 < 0 ∨ bg = 0) := fun q => q.elim c_1 c_2
      have loop : ∀ (n : Nat) (i : Nat) (b : Nat) (H : Heap) (locs : List Loc) (ls : Array Slot), nc < i + n → (i ≤ nc) → (b ≤ i) → (xScan (fun j => decide (sd j = 0) && decide (pr (j + 1) = 0)) (fun j => nI (j + 1)) p0 (nc - i) i b = xScan (fun j => decide (sd j = 0) && decide (pr (j + 1) = 0)) (fun j => nI (j + 1)) p0 nc 0 0) → xw G.1 vwCl A M H → va_S A s.heap H locs → lv_has ls 5 [(3, .int (nI (i + 1))), (2, .int (nI b)), (0, .ref (ad 0)), (1, .int p0)] → W p l e rmX4_none s m ([.ref (ad 0), .int p0] : List Value).toArray below meth c H locs 0 0 (MQ below (va_Qi (fun r M1 => M1 = M ∧ r = if p0 < 0 ∨ bg = 0 then nI 0 else xScan (fun j => decide (sd j = 0) && decide (pr (j + 1) = 0)) (fun j => nI (j + 1)) p0 nc 0 0) (xPc G A) A) ([.ref (ad 0), .int p0] : List Value).toArray s 0 0 A) (F0 m 20 ls []) := by
        intro n
        induction n with
        | zero => intro i b H locs ls hn0 hi9 hb9 hv; exact absurd hn0 (by omega)
        | succ n ih =>
          intro i b H locs ls hn0 hi9 hb9 hv hX hS hl
          refine lv_iload_n hx hb dX4_none_20 rfl (lv_at hl 0 rfl) ?_
          refine lv_aload_n hx hb dX4_none_21 rfl (lv_at hl 2 rfl) ?_
          refine x_get (ci := 6) (v := .int (nI nc)) (C := RX4) (T := TX4) (N := 7) hx hb hts inX4 hown hK hX hc0 rfl 1 (by decide) lk_fieldLink_15 (fun _ h9 => h9) rfl dX4_none_22 ?_
          refine lv_icmp_gt (tgt := 75) hx hb dX4_none_25 (by decide) (fun c_3 => ?_) (fun c_3 => ?_)
          · have c_3 : nc < (i + 1) := (nI_ltI (by omega) (by omega)).mp c_3
            refine lv_iconst (v := nI 0) hx hb dX4_none_75 (by decide) ?_
            exact x_iret hx hb hr hlocks hK hA hX hS dX4_none_76 (⟨rfl, by rw [if_neg hng, ← hv, xScan_0 (by omega)]; rfl⟩)
          · have c_3 : ¬ (nc < (i + 1)) := fun q => c_3 ((nI_ltI (by omega) (by omega)).mpr q)
            refine lv_aload_n hx hb dX4_none_28 rfl (lv_at hl 2 rfl) ?_
            refine lv_iload_n hx hb dX4_none_29 rfl (lv_at hl 0 rfl) ?_
            refine x_callq (x_runV (q := (RX4, TX4, 7)) (As := [.int (nI (i + 1))]) (rest := []) ⟨hx, hb, hml, hown, hts⟩ (ctX4_find l G A M hRR (nI (i + 1)) hnc) (cwV 1 hts gX4_none_X4_find rfl rfl rfl (by decide +kernel) ⟨Nat.le_of_ble_eq_true rfl, Nat.le_of_ble_eq_true rfl⟩) hK hA hX hS hc0 rfl rfl hl.1 rfl (lv_room (Nat.le_of_ble_eq_true rfl)) dX4_none_30 ⟨by decide, by decide⟩) hS (fun r_4 M_5 H locs hp hX hS => ?_)
            obtain ⟨hM_, hq_r_4⟩ := hp
            rw [hM_] at hX
            rcases hq_r_4 with ⟨i2, hi2, ep, er⟩ | ⟨ep, er⟩
            · subst er
              obtain ⟨hn0, hn1, hn2⟩ := hnm i2 hi2
              refine x_rv (y := .ref (ad (100 + 3 * i2))) rfl ?_
              have eii : i = i2 := by have q := (nI_eq (a := i + 1) (b := i2 + 1) (by omega) (by omega)).mp ep; omega
              subst eii
              refine lv_astore (lv' := [(4, .ref (ad (100 + 3 * i))), (3, .int (nI (i + 1))), (2, .int (nI b)), (0, .ref (ad 0)), (1, .int p0)]) hx hb dX4_none_33 hl (by decide) rfl (fun ls hl => ?_)
              refine lv_aload hx hb dX4_none_35 (lv_at hl 0 rfl) ?_
              refine lv_ifnull hx hb dX4_none_37 ?_
              refine lv_aload hx hb dX4_none_40 (lv_at hl 0 rfl) ?_
              refine x_get (ci := 5) (v := .int (sd i)) (C := RX3) (T := TX3) (N := 8) hx hb hts inX3 hown hK hX hn0 rfl 0 (by decide) lk_fieldLink_148 (fun _ h9 => h9) rfl dX4_none_42 ?_
              refine lv_if_ne (tgt := 69) hx hb dX4_none_45 (by decide) (fun c_6 => ?_) (fun c_6 => ?_)
              · have hP : (fun j => decide (sd j = 0) && decide (pr (j + 1) = 0)) i = false := by show (decide (sd i = 0) && _) = false; rw [decide_eq_false c_6]; rfl
                refine lv_iinc (v := nI ((i + 1) + 1)) (lv' := [(3, .int (nI ((i + 1) + 1))), (4, .ref (ad (100 + 3 * i))), (2, .int (nI b)), (0, .ref (ad 0)), (1, .int p0)]) hx hb dX4_none_69 hl (k := 1) rfl (show nI (i + 1) + Int32.ofInt 1 = _ from nI_add _ 1) (by decide) rfl (fun ls hl => ?_)
                refine lv_goto (tgt := 20) hx hb dX4_none_72 (by decide) ?_
                exact ih (i + 1) b _ _ ls (by omega) (by omega) (by omega) (by have q := xScan_pass (P := (fun j => decide (sd j = 0) && decide (pr (j + 1) = 0))) (i := i) (v := (fun j => nI (j + 1))) (k := p0) (f := nc - i) (b := b) hP (by omega); rw [Nat.sub_sub] at q; exact q.symm.trans hv) hX hS (lv_sub hl [0, 2, 3, 4] rfl)
              · refine lv_aload_n hx hb dX4_none_48 rfl (lv_at hl 3 rfl) ?_
                refine x_get (ci := 6) (v := .ref (ad 4)) (C := RX4) (T := TX4) (N := 7) hx hb hts inX4 hown hK hX hc0 rfl 5 (by decide) lk_fieldLink_37 (fun _ h9 => h9) rfl dX4_none_49 ?_
                refine lv_iload_n hx hb dX4_none_52 rfl (lv_at hl 1 rfl) ?_
                refine x_calli (x_runV (q := (RX2, TX2, 9)) (As := [.int (nI (i + 1))]) (rest := []) ⟨hx, hb, hml, hown, hts⟩ (ctX2_hasName l G A M hcL hc6 hc7 hc8 hc9 hc10 hc11 hc12 hcn (i + 1) (by omega) hpr) (cwV 1 hts gX4_none_X2_hasName rfl rfl rfl (by decide +kernel) ⟨Nat.le_of_ble_eq_true rfl, Nat.le_of_ble_eq_true rfl⟩) hK hA hX hS hcL rfl rfl hl.1 rfl (lv_room (Nat.le_of_ble_eq_true rfl)) dX4_none_53 ⟨by decide, by decide⟩) hS (fun r_7 M_8 H locs hp hX hS => ?_)
                obtain ⟨hM_, er_7⟩ := hp
                rw [hM_] at hX
                refine lv_if_ne (tgt := 69) hx hb dX4_none_56 (by decide) (fun c_9 => ?_) (fun c_9 => ?_)
                · have hpz : ¬ pr (i + 1) = 0 := fun q => c_9 (by rw [er_7, if_pos q])
                  have hP : (fun j => decide (sd j = 0) && decide (pr (j + 1) = 0)) i = false := by show (_ && decide (pr (i + 1) = 0)) = false; rw [decide_eq_false hpz, Bool.and_false]
                  refine lv_iinc (v := nI ((i + 1) + 1)) (lv' := [(3, .int (nI ((i + 1) + 1))), (4, .ref (ad (100 + 3 * i))), (2, .int (nI b)), (0, .ref (ad 0)), (1, .int p0)]) hx hb dX4_none_69 hl (k := 1) rfl (show nI (i + 1) + Int32.ofInt 1 = _ from nI_add _ 1) (by decide) rfl (fun ls hl => ?_)
                  refine lv_goto (tgt := 20) hx hb dX4_none_72 (by decide) ?_
                  exact ih (i + 1) b _ _ ls (by omega) (by omega) (by omega) (by have q := xScan_pass (P := (fun j => decide (sd j = 0) && decide (pr (j + 1) = 0))) (i := i) (v := (fun j => nI (j + 1))) (k := p0) (f := nc - i) (b := b) hP (by omega); rw [Nat.sub_sub] at q; exact q.symm.trans hv) hX hS (lv_sub hl [0, 2, 3, 4] rfl)
                · have hpz : pr (i + 1) = 0 := Classical.byContradiction (fun q => absurd (er_7.symm.trans c_9) (by rw [if_neg q]; decide))
                  have hP : (fun j => decide (sd j = 0) && decide (pr (j + 1) = 0)) i = true := by show (decide (sd i = 0) && decide (pr (i + 1) = 0)) = true; rw [decide_eq_true c_6, decide_eq_true hpz]; rfl
                  refine lv_iload_n hx hb dX4_none_59 rfl (lv_at hl 2 rfl) ?_
                  refine lv_iload_n hx hb dX4_none_60 rfl (lv_at hl 4 rfl) ?_
                  refine lv_icmp_ne (tgt := 66) hx hb dX4_none_61 (by decide) (fun c_10 => ?_) (fun c_10 => ?_)
                  · refine lv_iinc (v := nI (b + 1)) (lv' := [(2, .int (nI (b + 1))), (4, .ref (ad (100 + 3 * i))), (3, .int (nI (i + 1))), (0, .ref (ad 0)), (1, .int p0)]) hx hb dX4_none_66 hl (k := 2) rfl (show nI b + Int32.ofInt 1 = _ from nI_add _ 1) (by decide) rfl (fun ls hl => ?_)
                    refine lv_iinc (v := nI ((i + 1) + 1)) (lv' := [(3, .int (nI ((i + 1) + 1))), (2, .int (nI (b + 1))), (4, .ref (ad (100 + 3 * i))), (0, .ref (ad 0)), (1, .int p0)]) hx hb dX4_none_69 hl (k := 2) rfl (show nI (i + 1) + Int32.ofInt 1 = _ from nI_add _ 1) (by decide) rfl (fun ls hl => ?_)
                    refine lv_goto (tgt := 20) hx hb dX4_none_72 (by decide) ?_
                    exact ih (i + 1) (b + 1) _ _ ls (by omega) (by omega) (by omega) (by have q := xScan_miss (P := (fun j => decide (sd j = 0) && decide (pr (j + 1) = 0))) (i := i) (v := (fun j => nI (j + 1))) (k := p0) (f := nc - i) (b := b) hP c_10 (by omega); rw [Nat.sub_sub] at q; exact q.symm.trans hv) hX hS (lv_sub hl [0, 1, 3, 4] rfl)
                  · refine lv_iload_n hx hb dX4_none_64 rfl (lv_at hl 1 rfl) ?_
                    exact x_iret hx hb hr hlocks hK hA hX hS dX4_none_65 (⟨rfl, by rw [if_neg hng, ← hv, xScan_hit (P := (fun j => decide (sd j = 0) && decide (pr (j + 1) = 0))) (i := i) hP c_10 (by omega)]⟩)
            · subst er
              refine x_rv (y := .null) rfl ?_
              exact absurd ep (fun q => q.elim (fun z => by have := (nI_ltI (by omega) (by omega)).mp z; omega) (fun z => z ((nI_leI (by omega) (by omega)).mpr (by omega))))
      exact loop (nc + 1) 0 0 _ _ ls (by omega) (by omega) (by omega) rfl hX hS (lv_sub hl [0, 1, 2, 3] rfl)
    · refine lv_iconst (v := nI 0) hx hb dX4_none_14 (by decide) ?_
      exact x_iret hx hb hr hlocks hK hA hX hS dX4_none_15 (⟨rfl, by rw [if_pos (Or.inr c_2)]⟩)
