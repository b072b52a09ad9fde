/-! Reconcile: its state, its simple methods -/
def xRec (G : xG) (M : xM) (ad : Nat → Nat) (nc : Nat) (sd : Nat → Int32) (jn : Nat → Int32) (tc : Nat → Nat) (dt : Nat → Int32) (fd : Nat → Int64) (ld : Nat → Int64) (tk : Nat → Nat → Int32) (kd : Nat → Nat → Int32) (wn : Nat → Nat) (jc : Nat) (jz : Nat → Nat) (jo : Nat → Nat) (ju : Nat → Int32) (bg : Int32) (cn : Nat) (zs : Nat → Nat) (os : Nat → Nat) (ab : Nat → Nat) (bl : Nat → Nat) (od : Nat → Nat) (sp : Nat → Nat) (pr : Nat → Nat) (fa : Int64) (fb : Int64) : Prop :=
  M 0 = some (ad 0, .inr (6, [.ref (ad 1), .int (nI nc), .ref (ad 2), .ref (ad 3), .int (nI jc), .ref (ad 4), .ref (ad 5)])) ∧
  M 1 = some (ad 1, .inl (G.2 3, 50, .inr (.inr (.inr (.inr (fun k => if k < nc then some (ad (100 + 3 * k)) else none)))))) ∧
  M 2 = some (ad 2, .inl (G.2 1, 4, .inr (.inl (fun k => lN (wn k))))) ∧
  M 3 = some (ad 3, .inl (G.2 4, 100, .inr (.inr (.inr (.inr (fun k => if k < jc then some (ad (300 + k)) else none)))))) ∧
  M 4 = some (ad 4, .inr (4, [.int bg, .int (nI cn), .ref (ad 6), .ref (ad 7), .ref (ad 8), .ref (ad 9), .ref (ad 10), .ref (ad 11), .ref (ad 12)])) ∧
  M 5 = some (ad 5, .inr (2, [.long fa, .long fb])) ∧
  M 6 = some (ad 6, .inl (G.2 0, 625, .inl (fun k => nI (zs k)))) ∧
  M 7 = some (ad 7, .inl (G.2 0, 625, .inl (fun k => nI (os k)))) ∧
  M 8 = some (ad 8, .inl (G.2 1, 625, .inr (.inl (fun k => lN (ab k))))) ∧
  M 9 = some (ad 9, .inl (G.2 1, 625, .inr (.inl (fun k => lN (bl k))))) ∧
  M 10 = some (ad 10, .inl (G.2 0, 625, .inl (fun k => nI (od k)))) ∧
  M 11 = some (ad 11, .inl (G.2 0, 625, .inl (fun k => nI (sp k)))) ∧
  M 12 = some (ad 12, .inl (G.2 2, 51, .inl (fun k => nI (pr k)))) ∧
  (∀ i, i < nc → M (100 + 3 * i) = some (ad (100 + 3 * i), .inr (5, [.int (sd i), .int (jn i), .ref (ad (100 + 3 * i + 1)), .ref (ad (100 + 3 * i + 2)), .int (nI (tc i)), .int (dt i), .long (fd i), .long (ld i)])) ∧ M (100 + 3 * i + 1) = some (ad (100 + 3 * i + 1), .inl (G.2 0, 8, .inl (tk i))) ∧ M (100 + 3 * i + 2) = some (ad (100 + 3 * i + 2), .inl (G.2 0, 8, .inl (kd i)))) ∧
  (∀ j, j < jc → M (300 + j) = some (ad (300 + j), .inr (3, [.ref (ad (100 + 3 * jz j)), .ref (ad (100 + 3 * jo j)), .int (ju j)])))

theorem x_p1 {x : Int32} {n : Nat} (hn : n < 2 ^ 31) (h1 : ¬ x < nI 1) (h2 : x ≤ nI n) : ∃ i, i < n ∧ x = nI (i + 1) := by
  have h0 : ¬ x < 0 := fun q => h1 (by rw [Int32.lt_iff_toInt_lt] at q ⊢; rw [nI_toInt (by omega)]; have : (0 : Int32).toInt = 0 := rfl; omega)
  obtain ⟨j, hj, rfl⟩ := nI_of h0
  have q2 := (nI_leI hj hn).mp h2
  rcases Nat.eq_zero_or_pos j with z | z
  · subst z
    exact absurd ((nI_ltI (by omega) (by omega)).mpr (by omega)) h1
  · exact ⟨j - 1, by omega, by rw [show j - 1 + 1 = j by omega]⟩
theorem x_in {x : Int32} {n : Nat} (hn : n < 2 ^ 31) (h1 : ¬ x < 0) (h2 : ¬ nI n ≤ x) : ∃ i, i < n ∧ x = nI i := by
  obtain ⟨j, hj, rfl⟩ := nI_of h1
  exact ⟨j, Nat.lt_of_not_le (fun q => h2 ((nI_leI hn hj).mpr q)), rfl⟩

abbrev rmX4_isSide : Room := { frames := 0, cells := 0, slots := 0, locals := 0 }
set_option maxHeartbeats 4000000 in
set_option maxRecDepth 100000 in
/-- isSide -/
theorem ctX4_isSide (l : Launch) (G : xG) (A : Nat → Prop) (M : xM) (p0 : Int32) : Met l yX4_isSide wsX4_isSide rmX4_isSide (va_Pc ([.int p0] : List Value) (xPc G A M)) (va_Qi (fun r M1 => M1 = M ∧ r = if p0 = 0 ∨ p0 = nI 1 then 1 else 0) (xPc G A) A) 0 0 A := by
  refine x_met (cc := cX4_isSide) (maxL := 1) (ret := (some .boolean)) RX4 (by decide) rfl (Nat.le_of_ble_eq_true rfl) rfl ?_
  intro p e s m below meth c hx hb hr hts hown hlocks hml hin hK hA hX ls hl
  have hS : va_S A s.heap s.heap [] := va_S.rf
  have hl : lv_has ls 1 [(0, .int p0)] := hl
  refine lv_iload_n hx hb dX4_isSide_0 rfl (lv_at hl 0 rfl) ?_
  refine lv_if_eq (tgt := 9) hx hb dX4_isSide_1 (by decide) (fun c_1 => ?_) (fun c_1 => ?_)
  · refine lv_iconst (v := nI 1) hx hb dX4_isSide_9 (by decide) ?_
    refine lv_goto (tgt := 14) hx hb dX4_isSide_10 (by decide) ?_
    exact x_zret hx hb hr hlocks hK hA hX hS dX4_isSide_14 rfl (⟨rfl, by split <;> first | rfl | (rename_i q; exfalso; first | exact q (Or.inl (by assumption)) | exact q (Or.inr (by assumption)) | (rcases q with q | q <;> contradiction))⟩)
  · refine lv_iload_n hx hb dX4_isSide_4 rfl (lv_at hl 0 rfl) ?_
    refine lv_iconst (v := nI 1) hx hb dX4_isSide_5 (by decide) ?_
    refine lv_icmp_ne (tgt := 13) hx hb dX4_isSide_6 (by decide) (fun c_2 => ?_) (fun c_2 => ?_)
    · refine lv_iconst (v := nI 0) hx hb dX4_isSide_13 (by decide) ?_
      exact x_zret hx hb hr hlocks hK hA hX hS dX4_isSide_14 rfl (⟨rfl, by split <;> first | rfl | (rename_i q; exfalso; first | exact q (Or.inl (by assumption)) | exact q (Or.inr (by assumption)) | (rcases q with q | q <;> contradiction))⟩)
    · refine lv_iconst (v := nI 1) hx hb dX4_isSide_9 (by decide) ?_
      refine lv_goto (tgt := 14) hx hb dX4_isSide_10 (by decide) ?_
      exact x_zret hx hb hr hlocks hK hA hX hS dX4_isSide_14 rfl (⟨rfl, by split <;> first | rfl | (rename_i q; exfalso; first | exact q (Or.inl (by assumption)) | exact q (Or.inr (by assumption)) | (rcases q with q | q <;> contradiction))⟩)

abbrev rmX4_find : Room := { frames := 0, cells := 0, slots := 0, locals := 0 }
set_option maxHeartbeats 4000000 in
set_option maxRecDepth 100000 in
/-- find -/
theorem ctX4_find (l : Launch) (G : xG) (A : Nat → Prop) (M : xM) {ad : Nat → Nat} {nc : Nat} {sd : Nat → Int32} {jn : Nat → Int32} {tc : Nat → Nat} {dt : Nat → Int32} {fd : Nat → Int64} {ld : Nat → Int64} {tk : Nat → Nat → Int32} {kd : Nat → Nat → Int32} {wn : Nat → Nat} {jc : Nat} {jz : Nat → Nat} {jo : Nat → Nat} {ju : Nat → Int32} {bg : Int32} {cn : Nat} {zs : Nat → Nat} {os : Nat → Nat} {ab : Nat → Nat} {bl : Nat → Nat} {od : Nat → Nat} {sp : Nat → Nat} {pr : Nat → Nat} {fa : Int64} {fb : Int64} (hR : xRec G M ad nc sd jn tc dt fd ld tk kd wn jc jz jo ju bg cn zs os ab bl od sp pr fa fb) (p0 : Int32) (hnc : nc ≤ 50) : Met l yX4_find wsX4_find rmX4_find (va_Pc ([.ref (ad 0), .int p0] : List Value) (xPc G A M)) (va_Qq (fun r M1 => M1 = M ∧ ((∃ i, i < nc ∧ p0 = nI (i + 1) ∧ r = some (ad (100 + 3 * i))) ∨ ((p0 < nI 1 ∨ ¬ p0 ≤ nI nc) ∧ r = none))) (xPc G A) A) 0 0 A := by
  refine x_met (cc := cX4_find) (maxL := 2) (ret := (some (.object "Reconcile$Name"))) RX4 (by decide) rfl (Nat.le_of_ble_eq_true rfl) rfl ?_
  intro p e s m below meth c hx hb hr hts hown hlocks hml hin hK hA hX ls hl
  have inX4 : ∀ w ∈ wsX40, w ∈ wsX4_find := by decide +kernel
  have lk_fieldLink_15 := hts (.fieldLink RX4 15 "Reconcile" "nameCount" "I") (by decide +kernel)
  have lk_fieldLink_11 := hts (.fieldLink RX4 11 "Reconcile" "names" "[LReconcile$Name;") (by decide +kernel)
  have hS : va_S A s.heap s.heap [] := va_S.rf
  have hl : lv_has ls 2 [(0, .ref (ad 0)), (1, .int p0)] := hl
  obtain ⟨hc0, hc1, hc2, hc3, hcL, hc5, hc6, hc7, hc8, hc9, hc10, hc11, hc12, hnm, hjn⟩ := hR
  refine lv_iload_n hx hb dX4_find_0 rfl (lv_at hl 1 rfl) ?_
  refine lv_iconst (v := nI 1) hx hb dX4_find_1 (by decide) ?_
  refine lv_icmp_lt (tgt := 13) hx hb dX4_find_2 (by decide) (fun c_1 => ?_) (fun c_1 => ?_)
  · refine lv_null hx hb dX4_find_13 ?_
    exact x_aret (show _ = va_rf none from rfl) hx hb hr hlocks hK hA hX hS dX4_find_14 (⟨rfl, Or.inr ⟨Or.inl c_1, rfl⟩⟩)
  · refine lv_iload_n hx hb dX4_find_5 rfl (lv_at hl 1 rfl) ?_
    refine lv_aload_n hx hb dX4_find_6 rfl (lv_at hl 0 rfl) ?_
    refine x_get (ci := 6) (v := .int (nI nc)) (C := RX4) (T := TX4) (N := 7) hx hb hts inX4 hown hK hX hc0 rfl 1 (by decide) lk_fieldLink_15 (fun _ h9 => h9) rfl dX4_find_7 ?_
    refine lv_icmp_le (tgt := 15) hx hb dX4_find_10 (by decide) (fun c_2 => ?_) (fun c_2 => ?_)
    · obtain ⟨i, hi, ep⟩ := x_p1 (by omega) c_1 c_2
      subst ep
      refine lv_aload_n hx hb dX4_find_15 rfl (lv_at hl 0 rfl) ?_
      refine x_get (ci := 6) (v := .ref (ad 1)) (C := RX4) (T := TX4) (N := 7) hx hb hts inX4 hown hK hX hc0 rfl 0 (by decide) lk_fieldLink_11 (fun _ h9 => h9) rfl dX4_find_16 ?_
      refine lv_iload_n hx hb dX4_find_19 rfl (lv_at hl 1 rfl) ?_
      refine lv_iconst (v := nI 1) hx hb dX4_find_20 (by decide) ?_
      refine lv_isub hx hb dX4_find_21 ?_
      refine x_ri (pk_sub (by omega)) ?_
      refine x_ri (y := nI i) (congrArg nI (by omega)) ?_
      refine x_aN hx hb hK hX 3 rfl hc1 (by omega) (by decide) dX4_find_22 ?_
      rw [if_pos hi]
      exact x_aret (rfl) hx hb hr hlocks hK hA hX hS dX4_find_23 (⟨rfl, Or.inl ⟨i, hi, rfl, rfl⟩⟩)
    · refine lv_null hx hb dX4_find_13 ?_
      exact x_aret (show _ = va_rf none from rfl) hx hb hr hlocks hK hA hX hS dX4_find_14 (⟨rfl, Or.inr ⟨Or.inr c_2, rfl⟩⟩)

abbrev rmX4_token : Room := { frames := 2, cells := 0, slots := 0, locals := 45 }
set_option maxHeartbeats 4000000 in
set_option maxRecDepth 100000 in
/-- token -/
theorem ctX4_token (l : Launch) (G : xG) (A : Nat → Prop) (M : xM) {ad : Nat → Nat} {nc : Nat} {sd : Nat → Int32} {jn : Nat → Int32} {tc : Nat → Nat} {dt : Nat → Int32} {fd : Nat → Int64} {ld : Nat → Int64} {tk : Nat → Nat → Int32} {kd : Nat → Nat → Int32} {wn : Nat → Nat} {jc : Nat} {jz : Nat → Nat} {jo : Nat → Nat} {ju : Nat → Int32} {bg : Int32} {cn : Nat} {zs : Nat → Nat} {os : Nat → Nat} {ab : Nat → Nat} {bl : Nat → Nat} {od : Nat → Nat} {sp : Nat → Nat} {pr : Nat → Nat} {fa : Int64} {fb : Int64} (hR : xRec G M ad nc sd jn tc dt fd ld tk kd wn jc jz jo ju bg cn zs os ab bl od sp pr fa fb) (p0 p1 p2 : Int32) (hnc : nc ≤ 50) (htk : ∀ i, i < nc → tc i ≤ 8 ∧ ∀ j, j < tc i → vp_in (kd i j) 4) : Met l yX4_token wsX4_token rmX4_token (va_Pc ([.ref (ad 0), .int p0, .int p1, .int p2] : List Value) (xPc G A M)) (va_Qv (fun M1 => (∃ i, i < nc ∧ p0 = nI (i + 1) ∧ (¬ p2 < 0 ∧ p2 < nI 3) ∧ M1 = if tc i < 8 ∧ xHas (tk i) (kd i) p1 p2 (tc i) = false then xu (xu (xu M (100 + 3 * i + 1) (ad (100 + 3 * i + 1), .inl (G.2 0, 8, .inl (upd (tk i) (tc i) p1)))) (100 + 3 * i + 2) (ad (100 + 3 * i + 2), .inl (G.2 0, 8, .inl (upd (kd i) (tc i) p2)))) (100 + 3 * i) (ad (100 + 3 * i), .inr (5, [.int (sd i), .int (jn i), .ref (ad (100 + 3 * i + 1)), .ref (ad (100 + 3 * i + 2)), .int (nI (tc i + 1)), .int (dt i), .long (fd i), .long (ld i)])) else M) ∨ (((p0 < nI 1 ∨ ¬ p0 ≤ nI nc) ∨ ¬ (¬ p2 < 0 ∧ p2 < nI 3)) ∧ M1 = M)) (xPc G A) A) 0 0 A := by
  refine x_met (cc := cX4_token) (maxL := 5) (ret := none) RX4 (by decide) rfl (Nat.le_of_ble_eq_true rfl) rfl ?_
  intro p e s m below meth c hx hb hr hts hown hlocks hml hin hK hA hX ls hl
  have hS : va_S A s.heap s.heap [] := va_S.rf
  have hl : lv_has ls 5 [(0, .ref (ad 0)), (1, .int p0), (2, .int p1), (3, .int p2)] := hl
  have hRR := hR
  obtain ⟨hc0, hc1, hc2, hc3, hcL, hc5, hc6, hc7, hc8, hc9, hc10, hc11, hc12, hnm, hjn⟩ := hR
  refine lv_aload_n hx hb dX4_token_0 rfl (lv_at hl 0 rfl) ?_
  refine lv_iload_n hx hb dX4_token_1 rfl (lv_at hl 1 rfl) ?_
  refine x_callq (x_runV (q := (RX4, TX4, 7)) (As := [.int p0]) (rest := []) ⟨hx, hb, hml, hown, hts⟩ (ctX4_find l G A M hRR p0 hnc) (cwV 1 hts gX4_token_X4_find rfl rfl rfl (by decide +kernel) ⟨Nat.le_of_ble_eq_true rfl, Nat.le_of_ble_eq_true rfl⟩) hK hA hX hS hc0 rfl rfl hl.1 rfl (lv_room (Nat.le_of_ble_eq_true rfl)) dX4_token_2 ⟨by decide, by decide⟩) hS (fun r_1 M_2 H locs hp hX hS => ?_)
  obtain ⟨hM_, hq_r_1⟩ := hp
  rw [hM_] at hX
  rcases hq_r_1 with ⟨i, hi, ep, er⟩ | ⟨ep, er⟩
  · subst er
    obtain ⟨hn0, hn1, hn2⟩ := hnm i hi
    refine x_rv (y := .ref (ad (100 + 3 * i))) rfl ?_
    refine lv_astore (lv' := [(4, .ref (ad (100 + 3 * i))), (0, .ref (ad 0)), (1, .int p0), (2, .int p1), (3, .int p2)]) hx hb dX4_token_5 hl (by decide) rfl (fun ls hl => ?_)
    refine lv_aload hx hb dX4_token_7 (lv_at hl 0 rfl) ?_
    refine lv_ifnull hx hb dX4_token_9 ?_
    refine lv_iload_n hx hb dX4_token_12 rfl (lv_at hl 4 rfl) ?_
    refine lv_if_lt (tgt := 21) hx hb dX4_token_13 (by decide) (fun c_3 => ?_) (fun c_3 => ?_)
    · exact x_vret hx hb hr hlocks hK hA hX hS dX4_token_21 (Or.inr ⟨Or.inr (fun q => q.1 c_3), rfl⟩)
    · refine lv_iload_n hx hb dX4_token_16 rfl (lv_at hl 4 rfl) ?_
      refine lv_iconst (v := nI 3) hx hb dX4_token_17 (by decide) ?_
      refine lv_icmp_lt (tgt := 22) hx hb dX4_token_18 (by decide) (fun c_4 => ?_) (fun c_4 => ?_)
      · refine lv_aload hx hb dX4_token_22 (lv_at hl 0 rfl) ?_
        refine lv_iload_n hx hb dX4_token_24 rfl (lv_at hl 3 rfl) ?_
        refine lv_iload_n hx hb dX4_token_25 rfl (lv_at hl 4 rfl) ?_
        refine x_callv (x_runV (q := (RX3, TX3, 8)) (As := [.int p1, .int p2]) (rest := []) ⟨hx, hb, hml, hown, hts⟩ (ctX3_addToken l G A M hn0 hn1 hn2 (htk i hi).1 p1 p2) (cwV 2 hts gX4_token_X3_addToken rfl rfl rfl (by decide +kernel) ⟨Nat.le_of_ble_eq_true rfl, Nat.le_of_ble_eq_true rfl⟩) hK hA hX hS hn0 rfl rfl hl.1 rfl (lv_room (Nat.le_of_ble_eq_true rfl)) dX4_token_26 ⟨by decide, by decide⟩) hS (fun M_6 H locs hp hX hS => ?_)
        exact x_vret hx hb hr hlocks hK hA hX hS dX4_token_29 (Or.inl ⟨i, hi, ep, ⟨c_3, c_4⟩, hp⟩)
      · exact x_vret hx hb hr hlocks hK hA hX hS dX4_token_21 (Or.inr ⟨Or.inr (fun q => c_4 q.2), rfl⟩)
  · subst er
    refine x_rv (y := .null) rfl ?_
    refine lv_astoreN (lv' := [(4, .null), (0, .ref (ad 0)), (1, .int p0), (2, .int p1), (3, .int p2)]) hx hb dX4_token_5 hl (by decide) rfl (fun ls hl => ?_)
    refine lv_aloadN hx hb dX4_token_7 (lv_at hl 0 rfl) ?_
    refine lv_ifnullN (tgt := 21) hx hb dX4_token_9 (by decide) ?_
    exact x_vret hx hb hr hlocks hK hA hX hS dX4_token_21 (Or.inr ⟨Or.inl ep, rfl⟩)

abbrev rmX4_date : Room := { frames := 1, cells := 0, slots := 0, locals := 24 }
set_option maxHeartbeats 4000000 in
set_option maxRecDepth 100000 in
/-- date -/
theorem ctX4_date (l : Launch) (G : xG) (A : Nat → Prop) (M : xM) {ad : Nat → Nat} {nc : Nat} {sd : Nat → Int32} {jn : Nat → Int32} {tc : Nat → Nat} {dt : Nat → Int32} {fd : Nat → Int64} {ld : Nat → Int64} {tk : Nat → Nat → Int32} {kd : Nat → Nat → Int32} {wn : Nat → Nat} {jc : Nat} {jz : Nat → Nat} {jo : Nat → Nat} {ju : Nat → Int32} {bg : Int32} {cn : Nat} {zs : Nat → Nat} {os : Nat → Nat} {ab : Nat → Nat} {bl : Nat → Nat} {od : Nat → Nat} {sp : Nat → Nat} {pr : Nat → Nat} {fa : Int64} {fb : Int64} (hR : xRec G M ad nc sd jn tc dt fd ld tk kd wn jc jz jo ju bg cn zs os ab bl od sp pr fa fb) (p0 : Int32) (p1 p2 : Int64) (hnc : nc ≤ 50) (htk : ∀ i, i < nc → tc i ≤ 8 ∧ ∀ j, j < tc i → vp_in (kd i j) 4) : Met l yX4_date wsX4_date rmX4_date (va_Pc ([.ref (ad 0), .int p0, .long p1, .long p2] : List Value) (xPc G A M)) (va_Qv (fun M1 => (∃ i, i < nc ∧ p0 = nI (i + 1) ∧ p1 ≤ p2 ∧ M1 = xu M (100 + 3 * i) (ad (100 + 3 * i), .inr (5, [.int (sd i), .int (jn i), .ref (ad (100 + 3 * i + 1)), .ref (ad (100 + 3 * i + 2)), .int (nI (tc i)), .int (nI 1), .long p1, .long p2]))) ∨ (((p0 < nI 1 ∨ ¬ p0 ≤ nI nc) ∨ ¬ p1 ≤ p2) ∧ M1 = M)) (xPc G A) A) 0 0 A := by
  refine x_met (cc := cX4_date) (maxL := 7) (ret := none) RX4 (by decide) rfl (Nat.le_of_ble_eq_true rfl) rfl ?_
  intro p e s m below meth c hx hb hr hts hown hlocks hml hin hK hA hX ls hl
  have hS : va_S A s.heap s.heap [] := va_S.rf
  have hl : lv_has ls 7 [(0, .ref (ad 0)), (1, .int p0), (2, .long p1), (4, .long p2)] := hl
  have hRR := hR
  obtain ⟨hc0, hc1, hc2, hc3, hcL, hc5, hc6, hc7, hc8, hc9, hc10, hc11, hc12, hnm, hjn⟩ := hR
  refine lv_aload_n hx hb dX4_date_0 rfl (lv_at hl 0 rfl) ?_
  refine lv_iload_n hx hb dX4_date_1 rfl (lv_at hl 1 rfl) ?_
  refine x_callq (x_runV (q := (RX4, TX4, 7)) (As := [.int p0]) (rest := []) ⟨hx, hb, hml, hown, hts⟩ (ctX4_find l G A M hRR p0 hnc) (cwV 1 hts gX4_date_X4_find rfl rfl rfl (by decide +kernel) ⟨Nat.le_of_ble_eq_true rfl, Nat.le_of_ble_eq_true rfl⟩) hK hA hX hS hc0 rfl rfl hl.1 rfl (lv_room (Nat.le_of_ble_eq_true rfl)) dX4_date_2 ⟨by decide, by decide⟩) hS (fun r_1 M_2 H locs hp hX hS => ?_)
  obtain ⟨hM_, hq_r_1⟩ := hp
  rw [hM_] at hX
  rcases hq_r_1 with ⟨i, hi, ep, er⟩ | ⟨ep, er⟩
  · subst er
    obtain ⟨hn0, hn1, hn2⟩ := hnm i hi
    refine x_rv (y := .ref (ad (100 + 3 * i))) rfl ?_
    refine lv_astore (lv' := [(6, .ref (ad (100 + 3 * i))), (0, .ref (ad 0)), (1, .int p0), (2, .long p1), (4, .long p2)]) hx hb dX4_date_5 hl (by decide) rfl (fun ls hl => ?_)
    refine lv_aload hx hb dX4_date_7 (lv_at hl 0 rfl) ?_
    refine lv_ifnull hx hb dX4_date_9 ?_
    refine lv_lload hx hb dX4_date_12 (lv_at hl 4 rfl) ?_
    refine lv_lload_n hx hb dX4_date_14 rfl (lv_at hl 3 rfl) ?_
    refine W.lcmp hx hb dX4_date_15 ?_
    refine x_lc_ge (tgt := 20) hx hb dX4_date_16 (by decide) (fun c_3 => ?_) (fun c_3 => ?_)
    · refine lv_aload hx hb dX4_date_20 (lv_at hl 0 rfl) ?_
      refine lv_lload_n hx hb dX4_date_22 rfl (lv_at hl 3 rfl) ?_
      refine lv_lload hx hb dX4_date_23 (lv_at hl 4 rfl) ?_
      refine x_callv (x_runV (q := (RX3, TX3, 8)) (As := [.long p1, .long p2]) (rest := []) ⟨hx, hb, hml, hown, hts⟩ (ctX3_setDates l G A M hn0 hn1 hn2 (htk i hi).1 p1 p2) (cwV 2 hts gX4_date_X3_setDates rfl rfl rfl (by decide +kernel) ⟨Nat.le_of_ble_eq_true rfl, Nat.le_of_ble_eq_true rfl⟩) hK hA hX hS hn0 rfl rfl hl.1 rfl (lv_room (Nat.le_of_ble_eq_true rfl)) dX4_date_25 ⟨by decide, by decide⟩) hS (fun M_5 H locs hp hX hS => ?_)
      exact x_vret hx hb hr hlocks hK hA hX hS dX4_date_28 (Or.inl ⟨i, hi, ep, c_3, hp⟩)
    · exact x_vret hx hb hr hlocks hK hA hX hS dX4_date_19 (Or.inr ⟨Or.inr c_3, rfl⟩)
  · subst er
    refine x_rv (y := .null) rfl ?_
    refine lv_astoreN (lv' := [(6, .null), (0, .ref (ad 0)), (1, .int p0), (2, .long p1), (4, .long p2)]) hx hb dX4_date_5 hl (by decide) rfl (fun ls hl => ?_)
    refine lv_aloadN hx hb dX4_date_7 (lv_at hl 0 rfl) ?_
    refine lv_ifnullN (tgt := 19) hx hb dX4_date_9 (by decide) ?_
    exact x_vret hx hb hr hlocks hK hA hX hS dX4_date_19 (Or.inr ⟨Or.inl ep, rfl⟩)
