/-! Reconcile: name, join, undo -/

abbrev rmX4_name : Room := { frames := 2, cells := 3, slots := 24, locals := 33 }
set_option maxHeartbeats 4000000 in
set_option maxRecDepth 100000 in
/-- name -/
theorem ctX4_name (l : Launch) (G : xG) (A : Nat → Prop) (M : xM) {ad : Nat → Nat} {nc : Nat} {sd : Nat → Int32} {jn : Nat → Int32} {tc : Nat → Nat} {dt : Nat → Int32} {fd : Nat → Int64} {ld : Nat → Int64} {tk : Nat → Nat → Int32} {kd : Nat → Nat → Int32} {wn : Nat → Nat} {jc : Nat} {jz : Nat → Nat} {jo : Nat → Nat} {ju : Nat → Int32} {bg : Int32} {cn : Nat} {zs : Nat → Nat} {os : Nat → Nat} {ab : Nat → Nat} {bl : Nat → Nat} {od : Nat → Nat} {sp : Nat → Nat} {pr : Nat → Nat} {fa : Int64} {fb : Int64} (hR : xRec G M ad nc sd jn tc dt fd ld tk kd wn jc jz jo ju bg cn zs os ab bl od sp pr fa fb) (p0 : Int32) (hnc : nc ≤ 50) : Met l yX4_name wsX4_name rmX4_name (va_Pc ([.ref (ad 0), .int p0] : List Value) (xPc G A M)) (va_Qi (fun r M1 => ((p0 = 0 ∨ p0 = nI 1) ∧ nc < 50 ∧ r = nI (nc + 1) ∧ ∃ q0 q1 q2 : Nat, M1 = xu (xu (xu (xu (xu M (100 + 3 * nc + 1) (q1, .inl (G.2 0, 8, .inl (fun _ => 0)))) (100 + 3 * nc + 2) (q2, .inl (G.2 0, 8, .inl (fun _ => 0)))) (100 + 3 * nc) (q0, .inr (5, [.int p0, .int (nI 0), .ref q1, .ref q2, .int (nI 0), .int (nI 0), .long (lN 0), .long (lN 0)]))) 1 (ad 1, .inl (G.2 3, 50, .inr (.inr (.inr (.inr (va_up (fun k => if k < nc then some (ad (100 + 3 * k)) else none) nc (some q0)))))))) 0 (ad 0, .inr (6, [.ref (ad 1), .int (nI (nc + 1)), .ref (ad 2), .ref (ad 3), .int (nI jc), .ref (ad 4), .ref (ad 5)]))) ∨ (¬ ((p0 = 0 ∨ p0 = nI 1) ∧ nc < 50) ∧ r = nI 0 ∧ M1 = M)) (xPc G A) A) 3 24 A := by
  refine x_met (cc := cX4_name) (maxL := 2) (ret := (some .int)) RX4 (by decide) rfl (Nat.le_of_ble_eq_true rfl) rfl ?_
  intro p e s m below meth c hx hb hr hts hown hlocks hml hin hK hA hX ls hl
  have inX3 : ∀ w ∈ wsX30, w ∈ wsX4_name := by decide +kernel
  have inX4 : ∀ w ∈ wsX40, w ∈ wsX4_name := by decide +kernel
  have lk_fieldLink_15 := hts (.fieldLink RX4 15 "Reconcile" "nameCount" "I") (by decide +kernel)
  have lk_fieldLink_11 := hts (.fieldLink RX4 11 "Reconcile" "names" "[LReconcile$Name;") (by decide +kernel)
  have lk_classLink_9 := hts (.classLink RX4 9 RX3) (by decide +kernel)
  have lk_methodLink_52 := hts (.methodLink RX4 52 yX3_init) (by decide +kernel)
  have hS : va_S A s.heap s.heap [] := va_S.rf
  have hl : lv_has ls 2 [(0, .ref (ad 0)), (1, .int p0)] := hl
  obtain ⟨hc0, hc1, hc2, hc3, hcL, hc5, hc6, hc7, hc8, hc9, hc10, hc11, hc12, hnm, hjn⟩ := hR
  refine lv_iload_n hx hb dX4_name_0 rfl (lv_at hl 1 rfl) ?_
  refine x_calli (x_runS (As := [.int p0]) (rest := []) ⟨hx, hb, hml, hown, hts⟩ (ctX4_isSide l G A M p0) (cwS 1 hts gX4_name_X4_isSide rfl rfl rfl (by decide +kernel) ⟨Nat.le_of_ble_eq_true rfl, Nat.le_of_ble_eq_true rfl⟩) hK hA hX hS rfl hl.1 rfl (lv_room (Nat.le_of_ble_eq_true rfl)) dX4_name_1 ⟨by decide, by decide⟩) hS (fun r_1 M_2 H locs hp hX hS => ?_)
  obtain ⟨hM_, er_1⟩ := hp
  rw [hM_] at hX
  refine lv_if_eq (tgt := 16) hx hb dX4_name_4 (by decide) (fun c_3 => ?_) (fun c_3 => ?_)
  · have hs := x_if0 er_1 c_3
    refine lv_iconst (v := nI 0) hx hb dX4_name_16 (by decide) ?_
    refine W.widen (k := 3) (n := 24) (by omega) (by omega) ?_
    exact x_iret hx hb hr hlocks hK hA hX hS dX4_name_17 (Or.inr ⟨fun q => hs q.1, rfl, rfl⟩)
  · have hs := x_if1 er_1 c_3
    refine lv_aload_n hx hb dX4_name_7 rfl (lv_at hl 0 rfl) ?_
    refine x_get (ci := 6) (v := .int (nI nc)) (C := RX4) (T := TX4) (N := 7) hx hb hts inX4 hown hK hX hc0 rfl 1 (by decide) lk_fieldLink_15 (fun _ h9 => h9) rfl dX4_name_8 ?_
    refine lv_bipush (v := nI 50) hx hb dX4_name_11 (by decide) ?_
    refine lv_icmp_lt (tgt := 18) hx hb dX4_name_13 (by decide) (fun c_4 => ?_) (fun c_4 => ?_)
    · have c_4 : nc < 50 := (nI_ltI (by omega) (by omega)).mp c_4
      refine lv_aload_n hx hb dX4_name_18 rfl (lv_at hl 0 rfl) ?_
      refine x_get (ci := 6) (v := .ref (ad 1)) (C := RX4) (T := TX4) (N := 7) hx hb hts inX4 hown hK hX hc0 rfl 0 (by decide) lk_fieldLink_11 (fun _ h9 => h9) rfl dX4_name_19 ?_
      refine lv_aload_n hx hb dX4_name_22 rfl (lv_at hl 0 rfl) ?_
      refine x_get (ci := 6) (v := .int (nI nc)) (C := RX4) (T := TX4) (N := 7) hx hb hts inX4 hown hK hX hc0 rfl 1 (by decide) lk_fieldLink_15 (fun _ h9 => h9) rfl dX4_name_23 ?_
      refine x_new (ci := 5) (fs := [.int (nI 0), .int (nI 0), .null, .null, .int (nI 0), .int (nI 0), .long (lN 0), .long (lN 0)]) (C := RX3) (T := TX3) (N := 8) hx hb hts inX3 tyX3 tyX3_ok hown lk_classLink_9 (hts (.instantiable RX3 8) (by decide +kernel)) (hts (.initialized RX3) (by decide +kernel)) hK hX hS hA rfl (fun j hj => by rcases (show j = 0 ∨ j = 1 ∨ j = 2 ∨ j = 3 ∨ j = 4 ∨ j = 5 ∨ j = 6 ∨ j = 7 by omega) with rfl | rfl | rfl | rfl | rfl | rfl | rfl | rfl <;> rfl) (Nat.le_of_ble_eq_true rfl) (Nat.le_of_ble_eq_true rfl) dX4_name_26 (100 + 3 * nc) (fun q_5 H hX hS => ?_)
      obtain ⟨M_6, hM_6⟩ : ∃ zM : xM, zM = xu M (100 + 3 * nc) (q_5, .inr (5, [.int (nI 0), .int (nI 0), .null, .null, .int (nI 0), .int (nI 0), .long (lN 0), .long (lN 0)])) := ⟨_, rfl⟩
      have hX : xw G.1 vwCl A M_6 H := by rw [hM_6]; exact hX
      have hc0 : M_6 0 = some (ad 0, .inr (6, [.ref (ad 1), .int (nI nc), .ref (ad 2), .ref (ad 3), .int (nI jc), .ref (ad 4), .ref (ad 5)])) := by rw [hM_6, xu_n (by omega)]; exact hc0
      have hc1 : M_6 1 = some (ad 1, .inl (G.2 3, 50, .inr (.inr (.inr (.inr (fun k => if k < nc then some (ad (100 + 3 * k)) else none)))))) := by rw [hM_6, xu_n (by omega)]; exact hc1
      have hc2 : M_6 2 = some (ad 2, .inl (G.2 1, 4, .inr (.inl (fun k => lN (wn k))))) := by rw [hM_6, xu_n (by omega)]; exact hc2
      have hc3 : M_6 3 = some (ad 3, .inl (G.2 4, 100, .inr (.inr (.inr (.inr (fun k => if k < jc then some (ad (300 + k)) else none)))))) := by rw [hM_6, xu_n (by omega)]; exact hc3
      have hcL : M_6 4 = some (ad 4, .inr (4, [.int bg, .int (nI cn), .ref (ad 6), .ref (ad 7), .ref (ad 8), .ref (ad 9), .ref (ad 10), .ref (ad 11), .ref (ad 12)])) := by rw [hM_6, xu_n (by omega)]; exact hcL
      have hc5 : M_6 5 = some (ad 5, .inr (2, [.long fa, .long fb])) := by rw [hM_6, xu_n (by omega)]; exact hc5
      have hc6 : M_6 6 = some (ad 6, .inl (G.2 0, 625, .inl (fun k => nI (zs k)))) := by rw [hM_6, xu_n (by omega)]; exact hc6
      have hc7 : M_6 7 = some (ad 7, .inl (G.2 0, 625, .inl (fun k => nI (os k)))) := by rw [hM_6, xu_n (by omega)]; exact hc7
      have hc8 : M_6 8 = some (ad 8, .inl (G.2 1, 625, .inr (.inl (fun k => lN (ab k))))) := by rw [hM_6, xu_n (by omega)]; exact hc8
      have hc9 : M_6 9 = some (ad 9, .inl (G.2 1, 625, .inr (.inl (fun k => lN (bl k))))) := by rw [hM_6, xu_n (by omega)]; exact hc9
      have hc10 : M_6 10 = some (ad 10, .inl (G.2 0, 625, .inl (fun k => nI (od k)))) := by rw [hM_6, xu_n (by omega)]; exact hc10
      have hc11 : M_6 11 = some (ad 11, .inl (G.2 0, 625, .inl (fun k => nI (sp k)))) := by rw [hM_6, xu_n (by omega)]; exact hc11
      have hc12 : M_6 12 = some (ad 12, .inl (G.2 2, 51, .inl (fun k => nI (pr k)))) := by rw [hM_6, xu_n (by omega)]; exact hc12
      have hnn : M_6 (100 + 3 * nc) = some (q_5, .inr (5, [.int (nI 0), .int (nI 0), .null, .null, .int (nI 0), .int (nI 0), .long (lN 0), .long (lN 0)])) := by rw [hM_6]; exact xu_s
      refine lv_dup hx hb dX4_name_29 rfl ?_
      refine lv_iload_n hx hb dX4_name_30 rfl (lv_at hl 1 rfl) ?_
      refine x_callv (x_runI (As := [.int p0]) (rest := [.ref q_5, .int (nI nc), .ref (ad 1)]) ⟨hx, hb, hml, hown, hts⟩ (ctX3_init l G A M_6 hnn p0) (cwI 1 hts gX4_name_X3_init rfl rfl rfl (hts (.initialized RX3) (by decide +kernel)) lk_methodLink_52 (hts (.instanceMethod yX3_init) (by decide +kernel)) rfl (by decide +kernel) ⟨Nat.le_of_ble_eq_true rfl, Nat.le_of_ble_eq_true rfl⟩) hK hA hX hS rfl hl.1 rfl (lv_room (Nat.le_of_ble_eq_true rfl)) dX4_name_31 ⟨by decide, by decide⟩) hS (fun M_8 H locs hp hX hS => ?_)
      obtain ⟨q1, q2, hMi⟩ := hp
      have hc0 : M_8 0 = some (ad 0, .inr (6, [.ref (ad 1), .int (nI nc), .ref (ad 2), .ref (ad 3), .int (nI jc), .ref (ad 4), .ref (ad 5)])) := by rw [hMi, xu_n (by omega), xu_n (by omega), xu_n (by omega)]; exact hc0
      have hc1 : M_8 1 = some (ad 1, .inl (G.2 3, 50, .inr (.inr (.inr (.inr (fun k => if k < nc then some (ad (100 + 3 * k)) else none)))))) := by rw [hMi, xu_n (by omega), xu_n (by omega), xu_n (by omega)]; exact hc1
      have hc2 : M_8 2 = some (ad 2, .inl (G.2 1, 4, .inr (.inl (fun k => lN (wn k))))) := by rw [hMi, xu_n (by omega), xu_n (by omega), xu_n (by omega)]; exact hc2
      have hc3 : M_8 3 = some (ad 3, .inl (G.2 4, 100, .inr (.inr (.inr (.inr (fun k => if k < jc then some (ad (300 + k)) else none)))))) := by rw [hMi, xu_n (by omega), xu_n (by omega), xu_n (by omega)]; exact hc3
      have hcL : M_8 4 = some (ad 4, .inr (4, [.int bg, .int (nI cn), .ref (ad 6), .ref (ad 7), .ref (ad 8), .ref (ad 9), .ref (ad 10), .ref (ad 11), .ref (ad 12)])) := by rw [hMi, xu_n (by omega), xu_n (by omega), xu_n (by omega)]; exact hcL
      have hc5 : M_8 5 = some (ad 5, .inr (2, [.long fa, .long fb])) := by rw [hMi, xu_n (by omega), xu_n (by omega), xu_n (by omega)]; exact hc5
      have hc6 : M_8 6 = some (ad 6, .inl (G.2 0, 625, .inl (fun k => nI (zs k)))) := by rw [hMi, xu_n (by omega), xu_n (by omega), xu_n (by omega)]; exact hc6
      have hc7 : M_8 7 = some (ad 7, .inl (G.2 0, 625, .inl (fun k => nI (os k)))) := by rw [hMi, xu_n (by omega), xu_n (by omega), xu_n (by omega)]; exact hc7
      have hc8 : M_8 8 = some (ad 8, .inl (G.2 1, 625, .inr (.inl (fun k => lN (ab k))))) := by rw [hMi, xu_n (by omega), xu_n (by omega), xu_n (by omega)]; exact hc8
      have hc9 : M_8 9 = some (ad 9, .inl (G.2 1, 625, .inr (.inl (fun k => lN (bl k))))) := by rw [hMi, xu_n (by omega), xu_n (by omega), xu_n (by omega)]; exact hc9
      have hc10 : M_8 10 = some (ad 10, .inl (G.2 0, 625, .inl (fun k => nI (od k)))) := by rw [hMi, xu_n (by omega), xu_n (by omega), xu_n (by omega)]; exact hc10
      have hc11 : M_8 11 = some (ad 11, .inl (G.2 0, 625, .inl (fun k => nI (sp k)))) := by rw [hMi, xu_n (by omega), xu_n (by omega), xu_n (by omega)]; exact hc11
      have hc12 : M_8 12 = some (ad 12, .inl (G.2 2, 51, .inl (fun k => nI (pr k)))) := by rw [hMi, xu_n (by omega), xu_n (by omega), xu_n (by omega)]; exact hc12
      have hnt : M_8 (100 + 3 * nc + 1) = some (q1, .inl (G.2 0, 8, .inl (fun _ => 0))) := by rw [hMi, xu_n (by omega), xu_n (by omega)]; exact xu_s
      have hnk : M_8 (100 + 3 * nc + 2) = some (q2, .inl (G.2 0, 8, .inl (fun _ => 0))) := by rw [hMi, xu_n (by omega)]; exact xu_s
      have hnn : M_8 (100 + 3 * nc) = some (q_5, .inr (5, [.int p0, .int (nI 0), .ref q1, .ref q2, .int (nI 0), .int (nI 0), .long (lN 0), .long (lN 0)])) := by rw [hMi]; exact xu_s
      refine x_asN hx hb hK hX hS 3 rfl hc1 hnn rfl (by omega) (by decide) dX4_name_34 (fun H locs hX hS => ?_)
      obtain ⟨M_9, hM_9⟩ : ∃ zM : xM, zM = xu M_8 1 (ad 1, .inl (G.2 3, 50, .inr (.inr (.inr (.inr (va_up (fun k => if k < nc then some (ad (100 + 3 * k)) else none) nc (some q_5))))))) := ⟨_, rfl⟩
      have hX : xw G.1 vwCl A M_9 H := by rw [hM_9]; exact hX
      have hc0 : M_9 0 = some (ad 0, .inr (6, [.ref (ad 1), .int (nI nc), .ref (ad 2), .ref (ad 3), .int (nI jc), .ref (ad 4), .ref (ad 5)])) := by rw [hM_9, xu_n (by omega)]; exact hc0
      have hc2 : M_9 2 = some (ad 2, .inl (G.2 1, 4, .inr (.inl (fun k => lN (wn k))))) := by rw [hM_9, xu_n (by omega)]; exact hc2
      have hc3 : M_9 3 = some (ad 3, .inl (G.2 4, 100, .inr (.inr (.inr (.inr (fun k => if k < jc then some (ad (300 + k)) else none)))))) := by rw [hM_9, xu_n (by omega)]; exact hc3
      have hcL : M_9 4 = some (ad 4, .inr (4, [.int bg, .int (nI cn), .ref (ad 6), .ref (ad 7), .ref (ad 8), .ref (ad 9), .ref (ad 10), .ref (ad 11), .ref (ad 12)])) := by rw [hM_9, xu_n (by omega)]; exact hcL
      have hc5 : M_9 5 = some (ad 5, .inr (2, [.long fa, .long fb])) := by rw [hM_9, xu_n (by omega)]; exact hc5
      have hc6 : M_9 6 = some (ad 6, .inl (G.2 0, 625, .inl (fun k => nI (zs k)))) := by rw [hM_9, xu_n (by omega)]; exact hc6
      have hc7 : M_9 7 = some (ad 7, .inl (G.2 0, 625, .inl (fun k => nI (os k)))) := by rw [hM_9, xu_n (by omega)]; exact hc7
      have hc8 : M_9 8 = some (ad 8, .inl (G.2 1, 625, .inr (.inl (fun k => lN (ab k))))) := by rw [hM_9, xu_n (by omega)]; exact hc8
      have hc9 : M_9 9 = some (ad 9, .inl (G.2 1, 625, .inr (.inl (fun k => lN (bl k))))) := by rw [hM_9, xu_n (by omega)]; exact hc9
      have hc10 : M_9 10 = some (ad 10, .inl (G.2 0, 625, .inl (fun k => nI (od k)))) := by rw [hM_9, xu_n (by omega)]; exact hc10
      have hc11 : M_9 11 = some (ad 11, .inl (G.2 0, 625, .inl (fun k => nI (sp k)))) := by rw [hM_9, xu_n (by omega)]; exact hc11
      have hc12 : M_9 12 = some (ad 12, .inl (G.2 2, 51, .inl (fun k => nI (pr k)))) := by rw [hM_9, xu_n (by omega)]; exact hc12
      have hnn : M_9 (100 + 3 * nc) = some (q_5, .inr (5, [.int p0, .int (nI 0), .ref q1, .ref q2, .int (nI 0), .int (nI 0), .long (lN 0), .long (lN 0)])) := by rw [hM_9, xu_n (by omega)]; exact hnn
      have hnt : M_9 (100 + 3 * nc + 1) = some (q1, .inl (G.2 0, 8, .inl (fun _ => 0))) := by rw [hM_9, xu_n (by omega)]; exact hnt
      have hnk : M_9 (100 + 3 * nc + 2) = some (q2, .inl (G.2 0, 8, .inl (fun _ => 0))) := by rw [hM_9, xu_n (by omega)]; exact hnk
      have hc1 : M_9 1 = some (ad 1, .inl (G.2 3, 50, .inr (.inr (.inr (.inr (va_up (fun k => if k < nc then some (ad (100 + 3 * k)) else none) nc (some q_5))))))) := by rw [hM_9]; exact xu_s
      refine lv_aload_n hx hb dX4_name_35 rfl (lv_at hl 0 rfl) ?_
      refine lv_dup hx hb dX4_name_36 rfl ?_
      refine x_get (ci := 6) (v := .int (nI nc)) (C := RX4) (T := TX4) (N := 7) hx hb hts inX4 hown hK hX hc0 rfl 1 (by decide) lk_fieldLink_15 (fun _ h9 => h9) rfl dX4_name_37 ?_
      refine lv_iconst (v := nI 1) hx hb dX4_name_40 (by decide) ?_
      refine lv_iadd hx hb dX4_name_41 ?_
      refine x_ri (nI_add _ _) ?_
      refine x_put (ci := 6) (v := .int (nI (nc + 1))) (C := RX4) (T := TX4) (N := 7) hx hb hts inX4 tyX4 tyX4_ok nmX4 hown hK hX hS hc0 rfl 1 (by decide) lk_fieldLink_15 (fun _ h9 => h9) rfl (tyX4_ok 1 (by decide)) rfl rfl (Nat.le_of_ble_eq_true rfl) dX4_name_42 (fun H locs hX hS => ?_)
      obtain ⟨M_10, hM_10⟩ : ∃ zM : xM, zM = xu M_9 0 (ad 0, .inr (6, [.ref (ad 1), .int (nI (nc + 1)), .ref (ad 2), .ref (ad 3), .int (nI jc), .ref (ad 4), .ref (ad 5)])) := ⟨_, rfl⟩
      have hX : xw G.1 vwCl A M_10 H := by rw [hM_10]; exact hX
      have hc1 : M_10 1 = some (ad 1, .inl (G.2 3, 50, .inr (.inr (.inr (.inr (va_up (fun k => if k < nc then some (ad (100 + 3 * k)) else none) nc (some q_5))))))) := by rw [hM_10, xu_n (by omega)]; exact hc1
      have hc2 : M_10 2 = some (ad 2, .inl (G.2 1, 4, .inr (.inl (fun k => lN (wn k))))) := by rw [hM_10, xu_n (by omega)]; exact hc2
      have hc3 : M_10 3 = some (ad 3, .inl (G.2 4, 100, .inr (.inr (.inr (.inr (fun k => if k < jc then some (ad (300 + k)) else none)))))) := by rw [hM_10, xu_n (by omega)]; exact hc3
      have hcL : M_10 4 = some (ad 4, .inr (4, [.int bg, .int (nI cn), .ref (ad 6), .ref (ad 7), .ref (ad 8), .ref (ad 9), .ref (ad 10), .ref (ad 11), .ref (ad 12)])) := by rw [hM_10, xu_n (by omega)]; exact hcL
      have hc5 : M_10 5 = some (ad 5, .inr (2, [.long fa, .long fb])) := by rw [hM_10, xu_n (by omega)]; exact hc5
      have hc6 : M_10 6 = some (ad 6, .inl (G.2 0, 625, .inl (fun k => nI (zs k)))) := by rw [hM_10, xu_n (by omega)]; exact hc6
      have hc7 : M_10 7 = some (ad 7, .inl (G.2 0, 625, .inl (fun k => nI (os k)))) := by rw [hM_10, xu_n (by omega)]; exact hc7
      have hc8 : M_10 8 = some (ad 8, .inl (G.2 1, 625, .inr (.inl (fun k => lN (ab k))))) := by rw [hM_10, xu_n (by omega)]; exact hc8
      have hc9 : M_10 9 = some (ad 9, .inl (G.2 1, 625, .inr (.inl (fun k => lN (bl k))))) := by rw [hM_10, xu_n (by omega)]; exact hc9
      have hc10 : M_10 10 = some (ad 10, .inl (G.2 0, 625, .inl (fun k => nI (od k)))) := by rw [hM_10, xu_n (by omega)]; exact hc10
      have hc11 : M_10 11 = some (ad 11, .inl (G.2 0, 625, .inl (fun k => nI (sp k)))) := by rw [hM_10, xu_n (by omega)]; exact hc11
      have hc12 : M_10 12 = some (ad 12, .inl (G.2 2, 51, .inl (fun k => nI (pr k)))) := by rw [hM_10, xu_n (by omega)]; exact hc12
      have hnn : M_10 (100 + 3 * nc) = some (q_5, .inr (5, [.int p0, .int (nI 0), .ref q1, .ref q2, .int (nI 0), .int (nI 0), .long (lN 0), .long (lN 0)])) := by rw [hM_10, xu_n (by omega)]; exact hnn
      have hnt : M_10 (100 + 3 * nc + 1) = some (q1, .inl (G.2 0, 8, .inl (fun _ => 0))) := by rw [hM_10, xu_n (by omega)]; exact hnt
      have hnk : M_10 (100 + 3 * nc + 2) = some (q2, .inl (G.2 0, 8, .inl (fun _ => 0))) := by rw [hM_10, xu_n (by omega)]; exact hnk
      have hc0 : M_10 0 = some (ad 0, .inr (6, [.ref (ad 1), .int (nI (nc + 1)), .ref (ad 2), .ref (ad 3), .int (nI jc), .ref (ad 4), .ref (ad 5)])) := by rw [hM_10]; exact xu_s
      refine lv_aload_n hx hb dX4_name_45 rfl (lv_at hl 0 rfl) ?_
      refine x_get (ci := 6) (v := .int (nI (nc + 1))) (C := RX4) (T := TX4) (N := 7) hx hb hts inX4 hown hK hX hc0 rfl 1 (by decide) lk_fieldLink_15 (fun _ h9 => h9) rfl dX4_name_46 ?_
      refine W.widen (k := 3) (n := 24) (by omega) (by omega) ?_
      exact x_iret hx hb hr hlocks hK hA hX hS dX4_name_49 (Or.inl ⟨hs, c_4, rfl, q_5, q1, q2, by rw [hM_10, hM_9, hMi, hM_6, x_uc (t := 100 + 3 * nc) (t' := 100 + 3 * nc + 1) (by omega), x_uc (t := 100 + 3 * nc) (t' := 100 + 3 * nc + 2) (by omega), x_uu]⟩)
    · have c_4 : ¬ (nc < 50) := fun q => c_4 ((nI_ltI (by omega) (by omega)).mpr q)
      refine lv_iconst (v := nI 0) hx hb dX4_name_16 (by decide) ?_
      refine W.widen (k := 3) (n := 24) (by omega) (by omega) ?_
      exact x_iret hx hb hr hlocks hK hA hX hS dX4_name_17 (Or.inr ⟨fun q => c_4 q.2, rfl, rfl⟩)

abbrev rmX4_join : Room := { frames := 2, cells := 1, slots := 3, locals := 34 }
set_option maxHeartbeats 4000000 in
set_option maxRecDepth 100000 in
/-- join -/
theorem ctX4_join (l : Launch) (G : xG) (A : Nat → Prop) (M : xM) {ad : Nat → Nat} {nc : Nat} {sd : Nat → Int32} {jn : Nat → Int32} {tc : Nat → Nat} {dt : Nat → Int32} {fd : Nat → Int64} {ld : Nat → Int64} {tk : Nat → Nat → Int32} {kd : Nat → Nat → Int32} {wn : Nat → Nat} {jc : Nat} {jz : Nat → Nat} {jo : Nat → Nat} {ju : Nat → Int32} {bg : Int32} {cn : Nat} {zs : Nat → Nat} {os : Nat → Nat} {ab : Nat → Nat} {bl : Nat → Nat} {od : Nat → Nat} {sp : Nat → Nat} {pr : Nat → Nat} {fa : Int64} {fb : Int64} (hR : xRec G M ad nc sd jn tc dt fd ld tk kd wn jc jz jo ju bg cn zs os ab bl od sp pr fa fb) (p0 p1 : Int32) (hnc : nc ≤ 50) (hjc : jc ≤ 100) (htk : ∀ i, i < nc → tc i ≤ 8 ∧ ∀ j, j < tc i → vp_in (kd i j) 4) : Met l yX4_join wsX4_join rmX4_join (va_Pc ([.ref (ad 0), .int p0, .int p1] : List Value) (xPc G A M)) (va_Qi (fun r M1 => (∃ i j, i < nc ∧ j < nc ∧ (p0 = nI (i + 1) ∧ p1 = nI (j + 1)) ∧ jc < 100 ∧ ((sd i = nI 0 ∧ jn i = 0) ∧ (sd j = nI 1 ∧ jn j = 0)) ∧ r = nI (jc + 1) ∧ ∃ q0 : Nat, M1 = xu (xu (xu (xu (xu M (300 + jc) (q0, .inr (3, [.ref (ad (100 + 3 * i)), .ref (ad (100 + 3 * j)), .int (nI 0)]))) 3 (ad 3, .inl (G.2 4, 100, .inr (.inr (.inr (.inr (va_up (fun k => if k < jc then some (ad (300 + k)) else none) jc (some q0)))))))) 0 (ad 0, .inr (6, [.ref (ad 1), .int (nI nc), .ref (ad 2), .ref (ad 3), .int (nI (jc + 1)), .ref (ad 4), .ref (ad 5)]))) (100 + 3 * i) (ad (100 + 3 * i), .inr (5, [.int (sd i), .int (nI 1), .ref (ad (100 + 3 * i + 1)), .ref (ad (100 + 3 * i + 2)), .int (nI (tc i)), .int (dt i), .long (fd i), .long (ld i)]))) (100 + 3 * j) (ad (100 + 3 * j), .inr (5, [.int (sd j), .int (nI 1), .ref (ad (100 + 3 * j + 1)), .ref (ad (100 + 3 * j + 2)), .int (nI (tc j)), .int (dt j), .long (fd j), .long (ld j)]))) ∨ (¬ (∃ i j, i < nc ∧ j < nc ∧ (p0 = nI (i + 1) ∧ p1 = nI (j + 1)) ∧ jc < 100 ∧ ((sd i = nI 0 ∧ jn i = 0) ∧ (sd j = nI 1 ∧ jn j = 0))) ∧ r = nI 0 ∧ M1 = M)) (xPc G A) A) 1 3 A := by
  refine x_met (cc := cX4_join) (maxL := 5) (ret := (some .int)) RX4 (by decide) rfl (Nat.le_of_ble_eq_true rfl) rfl ?_
  intro p e s m below meth c hx hb hr hts hown hlocks hml hin hK hA hX ls hl
  have inX1 : ∀ w ∈ wsX10, w ∈ wsX4_join := by decide +kernel
  have inX3 : ∀ w ∈ wsX30, w ∈ wsX4_join := by decide +kernel
  have inX4 : ∀ w ∈ wsX40, w ∈ wsX4_join := by decide +kernel
  have lk_fieldLink_31 := hts (.fieldLink RX4 31 "Reconcile" "joinCount" "I") (by decide +kernel)
  have lk_fieldLink_27 := hts (.fieldLink RX4 27 "Reconcile" "joins" "[LReconcile$Join;") (by decide +kernel)
  have lk_classLink_25 := hts (.classLink RX4 25 RX1) (by decide +kernel)
  have lk_methodLink_128 := hts (.methodLink RX4 128 yX1_init) (by decide +kernel)
  have lk_fieldLink_131 := hts (.fieldLink RX4 131 "Reconcile$Name" "joined" "Z") (by decide +kernel)
  have hS : va_S A s.heap s.heap [] := va_S.rf
  have hl : lv_has ls 5 [(0, .ref (ad 0)), (1, .int p0), (2, .int p1)] := hl
  have hRR := hR
  obtain ⟨hc0, hc1, hc2, hc3, hcL, hc5, hc6, hc7, hc8, hc9, hc10, hc11, hc12, hnm, hjn⟩ := hR
  refine lv_aload_n hx hb dX4_join_0 rfl (lv_at hl 0 rfl) ?_
  refine lv_iload_n hx hb dX4_join_1 rfl (lv_at hl 1 rfl) ?_
  refine x_callq (x_runV (q := (RX4, TX4, 7)) (As := [.int p0]) (rest := []) ⟨hx, hb, hml, hown, hts⟩ (ctX4_find l G A M hRR p0 hnc) (cwV 1 hts gX4_join_X4_find rfl rfl rfl (by decide +kernel) ⟨Nat.le_of_ble_eq_true rfl, Nat.le_of_ble_eq_true rfl⟩) hK hA hX hS hc0 rfl rfl hl.1 rfl (lv_room (Nat.le_of_ble_eq_true rfl)) dX4_join_2 ⟨by decide, by decide⟩) hS (fun r_1 M_2 H locs hp hX hS => ?_)
  obtain ⟨hM_, hq_r_1⟩ := hp
  rw [hM_] at hX
  rcases hq_r_1 with ⟨i, hi, epi, eri⟩ | ⟨epi, eri⟩
  · subst eri
    obtain ⟨hn0i, hn1i, hn2i⟩ := hnm i hi
    refine x_rv (y := .ref (ad (100 + 3 * i))) rfl ?_
    refine lv_astore_n (lv' := [(3, .ref (ad (100 + 3 * i))), (0, .ref (ad 0)), (1, .int p0), (2, .int p1)]) hx hb dX4_join_5 rfl hl (by decide) rfl (fun ls hl => ?_)
    refine lv_aload_n hx hb dX4_join_6 rfl (lv_at hl 1 rfl) ?_
    refine lv_iload_n hx hb dX4_join_7 rfl (lv_at hl 3 rfl) ?_
    refine x_callq (x_runV (q := (RX4, TX4, 7)) (As := [.int p1]) (rest := []) ⟨hx, hb, hml, hown, hts⟩ (ctX4_find l G A M hRR p1 hnc) (cwV 1 hts gX4_join_X4_find rfl rfl rfl (by decide +kernel) ⟨Nat.le_of_ble_eq_true rfl, Nat.le_of_ble_eq_true rfl⟩) hK hA hX hS hc0 rfl rfl hl.1 rfl (lv_room (Nat.le_of_ble_eq_true rfl)) dX4_join_8 ⟨by decide, by decide⟩) hS (fun r_3 M_4 H locs hp hX hS => ?_)
    obtain ⟨hM_, hq_r_3⟩ := hp
    rw [hM_] at hX
    rcases hq_r_3 with ⟨j, hj, epj, erj⟩ | ⟨epj, erj⟩
    · subst erj
      obtain ⟨hn0j, hn1j, hn2j⟩ := hnm j hj
      refine x_rv (y := .ref (ad (100 + 3 * j))) rfl ?_
      refine lv_astore (lv' := [(4, .ref (ad (100 + 3 * j))), (3, .ref (ad (100 + 3 * i))), (0, .ref (ad 0)), (1, .int p0), (2, .int p1)]) hx hb dX4_join_11 hl (by decide) rfl (fun ls hl => ?_)
      refine lv_aload_n hx hb dX4_join_13 rfl (lv_at hl 1 rfl) ?_
      refine lv_ifnull hx hb dX4_join_14 ?_
      refine lv_aload hx hb dX4_join_17 (lv_at hl 0 rfl) ?_
      refine lv_ifnull hx hb dX4_join_19 ?_
      refine lv_aload_n hx hb dX4_join_22 rfl (lv_at hl 2 rfl) ?_
      refine x_get (ci := 6) (v := .int (nI jc)) (C := RX4) (T := TX4) (N := 7) hx hb hts inX4 hown hK hX hc0 rfl 4 (by decide) lk_fieldLink_31 (fun _ h9 => h9) rfl dX4_join_23 ?_
      refine lv_bipush (v := nI 100) hx hb dX4_join_26 (by decide) ?_
      refine lv_icmp_lt (tgt := 33) hx hb dX4_join_28 (by decide) (fun c_5 => ?_) (fun c_5 => ?_)
      · have c_5 : jc < 100 := (nI_ltI (by omega) (by omega)).mp c_5
        refine lv_aload_n hx hb dX4_join_33 rfl (lv_at hl 1 rfl) ?_
        refine lv_iconst (v := nI 0) hx hb dX4_join_34 (by decide) ?_
        refine x_calli (x_runV (q := (RX3, TX3, 8)) (As := [.int (nI 0)]) (rest := []) ⟨hx, hb, hml, hown, hts⟩ (ctX3_mayJoin l G A M hn0i hn1i hn2i (htk i hi).1 (nI 0)) (cwV 1 hts gX4_join_X3_mayJoin rfl rfl rfl (by decide +kernel) ⟨Nat.le_of_ble_eq_true rfl, Nat.le_of_ble_eq_true rfl⟩) hK hA hX hS hn0i rfl rfl hl.1 rfl (lv_room (Nat.le_of_ble_eq_true rfl)) dX4_join_35 ⟨by decide, by decide⟩) hS (fun r_6 M_7 H locs hp hX hS => ?_)
        obtain ⟨hM_, er_6⟩ := hp
        rw [hM_] at hX
        refine lv_if_eq (tgt := 50) hx hb dX4_join_38 (by decide) (fun c_8 => ?_) (fun c_8 => ?_)
        · have hmi := x_if0 er_6 c_8
          refine lv_iconst (v := nI 0) hx hb dX4_join_50 (by decide) ?_
          refine W.widen (k := 1) (n := 3) (by omega) (by omega) ?_
          exact x_iret hx hb hr hlocks hK hA hX hS dX4_join_51 (Or.inr ⟨fun q => by obtain ⟨i9, j9, hi9, hj9, ⟨e1, e2⟩, hjc9, hh9⟩ := q; have z := (nI_eq (a := i + 1) (b := i9 + 1) (by omega) (by omega)).mp (epi.symm.trans e1); rw [show i = i9 by omega] at hmi; exact hmi hh9.1, rfl, rfl⟩)
        · have hmi := x_if1 er_6 c_8
          refine lv_aload hx hb dX4_join_41 (lv_at hl 0 rfl) ?_
          refine lv_iconst (v := nI 1) hx hb dX4_join_43 (by decide) ?_
          refine x_calli (x_runV (q := (RX3, TX3, 8)) (As := [.int (nI 1)]) (rest := []) ⟨hx, hb, hml, hown, hts⟩ (ctX3_mayJoin l G A M hn0j hn1j hn2j (htk j hj).1 (nI 1)) (cwV 1 hts gX4_join_X3_mayJoin rfl rfl rfl (by decide +kernel) ⟨Nat.le_of_ble_eq_true rfl, Nat.le_of_ble_eq_true rfl⟩) hK hA hX hS hn0j rfl rfl hl.1 rfl (lv_room (Nat.le_of_ble_eq_true rfl)) dX4_join_44 ⟨by decide, by decide⟩) hS (fun r_9 M_10 H locs hp hX hS => ?_)
          obtain ⟨hM_, er_9⟩ := hp
          rw [hM_] at hX
          refine lv_if_ne (tgt := 52) hx hb dX4_join_47 (by decide) (fun c_11 => ?_) (fun c_11 => ?_)
          · have hmj := x_if1 er_9 c_11
            refine lv_aload_n hx hb dX4_join_52 rfl (lv_at hl 2 rfl) ?_
            refine x_get (ci := 6) (v := .ref (ad 3)) (C := RX4) (T := TX4) (N := 7) hx hb hts inX4 hown hK hX hc0 rfl 3 (by decide) lk_fieldLink_27 (fun _ h9 => h9) rfl dX4_join_53 ?_
            refine lv_aload_n hx hb dX4_join_56 rfl (lv_at hl 2 rfl) ?_
            refine x_get (ci := 6) (v := .int (nI jc)) (C := RX4) (T := TX4) (N := 7) hx hb hts inX4 hown hK hX hc0 rfl 4 (by decide) lk_fieldLink_31 (fun _ h9 => h9) rfl dX4_join_57 ?_
            have hij : i ≠ j := fun q => by rw [q] at hmi; exact absurd (hmi.1.symm.trans hmj.1) (by decide)
            refine x_new (ci := 3) (fs := [.null, .null, .int (nI 0)]) (C := RX1) (T := TX1) (N := 3) hx hb hts inX1 tyX1 tyX1_ok hown lk_classLink_25 (hts (.instantiable RX1 3) (by decide +kernel)) (hts (.initialized RX1) (by decide +kernel)) hK hX hS hA rfl (fun j hj => by rcases (show j = 0 ∨ j = 1 ∨ j = 2 by omega) with rfl | rfl | rfl <;> rfl) (Nat.le_of_ble_eq_true rfl) (Nat.le_of_ble_eq_true rfl) dX4_join_60 (300 + jc) (fun q_12 H hX hS => ?_)
            obtain ⟨M_13, hM_13⟩ : ∃ zM : xM, zM = xu M (300 + jc) (q_12, .inr (3, [.null, .null, .int (nI 0)])) := ⟨_, rfl⟩
            have hX : xw G.1 vwCl A M_13 H := by rw [hM_13]; exact hX
            have hc0 : M_13 0 = some (ad 0, .inr (6, [.ref (ad 1), .int (nI nc), .ref (ad 2), .ref (ad 3), .int (nI jc), .ref (ad 4), .ref (ad 5)])) := by rw [hM_13, xu_n (by omega)]; exact hc0
            have hc1 : M_13 1 = some (ad 1, .inl (G.2 3, 50, .inr (.inr (.inr (.inr (fun k => if k < nc then some (ad (100 + 3 * k)) else none)))))) := by rw [hM_13, xu_n (by omega)]; exact hc1
            have hc2 : M_13 2 = some (ad 2, .inl (G.2 1, 4, .inr (.inl (fun k => lN (wn k))))) := by rw [hM_13, xu_n (by omega)]; exact hc2
            have hc3 : M_13 3 = some (ad 3, .inl (G.2 4, 100, .inr (.inr (.inr (.inr (fun k => if k < jc then some (ad (300 + k)) else none)))))) := by rw [hM_13, xu_n (by omega)]; exact hc3
            have hcL : M_13 4 = some (ad 4, .inr (4, [.int bg, .int (nI cn), .ref (ad 6), .ref (ad 7), .ref (ad 8), .ref (ad 9), .ref (ad 10), .ref (ad 11), .ref (ad 12)])) := by rw [hM_13, xu_n (by omega)]; exact hcL
            have hc5 : M_13 5 = some (ad 5, .inr (2, [.long fa, .long fb])) := by rw [hM_13, xu_n (by omega)]; exact hc5
            have hc6 : M_13 6 = some (ad 6, .inl (G.2 0, 625, .inl (fun k => nI (zs k)))) := by rw [hM_13, xu_n (by omega)]; exact hc6
            have hc7 : M_13 7 = some (ad 7, .inl (G.2 0, 625, .inl (fun k => nI (os k)))) := by rw [hM_13, xu_n (by omega)]; exact hc7
            have hc8 : M_13 8 = some (ad 8, .inl (G.2 1, 625, .inr (.inl (fun k => lN (ab k))))) := by rw [hM_13, xu_n (by omega)]; exact hc8
            have hc9 : M_13 9 = some (ad 9, .inl (G.2 1, 625, .inr (.inl (fun k => lN (bl k))))) := by rw [hM_13, xu_n (by omega)]; exact hc9
            have hc10 : M_13 10 = some (ad 10, .inl (G.2 0, 625, .inl (fun k => nI (od k)))) := by rw [hM_13, xu_n (by omega)]; exact hc10
            have hc11 : M_13 11 = some (ad 11, .inl (G.2 0, 625, .inl (fun k => nI (sp k)))) := by rw [hM_13, xu_n (by omega)]; exact hc11
            have hc12 : M_13 12 = some (ad 12, .inl (G.2 2, 51, .inl (fun k => nI (pr k)))) := by rw [hM_13, xu_n (by omega)]; exact hc12
            have hn0i : M_13 (100 + 3 * i) = some (ad (100 + 3 * i), .inr (5, [.int (sd i), .int (jn i), .ref (ad (100 + 3 * i + 1)), .ref (ad (100 + 3 * i + 2)), .int (nI (tc i)), .int (dt i), .long (fd i), .long (ld i)])) := by rw [hM_13, xu_n (by omega)]; exact hn0i
            have hn1i : M_13 (100 + 3 * i + 1) = some (ad (100 + 3 * i + 1), .inl (G.2 0, 8, .inl (tk i))) := by rw [hM_13, xu_n (by omega)]; exact hn1i
            have hn2i : M_13 (100 + 3 * i + 2) = some (ad (100 + 3 * i + 2), .inl (G.2 0, 8, .inl (kd i))) := by rw [hM_13, xu_n (by omega)]; exact hn2i
            have hn0j : M_13 (100 + 3 * j) = some (ad (100 + 3 * j), .inr (5, [.int (sd j), .int (jn j), .ref (ad (100 + 3 * j + 1)), .ref (ad (100 + 3 * j + 2)), .int (nI (tc j)), .int (dt j), .long (fd j), .long (ld j)])) := by rw [hM_13, xu_n (by omega)]; exact hn0j
            have hn1j : M_13 (100 + 3 * j + 1) = some (ad (100 + 3 * j + 1), .inl (G.2 0, 8, .inl (tk j))) := by rw [hM_13, xu_n (by omega)]; exact hn1j
            have hn2j : M_13 (100 + 3 * j + 2) = some (ad (100 + 3 * j + 2), .inl (G.2 0, 8, .inl (kd j))) := by rw [hM_13, xu_n (by omega)]; exact hn2j
            have hjj : M_13 (300 + jc) = some (q_12, .inr (3, [.null, .null, .int (nI 0)])) := by rw [hM_13]; exact xu_s
            refine lv_dup hx hb dX4_join_63 rfl ?_
            refine lv_aload_n hx hb dX4_join_64 rfl (lv_at hl 1 rfl) ?_
            refine lv_aload hx hb dX4_join_65 (lv_at hl 0 rfl) ?_
            refine x_callv (x_runI (As := [.ref (ad (100 + 3 * i)), .ref (ad (100 + 3 * j))]) (rest := [.ref q_12, .int (nI jc), .ref (ad 3)]) ⟨hx, hb, hml, hown, hts⟩ (ctX1_init l G A M_13 hjj (ad (100 + 3 * i)) (ad (100 + 3 * j))) (cwI 2 hts gX4_join_X1_init rfl rfl rfl (hts (.initialized RX1) (by decide +kernel)) lk_methodLink_128 (hts (.instanceMethod yX1_init) (by decide +kernel)) rfl (by decide +kernel) ⟨Nat.le_of_ble_eq_true rfl, Nat.le_of_ble_eq_true rfl⟩) hK hA hX hS rfl hl.1 rfl (lv_room (Nat.le_of_ble_eq_true rfl)) dX4_join_67 ⟨by decide, by decide⟩) hS (fun M_15 H locs hp hX hS => ?_)
            have hMi := hp
            have hc0 : M_15 0 = some (ad 0, .inr (6, [.ref (ad 1), .int (nI nc), .ref (ad 2), .ref (ad 3), .int (nI jc), .ref (ad 4), .ref (ad 5)])) := by rw [hMi, xu_n (by omega)]; exact hc0
            have hc1 : M_15 1 = some (ad 1, .inl (G.2 3, 50, .inr (.inr (.inr (.inr (fun k => if k < nc then some (ad (100 + 3 * k)) else none)))))) := by rw [hMi, xu_n (by omega)]; exact hc1
            have hc2 : M_15 2 = some (ad 2, .inl (G.2 1, 4, .inr (.inl (fun k => lN (wn k))))) := by rw [hMi, xu_n (by omega)]; exact hc2
            have hc3 : M_15 3 = some (ad 3, .inl (G.2 4, 100, .inr (.inr (.inr (.inr (fun k => if k < jc then some (ad (300 + k)) else none)))))) := by rw [hMi, xu_n (by omega)]; exact hc3
            have hcL : M_15 4 = some (ad 4, .inr (4, [.int bg, .int (nI cn), .ref (ad 6), .ref (ad 7), .ref (ad 8), .ref (ad 9), .ref (ad 10), .ref (ad 11), .ref (ad 12)])) := by rw [hMi, xu_n (by omega)]; exact hcL
            have hc5 : M_15 5 = some (ad 5, .inr (2, [.long fa, .long fb])) := by rw [hMi, xu_n (by omega)]; exact hc5
            have hc6 : M_15 6 = some (ad 6, .inl (G.2 0, 625, .inl (fun k => nI (zs k)))) := by rw [hMi, xu_n (by omega)]; exact hc6
            have hc7 : M_15 7 = some (ad 7, .inl (G.2 0, 625, .inl (fun k => nI (os k)))) := by rw [hMi, xu_n (by omega)]; exact hc7
            have hc8 : M_15 8 = some (ad 8, .inl (G.2 1, 625, .inr (.inl (fun k => lN (ab k))))) := by rw [hMi, xu_n (by omega)]; exact hc8
            have hc9 : M_15 9 = some (ad 9, .inl (G.2 1, 625, .inr (.inl (fun k => lN (bl k))))) := by rw [hMi, xu_n (by omega)]; exact hc9
            have hc10 : M_15 10 = some (ad 10, .inl (G.2 0, 625, .inl (fun k => nI (od k)))) := by rw [hMi, xu_n (by omega)]; exact hc10
            have hc11 : M_15 11 = some (ad 11, .inl (G.2 0, 625, .inl (fun k => nI (sp k)))) := by rw [hMi, xu_n (by omega)]; exact hc11
            have hc12 : M_15 12 = some (ad 12, .inl (G.2 2, 51, .inl (fun k => nI (pr k)))) := by rw [hMi, xu_n (by omega)]; exact hc12
            have hn0i : M_15 (100 + 3 * i) = some (ad (100 + 3 * i), .inr (5, [.int (sd i), .int (jn i), .ref (ad (100 + 3 * i + 1)), .ref (ad (100 + 3 * i + 2)), .int (nI (tc i)), .int (dt i), .long (fd i), .long (ld i)])) := by rw [hMi, xu_n (by omega)]; exact hn0i
            have hn1i : M_15 (100 + 3 * i + 1) = some (ad (100 + 3 * i + 1), .inl (G.2 0, 8, .inl (tk i))) := by rw [hMi, xu_n (by omega)]; exact hn1i
            have hn2i : M_15 (100 + 3 * i + 2) = some (ad (100 + 3 * i + 2), .inl (G.2 0, 8, .inl (kd i))) := by rw [hMi, xu_n (by omega)]; exact hn2i
            have hn0j : M_15 (100 + 3 * j) = some (ad (100 + 3 * j), .inr (5, [.int (sd j), .int (jn j), .ref (ad (100 + 3 * j + 1)), .ref (ad (100 + 3 * j + 2)), .int (nI (tc j)), .int (dt j), .long (fd j), .long (ld j)])) := by rw [hMi, xu_n (by omega)]; exact hn0j
            have hn1j : M_15 (100 + 3 * j + 1) = some (ad (100 + 3 * j + 1), .inl (G.2 0, 8, .inl (tk j))) := by rw [hMi, xu_n (by omega)]; exact hn1j
            have hn2j : M_15 (100 + 3 * j + 2) = some (ad (100 + 3 * j + 2), .inl (G.2 0, 8, .inl (kd j))) := by rw [hMi, xu_n (by omega)]; exact hn2j
            have hjj : M_15 (300 + jc) = some (q_12, .inr (3, [.ref (ad (100 + 3 * i)), .ref (ad (100 + 3 * j)), .int (nI 0)])) := by rw [hMi]; exact xu_s
            refine x_asN hx hb hK hX hS 4 rfl hc3 hjj rfl (by omega) (by decide) dX4_join_70 (fun H locs hX hS => ?_)
            obtain ⟨M_16, hM_16⟩ : ∃ zM : xM, zM = xu M_15 3 (ad 3, .inl (G.2 4, 100, .inr (.inr (.inr (.inr (va_up (fun k => if k < jc then some (ad (300 + k)) else none) jc (some q_12))))))) := ⟨_, rfl⟩
            have hX : xw G.1 vwCl A M_16 H := by rw [hM_16]; exact hX
            have hc0 : M_16 0 = some (ad 0, .inr (6, [.ref (ad 1), .int (nI nc), .ref (ad 2), .ref (ad 3), .int (nI jc), .ref (ad 4), .ref (ad 5)])) := by rw [hM_16, xu_n (by omega)]; exact hc0
            have hc1 : M_16 1 = some (ad 1, .inl (G.2 3, 50, .inr (.inr (.inr (.inr (fun k => if k < nc then some (ad (100 + 3 * k)) else none)))))) := by rw [hM_16, xu_n (by omega)]; exact hc1
            have hc2 : M_16 2 = some (ad 2, .inl (G.2 1, 4, .inr (.inl (fun k => lN (wn k))))) := by rw [hM_16, xu_n (by omega)]; exact hc2
            have hcL : M_16 4 = some (ad 4, .inr (4, [.int bg, .int (nI cn), .ref (ad 6), .ref (ad 7), .ref (ad 8), .ref (ad 9), .ref (ad 10), .ref (ad 11), .ref (ad 12)])) := by rw [hM_16, xu_n (by omega)]; exact hcL
            have hc5 : M_16 5 = some (ad 5, .inr (2, [.long fa, .long fb])) := by rw [hM_16, xu_n (by omega)]; exact hc5
            have hc6 : M_16 6 = some (ad 6, .inl (G.2 0, 625, .inl (fun k => nI (zs k)))) := by rw [hM_16, xu_n (by omega)]; exact hc6
            have hc7 : M_16 7 = some (ad 7, .inl (G.2 0, 625, .inl (fun k => nI (os k)))) := by rw [hM_16, xu_n (by omega)]; exact hc7
            have hc8 : M_16 8 = some (ad 8, .inl (G.2 1, 625, .inr (.inl (fun k => lN (ab k))))) := by rw [hM_16, xu_n (by omega)]; exact hc8
            have hc9 : M_16 9 = some (ad 9, .inl (G.2 1, 625, .inr (.inl (fun k => lN (bl k))))) := by rw [hM_16, xu_n (by omega)]; exact hc9
            have hc10 : M_16 10 = some (ad 10, .inl (G.2 0, 625, .inl (fun k => nI (od k)))) := by rw [hM_16, xu_n (by omega)]; exact hc10
            have hc11 : M_16 11 = some (ad 11, .inl (G.2 0, 625, .inl (fun k => nI (sp k)))) := by rw [hM_16, xu_n (by omega)]; exact hc11
            have hc12 : M_16 12 = some (ad 12, .inl (G.2 2, 51, .inl (fun k => nI (pr k)))) := by rw [hM_16, xu_n (by omega)]; exact hc12
            have hn0i : M_16 (100 + 3 * i) = some (ad (100 + 3 * i), .inr (5, [.int (sd i), .int (jn i), .ref (ad (100 + 3 * i + 1)), .ref (ad (100 + 3 * i + 2)), .int (nI (tc i)), .int (dt i), .long (fd i), .long (ld i)])) := by rw [hM_16, xu_n (by omega)]; exact hn0i
            have hn1i : M_16 (100 + 3 * i + 1) = some (ad (100 + 3 * i + 1), .inl (G.2 0, 8, .inl (tk i))) := by rw [hM_16, xu_n (by omega)]; exact hn1i
            have hn2i : M_16 (100 + 3 * i + 2) = some (ad (100 + 3 * i + 2), .inl (G.2 0, 8, .inl (kd i))) := by rw [hM_16, xu_n (by omega)]; exact hn2i
            have hn0j : M_16 (100 + 3 * j) = some (ad (100 + 3 * j), .inr (5, [.int (sd j), .int (jn j), .ref (ad (100 + 3 * j + 1)), .ref (ad (100 + 3 * j + 2)), .int (nI (tc j)), .int (dt j), .long (fd j), .long (ld j)])) := by rw [hM_16, xu_n (by omega)]; exact hn0j
            have hn1j : M_16 (100 + 3 * j + 1) = some (ad (100 + 3 * j + 1), .inl (G.2 0, 8, .inl (tk j))) := by rw [hM_16, xu_n (by omega)]; exact hn1j
            have hn2j : M_16 (100 + 3 * j + 2) = some (ad (100 + 3 * j + 2), .inl (G.2 0, 8, .inl (kd j))) := by rw [hM_16, xu_n (by omega)]; exact hn2j
            have hjj : M_16 (300 + jc) = some (q_12, .inr (3, [.ref (ad (100 + 3 * i)), .ref (ad (100 + 3 * j)), .int (nI 0)])) := by rw [hM_16, xu_n (by omega)]; exact hjj
            have hc3 : M_16 3 = some (ad 3, .inl (G.2 4, 100, .inr (.inr (.inr (.inr (va_up (fun k => if k < jc then some (ad (300 + k)) else none) jc (some q_12))))))) := by rw [hM_16]; exact xu_s
            refine lv_aload_n hx hb dX4_join_71 rfl (lv_at hl 2 rfl) ?_
            refine lv_dup hx hb dX4_join_72 rfl ?_
            refine x_get (ci := 6) (v := .int (nI jc)) (C := RX4) (T := TX4) (N := 7) hx hb hts inX4 hown hK hX hc0 rfl 4 (by decide) lk_fieldLink_31 (fun _ h9 => h9) rfl dX4_join_73 ?_
            refine lv_iconst (v := nI 1) hx hb dX4_join_76 (by decide) ?_
            refine lv_iadd hx hb dX4_join_77 ?_
            refine x_ri (nI_add _ _) ?_
            refine x_put (ci := 6) (v := .int (nI (jc + 1))) (C := RX4) (T := TX4) (N := 7) hx hb hts inX4 tyX4 tyX4_ok nmX4 hown hK hX hS hc0 rfl 4 (by decide) lk_fieldLink_31 (fun _ h9 => h9) rfl (tyX4_ok 4 (by decide)) rfl rfl (Nat.le_of_ble_eq_true rfl) dX4_join_78 (fun H locs hX hS => ?_)
            obtain ⟨M_17, hM_17⟩ : ∃ zM : xM, zM = xu M_16 0 (ad 0, .inr (6, [.ref (ad 1), .int (nI nc), .ref (ad 2), .ref (ad 3), .int (nI (jc + 1)), .ref (ad 4), .ref (ad 5)])) := ⟨_, rfl⟩
            have hX : xw G.1 vwCl A M_17 H := by rw [hM_17]; exact hX
            have hc1 : M_17 1 = some (ad 1, .inl (G.2 3, 50, .inr (.inr (.inr (.inr (fun k => if k < nc then some (ad (100 + 3 * k)) else none)))))) := by rw [hM_17, xu_n (by omega)]; exact hc1
            have hc2 : M_17 2 = some (ad 2, .inl (G.2 1, 4, .inr (.inl (fun k => lN (wn k))))) := by rw [hM_17, xu_n (by omega)]; exact hc2
            have hc3 : M_17 3 = some (ad 3, .inl (G.2 4, 100, .inr (.inr (.inr (.inr (va_up (fun k => if k < jc then some (ad (300 + k)) else none) jc (some q_12))))))) := by rw [hM_17, xu_n (by omega)]; exact hc3
            have hcL : M_17 4 = some (ad 4, .inr (4, [.int bg, .int (nI cn), .ref (ad 6), .ref (ad 7), .ref (ad 8), .ref (ad 9), .ref (ad 10), .ref (ad 11), .ref (ad 12)])) := by rw [hM_17, xu_n (by omega)]; exact hcL
            have hc5 : M_17 5 = some (ad 5, .inr (2, [.long fa, .long fb])) := by rw [hM_17, xu_n (by omega)]; exact hc5
            have hc6 : M_17 6 = some (ad 6, .inl (G.2 0, 625, .inl (fun k => nI (zs k)))) := by rw [hM_17, xu_n (by omega)]; exact hc6
            have hc7 : M_17 7 = some (ad 7, .inl (G.2 0, 625, .inl (fun k => nI (os k)))) := by rw [hM_17, xu_n (by omega)]; exact hc7
            have hc8 : M_17 8 = some (ad 8, .inl (G.2 1, 625, .inr (.inl (fun k => lN (ab k))))) := by rw [hM_17, xu_n (by omega)]; exact hc8
            have hc9 : M_17 9 = some (ad 9, .inl (G.2 1, 625, .inr (.inl (fun k => lN (bl k))))) := by rw [hM_17, xu_n (by omega)]; exact hc9
            have hc10 : M_17 10 = some (ad 10, .inl (G.2 0, 625, .inl (fun k => nI (od k)))) := by rw [hM_17, xu_n (by omega)]; exact hc10
            have hc11 : M_17 11 = some (ad 11, .inl (G.2 0, 625, .inl (fun k => nI (sp k)))) := by rw [hM_17, xu_n (by omega)]; exact hc11
            have hc12 : M_17 12 = some (ad 12, .inl (G.2 2, 51, .inl (fun k => nI (pr k)))) := by rw [hM_17, xu_n (by omega)]; exact hc12
            have hn0i : M_17 (100 + 3 * i) = some (ad (100 + 3 * i), .inr (5, [.int (sd i), .int (jn i), .ref (ad (100 + 3 * i + 1)), .ref (ad (100 + 3 * i + 2)), .int (nI (tc i)), .int (dt i), .long (fd i), .long (ld i)])) := by rw [hM_17, xu_n (by omega)]; exact hn0i
            have hn1i : M_17 (100 + 3 * i + 1) = some (ad (100 + 3 * i + 1), .inl (G.2 0, 8, .inl (tk i))) := by rw [hM_17, xu_n (by omega)]; exact hn1i
            have hn2i : M_17 (100 + 3 * i + 2) = some (ad (100 + 3 * i + 2), .inl (G.2 0, 8, .inl (kd i))) := by rw [hM_17, xu_n (by omega)]; exact hn2i
            have hn0j : M_17 (100 + 3 * j) = some (ad (100 + 3 * j), .inr (5, [.int (sd j), .int (jn j), .ref (ad (100 + 3 * j + 1)), .ref (ad (100 + 3 * j + 2)), .int (nI (tc j)), .int (dt j), .long (fd j), .long (ld j)])) := by rw [hM_17, xu_n (by omega)]; exact hn0j
            have hn1j : M_17 (100 + 3 * j + 1) = some (ad (100 + 3 * j + 1), .inl (G.2 0, 8, .inl (tk j))) := by rw [hM_17, xu_n (by omega)]; exact hn1j
            have hn2j : M_17 (100 + 3 * j + 2) = some (ad (100 + 3 * j + 2), .inl (G.2 0, 8, .inl (kd j))) := by rw [hM_17, xu_n (by omega)]; exact hn2j
            have hjj : M_17 (300 + jc) = some (q_12, .inr (3, [.ref (ad (100 + 3 * i)), .ref (ad (100 + 3 * j)), .int (nI 0)])) := by rw [hM_17, xu_n (by omega)]; exact hjj
            have hc0 : M_17 0 = some (ad 0, .inr (6, [.ref (ad 1), .int (nI nc), .ref (ad 2), .ref (ad 3), .int (nI (jc + 1)), .ref (ad 4), .ref (ad 5)])) := by rw [hM_17]; exact xu_s
            refine lv_aload_n hx hb dX4_join_81 rfl (lv_at hl 1 rfl) ?_
            refine lv_iconst (v := nI 1) hx hb dX4_join_82 (by decide) ?_
            refine x_put (ci := 5) (v := .int (nI 1)) (C := RX3) (T := TX3) (N := 8) hx hb hts inX3 tyX3 tyX3_ok nmX3 hown hK hX hS hn0i rfl 1 (by decide) lk_fieldLink_131 (fun _ h9 => h9) rfl (tyX3_ok 1 (by decide)) rfl rfl (Nat.le_of_ble_eq_true rfl) dX4_join_83 (fun H locs hX hS => ?_)
            obtain ⟨M_18, hM_18⟩ : ∃ zM : xM, zM = xu M_17 (100 + 3 * i) (ad (100 + 3 * i), .inr (5, [.int (sd i), .int (nI 1), .ref (ad (100 + 3 * i + 1)), .ref (ad (100 + 3 * i + 2)), .int (nI (tc i)), .int (dt i), .long (fd i), .long (ld i)])) := ⟨_, rfl⟩
            have hX : xw G.1 vwCl A M_18 H := by rw [hM_18]; exact hX
            have hc0 : M_18 0 = some (ad 0, .inr (6, [.ref (ad 1), .int (nI nc), .ref (ad 2), .ref (ad 3), .int (nI (jc + 1)), .ref (ad 4), .ref (ad 5)])) := by rw [hM_18, xu_n (by omega)]; exact hc0
            have hc1 : M_18 1 = some (ad 1, .inl (G.2 3, 50, .inr (.inr (.inr (.inr (fun k => if k < nc then some (ad (100 + 3 * k)) else none)))))) := by rw [hM_18, xu_n (by omega)]; exact hc1
            have hc2 : M_18 2 = some (ad 2, .inl (G.2 1, 4, .inr (.inl (fun k => lN (wn k))))) := by rw [hM_18, xu_n (by omega)]; exact hc2
            have hc3 : M_18 3 = some (ad 3, .inl (G.2 4, 100, .inr (.inr (.inr (.inr (va_up (fun k => if k < jc then some (ad (300 + k)) else none) jc (some q_12))))))) := by rw [hM_18, xu_n (by omega)]; exact hc3
            have hcL : M_18 4 = some (ad 4, .inr (4, [.int bg, .int (nI cn), .ref (ad 6), .ref (ad 7), .ref (ad 8), .ref (ad 9), .ref (ad 10), .ref (ad 11), .ref (ad 12)])) := by rw [hM_18, xu_n (by omega)]; exact hcL
            have hc5 : M_18 5 = some (ad 5, .inr (2, [.long fa, .long fb])) := by rw [hM_18, xu_n (by omega)]; exact hc5
            have hc6 : M_18 6 = some (ad 6, .inl (G.2 0, 625, .inl (fun k => nI (zs k)))) := by rw [hM_18, xu_n (by omega)]; exact hc6
            have hc7 : M_18 7 = some (ad 7, .inl (G.2 0, 625, .inl (fun k => nI (os k)))) := by rw [hM_18, xu_n (by omega)]; exact hc7
            have hc8 : M_18 8 = some (ad 8, .inl (G.2 1, 625, .inr (.inl (fun k => lN (ab k))))) := by rw [hM_18, xu_n (by omega)]; exact hc8
            have hc9 : M_18 9 = some (ad 9, .inl (G.2 1, 625, .inr (.inl (fun k => lN (bl k))))) := by rw [hM_18, xu_n (by omega)]; exact hc9
            have hc10 : M_18 10 = some (ad 10, .inl (G.2 0, 625, .inl (fun k => nI (od k)))) := by rw [hM_18, xu_n (by omega)]; exact hc10
            have hc11 : M_18 11 = some (ad 11, .inl (G.2 0, 625, .inl (fun k => nI (sp k)))) := by rw [hM_18, xu_n (by omega)]; exact hc11
            have hc12 : M_18 12 = some (ad 12, .inl (G.2 2, 51, .inl (fun k => nI (pr k)))) := by rw [hM_18, xu_n (by omega)]; exact hc12
            have hn1i : M_18 (100 + 3 * i + 1) = some (ad (100 + 3 * i + 1), .inl (G.2 0, 8, .inl (tk i))) := by rw [hM_18, xu_n (by omega)]; exact hn1i
            have hn2i : M_18 (100 + 3 * i + 2) = some (ad (100 + 3 * i + 2), .inl (G.2 0, 8, .inl (kd i))) := by rw [hM_18, xu_n (by omega)]; exact hn2i
            have hn0j : M_18 (100 + 3 * j) = some (ad (100 + 3 * j), .inr (5, [.int (sd j), .int (jn j), .ref (ad (100 + 3 * j + 1)), .ref (ad (100 + 3 * j + 2)), .int (nI (tc j)), .int (dt j), .long (fd j), .long (ld j)])) := by rw [hM_18, xu_n (by omega)]; exact hn0j
            have hn1j : M_18 (100 + 3 * j + 1) = some (ad (100 + 3 * j + 1), .inl (G.2 0, 8, .inl (tk j))) := by rw [hM_18, xu_n (by omega)]; exact hn1j
            have hn2j : M_18 (100 + 3 * j + 2) = some (ad (100 + 3 * j + 2), .inl (G.2 0, 8, .inl (kd j))) := by rw [hM_18, xu_n (by omega)]; exact hn2j
            have hjj : M_18 (300 + jc) = some (q_12, .inr (3, [.ref (ad (100 + 3 * i)), .ref (ad (100 + 3 * j)), .int (nI 0)])) := by rw [hM_18, xu_n (by omega)]; exact hjj
            have hn0i : M_18 (100 + 3 * i) = some (ad (100 + 3 * i), .inr (5, [.int (sd i), .int (nI 1), .ref (ad (100 + 3 * i + 1)), .ref (ad (100 + 3 * i + 2)), .int (nI (tc i)), .int (dt i), .long (fd i), .long (ld i)])) := by rw [hM_18]; exact xu_s
            refine lv_aload hx hb dX4_join_86 (lv_at hl 0 rfl) ?_
            refine lv_iconst (v := nI 1) hx hb dX4_join_88 (by decide) ?_
            refine x_put (ci := 5) (v := .int (nI 1)) (C := RX3) (T := TX3) (N := 8) hx hb hts inX3 tyX3 tyX3_ok nmX3 hown hK hX hS hn0j rfl 1 (by decide) lk_fieldLink_131 (fun _ h9 => h9) rfl (tyX3_ok 1 (by decide)) rfl rfl (Nat.le_of_ble_eq_true rfl) dX4_join_89 (fun H locs hX hS => ?_)
            obtain ⟨M_19, hM_19⟩ : ∃ zM : xM, zM = xu M_18 (100 + 3 * j) (ad (100 + 3 * j), .inr (5, [.int (sd j), .int (nI 1), .ref (ad (100 + 3 * j + 1)), .ref (ad (100 + 3 * j + 2)), .int (nI (tc j)), .int (dt j), .long (fd j), .long (ld j)])) := ⟨_, rfl⟩
            have hX : xw G.1 vwCl A M_19 H := by rw [hM_19]; exact hX
            have hc0 : M_19 0 = some (ad 0, .inr (6, [.ref (ad 1), .int (nI nc), .ref (ad 2), .ref (ad 3), .int (nI (jc + 1)), .ref (ad 4), .ref (ad 5)])) := by rw [hM_19, xu_n (by omega)]; exact hc0
            have hc1 : M_19 1 = some (ad 1, .inl (G.2 3, 50, .inr (.inr (.inr (.inr (fun k => if k < nc then some (ad (100 + 3 * k)) else none)))))) := by rw [hM_19, xu_n (by omega)]; exact hc1
            have hc2 : M_19 2 = some (ad 2, .inl (G.2 1, 4, .inr (.inl (fun k => lN (wn k))))) := by rw [hM_19, xu_n (by omega)]; exact hc2
            have hc3 : M_19 3 = some (ad 3, .inl (G.2 4, 100, .inr (.inr (.inr (.inr (va_up (fun k => if k < jc then some (ad (300 + k)) else none) jc (some q_12))))))) := by rw [hM_19, xu_n (by omega)]; exact hc3
            have hcL : M_19 4 = some (ad 4, .inr (4, [.int bg, .int (nI cn), .ref (ad 6), .ref (ad 7), .ref (ad 8), .ref (ad 9), .ref (ad 10), .ref (ad 11), .ref (ad 12)])) := by rw [hM_19, xu_n (by omega)]; exact hcL
            have hc5 : M_19 5 = some (ad 5, .inr (2, [.long fa, .long fb])) := by rw [hM_19, xu_n (by omega)]; exact hc5
            have hc6 : M_19 6 = some (ad 6, .inl (G.2 0, 625, .inl (fun k => nI (zs k)))) := by rw [hM_19, xu_n (by omega)]; exact hc6
            have hc7 : M_19 7 = some (ad 7, .inl (G.2 0, 625, .inl (fun k => nI (os k)))) := by rw [hM_19, xu_n (by omega)]; exact hc7
            have hc8 : M_19 8 = some (ad 8, .inl (G.2 1, 625, .inr (.inl (fun k => lN (ab k))))) := by rw [hM_19, xu_n (by omega)]; exact hc8
            have hc9 : M_19 9 = some (ad 9, .inl (G.2 1, 625, .inr (.inl (fun k => lN (bl k))))) := by rw [hM_19, xu_n (by omega)]; exact hc9
            have hc10 : M_19 10 = some (ad 10, .inl (G.2 0, 625, .inl (fun k => nI (od k)))) := by rw [hM_19, xu_n (by omega)]; exact hc10
            have hc11 : M_19 11 = some (ad 11, .inl (G.2 0, 625, .inl (fun k => nI (sp k)))) := by rw [hM_19, xu_n (by omega)]; exact hc11
            have hc12 : M_19 12 = some (ad 12, .inl (G.2 2, 51, .inl (fun k => nI (pr k)))) := by rw [hM_19, xu_n (by omega)]; exact hc12
            have hn0i : M_19 (100 + 3 * i) = some (ad (100 + 3 * i), .inr (5, [.int (sd i), .int (nI 1), .ref (ad (100 + 3 * i + 1)), .ref (ad (100 + 3 * i + 2)), .int (nI (tc i)), .int (dt i), .long (fd i), .long (ld i)])) := by rw [hM_19, xu_n (by omega)]; exact hn0i
            have hn1i : M_19 (100 + 3 * i + 1) = some (ad (100 + 3 * i + 1), .inl (G.2 0, 8, .inl (tk i))) := by rw [hM_19, xu_n (by omega)]; exact hn1i
            have hn2i : M_19 (100 + 3 * i + 2) = some (ad (100 + 3 * i + 2), .inl (G.2 0, 8, .inl (kd i))) := by rw [hM_19, xu_n (by omega)]; exact hn2i
            have hn1j : M_19 (100 + 3 * j + 1) = some (ad (100 + 3 * j + 1), .inl (G.2 0, 8, .inl (tk j))) := by rw [hM_19, xu_n (by omega)]; exact hn1j
            have hn2j : M_19 (100 + 3 * j + 2) = some (ad (100 + 3 * j + 2), .inl (G.2 0, 8, .inl (kd j))) := by rw [hM_19, xu_n (by omega)]; exact hn2j
            have hjj : M_19 (300 + jc) = some (q_12, .inr (3, [.ref (ad (100 + 3 * i)), .ref (ad (100 + 3 * j)), .int (nI 0)])) := by rw [hM_19, xu_n (by omega)]; exact hjj
            have hn0j : M_19 (100 + 3 * j) = some (ad (100 + 3 * j), .inr (5, [.int (sd j), .int (nI 1), .ref (ad (100 + 3 * j + 1)), .ref (ad (100 + 3 * j + 2)), .int (nI (tc j)), .int (dt j), .long (fd j), .long (ld j)])) := by rw [hM_19]; exact xu_s
            refine lv_aload_n hx hb dX4_join_92 rfl (lv_at hl 2 rfl) ?_
            refine x_get (ci := 6) (v := .int (nI (jc + 1))) (C := RX4) (T := TX4) (N := 7) hx hb hts inX4 hown hK hX hc0 rfl 4 (by decide) lk_fieldLink_31 (fun _ h9 => h9) rfl dX4_join_93 ?_
            refine W.widen (k := 1) (n := 3) (by omega) (by omega) ?_
            exact x_iret hx hb hr hlocks hK hA hX hS dX4_join_96 (Or.inl ⟨i, j, hi, hj, ⟨epi, epj⟩, c_5, ⟨hmi, hmj⟩, rfl, q_12, by rw [hM_19, hM_18, hM_17, hM_16, hMi, hM_13, x_uu]⟩)
          · have hmj := x_if0 er_9 c_11
            refine lv_iconst (v := nI 0) hx hb dX4_join_50 (by decide) ?_
            refine W.widen (k := 1) (n := 3) (by omega) (by omega) ?_
            exact x_iret hx hb hr hlocks hK hA hX hS dX4_join_51 (Or.inr ⟨fun q => by obtain ⟨i9, j9, hi9, hj9, ⟨e1, e2⟩, hjc9, hh9⟩ := q; have z := (nI_eq (a := j + 1) (b := j9 + 1) (by omega) (by omega)).mp (epj.symm.trans e2); rw [show j = j9 by omega] at hmj; exact hmj hh9.2, rfl, rfl⟩)
      · have c_5 : ¬ (jc < 100) := fun q => c_5 ((nI_ltI (by omega) (by omega)).mpr q)
        refine lv_iconst (v := nI 0) hx hb dX4_join_31 (by decide) ?_
        refine W.widen (k := 1) (n := 3) (by omega) (by omega) ?_
        exact x_iret hx hb hr hlocks hK hA hX hS dX4_join_32 (Or.inr ⟨fun q => by obtain ⟨i9, j9, hi9, hj9, ⟨e1, e2⟩, hjc9, hh9⟩ := q; omega, rfl, rfl⟩)
    · subst erj
      refine x_rv (y := .null) rfl ?_
      refine lv_astoreN (lv' := [(4, .null), (3, .ref (ad (100 + 3 * i))), (0, .ref (ad 0)), (1, .int p0), (2, .int p1)]) hx hb dX4_join_11 hl (by decide) rfl (fun ls hl => ?_)
      refine lv_aload_n hx hb dX4_join_13 rfl (lv_at hl 1 rfl) ?_
      refine lv_ifnull hx hb dX4_join_14 ?_
      refine lv_aloadN hx hb dX4_join_17 (lv_at hl 0 rfl) ?_
      refine lv_ifnullN (tgt := 31) hx hb dX4_join_19 (by decide) ?_
      refine lv_iconst (v := nI 0) hx hb dX4_join_31 (by decide) ?_
      refine W.widen (k := 1) (n := 3) (by omega) (by omega) ?_
      exact x_iret hx hb hr hlocks hK hA hX hS dX4_join_32 (Or.inr ⟨fun q => by obtain ⟨i9, j9, hi9, hj9, ⟨e1, e2⟩, hjc9, hh9⟩ := q; exact epj.elim (fun z => by rw [e2] at z; have := (nI_ltI (by omega) (by omega)).mp z; omega) (fun z => z (by rw [e2]; exact (nI_leI (by omega) (by omega)).mpr (by omega))), rfl, rfl⟩)
  · subst eri
    refine x_rv (y := .null) rfl ?_
    refine lv_astore_nN (lv' := [(3, .null), (0, .ref (ad 0)), (1, .int p0), (2, .int p1)]) hx hb dX4_join_5 rfl hl (by decide) rfl (fun ls hl => ?_)
    refine lv_aload_n hx hb dX4_join_6 rfl (lv_at hl 1 rfl) ?_
    refine lv_iload_n hx hb dX4_join_7 rfl (lv_at hl 3 rfl) ?_
    refine x_callq (x_runV (q := (RX4, TX4, 7)) (As := [.int p1]) (rest := []) ⟨hx, hb, hml, hown, hts⟩ (ctX4_find l G A M hRR p1 hnc) (cwV 1 hts gX4_join_X4_find rfl rfl rfl (by decide +kernel) ⟨Nat.le_of_ble_eq_true rfl, Nat.le_of_ble_eq_true rfl⟩) hK hA hX hS hc0 rfl rfl hl.1 rfl (lv_room (Nat.le_of_ble_eq_true rfl)) dX4_join_8 ⟨by decide, by decide⟩) hS (fun r_20 M_21 H locs hp hX hS => ?_)
    obtain ⟨hM_, hq_r_20⟩ := hp
    rw [hM_] at hX
    rcases hq_r_20 with ⟨j, hj, epj, erj⟩ | ⟨epj, erj⟩
    · subst erj
      obtain ⟨hn0j, hn1j, hn2j⟩ := hnm j hj
      refine x_rv (y := .ref (ad (100 + 3 * j))) rfl ?_
      refine lv_astore (lv' := [(4, .ref (ad (100 + 3 * j))), (3, .null), (0, .ref (ad 0)), (1, .int p0), (2, .int p1)]) hx hb dX4_join_11 hl (by decide) rfl (fun ls hl => ?_)
      refine lv_aload_nN hx hb dX4_join_13 rfl (lv_at hl 1 rfl) ?_
      refine lv_ifnullN (tgt := 31) hx hb dX4_join_14 (by decide) ?_
      refine lv_iconst (v := nI 0) hx hb dX4_join_31 (by decide) ?_
      refine W.widen (k := 1) (n := 3) (by omega) (by omega) ?_
      exact x_iret hx hb hr hlocks hK hA hX hS dX4_join_32 (Or.inr ⟨fun q => by obtain ⟨i9, j9, hi9, hj9, ⟨e1, e2⟩, hjc9, hh9⟩ := q; exact epi.elim (fun z => by rw [e1] at z; have := (nI_ltI (by omega) (by omega)).mp z; omega) (fun z => z (by rw [e1]; exact (nI_leI (by omega) (by omega)).mpr (by omega))), rfl, rfl⟩)
    · subst erj
      refine x_rv (y := .null) rfl ?_
      refine lv_astoreN (lv' := [(4, .null), (3, .null), (0, .ref (ad 0)), (1, .int p0), (2, .int p1)]) hx hb dX4_join_11 hl (by decide) rfl (fun ls hl => ?_)
      refine lv_aload_nN hx hb dX4_join_13 rfl (lv_at hl 1 rfl) ?_
      refine lv_ifnullN (tgt := 31) hx hb dX4_join_14 (by decide) ?_
      refine lv_iconst (v := nI 0) hx hb dX4_join_31 (by decide) ?_
      refine W.widen (k := 1) (n := 3) (by omega) (by omega) ?_
      exact x_iret hx hb hr hlocks hK hA hX hS dX4_join_32 (Or.inr ⟨fun q => by obtain ⟨i9, j9, hi9, hj9, ⟨e1, e2⟩, hjc9, hh9⟩ := q; exact epi.elim (fun z => by rw [e1] at z; have := (nI_ltI (by omega) (by omega)).mp z; omega) (fun z => z (by rw [e1]; exact (nI_leI (by omega) (by omega)).mpr (by omega))), rfl, rfl⟩)

abbrev rmX4_undo : Room := { frames := 1, cells := 0, slots := 0, locals := 20 }
set_option maxHeartbeats 4000000 in
set_option maxRecDepth 100000 in
/-- undo -/
theorem ctX4_undo (l : Launch) (G : xG) (A : Nat → Prop) (M : xM) {ad : Nat → Nat} {nc : Nat} {sd : Nat → Int32} {jn : Nat → Int32} {tc : Nat → Nat} {dt : Nat → Int32} {fd : Nat → Int64} {ld : Nat → Int64} {tk : Nat → Nat → Int32} {kd : Nat → Nat → Int32} {wn : Nat → Nat} {jc : Nat} {jz : Nat → Nat} {jo : Nat → Nat} {ju : Nat → Int32} {bg : Int32} {cn : Nat} {zs : Nat → Nat} {os : Nat → Nat} {ab : Nat → Nat} {bl : Nat → Nat} {od : Nat → Nat} {sp : Nat → Nat} {pr : Nat → Nat} {fa : Int64} {fb : Int64} (hR : xRec G M ad nc sd jn tc dt fd ld tk kd wn jc jz jo ju bg cn zs os ab bl od sp pr fa fb) (p0 : Int32) (hnc : nc ≤ 50) (hjc : jc ≤ 100) (hjk : ∀ j, j < jc → jz j < nc ∧ jo j < nc ∧ jz j ≠ jo j) : Met l yX4_undo wsX4_undo rmX4_undo (va_Pc ([.ref (ad 0), .int p0] : List Value) (xPc G A M)) (va_Qi (fun r M1 => (∃ i, i < jc ∧ p0 = nI (i + 1) ∧ ju i = 0 ∧ r = nI 1 ∧ M1 = xu (xu (xu M (300 + i) (ad (300 + i), .inr (3, [.ref (ad (100 + 3 * jz i)), .ref (ad (100 + 3 * jo i)), .int (nI 1)]))) (100 + 3 * jz i) (ad (100 + 3 * jz i), .inr (5, [.int (sd (jz i)), .int (nI 0), .ref (ad (100 + 3 * (jz i) + 1)), .ref (ad (100 + 3 * (jz i) + 2)), .int (nI (tc (jz i))), .int (dt (jz i)), .long (fd (jz i)), .long (ld (jz i))]))) (100 + 3 * jo i) (ad (100 + 3 * jo i), .inr (5, [.int (sd (jo i)), .int (nI 0), .ref (ad (100 + 3 * (jo i) + 1)), .ref (ad (100 + 3 * (jo i) + 2)), .int (nI (tc (jo i))), .int (dt (jo i)), .long (fd (jo i)), .long (ld (jo i))]))) ∨ (((p0 < nI 1 ∨ ¬ p0 ≤ nI jc) ∨ ∃ i, i < jc ∧ p0 = nI (i + 1) ∧ ¬ ju i = 0) ∧ r = nI 0 ∧ M1 = M)) (xPc G A) A) 0 0 A := by
  refine x_met (cc := cX4_undo) (maxL := 3) (ret := (some .int)) RX4 (by decide) rfl (Nat.le_of_ble_eq_true rfl) rfl ?_
  intro p e s m below meth c hx hb hr hts hown hlocks hml hin hK hA hX ls hl
  have inX1 : ∀ w ∈ wsX10, w ∈ wsX4_undo := by decide +kernel
  have inX4 : ∀ w ∈ wsX40, w ∈ wsX4_undo := by decide +kernel
  have lk_fieldLink_31 := hts (.fieldLink RX4 31 "Reconcile" "joinCount" "I") (by decide +kernel)
  have lk_fieldLink_27 := hts (.fieldLink RX4 27 "Reconcile" "joins" "[LReconcile$Join;") (by decide +kernel)
  have lk_fieldLink_135 := hts (.fieldLink RX4 135 "Reconcile$Join" "undone" "Z") (by decide +kernel)
  have hS : va_S A s.heap s.heap [] := va_S.rf
  have hl : lv_has ls 3 [(0, .ref (ad 0)), (1, .int p0)] := hl
  obtain ⟨hc0, hc1, hc2, hc3, hcL, hc5, hc6, hc7, hc8, hc9, hc10, hc11, hc12, hnm, hjn⟩ := hR
  refine lv_iload_n hx hb dX4_undo_0 rfl (lv_at hl 1 rfl) ?_
  refine lv_iconst (v := nI 1) hx hb dX4_undo_1 (by decide) ?_
  refine lv_icmp_lt (tgt := 13) hx hb dX4_undo_2 (by decide) (fun c_1 => ?_) (fun c_1 => ?_)
  · refine lv_iconst (v := nI 0) hx hb dX4_undo_13 (by decide) ?_
    exact x_iret hx hb hr hlocks hK hA hX hS dX4_undo_14 (Or.inr ⟨Or.inl (Or.inl c_1), rfl, rfl⟩)
  · refine lv_iload_n hx hb dX4_undo_5 rfl (lv_at hl 1 rfl) ?_
    refine lv_aload_n hx hb dX4_undo_6 rfl (lv_at hl 0 rfl) ?_
    refine x_get (ci := 6) (v := .int (nI jc)) (C := RX4) (T := TX4) (N := 7) hx hb hts inX4 hown hK hX hc0 rfl 4 (by decide) lk_fieldLink_31 (fun _ h9 => h9) rfl dX4_undo_7 ?_
    refine lv_icmp_le (tgt := 15) hx hb dX4_undo_10 (by decide) (fun c_2 => ?_) (fun c_2 => ?_)
    · obtain ⟨i, hi, ep⟩ := x_p1 (by omega) c_1 c_2
      subst ep
      refine lv_aload_n hx hb dX4_undo_15 rfl (lv_at hl 0 rfl) ?_
      refine x_get (ci := 6) (v := .ref (ad 3)) (C := RX4) (T := TX4) (N := 7) hx hb hts inX4 hown hK hX hc0 rfl 3 (by decide) lk_fieldLink_27 (fun _ h9 => h9) rfl dX4_undo_16 ?_
      refine lv_iload_n hx hb dX4_undo_19 rfl (lv_at hl 1 rfl) ?_
      refine lv_iconst (v := nI 1) hx hb dX4_undo_20 (by decide) ?_
      refine lv_isub hx hb dX4_undo_21 ?_
      refine x_ri (pk_sub (by omega)) ?_
      refine x_ri (y := nI i) (congrArg nI (by omega)) ?_
      refine x_aN hx hb hK hX 4 rfl hc3 (by omega) (by decide) dX4_undo_22 ?_
      rw [if_pos hi]
      refine x_rv (y := .ref (ad (300 + i))) rfl ?_
      have hj := hjn i hi
      obtain ⟨hz, ho, hzo⟩ := hjk i hi
      obtain ⟨hn0z, hn1z, hn2z⟩ := hnm (jz i) hz
      obtain ⟨hn0o, hn1o, hn2o⟩ := hnm (jo i) ho
      refine lv_astore_n (lv' := [(2, .ref (ad (300 + i))), (0, .ref (ad 0)), (1, .int (nI (i + 1)))]) hx hb dX4_undo_23 rfl hl (by decide) rfl (fun ls hl => ?_)
      refine lv_aload_n hx hb dX4_undo_24 rfl (lv_at hl 0 rfl) ?_
      refine lv_ifnull hx hb dX4_undo_25 ?_
      refine lv_aload_n hx hb dX4_undo_28 rfl (lv_at hl 0 rfl) ?_
      refine x_get (ci := 3) (v := .int (ju i)) (C := RX1) (T := TX1) (N := 3) hx hb hts inX1 hown hK hX hj rfl 2 (by decide) lk_fieldLink_135 (fun _ h9 => h9) rfl dX4_undo_29 ?_
      refine lv_if_eq (tgt := 37) hx hb dX4_undo_32 (by decide) (fun c_3 => ?_) (fun c_3 => ?_)
      · refine lv_aload_n hx hb dX4_undo_37 rfl (lv_at hl 0 rfl) ?_
        refine x_callv (x_runV (q := (RX1, TX1, 3)) (As := []) (rest := []) ⟨hx, hb, hml, hown, hts⟩ (ctX1_takeBack l G A M (tk := tk 0) (kd := kd 0) (tk_ := tk 0) (kd_ := kd 0) hn0z hn0o hj (by omega) (by omega) (by omega)) (cwV 0 hts gX4_undo_X1_takeBack rfl rfl rfl (by decide +kernel) ⟨Nat.le_of_ble_eq_true rfl, Nat.le_of_ble_eq_true rfl⟩) hK hA hX hS hj rfl rfl hl.1 rfl (lv_room (Nat.le_of_ble_eq_true rfl)) dX4_undo_38 ⟨by decide, by decide⟩) hS (fun M_5 H locs hp hX hS => ?_)
        refine lv_iconst (v := nI 1) hx hb dX4_undo_41 (by decide) ?_
        exact x_iret hx hb hr hlocks hK hA hX hS dX4_undo_42 (Or.inl ⟨i, hi, rfl, c_3, rfl, hp⟩)
      · refine lv_iconst (v := nI 0) hx hb dX4_undo_35 (by decide) ?_
        exact x_iret hx hb hr hlocks hK hA hX hS dX4_undo_36 (Or.inr ⟨Or.inr ⟨i, hi, rfl, c_3⟩, rfl, rfl⟩)
    · refine lv_iconst (v := nI 0) hx hb dX4_undo_13 (by decide) ?_
      exact x_iret hx hb hr hlocks hK hA hX hS dX4_undo_14 (Or.inr ⟨Or.inl (Or.inr c_2), rfl, rfl⟩)
