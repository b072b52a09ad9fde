/-! the law's cases, on -/
set_option maxHeartbeats 4000000 in
set_option maxRecDepth 100000 in
theorem law_mutual {p : Program} {l : Launch} {e : Env} {s : State} {m : MethodId} {below : List Frame} {meth : Method} {c : Code} {Q : State → Prop} {G : xG} {b L s1 s2 qa qm qo i C S : Nat} {xs : Nat → Int32} (C0 : lwC p l s m meth c b L xs G s1 s2) (hi : 6 * i + 6 ≤ L) (hC : C + 3 ≤ 603072) (hSl : S + 24 ≤ 7215210) {M : xM} {H : Heap} {locs : List Loc} {ls : Array Slot} (hRel : xRel G M qa qm qo) (hX : xw G.1 vwCl (lA s) M H) (hS : va_S (lA s) s.heap H locs) (hl : lv_has ls 8 [(4, .int (nI (6 * i))), (0, .ref b), (1, .ref qa), (2, .ref qm), (3, .ref qo)])
    (kk : ∀ (M : xM) (H : Heap) (locs : List Loc) (ls : Array Slot), xRel G M qa qm qo → xw G.1 vwCl (lA s) M H → va_S (lA s) s.heap H locs → lv_has ls 8 [(4, .int (nI (6 * i))), (0, .ref b), (1, .ref qa), (2, .ref qm), (3, .ref qo)] → W p l e room_1 s m #[Value.ref b] below meth c H locs (C + 3) (S + 24) Q (F0 m 823 ls [])) : W p l e room_1 s m #[Value.ref b] below meth c H locs C S Q (F0 m 525 ls []) := by
  obtain ⟨⟨hx, hb, hr, hml, hown, htt, hX0, hbl, hlocks, hgv⟩, hK, hT, hTC, hst, hL⟩ := C0
  have hA : ∀ q : Nat, s.heap.size ≤ q → lA s q := fun _ h => h
  have hbA : ¬ lA s b := Nat.not_le.mpr hbl
  have hts : ∀ w ∈ wsL_law, w.before #[Value.ref b] s = true := fun w hw => htt w (wsL_law_in w hw)
  have hb : c.code = cL_law := hb
  have hown : s.vm.findClass RL = some m.cls := hown
  have hRel0 : ∃ fs, M 0 = some (qa, .inr (6, fs)) := xRel_0 hRel
  obtain ⟨fs0, he0⟩ := hRel0
  refine lv_aload_n hx hb dL_law_525 rfl (lv_at hl 2 rfl) ?_
  refine lv_aload_n hx hb dL_law_526 rfl (lv_at hl 1 rfl) ?_
  refine lv_iload hx hb dL_law_527 (lv_at hl 0 rfl) ?_
  refine lv_iconst (v := nI 1) hx hb dL_law_529 (by decide) ?_
  refine lv_iadd hx hb dL_law_530 ?_
  refine x_ri (y := nI (6 * i + 1)) (nI_add _ _) ?_
  refine x_sld hx hb hX0 hbl hbA hS (i := 6 * i + 1) (by omega) hL dL_law_531 ?_
  obtain ⟨post4, hM4, k4⟩ := rl_mutual l G (lA s) hRel (xs (6 * i + 1))
  refine x_calli (x_runV (q := (RX4, TX4, 7)) (As := [.int (xs (6 * i + 1))]) (rest := []) ⟨hx, hb, hml, hown, hts⟩ hM4 (cwV 1 hts gL_law_X4_mutual rfl rfl rfl (by decide +kernel) ⟨Nat.le_of_ble_eq_true rfl, Nat.le_of_ble_eq_true rfl⟩) hK hA hX hS he0 rfl rfl hl.1 rfl (lv_room (Nat.le_of_ble_eq_true rfl)) dL_law_532 ⟨by show C + 0 ≤ 603072; omega, by show S + 0 ≤ 7215210; omega⟩) hS (fun r M1 H locs hp hX hS => ?_)
  obtain ⟨⟨fs5, he5⟩, post5, hM5, k5⟩ := k4 r M1 hp
  refine lv_aload_n hx hb dL_law_535 rfl (lv_at hl 3 rfl) ?_
  refine lv_aload_n hx hb dL_law_536 rfl (lv_at hl 1 rfl) ?_
  refine lv_iload hx hb dL_law_537 (lv_at hl 0 rfl) ?_
  refine lv_iconst (v := nI 1) hx hb dL_law_539 (by decide) ?_
  refine lv_iadd hx hb dL_law_540 ?_
  refine x_ri (y := nI (6 * i + 1)) (nI_add _ _) ?_
  refine x_sld hx hb hX0 hbl hbA hS (i := 6 * i + 1) (by omega) hL dL_law_541 ?_
  refine x_calli (x_runV (q := (RX5, TX5, 23)) (As := [.int (xs (6 * i + 1))]) (rest := [.int r]) ⟨hx, hb, hml, hown, hts⟩ hM5 (cwV 1 hts gL_law_X5_mutual rfl rfl rfl (by decide +kernel) ⟨Nat.le_of_ble_eq_true rfl, Nat.le_of_ble_eq_true rfl⟩) hK hA hX hS he5 rfl rfl hl.1 rfl (lv_room (Nat.le_of_ble_eq_true rfl)) dL_law_542 ⟨by show C + 0 + 0 ≤ 603072; omega, by show S + 0 + 0 ≤ 7215210; omega⟩) hS (fun r2 M2 H locs hp2 hX hS => ?_)
  obtain ⟨er, hRel2⟩ := k5 r2 M2 hp2
  refine lv_icmp_eq (tgt := 823) hx hb dL_law_545 (by decide) (fun _ => ?_) (fun c9 => absurd er.symm c9)
  refine W.widen (k := C + 3) (n := S + 24) (by omega) (by omega) ?_
  exact kk M2 H locs ls hRel2 hX hS hl

set_option maxHeartbeats 4000000 in
set_option maxRecDepth 100000 in
theorem law_join {p : Program} {l : Launch} {e : Env} {s : State} {m : MethodId} {below : List Frame} {meth : Method} {c : Code} {Q : State → Prop} {G : xG} {b L s1 s2 qa qm qo i C S : Nat} {xs : Nat → Int32} (C0 : lwC p l s m meth c b L xs G s1 s2) (hi : 6 * i + 6 ≤ L) (hC : C + 3 ≤ 603072) (hSl : S + 24 ≤ 7215210) {M : xM} {H : Heap} {locs : List Loc} {ls : Array Slot} (hRel : xRel G M qa qm qo) (hX : xw G.1 vwCl (lA s) M H) (hS : va_S (lA s) s.heap H locs) (hl : lv_has ls 8 [(4, .int (nI (6 * i))), (0, .ref b), (1, .ref qa), (2, .ref qm), (3, .ref qo)])
    (kk : ∀ (M : xM) (H : Heap) (locs : List Loc) (ls : Array Slot), xRel G M qa qm qo → xw G.1 vwCl (lA s) M H → va_S (lA s) s.heap H locs → lv_has ls 8 [(4, .int (nI (6 * i))), (0, .ref b), (1, .ref qa), (2, .ref qm), (3, .ref qo)] → W p l e room_1 s m #[Value.ref b] below meth c H locs (C + 3) (S + 24) Q (F0 m 823 ls [])) : W p l e room_1 s m #[Value.ref b] below meth c H locs C S Q (F0 m 550 ls []) := by
  obtain ⟨⟨hx, hb, hr, hml, hown, htt, hX0, hbl, hlocks, hgv⟩, hK, hT, hTC, hst, hL⟩ := C0
  have hA : ∀ q : Nat, s.heap.size ≤ q → lA s q := fun _ h => h
  have hbA : ¬ lA s b := Nat.not_le.mpr hbl
  have hts : ∀ w ∈ wsL_law, w.before #[Value.ref b] s = true := fun w hw => htt w (wsL_law_in w hw)
  have hb : c.code = cL_law := hb
  have hown : s.vm.findClass RL = some m.cls := hown
  have hRel0 : ∃ fs, M 0 = some (qa, .inr (6, fs)) := xRel_0 hRel
  obtain ⟨fs0, he0⟩ := hRel0
  refine lv_aload_n hx hb dL_law_550 rfl (lv_at hl 2 rfl) ?_
  refine lv_aload_n hx hb dL_law_551 rfl (lv_at hl 1 rfl) ?_
  refine lv_iload hx hb dL_law_552 (lv_at hl 0 rfl) ?_
  refine lv_iconst (v := nI 1) hx hb dL_law_554 (by decide) ?_
  refine lv_iadd hx hb dL_law_555 ?_
  refine x_ri (y := nI (6 * i + 1)) (nI_add _ _) ?_
  refine x_sld hx hb hX0 hbl hbA hS (i := 6 * i + 1) (by omega) hL dL_law_556 ?_
  refine lv_aload_n hx hb dL_law_557 rfl (lv_at hl 1 rfl) ?_
  refine lv_iload hx hb dL_law_558 (lv_at hl 0 rfl) ?_
  refine lv_iconst (v := nI 2) hx hb dL_law_560 (by decide) ?_
  refine lv_iadd hx hb dL_law_561 ?_
  refine x_ri (y := nI (6 * i + 2)) (nI_add _ _) ?_
  refine x_sld hx hb hX0 hbl hbA hS (i := 6 * i + 2) (by omega) hL dL_law_562 ?_
  obtain ⟨post4, hM4, k4⟩ := rl_join l G (lA s) hRel (xs (6 * i + 1)) (xs (6 * i + 2))
  refine x_calli (x_runV (q := (RX4, TX4, 7)) (As := [.int (xs (6 * i + 1)), .int (xs (6 * i + 2))]) (rest := []) ⟨hx, hb, hml, hown, hts⟩ hM4 (cwV 2 hts gL_law_X4_join rfl rfl rfl (by decide +kernel) ⟨Nat.le_of_ble_eq_true rfl, Nat.le_of_ble_eq_true rfl⟩) hK hA hX hS he0 rfl rfl hl.1 rfl (lv_room (Nat.le_of_ble_eq_true rfl)) dL_law_563 ⟨by show C + 1 ≤ 603072; omega, by show S + 3 ≤ 7215210; omega⟩) hS (fun r M1 H locs hp hX hS => ?_)
  obtain ⟨⟨fs5, he5⟩, post5, hM5, k5⟩ := k4 r M1 hp
  refine lv_aload_n hx hb dL_law_566 rfl (lv_at hl 3 rfl) ?_
  refine lv_aload_n hx hb dL_law_567 rfl (lv_at hl 1 rfl) ?_
  refine lv_iload hx hb dL_law_568 (lv_at hl 0 rfl) ?_
  refine lv_iconst (v := nI 1) hx hb dL_law_570 (by decide) ?_
  refine lv_iadd hx hb dL_law_571 ?_
  refine x_ri (y := nI (6 * i + 1)) (nI_add _ _) ?_
  refine x_sld hx hb hX0 hbl hbA hS (i := 6 * i + 1) (by omega) hL dL_law_572 ?_
  refine lv_aload_n hx hb dL_law_573 rfl (lv_at hl 1 rfl) ?_
  refine lv_iload hx hb dL_law_574 (lv_at hl 0 rfl) ?_
  refine lv_iconst (v := nI 2) hx hb dL_law_576 (by decide) ?_
  refine lv_iadd hx hb dL_law_577 ?_
  refine x_ri (y := nI (6 * i + 2)) (nI_add _ _) ?_
  refine x_sld hx hb hX0 hbl hbA hS (i := 6 * i + 2) (by omega) hL dL_law_578 ?_
  refine x_calli (x_runV (q := (RX5, TX5, 23)) (As := [.int (xs (6 * i + 1)), .int (xs (6 * i + 2))]) (rest := [.int r]) ⟨hx, hb, hml, hown, hts⟩ hM5 (cwV 2 hts gL_law_X5_join rfl rfl rfl (by decide +kernel) ⟨Nat.le_of_ble_eq_true rfl, Nat.le_of_ble_eq_true rfl⟩) hK hA hX hS he5 rfl rfl hl.1 rfl (lv_room (Nat.le_of_ble_eq_true rfl)) dL_law_579 ⟨by show C + 1 + 0 ≤ 603072; omega, by show S + 3 + 0 ≤ 7215210; omega⟩) hS (fun r2 M2 H locs hp2 hX hS => ?_)
  obtain ⟨er, hRel2⟩ := k5 r2 M2 hp2
  refine lv_icmp_eq (tgt := 823) hx hb dL_law_582 (by decide) (fun _ => ?_) (fun c9 => absurd er.symm c9)
  refine W.widen (k := C + 3) (n := S + 24) (by omega) (by omega) ?_
  exact kk M2 H locs ls hRel2 hX hS hl

set_option maxHeartbeats 4000000 in
set_option maxRecDepth 100000 in
theorem law_undo {p : Program} {l : Launch} {e : Env} {s : State} {m : MethodId} {below : List Frame} {meth : Method} {c : Code} {Q : State → Prop} {G : xG} {b L s1 s2 qa qm qo i C S : Nat} {xs : Nat → Int32} (C0 : lwC p l s m meth c b L xs G s1 s2) (hi : 6 * i + 6 ≤ L) (hC : C + 3 ≤ 603072) (hSl : S + 24 ≤ 7215210) {M : xM} {H : Heap} {locs : List Loc} {ls : Array Slot} (hRel : xRel G M qa qm qo) (hX : xw G.1 vwCl (lA s) M H) (hS : va_S (lA s) s.heap H locs) (hl : lv_has ls 8 [(4, .int (nI (6 * i))), (0, .ref b), (1, .ref qa), (2, .ref qm), (3, .ref qo)])
    (kk : ∀ (M : xM) (H : Heap) (locs : List Loc) (ls : Array Slot), xRel G M qa qm qo → xw G.1 vwCl (lA s) M H → va_S (lA s) s.heap H locs → lv_has ls 8 [(4, .int (nI (6 * i))), (0, .ref b), (1, .ref qa), (2, .ref qm), (3, .ref qo)] → W p l e room_1 s m #[Value.ref b] below meth c H locs (C + 3) (S + 24) Q (F0 m 823 ls [])) : W p l e room_1 s m #[Value.ref b] below meth c H locs C S Q (F0 m 587 ls []) := by
  obtain ⟨⟨hx, hb, hr, hml, hown, htt, hX0, hbl, hlocks, hgv⟩, hK, hT, hTC, hst, hL⟩ := C0
  have hA : ∀ q : Nat, s.heap.size ≤ q → lA s q := fun _ h => h
  have hbA : ¬ lA s b := Nat.not_le.mpr hbl
  have hts : ∀ w ∈ wsL_law, w.before #[Value.ref b] s = true := fun w hw => htt w (wsL_law_in w hw)
  have hb : c.code = cL_law := hb
  have hown : s.vm.findClass RL = some m.cls := hown
  have hRel0 : ∃ fs, M 0 = some (qa, .inr (6, fs)) := xRel_0 hRel
  obtain ⟨fs0, he0⟩ := hRel0
  refine lv_aload_n hx hb dL_law_587 rfl (lv_at hl 2 rfl) ?_
  refine lv_aload_n hx hb dL_law_588 rfl (lv_at hl 1 rfl) ?_
  refine lv_iload hx hb dL_law_589 (lv_at hl 0 rfl) ?_
  refine lv_iconst (v := nI 1) hx hb dL_law_591 (by decide) ?_
  refine lv_iadd hx hb dL_law_592 ?_
  refine x_ri (y := nI (6 * i + 1)) (nI_add _ _) ?_
  refine x_sld hx hb hX0 hbl hbA hS (i := 6 * i + 1) (by omega) hL dL_law_593 ?_
  obtain ⟨post4, hM4, k4⟩ := rl_undo l G (lA s) hRel (xs (6 * i + 1))
  refine x_calli (x_runV (q := (RX4, TX4, 7)) (As := [.int (xs (6 * i + 1))]) (rest := []) ⟨hx, hb, hml, hown, hts⟩ hM4 (cwV 1 hts gL_law_X4_undo rfl rfl rfl (by decide +kernel) ⟨Nat.le_of_ble_eq_true rfl, Nat.le_of_ble_eq_true rfl⟩) hK hA hX hS he0 rfl rfl hl.1 rfl (lv_room (Nat.le_of_ble_eq_true rfl)) dL_law_594 ⟨by show C + 0 ≤ 603072; omega, by show S + 0 ≤ 7215210; omega⟩) hS (fun r M1 H locs hp hX hS => ?_)
  obtain ⟨⟨fs5, he5⟩, post5, hM5, k5⟩ := k4 r M1 hp
  refine lv_aload_n hx hb dL_law_597 rfl (lv_at hl 3 rfl) ?_
  refine lv_aload_n hx hb dL_law_598 rfl (lv_at hl 1 rfl) ?_
  refine lv_iload hx hb dL_law_599 (lv_at hl 0 rfl) ?_
  refine lv_iconst (v := nI 1) hx hb dL_law_601 (by decide) ?_
  refine lv_iadd hx hb dL_law_602 ?_
  refine x_ri (y := nI (6 * i + 1)) (nI_add _ _) ?_
  refine x_sld hx hb hX0 hbl hbA hS (i := 6 * i + 1) (by omega) hL dL_law_603 ?_
  refine x_calli (x_runV (q := (RX5, TX5, 23)) (As := [.int (xs (6 * i + 1))]) (rest := [.int r]) ⟨hx, hb, hml, hown, hts⟩ hM5 (cwV 1 hts gL_law_X5_undo rfl rfl rfl (by decide +kernel) ⟨Nat.le_of_ble_eq_true rfl, Nat.le_of_ble_eq_true rfl⟩) hK hA hX hS he5 rfl rfl hl.1 rfl (lv_room (Nat.le_of_ble_eq_true rfl)) dL_law_604 ⟨by show C + 0 + 0 ≤ 603072; omega, by show S + 0 + 0 ≤ 7215210; omega⟩) hS (fun r2 M2 H locs hp2 hX hS => ?_)
  obtain ⟨er, hRel2⟩ := k5 r2 M2 hp2
  refine lv_icmp_eq (tgt := 823) hx hb dL_law_607 (by decide) (fun _ => ?_) (fun c9 => absurd er.symm c9)
  refine W.widen (k := C + 3) (n := S + 24) (by omega) (by omega) ?_
  exact kk M2 H locs ls hRel2 hX hS hl

set_option maxHeartbeats 4000000 in
set_option maxRecDepth 100000 in
theorem law_sample {p : Program} {l : Launch} {e : Env} {s : State} {m : MethodId} {below : List Frame} {meth : Method} {c : Code} {Q : State → Prop} {G : xG} {b L s1 s2 qa qm qo i C S : Nat} {xs : Nat → Int32} (C0 : lwC p l s m meth c b L xs G s1 s2) (hi : 6 * i + 6 ≤ L) (hC : C + 3 ≤ 603072) (hSl : S + 24 ≤ 7215210) {M : xM} {H : Heap} {locs : List Loc} {ls : Array Slot} (hRel : xRel G M qa qm qo) (hX : xw G.1 vwCl (lA s) M H) (hS : va_S (lA s) s.heap H locs) (hl : lv_has ls 8 [(4, .int (nI (6 * i))), (0, .ref b), (1, .ref qa), (2, .ref qm), (3, .ref qo)])
    (kk : ∀ (M : xM) (H : Heap) (locs : List Loc) (ls : Array Slot), xRel G M qa qm qo → xw G.1 vwCl (lA s) M H → va_S (lA s) s.heap H locs → lv_has ls 8 [(4, .int (nI (6 * i))), (0, .ref b), (1, .ref qa), (2, .ref qm), (3, .ref qo)] → W p l e room_1 s m #[Value.ref b] below meth c H locs (C + 3) (S + 24) Q (F0 m 823 ls [])) : W p l e room_1 s m #[Value.ref b] below meth c H locs C S Q (F0 m 612 ls []) := by
  obtain ⟨⟨hx, hb, hr, hml, hown, htt, hX0, hbl, hlocks, hgv⟩, hK, hT, hTC, hst, hL⟩ := C0
  have hA : ∀ q : Nat, s.heap.size ≤ q → lA s q := fun _ h => h
  have hbA : ¬ lA s b := Nat.not_le.mpr hbl
  have hts : ∀ w ∈ wsL_law, w.before #[Value.ref b] s = true := fun w hw => htt w (wsL_law_in w hw)
  have lk := htt (.constantLong RL 35 4294967295) (wsL_law_in _ (by decide +kernel))
  have hb : c.code = cL_law := hb
  have hown : s.vm.findClass RL = some m.cls := hown
  have hRel0 : ∃ fs, M 0 = some (qa, .inr (6, fs)) := xRel_0 hRel
  obtain ⟨fs0, he0⟩ := hRel0
  refine lv_aload_n hx hb dL_law_612 rfl (lv_at hl 2 rfl) ?_
  refine lv_aload_n hx hb dL_law_613 rfl (lv_at hl 1 rfl) ?_
  refine lv_iload hx hb dL_law_614 (lv_at hl 0 rfl) ?_
  refine lv_iconst (v := nI 1) hx hb dL_law_616 (by decide) ?_
  refine lv_iadd hx hb dL_law_617 ?_
  refine x_ri (y := nI (6 * i + 1)) (nI_add _ _) ?_
  refine x_sld hx hb hX0 hbl hbA hS (i := 6 * i + 1) (by omega) hL dL_law_618 ?_
  refine lv_i2l (v := (xs (6 * i + 1)).toInt64) hx hb dL_law_619 rfl ?_
  refine lv_bipush (v := nI 32) hx hb dL_law_620 (by decide) ?_
  refine lv_lshl (v := lwS (xs (6 * i + 1))) hx hb dL_law_622 rfl ?_
  refine lv_aload_n hx hb dL_law_623 rfl (lv_at hl 1 rfl) ?_
  refine lv_iload hx hb dL_law_624 (lv_at hl 0 rfl) ?_
  refine lv_iconst (v := nI 2) hx hb dL_law_626 (by decide) ?_
  refine lv_iadd hx hb dL_law_627 ?_
  refine x_ri (y := nI (6 * i + 2)) (nI_add _ _) ?_
  refine x_sld hx hb hX0 hbl hbA hS (i := 6 * i + 2) (by omega) hL dL_law_628 ?_
  refine lv_i2l (v := (xs (6 * i + 2)).toInt64) hx hb dL_law_629 rfl ?_
  refine lv_ldc2 (v := 4294967295) hx hb hown lk dL_law_630 ?_
  refine lv_land hx hb dL_law_633 ?_
  refine lv_lor hx hb dL_law_634 ?_
  refine x_rl (y := lw64 (xs (6 * i + 1)) (xs (6 * i + 2))) rfl ?_
  refine lv_aload_n hx hb dL_law_635 rfl (lv_at hl 1 rfl) ?_
  refine lv_iload hx hb dL_law_636 (lv_at hl 0 rfl) ?_
  refine lv_iconst (v := nI 3) hx hb dL_law_638 (by decide) ?_
  refine lv_iadd hx hb dL_law_639 ?_
  refine x_ri (y := nI (6 * i + 3)) (nI_add _ _) ?_
  refine x_sld hx hb hX0 hbl hbA hS (i := 6 * i + 3) (by omega) hL dL_law_640 ?_
  obtain ⟨post4, hM4, k4⟩ := rl_sample l G (lA s) hRel (lw64 (xs (6 * i + 1)) (xs (6 * i + 2))) (xs (6 * i + 3))
  refine x_calli (x_runV (q := (RX4, TX4, 7)) (As := [.long (lw64 (xs (6 * i + 1)) (xs (6 * i + 2))), .int (xs (6 * i + 3))]) (rest := []) ⟨hx, hb, hml, hown, hts⟩ hM4 (cwV 2 hts gL_law_X4_sample rfl rfl rfl (by decide +kernel) ⟨Nat.le_of_ble_eq_true rfl, Nat.le_of_ble_eq_true rfl⟩) hK hA hX hS he0 rfl rfl hl.1 rfl (lv_room (Nat.le_of_ble_eq_true rfl)) dL_law_641 ⟨by show C + 0 ≤ 603072; omega, by show S + 0 ≤ 7215210; omega⟩) hS (fun r M1 H locs hp hX hS => ?_)
  obtain ⟨⟨fs5, he5⟩, post5, hM5, k5⟩ := k4 r M1 hp
  refine lv_aload_n hx hb dL_law_644 rfl (lv_at hl 3 rfl) ?_
  refine lv_aload_n hx hb dL_law_645 rfl (lv_at hl 1 rfl) ?_
  refine lv_iload hx hb dL_law_646 (lv_at hl 0 rfl) ?_
  refine lv_iconst (v := nI 1) hx hb dL_law_648 (by decide) ?_
  refine lv_iadd hx hb dL_law_649 ?_
  refine x_ri (y := nI (6 * i + 1)) (nI_add _ _) ?_
  refine x_sld hx hb hX0 hbl hbA hS (i := 6 * i + 1) (by omega) hL dL_law_650 ?_
  refine lv_i2l (v := (xs (6 * i + 1)).toInt64) hx hb dL_law_651 rfl ?_
  refine lv_bipush (v := nI 32) hx hb dL_law_652 (by decide) ?_
  refine lv_lshl (v := lwS (xs (6 * i + 1))) hx hb dL_law_654 rfl ?_
  refine lv_aload_n hx hb dL_law_655 rfl (lv_at hl 1 rfl) ?_
  refine lv_iload hx hb dL_law_656 (lv_at hl 0 rfl) ?_
  refine lv_iconst (v := nI 2) hx hb dL_law_658 (by decide) ?_
  refine lv_iadd hx hb dL_law_659 ?_
  refine x_ri (y := nI (6 * i + 2)) (nI_add _ _) ?_
  refine x_sld hx hb hX0 hbl hbA hS (i := 6 * i + 2) (by omega) hL dL_law_660 ?_
  refine lv_i2l (v := (xs (6 * i + 2)).toInt64) hx hb dL_law_661 rfl ?_
  refine lv_ldc2 (v := 4294967295) hx hb hown lk dL_law_662 ?_
  refine lv_land hx hb dL_law_665 ?_
  refine lv_lor hx hb dL_law_666 ?_
  refine x_rl (y := lw64 (xs (6 * i + 1)) (xs (6 * i + 2))) rfl ?_
  refine lv_aload_n hx hb dL_law_667 rfl (lv_at hl 1 rfl) ?_
  refine lv_iload hx hb dL_law_668 (lv_at hl 0 rfl) ?_
  refine lv_iconst (v := nI 3) hx hb dL_law_670 (by decide) ?_
  refine lv_iadd hx hb dL_law_671 ?_
  refine x_ri (y := nI (6 * i + 3)) (nI_add _ _) ?_
  refine x_sld hx hb hX0 hbl hbA hS (i := 6 * i + 3) (by omega) hL dL_law_672 ?_
  refine x_calli (x_runV (q := (RX5, TX5, 23)) (As := [.long (lw64 (xs (6 * i + 1)) (xs (6 * i + 2))), .int (xs (6 * i + 3))]) (rest := [.int r]) ⟨hx, hb, hml, hown, hts⟩ hM5 (cwV 2 hts gL_law_X5_sample rfl rfl rfl (by decide +kernel) ⟨Nat.le_of_ble_eq_true rfl, Nat.le_of_ble_eq_true rfl⟩) hK hA hX hS he5 rfl rfl hl.1 rfl (lv_room (Nat.le_of_ble_eq_true rfl)) dL_law_673 ⟨by show C + 0 + 0 ≤ 603072; omega, by show S + 0 + 0 ≤ 7215210; omega⟩) hS (fun r2 M2 H locs hp2 hX hS => ?_)
  obtain ⟨er, hRel2⟩ := k5 r2 M2 hp2
  refine lv_icmp_eq (tgt := 823) hx hb dL_law_676 (by decide) (fun _ => ?_) (fun c9 => absurd er.symm c9)
  refine W.widen (k := C + 3) (n := S + 24) (by omega) (by omega) ?_
  exact kk M2 H locs ls hRel2 hX hS hl

set_option maxHeartbeats 4000000 in
set_option maxRecDepth 100000 in
theorem law_none {p : Program} {l : Launch} {e : Env} {s : State} {m : MethodId} {below : List Frame} {meth : Method} {c : Code} {Q : State → Prop} {G : xG} {b L s1 s2 qa qm qo i C S : Nat} {xs : Nat → Int32} (C0 : lwC p l s m meth c b L xs G s1 s2) (hi : 6 * i + 6 ≤ L) (hC : C + 3 ≤ 603072) (hSl : S + 24 ≤ 7215210) {M : xM} {H : Heap} {locs : List Loc} {ls : Array Slot} (hRel : xRel G M qa qm qo) (hX : xw G.1 vwCl (lA s) M H) (hS : va_S (lA s) s.heap H locs) (hl : lv_has ls 8 [(4, .int (nI (6 * i))), (0, .ref b), (1, .ref qa), (2, .ref qm), (3, .ref qo)])
    (kk : ∀ (M : xM) (H : Heap) (locs : List Loc) (ls : Array Slot), xRel G M qa qm qo → xw G.1 vwCl (lA s) M H → va_S (lA s) s.heap H locs → lv_has ls 8 [(4, .int (nI (6 * i))), (0, .ref b), (1, .ref qa), (2, .ref qm), (3, .ref qo)] → W p l e room_1 s m #[Value.ref b] below meth c H locs (C + 3) (S + 24) Q (F0 m 823 ls [])) : W p l e room_1 s m #[Value.ref b] below meth c H locs C S Q (F0 m 681 ls []) := by
  obtain ⟨⟨hx, hb, hr, hml, hown, htt, hX0, hbl, hlocks, hgv⟩, hK, hT, hTC, hst, hL⟩ := C0
  have hA : ∀ q : Nat, s.heap.size ≤ q → lA s q := fun _ h => h
  have hbA : ¬ lA s b := Nat.not_le.mpr hbl
  have hts : ∀ w ∈ wsL_law, w.before #[Value.ref b] s = true := fun w hw => htt w (wsL_law_in w hw)
  have hb : c.code = cL_law := hb
  have hown : s.vm.findClass RL = some m.cls := hown
  have hRel0 : ∃ fs, M 0 = some (qa, .inr (6, fs)) := xRel_0 hRel
  obtain ⟨fs0, he0⟩ := hRel0
  refine lv_aload_n hx hb dL_law_681 rfl (lv_at hl 2 rfl) ?_
  refine lv_aload_n hx hb dL_law_682 rfl (lv_at hl 1 rfl) ?_
  refine lv_iload hx hb dL_law_683 (lv_at hl 0 rfl) ?_
  refine lv_iconst (v := nI 1) hx hb dL_law_685 (by decide) ?_
  refine lv_iadd hx hb dL_law_686 ?_
  refine x_ri (y := nI (6 * i + 1)) (nI_add _ _) ?_
  refine x_sld hx hb hX0 hbl hbA hS (i := 6 * i + 1) (by omega) hL dL_law_687 ?_
  obtain ⟨post4, hM4, k4⟩ := rl_none l G (lA s) hRel (xs (6 * i + 1))
  refine x_calli (x_runV (q := (RX4, TX4, 7)) (As := [.int (xs (6 * i + 1))]) (rest := []) ⟨hx, hb, hml, hown, hts⟩ hM4 (cwV 1 hts gL_law_X4_none rfl rfl rfl (by decide +kernel) ⟨Nat.le_of_ble_eq_true rfl, Nat.le_of_ble_eq_true rfl⟩) hK hA hX hS he0 rfl rfl hl.1 rfl (lv_room (Nat.le_of_ble_eq_true rfl)) dL_law_688 ⟨by show C + 0 ≤ 603072; omega, by show S + 0 ≤ 7215210; omega⟩) hS (fun r M1 H locs hp hX hS => ?_)
  obtain ⟨⟨fs5, he5⟩, post5, hM5, k5⟩ := k4 r M1 hp
  refine lv_aload_n hx hb dL_law_691 rfl (lv_at hl 3 rfl) ?_
  refine lv_aload_n hx hb dL_law_692 rfl (lv_at hl 1 rfl) ?_
  refine lv_iload hx hb dL_law_693 (lv_at hl 0 rfl) ?_
  refine lv_iconst (v := nI 1) hx hb dL_law_695 (by decide) ?_
  refine lv_iadd hx hb dL_law_696 ?_
  refine x_ri (y := nI (6 * i + 1)) (nI_add _ _) ?_
  refine x_sld hx hb hX0 hbl hbA hS (i := 6 * i + 1) (by omega) hL dL_law_697 ?_
  refine x_calli (x_runV (q := (RX5, TX5, 23)) (As := [.int (xs (6 * i + 1))]) (rest := [.int r]) ⟨hx, hb, hml, hown, hts⟩ hM5 (cwV 1 hts gL_law_X5_none rfl rfl rfl (by decide +kernel) ⟨Nat.le_of_ble_eq_true rfl, Nat.le_of_ble_eq_true rfl⟩) hK hA hX hS he5 rfl rfl hl.1 rfl (lv_room (Nat.le_of_ble_eq_true rfl)) dL_law_698 ⟨by show C + 0 + 0 ≤ 603072; omega, by show S + 0 + 0 ≤ 7215210; omega⟩) hS (fun r2 M2 H locs hp2 hX hS => ?_)
  obtain ⟨er, hRel2⟩ := k5 r2 M2 hp2
  refine lv_icmp_eq (tgt := 823) hx hb dL_law_701 (by decide) (fun _ => ?_) (fun c9 => absurd er.symm c9)
  refine W.widen (k := C + 3) (n := S + 24) (by omega) (by omega) ?_
  exact kk M2 H locs ls hRel2 hX hS hl

set_option maxHeartbeats 4000000 in
set_option maxRecDepth 100000 in
theorem law_index {p : Program} {l : Launch} {e : Env} {s : State} {m : MethodId} {below : List Frame} {meth : Method} {c : Code} {Q : State → Prop} {G : xG} {b L s1 s2 qa qm qo i C S : Nat} {xs : Nat → Int32} (C0 : lwC p l s m meth c b L xs G s1 s2) (hi : 6 * i + 6 ≤ L) (hC : C + 3 ≤ 603072) (hSl : S + 24 ≤ 7215210) {M : xM} {H : Heap} {locs : List Loc} {ls : Array Slot} (hRel : xRel G M qa qm qo) (hX : xw G.1 vwCl (lA s) M H) (hS : va_S (lA s) s.heap H locs) (hl : lv_has ls 8 [(4, .int (nI (6 * i))), (0, .ref b), (1, .ref qa), (2, .ref qm), (3, .ref qo)])
    (kk : ∀ (M : xM) (H : Heap) (locs : List Loc) (ls : Array Slot), xRel G M qa qm qo → xw G.1 vwCl (lA s) M H → va_S (lA s) s.heap H locs → lv_has ls 8 [(4, .int (nI (6 * i))), (0, .ref b), (1, .ref qa), (2, .ref qm), (3, .ref qo)] → W p l e room_1 s m #[Value.ref b] below meth c H locs (C + 3) (S + 24) Q (F0 m 823 ls [])) : W p l e room_1 s m #[Value.ref b] below meth c H locs C S Q (F0 m 706 ls []) := by
  obtain ⟨⟨hx, hb, hr, hml, hown, htt, hX0, hbl, hlocks, hgv⟩, hK, hT, hTC, hst, hL⟩ := C0
  have hA : ∀ q : Nat, s.heap.size ≤ q → lA s q := fun _ h => h
  have hbA : ¬ lA s b := Nat.not_le.mpr hbl
  have hts : ∀ w ∈ wsL_law, w.before #[Value.ref b] s = true := fun w hw => htt w (wsL_law_in w hw)
  have hb : c.code = cL_law := hb
  have hown : s.vm.findClass RL = some m.cls := hown
  have hRel0 : ∃ fs, M 0 = some (qa, .inr (6, fs)) := xRel_0 hRel
  obtain ⟨fs0, he0⟩ := hRel0
  refine lv_aload_n hx hb dL_law_706 rfl (lv_at hl 2 rfl) ?_
  refine lv_aload_n hx hb dL_law_707 rfl (lv_at hl 1 rfl) ?_
  refine lv_iload hx hb dL_law_708 (lv_at hl 0 rfl) ?_
  refine lv_iconst (v := nI 1) hx hb dL_law_710 (by decide) ?_
  refine lv_iadd hx hb dL_law_711 ?_
  refine x_ri (y := nI (6 * i + 1)) (nI_add _ _) ?_
  refine x_sld hx hb hX0 hbl hbA hS (i := 6 * i + 1) (by omega) hL dL_law_712 ?_
  refine lv_aload_n hx hb dL_law_713 rfl (lv_at hl 1 rfl) ?_
  refine lv_iload hx hb dL_law_714 (lv_at hl 0 rfl) ?_
  refine lv_iconst (v := nI 2) hx hb dL_law_716 (by decide) ?_
  refine lv_iadd hx hb dL_law_717 ?_
  refine x_ri (y := nI (6 * i + 2)) (nI_add _ _) ?_
  refine x_sld hx hb hX0 hbl hbA hS (i := 6 * i + 2) (by omega) hL dL_law_718 ?_
  refine lv_aload_n hx hb dL_law_719 rfl (lv_at hl 4 rfl) ?_
  obtain ⟨post4, hM4, k4⟩ := rl_index l hst G (lA s) s1 s2 hRel (xs (6 * i + 1)) (xs (6 * i + 2))
  refine x_calliN (x_runSH (hh := [(0, 10, 13, 19)]) (As := [.ref qa, .int (xs (6 * i + 1)), .int (xs (6 * i + 2)), .ref qo]) (rest := []) ⟨hx, hb, hml, hown, hts⟩ hM4 (vx_cwSW 4 hts gL_law_L_index rfl rfl rfl (by decide +kernel) ⟨Nat.le_of_ble_eq_true rfl, Nat.le_of_ble_eq_true rfl⟩) hK hA hX hS hT hTC rfl hl.1 rfl (lv_room (Nat.le_of_ble_eq_true rfl)) dL_law_720 ⟨by show C + 1 ≤ 603072; omega, by show S + 6 ≤ 7215210; omega⟩) hS (fun r M1 H locs hp hX hS => ?_)
  obtain ⟨⟨fs5, he5⟩, post5, hM5, k5⟩ := k4 r M1 hp
  refine lv_istore (lv' := [(5, .int r), (4, .int (nI (6 * i))), (0, .ref b), (1, .ref qa), (2, .ref qm), (3, .ref qo)]) hx hb dL_law_723 hl (by decide) rfl (fun ls hl => ?_)
  refine lv_aload_n hx hb dL_law_725 rfl (lv_at hl 4 rfl) ?_
  refine lv_aload_n hx hb dL_law_726 rfl (lv_at hl 2 rfl) ?_
  refine lv_iload hx hb dL_law_727 (lv_at hl 1 rfl) ?_
  refine lv_iconst (v := nI 1) hx hb dL_law_729 (by decide) ?_
  refine lv_iadd hx hb dL_law_730 ?_
  refine x_ri (y := nI (6 * i + 1)) (nI_add _ _) ?_
  refine x_sld hx hb hX0 hbl hbA hS (i := 6 * i + 1) (by omega) hL dL_law_731 ?_
  refine lv_aload_n hx hb dL_law_732 rfl (lv_at hl 2 rfl) ?_
  refine lv_iload hx hb dL_law_733 (lv_at hl 1 rfl) ?_
  refine lv_iconst (v := nI 2) hx hb dL_law_735 (by decide) ?_
  refine lv_iadd hx hb dL_law_736 ?_
  refine x_ri (y := nI (6 * i + 2)) (nI_add _ _) ?_
  refine x_sld hx hb hX0 hbl hbA hS (i := 6 * i + 2) (by omega) hL dL_law_737 ?_
  refine x_calli (x_runV (q := (RX5, TX5, 23)) (As := [.int (xs (6 * i + 1)), .int (xs (6 * i + 2))]) (rest := []) ⟨hx, hb, hml, hown, hts⟩ hM5 (cwV 2 hts gL_law_X5_index rfl rfl rfl (by decide +kernel) ⟨Nat.le_of_ble_eq_true rfl, Nat.le_of_ble_eq_true rfl⟩) hK hA hX hS he5 rfl rfl hl.1 rfl (lv_room (Nat.le_of_ble_eq_true rfl)) dL_law_738 ⟨by show C + 1 + 0 ≤ 603072; omega, by show S + 6 + 0 ≤ 7215210; omega⟩) hS (fun r2 M2 H locs hp2 hX hS => ?_)
  obtain ⟨hRel2, ⟨fs6, he6⟩, hM6, hres⟩ := k5 r2 M2 hp2
  refine lv_istore (lv' := [(6, .int r2), (5, .int r), (4, .int (nI (6 * i))), (0, .ref b), (1, .ref qa), (2, .ref qm), (3, .ref qo)]) hx hb dL_law_741 hl (by decide) rfl (fun ls hl => ?_)
  refine lv_aload_n hx hb dL_law_743 rfl (lv_at hl 5 rfl) ?_
  refine x_calli (x_runV (q := (RX5, TX5, 23)) (As := []) (rest := []) ⟨hx, hb, hml, hown, hts⟩ hM6 (cwV 0 hts gL_law_X5_thrown rfl rfl rfl (by decide +kernel) ⟨Nat.le_of_ble_eq_true rfl, Nat.le_of_ble_eq_true rfl⟩) hK hA hX hS he6 rfl rfl hl.1 rfl (lv_room (Nat.le_of_ble_eq_true rfl)) dL_law_744 ⟨by show C + 1 + 0 + 0 ≤ 603072; omega, by show S + 6 + 0 + 0 ≤ 7215210; omega⟩) hS (fun r3 M3 H locs hp3 hX hS => ?_)
  obtain ⟨eM3, er3⟩ := hp3
  rw [eM3] at hX
  refine lv_iload hx hb dL_law_747 (lv_at hl 1 rfl) ?_
  refine lv_icmp_eq (tgt := 754) hx hb dL_law_749 (by decide) (fun _ => ?_) (fun c9 => absurd er3 c9)
  have fin : ∀ (H : Heap) (locs : List Loc) (ls : Array Slot), xw G.1 vwCl (lA s) M2 H → va_S (lA s) s.heap H locs → lv_has ls 8 [(6, .int r2), (5, .int r), (4, .int (nI (6 * i))), (0, .ref b), (1, .ref qa), (2, .ref qm), (3, .ref qo)] → W p l e room_1 s m #[Value.ref b] below meth c H locs (C + 1 + 0 + 0) (S + 6 + 0 + 0) Q (F0 m 771 ls []) := fun H locs ls hX hS hl => by
    refine lv_goto (tgt := 823) hx hb dL_law_771 (by decide) ?_
    refine W.widen (k := C + 3) (n := S + 24) (by omega) (by omega) ?_
    exact kk M2 H locs ls hRel2 hX hS (lv_sub hl [2, 3, 4, 5, 6] rfl)
  refine lv_iload hx hb dL_law_754 (lv_at hl 1 rfl) ?_
  refine lv_if_ne (tgt := 771) hx hb dL_law_756 (by decide) (fun _ => fin H locs ls hX hS hl) (fun c9 => ?_)
  rcases hres with z | ⟨_, f9, hF9, ef9⟩
  · rw [z] at c9
    exact absurd c9 (by decide)
  · refine lv_aload_n hx hb dL_law_759 rfl (lv_at hl 6 rfl) ?_
    refine lv_iconst (v := nI 0) hx hb dL_law_760 (by decide) ?_
    refine x_lN hx hb hK hX hF9 (by omega) (by omega) dL_law_761 ?_
    refine lv_iload hx hb dL_law_762 (lv_at hl 0 rfl) ?_
    refine lv_i2l (v := r2.toInt64) hx hb dL_law_764 rfl ?_
    refine W.lcmp hx hb dL_law_765 ?_
    exact x_lc_eq (tgt := 771) hx hb dL_law_766 (by decide) (fun _ => fin H locs ls hX hS hl) (fun c10 => absurd ef9 c10)

set_option maxHeartbeats 4000000 in
set_option maxRecDepth 100000 in
theorem law_best {p : Program} {l : Launch} {e : Env} {s : State} {m : MethodId} {below : List Frame} {meth : Method} {c : Code} {Q : State → Prop} {G : xG} {b L s1 s2 qa qm qo i C S : Nat} {xs : Nat → Int32} (C0 : lwC p l s m meth c b L xs G s1 s2) (hi : 6 * i + 6 ≤ L) (hC : C + 3 ≤ 603072) (hSl : S + 24 ≤ 7215210) {M : xM} {H : Heap} {locs : List Loc} {ls : Array Slot} (hRel : xRel G M qa qm qo) (hX : xw G.1 vwCl (lA s) M H) (hS : va_S (lA s) s.heap H locs) (hl : lv_has ls 8 [(4, .int (nI (6 * i))), (0, .ref b), (1, .ref qa), (2, .ref qm), (3, .ref qo)])
    (kk : ∀ (M : xM) (H : Heap) (locs : List Loc) (ls : Array Slot), xRel G M qa qm qo → xw G.1 vwCl (lA s) M H → va_S (lA s) s.heap H locs → lv_has ls 8 [(4, .int (nI (6 * i))), (0, .ref b), (1, .ref qa), (2, .ref qm), (3, .ref qo)] → W p l e room_1 s m #[Value.ref b] below meth c H locs (C + 3) (S + 24) Q (F0 m 823 ls [])) : W p l e room_1 s m #[Value.ref b] below meth c H locs C S Q (F0 m 774 ls []) := by
  obtain ⟨⟨hx, hb, hr, hml, hown, htt, hX0, hbl, hlocks, hgv⟩, hK, hT, hTC, hst, hL⟩ := C0
  have hA : ∀ q : Nat, s.heap.size ≤ q → lA s q := fun _ h => h
  have hbA : ¬ lA s b := Nat.not_le.mpr hbl
  have hts : ∀ w ∈ wsL_law, w.before #[Value.ref b] s = true := fun w hw => htt w (wsL_law_in w hw)
  have hb : c.code = cL_law := hb
  have hown : s.vm.findClass RL = some m.cls := hown
  have hRel0 : ∃ fs, M 0 = some (qa, .inr (6, fs)) := xRel_0 hRel
  obtain ⟨fs0, he0⟩ := hRel0
  refine lv_aload_n hx hb dL_law_774 rfl (lv_at hl 2 rfl) ?_
  refine lv_aload_n hx hb dL_law_775 rfl (lv_at hl 1 rfl) ?_
  refine lv_iload hx hb dL_law_776 (lv_at hl 0 rfl) ?_
  refine lv_iconst (v := nI 1) hx hb dL_law_778 (by decide) ?_
  refine lv_iadd hx hb dL_law_779 ?_
  refine x_ri (y := nI (6 * i + 1)) (nI_add _ _) ?_
  refine x_sld hx hb hX0 hbl hbA hS (i := 6 * i + 1) (by omega) hL dL_law_780 ?_
  refine lv_aload_n hx hb dL_law_781 rfl (lv_at hl 1 rfl) ?_
  refine lv_iload hx hb dL_law_782 (lv_at hl 0 rfl) ?_
  refine lv_iconst (v := nI 2) hx hb dL_law_784 (by decide) ?_
  refine lv_iadd hx hb dL_law_785 ?_
  refine x_ri (y := nI (6 * i + 2)) (nI_add _ _) ?_
  refine x_sld hx hb hX0 hbl hbA hS (i := 6 * i + 2) (by omega) hL dL_law_786 ?_
  refine lv_aload_n hx hb dL_law_787 rfl (lv_at hl 1 rfl) ?_
  refine lv_iload hx hb dL_law_788 (lv_at hl 0 rfl) ?_
  refine lv_iconst (v := nI 3) hx hb dL_law_790 (by decide) ?_
  refine lv_iadd hx hb dL_law_791 ?_
  refine x_ri (y := nI (6 * i + 3)) (nI_add _ _) ?_
  refine x_sld hx hb hX0 hbl hbA hS (i := 6 * i + 3) (by omega) hL dL_law_792 ?_
  obtain ⟨post4, hM4, k4⟩ := rl_best l G (lA s) hRel (xs (6 * i + 1)) (xs (6 * i + 2)) (xs (6 * i + 3))
  refine x_calli (x_runV (q := (RX4, TX4, 7)) (As := [.int (xs (6 * i + 1)), .int (xs (6 * i + 2)), .int (xs (6 * i + 3))]) (rest := []) ⟨hx, hb, hml, hown, hts⟩ hM4 (cwV 3 hts gL_law_X4_best rfl rfl rfl (by decide +kernel) ⟨Nat.le_of_ble_eq_true rfl, Nat.le_of_ble_eq_true rfl⟩) hK hA hX hS he0 rfl rfl hl.1 rfl (lv_room (Nat.le_of_ble_eq_true rfl)) dL_law_793 ⟨by show C + 0 ≤ 603072; omega, by show S + 0 ≤ 7215210; omega⟩) hS (fun r M1 H locs hp hX hS => ?_)
  obtain ⟨⟨fs5, he5⟩, post5, hM5, k5⟩ := k4 r M1 hp
  refine lv_aload_n hx hb dL_law_796 rfl (lv_at hl 3 rfl) ?_
  refine lv_aload_n hx hb dL_law_797 rfl (lv_at hl 1 rfl) ?_
  refine lv_iload hx hb dL_law_798 (lv_at hl 0 rfl) ?_
  refine lv_iconst (v := nI 1) hx hb dL_law_800 (by decide) ?_
  refine lv_iadd hx hb dL_law_801 ?_
  refine x_ri (y := nI (6 * i + 1)) (nI_add _ _) ?_
  refine x_sld hx hb hX0 hbl hbA hS (i := 6 * i + 1) (by omega) hL dL_law_802 ?_
  refine lv_aload_n hx hb dL_law_803 rfl (lv_at hl 1 rfl) ?_
  refine lv_iload hx hb dL_law_804 (lv_at hl 0 rfl) ?_
  refine lv_iconst (v := nI 2) hx hb dL_law_806 (by decide) ?_
  refine lv_iadd hx hb dL_law_807 ?_
  refine x_ri (y := nI (6 * i + 2)) (nI_add _ _) ?_
  refine x_sld hx hb hX0 hbl hbA hS (i := 6 * i + 2) (by omega) hL dL_law_808 ?_
  refine lv_aload_n hx hb dL_law_809 rfl (lv_at hl 1 rfl) ?_
  refine lv_iload hx hb dL_law_810 (lv_at hl 0 rfl) ?_
  refine lv_iconst (v := nI 3) hx hb dL_law_812 (by decide) ?_
  refine lv_iadd hx hb dL_law_813 ?_
  refine x_ri (y := nI (6 * i + 3)) (nI_add _ _) ?_
  refine x_sld hx hb hX0 hbl hbA hS (i := 6 * i + 3) (by omega) hL dL_law_814 ?_
  refine x_calli (x_runV (q := (RX5, TX5, 23)) (As := [.int (xs (6 * i + 1)), .int (xs (6 * i + 2)), .int (xs (6 * i + 3))]) (rest := [.int r]) ⟨hx, hb, hml, hown, hts⟩ hM5 (cwV 3 hts gL_law_X5_best rfl rfl rfl (by decide +kernel) ⟨Nat.le_of_ble_eq_true rfl, Nat.le_of_ble_eq_true rfl⟩) hK hA hX hS he5 rfl rfl hl.1 rfl (lv_room (Nat.le_of_ble_eq_true rfl)) dL_law_815 ⟨by show C + 0 + 0 ≤ 603072; omega, by show S + 0 + 0 ≤ 7215210; omega⟩) hS (fun r2 M2 H locs hp2 hX hS => ?_)
  obtain ⟨er, hRel2⟩ := k5 r2 M2 hp2
  refine lv_icmp_eq (tgt := 823) hx hb dL_law_818 (by decide) (fun _ => ?_) (fun c9 => absurd er.symm c9)
  refine W.widen (k := C + 3) (n := S + 24) (by omega) (by omega) ?_
  exact kk M2 H locs ls hRel2 hX hS hl
