/-! the law's loop -/
set_option maxHeartbeats 4000000 in
set_option maxRecDepth 100000 in
theorem law_loop {p : Program} {l : Launch} {e : Env} {s : State} {m : MethodId} {below : List Frame} {meth : Method} {c : Code} {G : xG} {b L s1 s2 qa qm qo : Nat} {xs : Nat → Int32} (C0 : lwC p l s m meth c b L xs G s1 s2) :
    ∀ (n i C S : Nat) (M : xM) (H : Heap) (locs : List Loc) (ls : Array Slot), L < 6 * i + 6 * n → 6 * i ≤ L → C + 3 * n ≤ 603072 → S + 24 * n ≤ 7215210 → xRel G M qa qm qo → xw G.1 vwCl (lA s) M H → va_S (lA s) s.heap H locs → lv_has ls 8 [(4, .int (nI (6 * i))), (0, .ref b), (1, .ref qa), (2, .ref qm), (3, .ref qo)] → W p l e room_1 s m #[Value.ref b] below meth c H locs C S (lw_Z below #[Value.ref b] s) (F0 m 23 ls []) := by
  have C1 := C0
  obtain ⟨⟨hx, hb, hr, hml, hown, htt, hX0, hbl, hlocks, hgv⟩, hK, hT, hTC, hst, hL⟩ := C0
  have hbA : ¬ lA s b := Nat.not_le.mpr hbl
  have hb : c.code = cL_law := hb
  intro n
  induction n with
  | zero => intro i C S M H locs ls h1 h2; exact absurd h1 (by omega)
  | succ n ih =>
    intro i C S M H locs ls hn hi hC hSl hRel hX hS hl
    refine lv_iload hx hb dL_law_23 (lv_at hl 0 rfl) ?_
    refine lv_aload_n hx hb dL_law_25 rfl (lv_at hl 1 rfl) ?_
    refine va_slen hx hb hX0 hbl hbA hS dL_law_26 ?_
    refine x_ri (y := nI L) rfl ?_
    refine lv_bipush (v := nI 6) hx hb dL_law_27 (by decide) ?_
    refine lv_isub hx hb dL_law_29 ?_
    refine lv_icmp_gt (tgt := 829) hx hb dL_law_30 (by decide) (fun c1 => ?_) (fun c1 => ?_)
    · refine lv_iconst (v := 1) hx hb dL_law_829 (by decide) ?_
      refine va_forget (fun q hq => hS.2.2 q hq) ?_
      refine W.widen (k := 603072) (n := 7215210) (by omega) (by omega) ?_
      exact lw_ret hx hb hr hlocks dL_law_830
    · have hi6 : 6 * i + 6 ≤ L := by
        rcases Nat.lt_or_ge L (6 * i + 6) with q | q
        · exact absurd ((lw_gt hL hi).mpr q) c1
        · exact q
      refine lv_aload_n hx hb dL_law_33 rfl (lv_at hl 1 rfl) ?_
      refine lv_iload hx hb dL_law_34 (lv_at hl 0 rfl) ?_
      refine x_sld hx hb hX0 hbl hbA hS (i := 6 * i) (by omega) hL dL_law_36 ?_
      refine lv_bipush (v := nI 15) hx hb dL_law_37 (by decide) ?_
      refine lv_iand hx hb dL_law_39 ?_
      obtain ⟨j, hj, ej⟩ := lw_16 (xs (6 * i))
      refine x_ri (y := nI j) ej ?_
      have kk : ∀ (M : xM) (H : Heap) (locs : List Loc) (ls : Array Slot), xRel G M qa qm qo → xw G.1 vwCl (lA s) M H → va_S (lA s) s.heap H locs → lv_has ls 8 [(4, .int (nI (6 * i))), (0, .ref b), (1, .ref qa), (2, .ref qm), (3, .ref qo)] → W p l e room_1 s m #[Value.ref b] below meth c H locs (C + 3) (S + 24) (lw_Z below #[Value.ref b] s) (F0 m 823 ls []) := fun M H locs ls hRel hX hS hl => by
        refine lv_iinc (v := nI (6 * (i + 1))) (lv' := [(4, .int (nI (6 * (i + 1)))), (0, .ref b), (1, .ref qa), (2, .ref qm), (3, .ref qo)]) hx hb dL_law_823 hl (k := 0) rfl (show nI (6 * i) + Int32.ofInt 6 = _ from nI_add _ 6) (by decide) rfl (fun ls hl => ?_)
        refine lv_goto (tgt := 23) hx hb dL_law_826 (by decide) ?_
        exact ih (i + 1) (C + 3) (S + 24) M H locs ls (by omega) (by omega) (by omega) (by omega) hRel hX hS hl
      rcases (show j = 0 ∨ j = 1 ∨ j = 2 ∨ j = 3 ∨ j = 4 ∨ j = 5 ∨ j = 6 ∨ j = 7 ∨ j = 8 ∨ j = 9 ∨ j = 10 ∨ j = 11 ∨ j = 12 ∨ j = 13 ∨ j = 14 ∨ j = 15 by omega) with rfl | rfl | rfl | rfl | rfl | rfl | rfl | rfl | rfl | rfl | rfl | rfl | rfl | rfl | rfl | rfl
      · refine lv_tableIn (off := 72) (tgt := 112) hx hb dL_law_40 (by decide) (by decide) (by decide) (by decide) ?_
        exact law_name C1 hi6 (by omega) (by omega) hRel hX hS hl kk
      · refine lv_tableIn (off := 97) (tgt := 137) hx hb dL_law_40 (by decide) (by decide) (by decide) (by decide) ?_
        exact law_token C1 hi6 (by omega) (by omega) hRel hX hS hl kk
      · refine lv_tableIn (off := 144) (tgt := 184) hx hb dL_law_40 (by decide) (by decide) (by decide) (by decide) ?_
        exact law_date C1 hi6 (by omega) (by omega) hRel hX hS hl kk
      · refine lv_tableIn (off := 255) (tgt := 295) hx hb dL_law_40 (by decide) (by decide) (by decide) (by decide) ?_
        exact law_weight C1 hi6 (by omega) (by omega) hRel hX hS hl kk
      · refine lv_tableIn (off := 368) (tgt := 408) hx hb dL_law_40 (by decide) (by decide) (by decide) (by decide) ?_
        exact law_run C1 hi6 (by omega) (by omega) hRel hX hS hl kk
      · refine lv_tableIn (off := 381) (tgt := 421) hx hb dL_law_40 (by decide) (by decide) (by decide) (by decide) ?_
        exact law_pair C1 hi6 (by omega) (by omega) hRel hX hS hl kk
      · refine lv_tableIn (off := 418) (tgt := 458) hx hb dL_law_40 (by decide) (by decide) (by decide) (by decide) ?_
        exact law_score C1 hi6 (by omega) (by omega) hRel hX hS hl kk
      · refine lv_tableIn (off := 485) (tgt := 525) hx hb dL_law_40 (by decide) (by decide) (by decide) (by decide) ?_
        exact law_mutual C1 hi6 (by omega) (by omega) hRel hX hS hl kk
      · refine lv_tableIn (off := 510) (tgt := 550) hx hb dL_law_40 (by decide) (by decide) (by decide) (by decide) ?_
        exact law_join C1 hi6 (by omega) (by omega) hRel hX hS hl kk
      · refine lv_tableIn (off := 547) (tgt := 587) hx hb dL_law_40 (by decide) (by decide) (by decide) (by decide) ?_
        exact law_undo C1 hi6 (by omega) (by omega) hRel hX hS hl kk
      · refine lv_tableIn (off := 572) (tgt := 612) hx hb dL_law_40 (by decide) (by decide) (by decide) (by decide) ?_
        exact law_sample C1 hi6 (by omega) (by omega) hRel hX hS hl kk
      · refine lv_tableIn (off := 641) (tgt := 681) hx hb dL_law_40 (by decide) (by decide) (by decide) (by decide) ?_
        exact law_none C1 hi6 (by omega) (by omega) hRel hX hS hl kk
      · refine lv_tableIn (off := 666) (tgt := 706) hx hb dL_law_40 (by decide) (by decide) (by decide) (by decide) ?_
        exact law_index C1 hi6 (by omega) (by omega) hRel hX hS hl kk
      · refine lv_tableIn (off := 734) (tgt := 774) hx hb dL_law_40 (by decide) (by decide) (by decide) (by decide) ?_
        exact law_best C1 hi6 (by omega) (by omega) hRel hX hS hl kk
      · refine lv_tableOut (tgt := 823) hx hb dL_law_40 (by decide) (by decide) ?_
        refine W.widen (k := C + 3) (n := S + 24) (by omega) (by omega) ?_
        exact kk M H locs ls hRel hX hS hl
      · refine lv_tableOut (tgt := 823) hx hb dL_law_40 (by decide) (by decide) ?_
        refine W.widen (k := C + 3) (n := S + 24) (by omega) (by omega) ?_
        exact kk M H locs ls hRel hX hS hl
