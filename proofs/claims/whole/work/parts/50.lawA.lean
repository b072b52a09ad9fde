/-! the law's cases -/
theorem xRel_0 {G : xG} {M : xM} {a b o : Nat} (h : xRel G M a b o) : ∃ fs, M 0 = some (a, .inr (6, fs)) := by
  obtain ⟨ad, nc, sd, jn, tc, dt, fd, ld, tk, kd, wn, jc, jz, jo, ju, bg, cn, zs, os, ab, bl, od, sp, pr, fa, fb, am, th, mS, mT, mK, mC, mD, mF, mO, mP, o1, o2, u1, d1, jA, jB, mx, up, dn, ⟨ea, eb⟩, hR, hO, hN, hJ, hP, fo, hF⟩ := h
  subst ea
  exact ⟨_, hR.1⟩
set_option maxHeartbeats 4000000 in
set_option maxRecDepth 100000 in
theorem law_name {p : Program} {l : Launch} {e : Env} {s : State} {m : MethodId} {below : List Frame} {meth : Method} {c : Code} {Q : State → Prop} {G : xG} {b L s1 s2 qa qm qo i C S : Nat} {xs : Nat → Int32} (C0 : lwC p l s m meth c b L xs G s1 s2) (hi : 6 * i + 6 ≤ L) (hC : C + 3 ≤ 603072) (hSl : S + 24 ≤ 7215210) {M : xM} {H : Heap} {locs : List Loc} {ls : Array Slot} (hRel : xRel G M qa qm qo) (hX : xw G.1 vwCl (lA s) M H) (hS : va_S (lA s) s.heap H locs) (hl : lv_has ls 8 [(4, .int (nI (6 * i))), (0, .ref b), (1, .ref qa), (2, .ref qm), (3, .ref qo)])
    (kk : ∀ (M : xM) (H : Heap) (locs : List Loc) (ls : Array Slot), xRel G M qa qm qo → xw G.1 vwCl (lA s) M H → va_S (lA s) s.heap H locs → lv_has ls 8 [(4, .int (nI (6 * i))), (0, .ref b), (1, .ref qa), (2, .ref qm), (3, .ref qo)] → W p l e room_1 s m #[Value.ref b] below meth c H locs (C + 3) (S + 24) Q (F0 m 823 ls [])) : W p l e room_1 s m #[Value.ref b] below meth c H locs C S Q (F0 m 112 ls []) := by
  obtain ⟨⟨hx, hb, hr, hml, hown, htt, hX0, hbl, hlocks, hgv⟩, hK, hT, hTC, hst, hL⟩ := C0
  have hA : ∀ q : Nat, s.heap.size ≤ q → lA s q := fun _ h => h
  have hbA : ¬ lA s b := Nat.not_le.mpr hbl
  have hts : ∀ w ∈ wsL_law, w.before #[Value.ref b] s = true := fun w hw => htt w (wsL_law_in w hw)
  have hb : c.code = cL_law := hb
  have hown : s.vm.findClass RL = some m.cls := hown
  have hRel0 : ∃ fs, M 0 = some (qa, .inr (6, fs)) := xRel_0 hRel
  obtain ⟨fs0, he0⟩ := hRel0
  refine lv_aload_n hx hb dL_law_112 rfl (lv_at hl 2 rfl) ?_
  refine lv_aload_n hx hb dL_law_113 rfl (lv_at hl 1 rfl) ?_
  refine lv_iload hx hb dL_law_114 (lv_at hl 0 rfl) ?_
  refine lv_iconst (v := nI 1) hx hb dL_law_116 (by decide) ?_
  refine lv_iadd hx hb dL_law_117 ?_
  refine x_ri (y := nI (6 * i + 1)) (nI_add _ _) ?_
  refine x_sld hx hb hX0 hbl hbA hS (i := 6 * i + 1) (by omega) hL dL_law_118 ?_
  obtain ⟨post4, hM4, k4⟩ := rl_name l G (lA s) hRel (xs (6 * i + 1))
  refine x_calli (x_runV (q := (RX4, TX4, 7)) (As := [.int (xs (6 * i + 1))]) (rest := []) ⟨hx, hb, hml, hown, hts⟩ hM4 (cwV 1 hts gL_law_X4_name rfl rfl rfl (by decide +kernel) ⟨Nat.le_of_ble_eq_true rfl, Nat.le_of_ble_eq_true rfl⟩) hK hA hX hS he0 rfl rfl hl.1 rfl (lv_room (Nat.le_of_ble_eq_true rfl)) dL_law_119 ⟨by show C + 3 ≤ 603072; omega, by show S + 24 ≤ 7215210; omega⟩) hS (fun r M1 H locs hp hX hS => ?_)
  obtain ⟨⟨fs5, he5⟩, post5, hM5, k5⟩ := k4 r M1 hp
  refine lv_aload_n hx hb dL_law_122 rfl (lv_at hl 3 rfl) ?_
  refine lv_aload_n hx hb dL_law_123 rfl (lv_at hl 1 rfl) ?_
  refine lv_iload hx hb dL_law_124 (lv_at hl 0 rfl) ?_
  refine lv_iconst (v := nI 1) hx hb dL_law_126 (by decide) ?_
  refine lv_iadd hx hb dL_law_127 ?_
  refine x_ri (y := nI (6 * i + 1)) (nI_add _ _) ?_
  refine x_sld hx hb hX0 hbl hbA hS (i := 6 * i + 1) (by omega) hL dL_law_128 ?_
  refine x_calli (x_runV (q := (RX5, TX5, 23)) (As := [.int (xs (6 * i + 1))]) (rest := [.int r]) ⟨hx, hb, hml, hown, hts⟩ hM5 (cwV 1 hts gL_law_X5_name rfl rfl rfl (by decide +kernel) ⟨Nat.le_of_ble_eq_true rfl, Nat.le_of_ble_eq_true rfl⟩) hK hA hX hS he5 rfl rfl hl.1 rfl (lv_room (Nat.le_of_ble_eq_true rfl)) dL_law_129 ⟨by show C + 3 + 0 ≤ 603072; omega, by show S + 24 + 0 ≤ 7215210; omega⟩) hS (fun r2 M2 H locs hp2 hX hS => ?_)
  obtain ⟨er, hRel2⟩ := k5 r2 M2 hp2
  refine lv_icmp_eq (tgt := 823) hx hb dL_law_132 (by decide) (fun _ => ?_) (fun c9 => absurd er.symm c9)
  refine W.widen (k := C + 3) (n := S + 24) (by omega) (by omega) ?_
  exact kk M2 H locs ls hRel2 hX hS hl

set_option maxHeartbeats 4000000 in
set_option maxRecDepth 100000 in
theorem law_token {p : Program} {l : Launch} {e : Env} {s : State} {m : MethodId} {below : List Frame} {meth : Method} {c : Code} {Q : State → Prop} {G : xG} {b L s1 s2 qa qm qo i C S : Nat} {xs : Nat → Int32} (C0 : lwC p l s m meth c b L xs G s1 s2) (hi : 6 * i + 6 ≤ L) (hC : C + 3 ≤ 603072) (hSl : S + 24 ≤ 7215210) {M : xM} {H : Heap} {locs : List Loc} {ls : Array Slot} (hRel : xRel G M qa qm qo) (hX : xw G.1 vwCl (lA s) M H) (hS : va_S (lA s) s.heap H locs) (hl : lv_has ls 8 [(4, .int (nI (6 * i))), (0, .ref b), (1, .ref qa), (2, .ref qm), (3, .ref qo)])
    (kk : ∀ (M : xM) (H : Heap) (locs : List Loc) (ls : Array Slot), xRel G M qa qm qo → xw G.1 vwCl (lA s) M H → va_S (lA s) s.heap H locs → lv_has ls 8 [(4, .int (nI (6 * i))), (0, .ref b), (1, .ref qa), (2, .ref qm), (3, .ref qo)] → W p l e room_1 s m #[Value.ref b] below meth c H locs (C + 3) (S + 24) Q (F0 m 823 ls [])) : W p l e room_1 s m #[Value.ref b] below meth c H locs C S Q (F0 m 137 ls []) := by
  obtain ⟨⟨hx, hb, hr, hml, hown, htt, hX0, hbl, hlocks, hgv⟩, hK, hT, hTC, hst, hL⟩ := C0
  have hA : ∀ q : Nat, s.heap.size ≤ q → lA s q := fun _ h => h
  have hbA : ¬ lA s b := Nat.not_le.mpr hbl
  have hts : ∀ w ∈ wsL_law, w.before #[Value.ref b] s = true := fun w hw => htt w (wsL_law_in w hw)
  have hb : c.code = cL_law := hb
  have hown : s.vm.findClass RL = some m.cls := hown
  have hRel0 : ∃ fs, M 0 = some (qa, .inr (6, fs)) := xRel_0 hRel
  obtain ⟨fs0, he0⟩ := hRel0
  refine lv_aload_n hx hb dL_law_137 rfl (lv_at hl 2 rfl) ?_
  refine lv_aload_n hx hb dL_law_138 rfl (lv_at hl 1 rfl) ?_
  refine lv_iload hx hb dL_law_139 (lv_at hl 0 rfl) ?_
  refine lv_iconst (v := nI 1) hx hb dL_law_141 (by decide) ?_
  refine lv_iadd hx hb dL_law_142 ?_
  refine x_ri (y := nI (6 * i + 1)) (nI_add _ _) ?_
  refine x_sld hx hb hX0 hbl hbA hS (i := 6 * i + 1) (by omega) hL dL_law_143 ?_
  refine lv_aload_n hx hb dL_law_144 rfl (lv_at hl 1 rfl) ?_
  refine lv_iload hx hb dL_law_145 (lv_at hl 0 rfl) ?_
  refine lv_iconst (v := nI 2) hx hb dL_law_147 (by decide) ?_
  refine lv_iadd hx hb dL_law_148 ?_
  refine x_ri (y := nI (6 * i + 2)) (nI_add _ _) ?_
  refine x_sld hx hb hX0 hbl hbA hS (i := 6 * i + 2) (by omega) hL dL_law_149 ?_
  refine lv_aload_n hx hb dL_law_150 rfl (lv_at hl 1 rfl) ?_
  refine lv_iload hx hb dL_law_151 (lv_at hl 0 rfl) ?_
  refine lv_iconst (v := nI 3) hx hb dL_law_153 (by decide) ?_
  refine lv_iadd hx hb dL_law_154 ?_
  refine x_ri (y := nI (6 * i + 3)) (nI_add _ _) ?_
  refine x_sld hx hb hX0 hbl hbA hS (i := 6 * i + 3) (by omega) hL dL_law_155 ?_
  obtain ⟨post4, hM4, k4⟩ := rl_token l G (lA s) hRel (xs (6 * i + 1)) (xs (6 * i + 2)) (xs (6 * i + 3))
  refine x_callv (x_runV (q := (RX4, TX4, 7)) (As := [.int (xs (6 * i + 1)), .int (xs (6 * i + 2)), .int (xs (6 * i + 3))]) (rest := []) ⟨hx, hb, hml, hown, hts⟩ hM4 (cwV 3 hts gL_law_X4_token rfl rfl rfl (by decide +kernel) ⟨Nat.le_of_ble_eq_true rfl, Nat.le_of_ble_eq_true rfl⟩) hK hA hX hS he0 rfl rfl hl.1 rfl (lv_room (Nat.le_of_ble_eq_true rfl)) dL_law_156 ⟨by show C + 0 ≤ 603072; omega, by show S + 0 ≤ 7215210; omega⟩) hS (fun M1 H locs hp hX hS => ?_)
  obtain ⟨⟨fs5, he5⟩, post5, hM5, k5⟩ := k4 M1 hp
  refine lv_aload_n hx hb dL_law_159 rfl (lv_at hl 3 rfl) ?_
  refine lv_aload_n hx hb dL_law_160 rfl (lv_at hl 1 rfl) ?_
  refine lv_iload hx hb dL_law_161 (lv_at hl 0 rfl) ?_
  refine lv_iconst (v := nI 1) hx hb dL_law_163 (by decide) ?_
  refine lv_iadd hx hb dL_law_164 ?_
  refine x_ri (y := nI (6 * i + 1)) (nI_add _ _) ?_
  refine x_sld hx hb hX0 hbl hbA hS (i := 6 * i + 1) (by omega) hL dL_law_165 ?_
  refine lv_aload_n hx hb dL_law_166 rfl (lv_at hl 1 rfl) ?_
  refine lv_iload hx hb dL_law_167 (lv_at hl 0 rfl) ?_
  refine lv_iconst (v := nI 2) hx hb dL_law_169 (by decide) ?_
  refine lv_iadd hx hb dL_law_170 ?_
  refine x_ri (y := nI (6 * i + 2)) (nI_add _ _) ?_
  refine x_sld hx hb hX0 hbl hbA hS (i := 6 * i + 2) (by omega) hL dL_law_171 ?_
  refine lv_aload_n hx hb dL_law_172 rfl (lv_at hl 1 rfl) ?_
  refine lv_iload hx hb dL_law_173 (lv_at hl 0 rfl) ?_
  refine lv_iconst (v := nI 3) hx hb dL_law_175 (by decide) ?_
  refine lv_iadd hx hb dL_law_176 ?_
  refine x_ri (y := nI (6 * i + 3)) (nI_add _ _) ?_
  refine x_sld hx hb hX0 hbl hbA hS (i := 6 * i + 3) (by omega) hL dL_law_177 ?_
  refine x_callv (x_runV (q := (RX5, TX5, 23)) (As := [.int (xs (6 * i + 1)), .int (xs (6 * i + 2)), .int (xs (6 * i + 3))]) (rest := []) ⟨hx, hb, hml, hown, hts⟩ hM5 (cwV 3 hts gL_law_X5_token rfl rfl rfl (by decide +kernel) ⟨Nat.le_of_ble_eq_true rfl, Nat.le_of_ble_eq_true rfl⟩) hK hA hX hS he5 rfl rfl hl.1 rfl (lv_room (Nat.le_of_ble_eq_true rfl)) dL_law_178 ⟨by show C + 0 + 0 ≤ 603072; omega, by show S + 0 + 0 ≤ 7215210; omega⟩) hS (fun M2 H locs hp2 hX hS => ?_)
  have hRel2 := k5 M2 hp2
  refine lv_goto (tgt := 823) hx hb dL_law_181 (by decide) ?_
  refine W.widen (k := C + 3) (n := S + 24) (by omega) (by omega) ?_
  exact kk M2 H locs ls hRel2 hX hS hl

set_option maxHeartbeats 4000000 in
set_option maxRecDepth 100000 in
theorem law_date {p : Program} {l : Launch} {e : Env} {s : State} {m : MethodId} {below : List Frame} {meth : Method} {c : Code} {Q : State → Prop} {G : xG} {b L s1 s2 qa qm qo i C S : Nat} {xs : Nat → Int32} (C0 : lwC p l s m meth c b L xs G s1 s2) (hi : 6 * i + 6 ≤ L) (hC : C + 3 ≤ 603072) (hSl : S + 24 ≤ 7215210) {M : xM} {H : Heap} {locs : List Loc} {ls : Array Slot} (hRel : xRel G M qa qm qo) (hX : xw G.1 vwCl (lA s) M H) (hS : va_S (lA s) s.heap H locs) (hl : lv_has ls 8 [(4, .int (nI (6 * i))), (0, .ref b), (1, .ref qa), (2, .ref qm), (3, .ref qo)])
    (kk : ∀ (M : xM) (H : Heap) (locs : List Loc) (ls : Array Slot), xRel G M qa qm qo → xw G.1 vwCl (lA s) M H → va_S (lA s) s.heap H locs → lv_has ls 8 [(4, .int (nI (6 * i))), (0, .ref b), (1, .ref qa), (2, .ref qm), (3, .ref qo)] → W p l e room_1 s m #[Value.ref b] below meth c H locs (C + 3) (S + 24) Q (F0 m 823 ls [])) : W p l e room_1 s m #[Value.ref b] below meth c H locs C S Q (F0 m 184 ls []) := by
  obtain ⟨⟨hx, hb, hr, hml, hown, htt, hX0, hbl, hlocks, hgv⟩, hK, hT, hTC, hst, hL⟩ := C0
  have hA : ∀ q : Nat, s.heap.size ≤ q → lA s q := fun _ h => h
  have hbA : ¬ lA s b := Nat.not_le.mpr hbl
  have hts : ∀ w ∈ wsL_law, w.before #[Value.ref b] s = true := fun w hw => htt w (wsL_law_in w hw)
  have lk := htt (.constantLong RL 35 4294967295) (wsL_law_in _ (by decide +kernel))
  have hb : c.code = cL_law := hb
  have hown : s.vm.findClass RL = some m.cls := hown
  have hRel0 : ∃ fs, M 0 = some (qa, .inr (6, fs)) := xRel_0 hRel
  obtain ⟨fs0, he0⟩ := hRel0
  refine lv_aload_n hx hb dL_law_184 rfl (lv_at hl 2 rfl) ?_
  refine lv_aload_n hx hb dL_law_185 rfl (lv_at hl 1 rfl) ?_
  refine lv_iload hx hb dL_law_186 (lv_at hl 0 rfl) ?_
  refine lv_iconst (v := nI 1) hx hb dL_law_188 (by decide) ?_
  refine lv_iadd hx hb dL_law_189 ?_
  refine x_ri (y := nI (6 * i + 1)) (nI_add _ _) ?_
  refine x_sld hx hb hX0 hbl hbA hS (i := 6 * i + 1) (by omega) hL dL_law_190 ?_
  refine lv_aload_n hx hb dL_law_191 rfl (lv_at hl 1 rfl) ?_
  refine lv_iload hx hb dL_law_192 (lv_at hl 0 rfl) ?_
  refine lv_iconst (v := nI 2) hx hb dL_law_194 (by decide) ?_
  refine lv_iadd hx hb dL_law_195 ?_
  refine x_ri (y := nI (6 * i + 2)) (nI_add _ _) ?_
  refine x_sld hx hb hX0 hbl hbA hS (i := 6 * i + 2) (by omega) hL dL_law_196 ?_
  refine lv_i2l (v := (xs (6 * i + 2)).toInt64) hx hb dL_law_197 rfl ?_
  refine lv_bipush (v := nI 32) hx hb dL_law_198 (by decide) ?_
  refine lv_lshl (v := lwS (xs (6 * i + 2))) hx hb dL_law_200 rfl ?_
  refine lv_aload_n hx hb dL_law_201 rfl (lv_at hl 1 rfl) ?_
  refine lv_iload hx hb dL_law_202 (lv_at hl 0 rfl) ?_
  refine lv_iconst (v := nI 3) hx hb dL_law_204 (by decide) ?_
  refine lv_iadd hx hb dL_law_205 ?_
  refine x_ri (y := nI (6 * i + 3)) (nI_add _ _) ?_
  refine x_sld hx hb hX0 hbl hbA hS (i := 6 * i + 3) (by omega) hL dL_law_206 ?_
  refine lv_i2l (v := (xs (6 * i + 3)).toInt64) hx hb dL_law_207 rfl ?_
  refine lv_ldc2 (v := 4294967295) hx hb hown lk dL_law_208 ?_
  refine lv_land hx hb dL_law_211 ?_
  refine lv_lor hx hb dL_law_212 ?_
  refine x_rl (y := lw64 (xs (6 * i + 2)) (xs (6 * i + 3))) rfl ?_
  refine lv_aload_n hx hb dL_law_213 rfl (lv_at hl 1 rfl) ?_
  refine lv_iload hx hb dL_law_214 (lv_at hl 0 rfl) ?_
  refine lv_iconst (v := nI 4) hx hb dL_law_216 (by decide) ?_
  refine lv_iadd hx hb dL_law_217 ?_
  refine x_ri (y := nI (6 * i + 4)) (nI_add _ _) ?_
  refine x_sld hx hb hX0 hbl hbA hS (i := 6 * i + 4) (by omega) hL dL_law_218 ?_
  refine lv_i2l (v := (xs (6 * i + 4)).toInt64) hx hb dL_law_219 rfl ?_
  refine lv_bipush (v := nI 32) hx hb dL_law_220 (by decide) ?_
  refine lv_lshl (v := lwS (xs (6 * i + 4))) hx hb dL_law_222 rfl ?_
  refine lv_aload_n hx hb dL_law_223 rfl (lv_at hl 1 rfl) ?_
  refine lv_iload hx hb dL_law_224 (lv_at hl 0 rfl) ?_
  refine lv_iconst (v := nI 5) hx hb dL_law_226 (by decide) ?_
  refine lv_iadd hx hb dL_law_227 ?_
  refine x_ri (y := nI (6 * i + 5)) (nI_add _ _) ?_
  refine x_sld hx hb hX0 hbl hbA hS (i := 6 * i + 5) (by omega) hL dL_law_228 ?_
  refine lv_i2l (v := (xs (6 * i + 5)).toInt64) hx hb dL_law_229 rfl ?_
  refine lv_ldc2 (v := 4294967295) hx hb hown lk dL_law_230 ?_
  refine lv_land hx hb dL_law_233 ?_
  refine lv_lor hx hb dL_law_234 ?_
  refine x_rl (y := lw64 (xs (6 * i + 4)) (xs (6 * i + 5))) rfl ?_
  obtain ⟨post4, hM4, k4⟩ := rl_date l G (lA s) hRel (xs (6 * i + 1)) (lw64 (xs (6 * i + 2)) (xs (6 * i + 3))) (lw64 (xs (6 * i + 4)) (xs (6 * i + 5)))
  refine x_callv (x_runV (q := (RX4, TX4, 7)) (As := [.int (xs (6 * i + 1)), .long (lw64 (xs (6 * i + 2)) (xs (6 * i + 3))), .long (lw64 (xs (6 * i + 4)) (xs (6 * i + 5)))]) (rest := []) ⟨hx, hb, hml, hown, hts⟩ hM4 (cwV 3 hts gL_law_X4_date rfl rfl rfl (by decide +kernel) ⟨Nat.le_of_ble_eq_true rfl, Nat.le_of_ble_eq_true rfl⟩) hK hA hX hS he0 rfl rfl hl.1 rfl (lv_room (Nat.le_of_ble_eq_true rfl)) dL_law_235 ⟨by show C + 0 ≤ 603072; omega, by show S + 0 ≤ 7215210; omega⟩) hS (fun M1 H locs hp hX hS => ?_)
  obtain ⟨⟨fs5, he5⟩, post5, hM5, k5⟩ := k4 M1 hp
  refine lv_aload_n hx hb dL_law_238 rfl (lv_at hl 3 rfl) ?_
  refine lv_aload_n hx hb dL_law_239 rfl (lv_at hl 1 rfl) ?_
  refine lv_iload hx hb dL_law_240 (lv_at hl 0 rfl) ?_
  refine lv_iconst (v := nI 1) hx hb dL_law_242 (by decide) ?_
  refine lv_iadd hx hb dL_law_243 ?_
  refine x_ri (y := nI (6 * i + 1)) (nI_add _ _) ?_
  refine x_sld hx hb hX0 hbl hbA hS (i := 6 * i + 1) (by omega) hL dL_law_244 ?_
  refine lv_aload_n hx hb dL_law_245 rfl (lv_at hl 1 rfl) ?_
  refine lv_iload hx hb dL_law_246 (lv_at hl 0 rfl) ?_
  refine lv_iconst (v := nI 2) hx hb dL_law_248 (by decide) ?_
  refine lv_iadd hx hb dL_law_249 ?_
  refine x_ri (y := nI (6 * i + 2)) (nI_add _ _) ?_
  refine x_sld hx hb hX0 hbl hbA hS (i := 6 * i + 2) (by omega) hL dL_law_250 ?_
  refine lv_i2l (v := (xs (6 * i + 2)).toInt64) hx hb dL_law_251 rfl ?_
  refine lv_bipush (v := nI 32) hx hb dL_law_252 (by decide) ?_
  refine lv_lshl (v := lwS (xs (6 * i + 2))) hx hb dL_law_254 rfl ?_
  refine lv_aload_n hx hb dL_law_255 rfl (lv_at hl 1 rfl) ?_
  refine lv_iload hx hb dL_law_256 (lv_at hl 0 rfl) ?_
  refine lv_iconst (v := nI 3) hx hb dL_law_258 (by decide) ?_
  refine lv_iadd hx hb dL_law_259 ?_
  refine x_ri (y := nI (6 * i + 3)) (nI_add _ _) ?_
  refine x_sld hx hb hX0 hbl hbA hS (i := 6 * i + 3) (by omega) hL dL_law_260 ?_
  refine lv_i2l (v := (xs (6 * i + 3)).toInt64) hx hb dL_law_261 rfl ?_
  refine lv_ldc2 (v := 4294967295) hx hb hown lk dL_law_262 ?_
  refine lv_land hx hb dL_law_265 ?_
  refine lv_lor hx hb dL_law_266 ?_
  refine x_rl (y := lw64 (xs (6 * i + 2)) (xs (6 * i + 3))) rfl ?_
  refine lv_aload_n hx hb dL_law_267 rfl (lv_at hl 1 rfl) ?_
  refine lv_iload hx hb dL_law_268 (lv_at hl 0 rfl) ?_
  refine lv_iconst (v := nI 4) hx hb dL_law_270 (by decide) ?_
  refine lv_iadd hx hb dL_law_271 ?_
  refine x_ri (y := nI (6 * i + 4)) (nI_add _ _) ?_
  refine x_sld hx hb hX0 hbl hbA hS (i := 6 * i + 4) (by omega) hL dL_law_272 ?_
  refine lv_i2l (v := (xs (6 * i + 4)).toInt64) hx hb dL_law_273 rfl ?_
  refine lv_bipush (v := nI 32) hx hb dL_law_274 (by decide) ?_
  refine lv_lshl (v := lwS (xs (6 * i + 4))) hx hb dL_law_276 rfl ?_
  refine lv_aload_n hx hb dL_law_277 rfl (lv_at hl 1 rfl) ?_
  refine lv_iload hx hb dL_law_278 (lv_at hl 0 rfl) ?_
  refine lv_iconst (v := nI 5) hx hb dL_law_280 (by decide) ?_
  refine lv_iadd hx hb dL_law_281 ?_
  refine x_ri (y := nI (6 * i + 5)) (nI_add _ _) ?_
  refine x_sld hx hb hX0 hbl hbA hS (i := 6 * i + 5) (by omega) hL dL_law_282 ?_
  refine lv_i2l (v := (xs (6 * i + 5)).toInt64) hx hb dL_law_283 rfl ?_
  refine lv_ldc2 (v := 4294967295) hx hb hown lk dL_law_284 ?_
  refine lv_land hx hb dL_law_287 ?_
  refine lv_lor hx hb dL_law_288 ?_
  refine x_rl (y := lw64 (xs (6 * i + 4)) (xs (6 * i + 5))) rfl ?_
  refine x_callv (x_runV (q := (RX5, TX5, 23)) (As := [.int (xs (6 * i + 1)), .long (lw64 (xs (6 * i + 2)) (xs (6 * i + 3))), .long (lw64 (xs (6 * i + 4)) (xs (6 * i + 5)))]) (rest := []) ⟨hx, hb, hml, hown, hts⟩ hM5 (cwV 3 hts gL_law_X5_date rfl rfl rfl (by decide +kernel) ⟨Nat.le_of_ble_eq_true rfl, Nat.le_of_ble_eq_true rfl⟩) hK hA hX hS he5 rfl rfl hl.1 rfl (lv_room (Nat.le_of_ble_eq_true rfl)) dL_law_289 ⟨by show C + 0 + 0 ≤ 603072; omega, by show S + 0 + 0 ≤ 7215210; omega⟩) hS (fun M2 H locs hp2 hX hS => ?_)
  have hRel2 := k5 M2 hp2
  refine lv_goto (tgt := 823) hx hb dL_law_292 (by decide) ?_
  refine W.widen (k := C + 3) (n := S + 24) (by omega) (by omega) ?_
  exact kk M2 H locs ls hRel2 hX hS hl

set_option maxHeartbeats 4000000 in
set_option maxRecDepth 100000 in
theorem law_weight {p : Program} {l : Launch} {e : Env} {s : State} {m : MethodId} {below : List Frame} {meth : Method} {c : Code} {Q : State → Prop} {G : xG} {b L s1 s2 qa qm qo i C S : Nat} {xs : Nat → Int32} (C0 : lwC p l s m meth c b L xs G s1 s2) (hi : 6 * i + 6 ≤ L) (hC : C + 3 ≤ 603072) (hSl : S + 24 ≤ 7215210) {M : xM} {H : Heap} {locs : List Loc} {ls : Array Slot} (hRel : xRel G M qa qm qo) (hX : xw G.1 vwCl (lA s) M H) (hS : va_S (lA s) s.heap H locs) (hl : lv_has ls 8 [(4, .int (nI (6 * i))), (0, .ref b), (1, .ref qa), (2, .ref qm), (3, .ref qo)])
    (kk : ∀ (M : xM) (H : Heap) (locs : List Loc) (ls : Array Slot), xRel G M qa qm qo → xw G.1 vwCl (lA s) M H → va_S (lA s) s.heap H locs → lv_has ls 8 [(4, .int (nI (6 * i))), (0, .ref b), (1, .ref qa), (2, .ref qm), (3, .ref qo)] → W p l e room_1 s m #[Value.ref b] below meth c H locs (C + 3) (S + 24) Q (F0 m 823 ls [])) : W p l e room_1 s m #[Value.ref b] below meth c H locs C S Q (F0 m 295 ls []) := by
  obtain ⟨⟨hx, hb, hr, hml, hown, htt, hX0, hbl, hlocks, hgv⟩, hK, hT, hTC, hst, hL⟩ := C0
  have hA : ∀ q : Nat, s.heap.size ≤ q → lA s q := fun _ h => h
  have hbA : ¬ lA s b := Nat.not_le.mpr hbl
  have hts : ∀ w ∈ wsL_law, w.before #[Value.ref b] s = true := fun w hw => htt w (wsL_law_in w hw)
  have lk := htt (.constantLong RL 35 4294967295) (wsL_law_in _ (by decide +kernel))
  have hb : c.code = cL_law := hb
  have hown : s.vm.findClass RL = some m.cls := hown
  have hRel0 : ∃ fs, M 0 = some (qa, .inr (6, fs)) := xRel_0 hRel
  obtain ⟨fs0, he0⟩ := hRel0
  refine lv_aload_n hx hb dL_law_295 rfl (lv_at hl 2 rfl) ?_
  refine lv_aload_n hx hb dL_law_296 rfl (lv_at hl 1 rfl) ?_
  refine lv_iload hx hb dL_law_297 (lv_at hl 0 rfl) ?_
  refine lv_iconst (v := nI 1) hx hb dL_law_299 (by decide) ?_
  refine lv_iadd hx hb dL_law_300 ?_
  refine x_ri (y := nI (6 * i + 1)) (nI_add _ _) ?_
  refine x_sld hx hb hX0 hbl hbA hS (i := 6 * i + 1) (by omega) hL dL_law_301 ?_
  refine lv_aload_n hx hb dL_law_302 rfl (lv_at hl 1 rfl) ?_
  refine lv_iload hx hb dL_law_303 (lv_at hl 0 rfl) ?_
  refine lv_iconst (v := nI 2) hx hb dL_law_305 (by decide) ?_
  refine lv_iadd hx hb dL_law_306 ?_
  refine x_ri (y := nI (6 * i + 2)) (nI_add _ _) ?_
  refine x_sld hx hb hX0 hbl hbA hS (i := 6 * i + 2) (by omega) hL dL_law_307 ?_
  refine lv_i2l (v := (xs (6 * i + 2)).toInt64) hx hb dL_law_308 rfl ?_
  refine lv_bipush (v := nI 32) hx hb dL_law_309 (by decide) ?_
  refine lv_lshl (v := lwS (xs (6 * i + 2))) hx hb dL_law_311 rfl ?_
  refine lv_aload_n hx hb dL_law_312 rfl (lv_at hl 1 rfl) ?_
  refine lv_iload hx hb dL_law_313 (lv_at hl 0 rfl) ?_
  refine lv_iconst (v := nI 3) hx hb dL_law_315 (by decide) ?_
  refine lv_iadd hx hb dL_law_316 ?_
  refine x_ri (y := nI (6 * i + 3)) (nI_add _ _) ?_
  refine x_sld hx hb hX0 hbl hbA hS (i := 6 * i + 3) (by omega) hL dL_law_317 ?_
  refine lv_i2l (v := (xs (6 * i + 3)).toInt64) hx hb dL_law_318 rfl ?_
  refine lv_ldc2 (v := 4294967295) hx hb hown lk dL_law_319 ?_
  refine lv_land hx hb dL_law_322 ?_
  refine lv_lor hx hb dL_law_323 ?_
  refine x_rl (y := lw64 (xs (6 * i + 2)) (xs (6 * i + 3))) rfl ?_
  refine lv_aload_n hx hb dL_law_324 rfl (lv_at hl 1 rfl) ?_
  refine lv_iload hx hb dL_law_325 (lv_at hl 0 rfl) ?_
  refine lv_iconst (v := nI 4) hx hb dL_law_327 (by decide) ?_
  refine lv_iadd hx hb dL_law_328 ?_
  refine x_ri (y := nI (6 * i + 4)) (nI_add _ _) ?_
  refine x_sld hx hb hX0 hbl hbA hS (i := 6 * i + 4) (by omega) hL dL_law_329 ?_
  refine lv_i2l (v := (xs (6 * i + 4)).toInt64) hx hb dL_law_330 rfl ?_
  refine lv_bipush (v := nI 32) hx hb dL_law_331 (by decide) ?_
  refine lv_lshl (v := lwS (xs (6 * i + 4))) hx hb dL_law_333 rfl ?_
  refine lv_aload_n hx hb dL_law_334 rfl (lv_at hl 1 rfl) ?_
  refine lv_iload hx hb dL_law_335 (lv_at hl 0 rfl) ?_
  refine lv_iconst (v := nI 5) hx hb dL_law_337 (by decide) ?_
  refine lv_iadd hx hb dL_law_338 ?_
  refine x_ri (y := nI (6 * i + 5)) (nI_add _ _) ?_
  refine x_sld hx hb hX0 hbl hbA hS (i := 6 * i + 5) (by omega) hL dL_law_339 ?_
  refine lv_i2l (v := (xs (6 * i + 5)).toInt64) hx hb dL_law_340 rfl ?_
  refine lv_ldc2 (v := 4294967295) hx hb hown lk dL_law_341 ?_
  refine lv_land hx hb dL_law_344 ?_
  refine lv_lor hx hb dL_law_345 ?_
  refine x_rl (y := lw64 (xs (6 * i + 4)) (xs (6 * i + 5))) rfl ?_
  obtain ⟨post4, hM4, k4⟩ := rl_weight l G (lA s) hRel (xs (6 * i + 1)) (lw64 (xs (6 * i + 2)) (xs (6 * i + 3))) (lw64 (xs (6 * i + 4)) (xs (6 * i + 5)))
  refine x_calli (x_runV (q := (RX4, TX4, 7)) (As := [.int (xs (6 * i + 1)), .long (lw64 (xs (6 * i + 2)) (xs (6 * i + 3))), .long (lw64 (xs (6 * i + 4)) (xs (6 * i + 5)))]) (rest := []) ⟨hx, hb, hml, hown, hts⟩ hM4 (cwV 3 hts gL_law_X4_weight rfl rfl rfl (by decide +kernel) ⟨Nat.le_of_ble_eq_true rfl, Nat.le_of_ble_eq_true rfl⟩) hK hA hX hS he0 rfl rfl hl.1 rfl (lv_room (Nat.le_of_ble_eq_true rfl)) dL_law_346 ⟨by show C + 0 ≤ 603072; omega, by show S + 0 ≤ 7215210; omega⟩) hS (fun r M1 H locs hp hX hS => ?_)
  obtain ⟨⟨fs5, he5⟩, post5, hM5, k5⟩ := k4 r M1 hp
  refine lv_aload_n hx hb dL_law_349 rfl (lv_at hl 3 rfl) ?_
  refine lv_aload_n hx hb dL_law_350 rfl (lv_at hl 1 rfl) ?_
  refine lv_iload hx hb dL_law_351 (lv_at hl 0 rfl) ?_
  refine lv_iconst (v := nI 1) hx hb dL_law_353 (by decide) ?_
  refine lv_iadd hx hb dL_law_354 ?_
  refine x_ri (y := nI (6 * i + 1)) (nI_add _ _) ?_
  refine x_sld hx hb hX0 hbl hbA hS (i := 6 * i + 1) (by omega) hL dL_law_355 ?_
  refine lv_aload_n hx hb dL_law_356 rfl (lv_at hl 1 rfl) ?_
  refine lv_iload hx hb dL_law_357 (lv_at hl 0 rfl) ?_
  refine lv_iconst (v := nI 2) hx hb dL_law_359 (by decide) ?_
  refine lv_iadd hx hb dL_law_360 ?_
  refine x_ri (y := nI (6 * i + 2)) (nI_add _ _) ?_
  refine x_sld hx hb hX0 hbl hbA hS (i := 6 * i + 2) (by omega) hL dL_law_361 ?_
  refine lv_i2l (v := (xs (6 * i + 2)).toInt64) hx hb dL_law_362 rfl ?_
  refine lv_bipush (v := nI 32) hx hb dL_law_363 (by decide) ?_
  refine lv_lshl (v := lwS (xs (6 * i + 2))) hx hb dL_law_365 rfl ?_
  refine lv_aload_n hx hb dL_law_366 rfl (lv_at hl 1 rfl) ?_
  refine lv_iload hx hb dL_law_367 (lv_at hl 0 rfl) ?_
  refine lv_iconst (v := nI 3) hx hb dL_law_369 (by decide) ?_
  refine lv_iadd hx hb dL_law_370 ?_
  refine x_ri (y := nI (6 * i + 3)) (nI_add _ _) ?_
  refine x_sld hx hb hX0 hbl hbA hS (i := 6 * i + 3) (by omega) hL dL_law_371 ?_
  refine lv_i2l (v := (xs (6 * i + 3)).toInt64) hx hb dL_law_372 rfl ?_
  refine lv_ldc2 (v := 4294967295) hx hb hown lk dL_law_373 ?_
  refine lv_land hx hb dL_law_376 ?_
  refine lv_lor hx hb dL_law_377 ?_
  refine x_rl (y := lw64 (xs (6 * i + 2)) (xs (6 * i + 3))) rfl ?_
  refine lv_aload_n hx hb dL_law_378 rfl (lv_at hl 1 rfl) ?_
  refine lv_iload hx hb dL_law_379 (lv_at hl 0 rfl) ?_
  refine lv_iconst (v := nI 4) hx hb dL_law_381 (by decide) ?_
  refine lv_iadd hx hb dL_law_382 ?_
  refine x_ri (y := nI (6 * i + 4)) (nI_add _ _) ?_
  refine x_sld hx hb hX0 hbl hbA hS (i := 6 * i + 4) (by omega) hL dL_law_383 ?_
  refine lv_i2l (v := (xs (6 * i + 4)).toInt64) hx hb dL_law_384 rfl ?_
  refine lv_bipush (v := nI 32) hx hb dL_law_385 (by decide) ?_
  refine lv_lshl (v := lwS (xs (6 * i + 4))) hx hb dL_law_387 rfl ?_
  refine lv_aload_n hx hb dL_law_388 rfl (lv_at hl 1 rfl) ?_
  refine lv_iload hx hb dL_law_389 (lv_at hl 0 rfl) ?_
  refine lv_iconst (v := nI 5) hx hb dL_law_391 (by decide) ?_
  refine lv_iadd hx hb dL_law_392 ?_
  refine x_ri (y := nI (6 * i + 5)) (nI_add _ _) ?_
  refine x_sld hx hb hX0 hbl hbA hS (i := 6 * i + 5) (by omega) hL dL_law_393 ?_
  refine lv_i2l (v := (xs (6 * i + 5)).toInt64) hx hb dL_law_394 rfl ?_
  refine lv_ldc2 (v := 4294967295) hx hb hown lk dL_law_395 ?_
  refine lv_land hx hb dL_law_398 ?_
  refine lv_lor hx hb dL_law_399 ?_
  refine x_rl (y := lw64 (xs (6 * i + 4)) (xs (6 * i + 5))) rfl ?_
  refine x_calli (x_runV (q := (RX5, TX5, 23)) (As := [.int (xs (6 * i + 1)), .long (lw64 (xs (6 * i + 2)) (xs (6 * i + 3))), .long (lw64 (xs (6 * i + 4)) (xs (6 * i + 5)))]) (rest := [.int r]) ⟨hx, hb, hml, hown, hts⟩ hM5 (cwV 3 hts gL_law_X5_weight rfl rfl rfl (by decide +kernel) ⟨Nat.le_of_ble_eq_true rfl, Nat.le_of_ble_eq_true rfl⟩) hK hA hX hS he5 rfl rfl hl.1 rfl (lv_room (Nat.le_of_ble_eq_true rfl)) dL_law_400 ⟨by show C + 0 + 0 ≤ 603072; omega, by show S + 0 + 0 ≤ 7215210; omega⟩) hS (fun r2 M2 H locs hp2 hX hS => ?_)
  obtain ⟨er, hRel2⟩ := k5 r2 M2 hp2
  refine lv_icmp_eq (tgt := 823) hx hb dL_law_403 (by decide) (fun _ => ?_) (fun c9 => absurd er.symm c9)
  refine W.widen (k := C + 3) (n := S + 24) (by omega) (by omega) ?_
  exact kk M2 H locs ls hRel2 hX hS hl

set_option maxHeartbeats 4000000 in
set_option maxRecDepth 100000 in
theorem law_run {p : Program} {l : Launch} {e : Env} {s : State} {m : MethodId} {below : List Frame} {meth : Method} {c : Code} {Q : State → Prop} {G : xG} {b L s1 s2 qa qm qo i C S : Nat} {xs : Nat → Int32} (C0 : lwC p l s m meth c b L xs G s1 s2) (hi : 6 * i + 6 ≤ L) (hC : C + 3 ≤ 603072) (hSl : S + 24 ≤ 7215210) {M : xM} {H : Heap} {locs : List Loc} {ls : Array Slot} (hRel : xRel G M qa qm qo) (hX : xw G.1 vwCl (lA s) M H) (hS : va_S (lA s) s.heap H locs) (hl : lv_has ls 8 [(4, .int (nI (6 * i))), (0, .ref b), (1, .ref qa), (2, .ref qm), (3, .ref qo)])
    (kk : ∀ (M : xM) (H : Heap) (locs : List Loc) (ls : Array Slot), xRel G M qa qm qo → xw G.1 vwCl (lA s) M H → va_S (lA s) s.heap H locs → lv_has ls 8 [(4, .int (nI (6 * i))), (0, .ref b), (1, .ref qa), (2, .ref qm), (3, .ref qo)] → W p l e room_1 s m #[Value.ref b] below meth c H locs (C + 3) (S + 24) Q (F0 m 823 ls [])) : W p l e room_1 s m #[Value.ref b] below meth c H locs C S Q (F0 m 408 ls []) := by
  obtain ⟨⟨hx, hb, hr, hml, hown, htt, hX0, hbl, hlocks, hgv⟩, hK, hT, hTC, hst, hL⟩ := C0
  have hA : ∀ q : Nat, s.heap.size ≤ q → lA s q := fun _ h => h
  have hbA : ¬ lA s b := Nat.not_le.mpr hbl
  have hts : ∀ w ∈ wsL_law, w.before #[Value.ref b] s = true := fun w hw => htt w (wsL_law_in w hw)
  have hb : c.code = cL_law := hb
  have hown : s.vm.findClass RL = some m.cls := hown
  have hRel0 : ∃ fs, M 0 = some (qa, .inr (6, fs)) := xRel_0 hRel
  obtain ⟨fs0, he0⟩ := hRel0
  refine lv_aload_n hx hb dL_law_408 rfl (lv_at hl 2 rfl) ?_
  obtain ⟨post4, hM4, k4⟩ := rl_run l G (lA s) hRel 
  refine x_calli (x_runV (q := (RX4, TX4, 7)) (As := []) (rest := []) ⟨hx, hb, hml, hown, hts⟩ hM4 (cwV 0 hts gL_law_X4_run rfl rfl rfl (by decide +kernel) ⟨Nat.le_of_ble_eq_true rfl, Nat.le_of_ble_eq_true rfl⟩) hK hA hX hS he0 rfl rfl hl.1 rfl (lv_room (Nat.le_of_ble_eq_true rfl)) dL_law_409 ⟨by show C + 0 ≤ 603072; omega, by show S + 0 ≤ 7215210; omega⟩) hS (fun r M1 H locs hp hX hS => ?_)
  obtain ⟨⟨fs5, he5⟩, post5, hM5, k5⟩ := k4 r M1 hp
  refine lv_aload_n hx hb dL_law_412 rfl (lv_at hl 3 rfl) ?_
  refine x_calli (x_runV (q := (RX5, TX5, 23)) (As := []) (rest := [.int r]) ⟨hx, hb, hml, hown, hts⟩ hM5 (cwV 0 hts gL_law_X5_run rfl rfl rfl (by decide +kernel) ⟨Nat.le_of_ble_eq_true rfl, Nat.le_of_ble_eq_true rfl⟩) hK hA hX hS he5 rfl rfl hl.1 rfl (lv_room (Nat.le_of_ble_eq_true rfl)) dL_law_413 ⟨by show C + 0 + 0 ≤ 603072; omega, by show S + 0 + 0 ≤ 7215210; omega⟩) hS (fun r2 M2 H locs hp2 hX hS => ?_)
  obtain ⟨er, hRel2⟩ := k5 r2 M2 hp2
  refine lv_icmp_eq (tgt := 823) hx hb dL_law_416 (by decide) (fun _ => ?_) (fun c9 => absurd er.symm c9)
  refine W.widen (k := C + 3) (n := S + 24) (by omega) (by omega) ?_
  exact kk M2 H locs ls hRel2 hX hS hl

set_option maxHeartbeats 4000000 in
set_option maxRecDepth 100000 in
theorem law_pair {p : Program} {l : Launch} {e : Env} {s : State} {m : MethodId} {below : List Frame} {meth : Method} {c : Code} {Q : State → Prop} {G : xG} {b L s1 s2 qa qm qo i C S : Nat} {xs : Nat → Int32} (C0 : lwC p l s m meth c b L xs G s1 s2) (hi : 6 * i + 6 ≤ L) (hC : C + 3 ≤ 603072) (hSl : S + 24 ≤ 7215210) {M : xM} {H : Heap} {locs : List Loc} {ls : Array Slot} (hRel : xRel G M qa qm qo) (hX : xw G.1 vwCl (lA s) M H) (hS : va_S (lA s) s.heap H locs) (hl : lv_has ls 8 [(4, .int (nI (6 * i))), (0, .ref b), (1, .ref qa), (2, .ref qm), (3, .ref qo)])
    (kk : ∀ (M : xM) (H : Heap) (locs : List Loc) (ls : Array Slot), xRel G M qa qm qo → xw G.1 vwCl (lA s) M H → va_S (lA s) s.heap H locs → lv_has ls 8 [(4, .int (nI (6 * i))), (0, .ref b), (1, .ref qa), (2, .ref qm), (3, .ref qo)] → W p l e room_1 s m #[Value.ref b] below meth c H locs (C + 3) (S + 24) Q (F0 m 823 ls [])) : W p l e room_1 s m #[Value.ref b] below meth c H locs C S Q (F0 m 421 ls []) := by
  obtain ⟨⟨hx, hb, hr, hml, hown, htt, hX0, hbl, hlocks, hgv⟩, hK, hT, hTC, hst, hL⟩ := C0
  have hA : ∀ q : Nat, s.heap.size ≤ q → lA s q := fun _ h => h
  have hbA : ¬ lA s b := Nat.not_le.mpr hbl
  have hts : ∀ w ∈ wsL_law, w.before #[Value.ref b] s = true := fun w hw => htt w (wsL_law_in w hw)
  have hb : c.code = cL_law := hb
  have hown : s.vm.findClass RL = some m.cls := hown
  have hRel0 : ∃ fs, M 0 = some (qa, .inr (6, fs)) := xRel_0 hRel
  obtain ⟨fs0, he0⟩ := hRel0
  refine lv_aload_n hx hb dL_law_421 rfl (lv_at hl 2 rfl) ?_
  refine lv_aload_n hx hb dL_law_422 rfl (lv_at hl 1 rfl) ?_
  refine lv_iload hx hb dL_law_423 (lv_at hl 0 rfl) ?_
  refine lv_iconst (v := nI 1) hx hb dL_law_425 (by decide) ?_
  refine lv_iadd hx hb dL_law_426 ?_
  refine x_ri (y := nI (6 * i + 1)) (nI_add _ _) ?_
  refine x_sld hx hb hX0 hbl hbA hS (i := 6 * i + 1) (by omega) hL dL_law_427 ?_
  refine lv_aload_n hx hb dL_law_428 rfl (lv_at hl 1 rfl) ?_
  refine lv_iload hx hb dL_law_429 (lv_at hl 0 rfl) ?_
  refine lv_iconst (v := nI 2) hx hb dL_law_431 (by decide) ?_
  refine lv_iadd hx hb dL_law_432 ?_
  refine x_ri (y := nI (6 * i + 2)) (nI_add _ _) ?_
  refine x_sld hx hb hX0 hbl hbA hS (i := 6 * i + 2) (by omega) hL dL_law_433 ?_
  obtain ⟨post4, hM4, k4⟩ := rl_pair l G (lA s) hRel (xs (6 * i + 1)) (xs (6 * i + 2))
  refine x_calli (x_runV (q := (RX4, TX4, 7)) (As := [.int (xs (6 * i + 1)), .int (xs (6 * i + 2))]) (rest := []) ⟨hx, hb, hml, hown, hts⟩ hM4 (cwV 2 hts gL_law_X4_pair rfl rfl rfl (by decide +kernel) ⟨Nat.le_of_ble_eq_true rfl, Nat.le_of_ble_eq_true rfl⟩) hK hA hX hS he0 rfl rfl hl.1 rfl (lv_room (Nat.le_of_ble_eq_true rfl)) dL_law_434 ⟨by show C + 0 ≤ 603072; omega, by show S + 0 ≤ 7215210; omega⟩) hS (fun r M1 H locs hp hX hS => ?_)
  obtain ⟨⟨fs5, he5⟩, post5, hM5, k5⟩ := k4 r M1 hp
  refine lv_aload_n hx hb dL_law_437 rfl (lv_at hl 3 rfl) ?_
  refine lv_aload_n hx hb dL_law_438 rfl (lv_at hl 1 rfl) ?_
  refine lv_iload hx hb dL_law_439 (lv_at hl 0 rfl) ?_
  refine lv_iconst (v := nI 1) hx hb dL_law_441 (by decide) ?_
  refine lv_iadd hx hb dL_law_442 ?_
  refine x_ri (y := nI (6 * i + 1)) (nI_add _ _) ?_
  refine x_sld hx hb hX0 hbl hbA hS (i := 6 * i + 1) (by omega) hL dL_law_443 ?_
  refine lv_aload_n hx hb dL_law_444 rfl (lv_at hl 1 rfl) ?_
  refine lv_iload hx hb dL_law_445 (lv_at hl 0 rfl) ?_
  refine lv_iconst (v := nI 2) hx hb dL_law_447 (by decide) ?_
  refine lv_iadd hx hb dL_law_448 ?_
  refine x_ri (y := nI (6 * i + 2)) (nI_add _ _) ?_
  refine x_sld hx hb hX0 hbl hbA hS (i := 6 * i + 2) (by omega) hL dL_law_449 ?_
  refine x_calli (x_runV (q := (RX5, TX5, 23)) (As := [.int (xs (6 * i + 1)), .int (xs (6 * i + 2))]) (rest := [.int r]) ⟨hx, hb, hml, hown, hts⟩ hM5 (cwV 2 hts gL_law_X5_pair rfl rfl rfl (by decide +kernel) ⟨Nat.le_of_ble_eq_true rfl, Nat.le_of_ble_eq_true rfl⟩) hK hA hX hS he5 rfl rfl hl.1 rfl (lv_room (Nat.le_of_ble_eq_true rfl)) dL_law_450 ⟨by show C + 0 + 0 ≤ 603072; omega, by show S + 0 + 0 ≤ 7215210; omega⟩) hS (fun r2 M2 H locs hp2 hX hS => ?_)
  obtain ⟨er, hRel2⟩ := k5 r2 M2 hp2
  refine lv_icmp_eq (tgt := 823) hx hb dL_law_453 (by decide) (fun _ => ?_) (fun c9 => absurd er.symm c9)
  refine W.widen (k := C + 3) (n := S + 24) (by omega) (by omega) ?_
  exact kk M2 H locs ls hRel2 hX hS hl

set_option maxHeartbeats 4000000 in
set_option maxRecDepth 100000 in
theorem law_score {p : Program} {l : Launch} {e : Env} {s : State} {m : MethodId} {below : List Frame} {meth : Method} {c : Code} {Q : State → Prop} {G : xG} {b L s1 s2 qa qm qo i C S : Nat} {xs : Nat → Int32} (C0 : lwC p l s m meth c b L xs G s1 s2) (hi : 6 * i + 6 ≤ L) (hC : C + 3 ≤ 603072) (hSl : S + 24 ≤ 7215210) {M : xM} {H : Heap} {locs : List Loc} {ls : Array Slot} (hRel : xRel G M qa qm qo) (hX : xw G.1 vwCl (lA s) M H) (hS : va_S (lA s) s.heap H locs) (hl : lv_has ls 8 [(4, .int (nI (6 * i))), (0, .ref b), (1, .ref qa), (2, .ref qm), (3, .ref qo)])
    (kk : ∀ (M : xM) (H : Heap) (locs : List Loc) (ls : Array Slot), xRel G M qa qm qo → xw G.1 vwCl (lA s) M H → va_S (lA s) s.heap H locs → lv_has ls 8 [(4, .int (nI (6 * i))), (0, .ref b), (1, .ref qa), (2, .ref qm), (3, .ref qo)] → W p l e room_1 s m #[Value.ref b] below meth c H locs (C + 3) (S + 24) Q (F0 m 823 ls [])) : W p l e room_1 s m #[Value.ref b] below meth c H locs C S Q (F0 m 458 ls []) := by
  obtain ⟨⟨hx, hb, hr, hml, hown, htt, hX0, hbl, hlocks, hgv⟩, hK, hT, hTC, hst, hL⟩ := C0
  have hA : ∀ q : Nat, s.heap.size ≤ q → lA s q := fun _ h => h
  have hbA : ¬ lA s b := Nat.not_le.mpr hbl
  have hts : ∀ w ∈ wsL_law, w.before #[Value.ref b] s = true := fun w hw => htt w (wsL_law_in w hw)
  have hb : c.code = cL_law := hb
  have hown : s.vm.findClass RL = some m.cls := hown
  have hRel0 : ∃ fs, M 0 = some (qa, .inr (6, fs)) := xRel_0 hRel
  obtain ⟨fs0, he0⟩ := hRel0
  refine lv_aload_n hx hb dL_law_458 rfl (lv_at hl 2 rfl) ?_
  refine lv_aload_n hx hb dL_law_459 rfl (lv_at hl 1 rfl) ?_
  refine lv_iload hx hb dL_law_460 (lv_at hl 0 rfl) ?_
  refine lv_iconst (v := nI 1) hx hb dL_law_462 (by decide) ?_
  refine lv_iadd hx hb dL_law_463 ?_
  refine x_ri (y := nI (6 * i + 1)) (nI_add _ _) ?_
  refine x_sld hx hb hX0 hbl hbA hS (i := 6 * i + 1) (by omega) hL dL_law_464 ?_
  refine lv_aload_n hx hb dL_law_465 rfl (lv_at hl 1 rfl) ?_
  refine lv_iload hx hb dL_law_466 (lv_at hl 0 rfl) ?_
  refine lv_iconst (v := nI 2) hx hb dL_law_468 (by decide) ?_
  refine lv_iadd hx hb dL_law_469 ?_
  refine x_ri (y := nI (6 * i + 2)) (nI_add _ _) ?_
  refine x_sld hx hb hX0 hbl hbA hS (i := 6 * i + 2) (by omega) hL dL_law_470 ?_
  refine lv_aload_n hx hb dL_law_471 rfl (lv_at hl 4 rfl) ?_
  obtain ⟨post4, hM4, k4⟩ := rl_score l hst G (lA s) s1 s2 hRel (xs (6 * i + 1)) (xs (6 * i + 2))
  refine x_calliN (x_runSH (hh := [(0, 9, 12, 13)]) (As := [.ref qa, .int (xs (6 * i + 1)), .int (xs (6 * i + 2)), .ref qo]) (rest := []) ⟨hx, hb, hml, hown, hts⟩ hM4 (vx_cwSW 4 hts gL_law_L_score rfl rfl rfl (by decide +kernel) ⟨Nat.le_of_ble_eq_true rfl, Nat.le_of_ble_eq_true rfl⟩) hK hA hX hS hT hTC rfl hl.1 rfl (lv_room (Nat.le_of_ble_eq_true rfl)) dL_law_472 ⟨by show C + 1 ≤ 603072; omega, by show S + 6 ≤ 7215210; omega⟩) hS (fun r M1 H locs hp hX hS => ?_)
  obtain ⟨⟨fs5, he5⟩, post5, hM5, k5⟩ := k4 r M1 hp
  refine lv_istore (lv' := [(5, .int r), (4, .int (nI (6 * i))), (0, .ref b), (1, .ref qa), (2, .ref qm), (3, .ref qo)]) hx hb dL_law_475 hl (by decide) rfl (fun ls hl => ?_)
  refine lv_aload_n hx hb dL_law_477 rfl (lv_at hl 4 rfl) ?_
  refine lv_aload_n hx hb dL_law_478 rfl (lv_at hl 2 rfl) ?_
  refine lv_iload hx hb dL_law_479 (lv_at hl 1 rfl) ?_
  refine lv_iconst (v := nI 1) hx hb dL_law_481 (by decide) ?_
  refine lv_iadd hx hb dL_law_482 ?_
  refine x_ri (y := nI (6 * i + 1)) (nI_add _ _) ?_
  refine x_sld hx hb hX0 hbl hbA hS (i := 6 * i + 1) (by omega) hL dL_law_483 ?_
  refine lv_aload_n hx hb dL_law_484 rfl (lv_at hl 2 rfl) ?_
  refine lv_iload hx hb dL_law_485 (lv_at hl 1 rfl) ?_
  refine lv_iconst (v := nI 2) hx hb dL_law_487 (by decide) ?_
  refine lv_iadd hx hb dL_law_488 ?_
  refine x_ri (y := nI (6 * i + 2)) (nI_add _ _) ?_
  refine x_sld hx hb hX0 hbl hbA hS (i := 6 * i + 2) (by omega) hL dL_law_489 ?_
  refine x_calll (x_runV (q := (RX5, TX5, 23)) (As := [.int (xs (6 * i + 1)), .int (xs (6 * i + 2))]) (rest := []) ⟨hx, hb, hml, hown, hts⟩ hM5 (cwV 2 hts gL_law_X5_score rfl rfl rfl (by decide +kernel) ⟨Nat.le_of_ble_eq_true rfl, Nat.le_of_ble_eq_true rfl⟩) hK hA hX hS he5 rfl rfl hl.1 rfl (lv_room (Nat.le_of_ble_eq_true rfl)) dL_law_490 ⟨by show C + 1 + 0 ≤ 603072; omega, by show S + 6 + 0 ≤ 7215210; omega⟩) hS (fun r2 M2 H locs hp2 hX hS => ?_)
  obtain ⟨hRel2, ⟨fs6, he6⟩, hM6, hres⟩ := k5 r2 M2 hp2
  refine lv_lstore (lv' := [(6, .long r2), (5, .int r), (4, .int (nI (6 * i))), (0, .ref b), (1, .ref qa), (2, .ref qm), (3, .ref qo)]) hx hb dL_law_493 hl (by decide) rfl (fun ls hl => ?_)
  refine lv_aload_n hx hb dL_law_495 rfl (lv_at hl 5 rfl) ?_
  refine x_calli (x_runV (q := (RX5, TX5, 23)) (As := []) (rest := []) ⟨hx, hb, hml, hown, hts⟩ hM6 (cwV 0 hts gL_law_X5_thrown rfl rfl rfl (by decide +kernel) ⟨Nat.le_of_ble_eq_true rfl, Nat.le_of_ble_eq_true rfl⟩) hK hA hX hS he6 rfl rfl hl.1 rfl (lv_room (Nat.le_of_ble_eq_true rfl)) dL_law_496 ⟨by show C + 1 + 0 + 0 ≤ 603072; omega, by show S + 6 + 0 + 0 ≤ 7215210; omega⟩) hS (fun r3 M3 H locs hp3 hX hS => ?_)
  obtain ⟨eM3, er3⟩ := hp3
  rw [eM3] at hX
  refine lv_iload hx hb dL_law_499 (lv_at hl 1 rfl) ?_
  refine lv_icmp_eq (tgt := 506) hx hb dL_law_501 (by decide) (fun _ => ?_) (fun c9 => absurd er3 c9)
  have fin : ∀ (H : Heap) (locs : List Loc) (ls : Array Slot), xw G.1 vwCl (lA s) M2 H → va_S (lA s) s.heap H locs → lv_has ls 8 [(6, .long r2), (5, .int r), (4, .int (nI (6 * i))), (0, .ref b), (1, .ref qa), (2, .ref qm), (3, .ref qo)] → W p l e room_1 s m #[Value.ref b] below meth c H locs (C + 1 + 0 + 0) (S + 6 + 0 + 0) Q (F0 m 522 ls []) := fun H locs ls hX hS hl => by
    refine lv_goto (tgt := 823) hx hb dL_law_522 (by decide) ?_
    refine W.widen (k := C + 3) (n := S + 24) (by omega) (by omega) ?_
    exact kk M2 H locs ls hRel2 hX hS (lv_sub hl [2, 3, 4, 5, 6] rfl)
  refine lv_iload hx hb dL_law_506 (lv_at hl 1 rfl) ?_
  refine lv_if_ne (tgt := 522) hx hb dL_law_508 (by decide) (fun _ => fin H locs ls hX hS hl) (fun c9 => ?_)
  rcases hres with z | ⟨_, f9, hF9, ef9⟩
  · rw [z] at c9
    exact absurd c9 (by decide)
  · refine lv_aload_n hx hb dL_law_511 rfl (lv_at hl 6 rfl) ?_
    refine lv_iconst (v := nI 0) hx hb dL_law_512 (by decide) ?_
    refine x_lN hx hb hK hX hF9 (by omega) (by omega) dL_law_513 ?_
    refine lv_lload hx hb dL_law_514 (lv_at hl 0 rfl) ?_
    refine W.lcmp hx hb dL_law_516 ?_
    exact x_lc_eq (tgt := 522) hx hb dL_law_517 (by decide) (fun _ => fin H locs ls hX hS hl) (fun c10 => absurd ef9 c10)
