/-! the law's score and index -/
def thC : List Cond := [.castable "java/lang/ArithmeticException" "java/lang/ArithmeticException", .castable "java/lang/ArrayIndexOutOfBoundsException" "java/lang/ArrayIndexOutOfBoundsException"]
theorem thC_in : ∀ w ∈ thC, w ∈ lw_tbl := by decide +kernel
theorem thC_k : thC.all (fun w => w.onTables && w.keepsFace) = true := by decide +kernel
def xPcH (G : xG) (A : Nat → Prop) (s1 s2 : Nat) (M : xM) (U : State) : Prop := xPcT G A s1 s2 M U ∧ xThW thC U
theorem x_blindH {av : List Value} {G : xG} {A : Nat → Prop} {s1 s2 : Nat} {M : xM} : FrameBlind (va_Pc av (xPcH G A s1 s2 M)) := fun a U g mk q =>
  ⟨q.1, (x_blindT (av := av) a U g mk ⟨q.1, q.2.1⟩).2, x_ts thC_k (s := U) (U := U.calling g mk a) rfl q.2.2⟩
section XL
variable {p : Program} {l : Launch} {e : Env} {R : Room} {s : State} {m : MethodId} {args : Array Value} {below : List Frame} {meth : Method} {c : Code} {H : Heap} {locs : List Loc} {cells slots : Nat} {Q : State → Prop}
variable {cc : ByteArray} {pc : Nat} {ls : Array Slot} {rest : List Value} {A : Nat → Prop} {M : xM} {G : xG} {H0 : Heap}
variable {Ts ws ws' : List Cond} {nL maxL index n mc ms : Nat} {own C : String} {y : MethodName} {bytes : ByteArray} {ret : Option FieldType} {rm : Room} {Qc : Array Value → State → Outcome → State → Prop} {XC : String → State → State → Prop} {b : Nat} {As : List Value} {st : List Value} {a : Array Value} {s1 s2 : Nat} {hh : List (Nat × Nat × Nat × Nat)}
theorem x_preT {av : List Value} (hK : va_K G.1 vwCl (xT G) s) (hA : ∀ q, s.heap.size ≤ q → A q) (hX : xw G.1 vwCl A M H) (hS : va_S A s.heap H locs) (hT : xTh A s1 s2 s) : ∀ U : State, U.heap = H → s.WarmedH U.vm → va_Pc av (xPcT G A s1 s2 M) av.toArray U :=
  fun U hU hW => ⟨rfl, (x_pre (av := av) hK hA hX hS U hU hW).2, xTh_go hT hS hU hW⟩
theorem x_preH {av : List Value} (hK : va_K G.1 vwCl (xT G) s) (hA : ∀ q, s.heap.size ≤ q → A q) (hX : xw G.1 vwCl A M H) (hS : va_S A s.heap H locs) (hT : xTh A s1 s2 s) (hC : xThW thC s) : ∀ U : State, U.heap = H → s.WarmedH U.vm → va_Pc av (xPcH G A s1 s2 M) av.toArray U :=
  fun U hU hW => ⟨rfl, (x_preT (av := av) hK hA hX hS hT U hU hW).2, x_tw thC_k hW hC⟩
theorem x_runVT (S : CallFix p m c cc nL s args Ts own) (hM : vx_Met l y ws rm (va_Pc (.ref b :: As) (xPcT G A s1 s2 M)) Qc XC mc ms A) {q : vw_C} (cw : CallW R s args own q.1 index y bytes maxL ret ws rm mc ms n) (hK : va_K G.1 vwCl (xT G) s) (hA : ∀ q, s.heap.size ≤ q → A q) (hX : xw G.1 vwCl A M H) (hS : va_S A s.heap H locs) (hT : xTh A s1 s2 s) {t ci : Nat} {fs : List Value} (he : M t = some (b, .inr (ci, fs))) (hc : vwCl[ci]? = some q)
    (hn : As.length = n) (hsize : ls.size = nL) (hstack : st = As.reverse ++ .ref b :: rest) (hW : 2 * (F0 m pc ls st).monitorRoom + (rest.map fun v => v.category).sum ≤ 8) (hdg : decode cc pc = .ok (.invokevirtual index, 3)) (hf : cells + mc ≤ R.cells ∧ slots + ms ≤ R.slots) :
    vx_Run p l e R s m args below meth c H locs cells slots mc ms (F0 m pc ls st) rest (Qc (Value.ref b :: As).toArray) XC A :=
  vx_runV S hM cw ⟨x_blindT, x_recv hK hX he hc, x_preT hK hA hX hS hT⟩ rfl hn hsize hstack hW hdg hf
theorem x_runSH (S : CallFix p m c cc nL s args Ts own) (hM : vx_Met l y ws rm (va_Pc As (xPcH G A s1 s2 M)) Qc XC mc ms A) (cw : vx_CSW R s args own index y bytes maxL ret hh ws rm mc ms n) (hK : va_K G.1 vwCl (xT G) s) (hA : ∀ q, s.heap.size ≤ q → A q) (hX : xw G.1 vwCl A M H) (hS : va_S A s.heap H locs) (hT : xTh A s1 s2 s) (hC : xThW thC s)
    (hn : As.length = n) (hsize : ls.size = nL) (hstack : st = As.reverse ++ rest) (hW : 2 * (F0 m pc ls st).monitorRoom + (rest.map fun v => v.category).sum ≤ 8) (hdg : decode cc pc = .ok (.invokestatic index, 3)) (hf : cells + mc ≤ R.cells ∧ slots + ms ≤ R.slots) :
    vx_Run p l e R s m args below meth c H locs cells slots mc ms (F0 m pc ls st) rest (Qc As.toArray) XC A :=
  vx_runSX S hM cw ⟨x_blindH, x_preH hK hA hX hS hT hC⟩ rfl hn hsize hstack hW hdg hf
theorem x_calllT {post : Int64 → xM → Prop} {px : xM → Prop} {E : String} (hr : vx_Run p l e R s m args below meth c H locs cells slots mc ms (F0 m pc ls st) rest (va_Ql post (xPc G A) A a) (xX G A E px) A) (hS : va_S A H0 H locs)
    (kx : ∀ (ce : Cell) (q9 : Addr) (M1 : xM) (H1 : Heap) (locs1 : List Loc), px M1 → xw G.1 vwCl A M1 H1 → va_S A H0 H1 locs1 → H1[q9]? = some ce → ce.vm = .none → s.vm.findClass E = some ce.cls → vx_W p l e R s m args below meth c H1 locs1 (cells + mc) (slots + ms) Q (F0 m pc ls rest) q9)
    (kk : ∀ (r : Int64) (M1 : xM) (H1 : Heap) (locs1 : List Loc), post r M1 → xw G.1 vwCl A M1 H1 → va_S A H0 H1 locs1 → W p l e R s m args below meth c H1 locs1 (cells + mc) (slots + ms) Q (F0 m (pc + 3) ls (.long r :: rest))) : W p l e R s m args below meth c H locs cells slots Q (F0 m pc ls st) :=
  vx_calll hr hS (fun _ _ h => h) (fun _ h => h) (fun _ _ h => h) (fun E9 ce q9 u t H1 locs1 ht _ hp hB _ _ hS1 h1 h2 h3 => kx ce q9 u H1 locs1 hp (by rw [← ht]; exact hB.2.2.2) hS1 h1 h2 (by rw [← hB.1]; exact h3)) (fun r u t H1 locs1 ht _ hw hB _ _ hS1 => kk r u H1 locs1 hw (by rw [← ht]; exact hB.2.2) hS1)
theorem x_calliT {post : Int32 → xM → Prop} {px : xM → Prop} {E : String} (hr : vx_Run p l e R s m args below meth c H locs cells slots mc ms (F0 m pc ls st) rest (va_Qi post (xPc G A) A a) (xX G A E px) A) (hS : va_S A H0 H locs)
    (kx : ∀ (ce : Cell) (q9 : Addr) (M1 : xM) (H1 : Heap) (locs1 : List Loc), px M1 → xw G.1 vwCl A M1 H1 → va_S A H0 H1 locs1 → H1[q9]? = some ce → ce.vm = .none → s.vm.findClass E = some ce.cls → vx_W p l e R s m args below meth c H1 locs1 (cells + mc) (slots + ms) Q (F0 m pc ls rest) q9)
    (kk : ∀ (r : Int32) (M1 : xM) (H1 : Heap) (locs1 : List Loc), post r M1 → xw G.1 vwCl A M1 H1 → va_S A H0 H1 locs1 → W p l e R s m args below meth c H1 locs1 (cells + mc) (slots + ms) Q (F0 m (pc + 3) ls (.int r :: rest))) : W p l e R s m args below meth c H locs cells slots Q (F0 m pc ls st) :=
  vx_calli hr hS (fun _ _ h => h) (fun _ h => h) (fun _ _ h => h) (fun E9 ce q9 u t H1 locs1 ht _ hp hB _ _ hS1 h1 h2 h3 => kx ce q9 u H1 locs1 hp (by rw [← ht]; exact hB.2.2.2) hS1 h1 h2 (by rw [← hB.1]; exact h3)) (fun r u t H1 locs1 ht _ hw hB _ _ hS1 => kk r u H1 locs1 hw (by rw [← ht]; exact hB.2.2) hS1)
/-- nothing is thrown -/
def xNo (G : xG) (A : Nat → Prop) : String → State → State → Prop := xX G A "" (fun _ => False)
theorem x_calliN {post : Int32 → xM → Prop} (hr : vx_Run p l e R s m args below meth c H locs cells slots mc ms (F0 m pc ls st) rest (va_Qi post (xPc G A) A a) (xNo G A) A) (hS : va_S A H0 H locs)
    (kk : ∀ (r : Int32) (M1 : xM) (H1 : Heap) (locs1 : List Loc), post r M1 → xw G.1 vwCl A M1 H1 → va_S A H0 H1 locs1 → W p l e R s m args below meth c H1 locs1 (cells + mc) (slots + ms) Q (F0 m (pc + 3) ls (.int r :: rest))) : W p l e R s m args below meth c H locs cells slots Q (F0 m pc ls st) :=
  x_calliT (E := "") (px := fun _ => False) hr hS (fun _ _ _ _ _ hp => hp.elim) kk
theorem x_metH {av : List Value} {maxL : Nat} (own : String) (hy : plainName y.cls = true) (hw : ws = Cond.codeWith y cc maxL ret hh :: ws') (hlen : (lg_sl av).length ≤ maxL) (hyo : y.cls = own)
    (body : ∀ (p : Program) (e : Env) (s : State) (m : MethodId) (below : List Frame) (meth : Method) (c : Code), p.tables.exec = Jvm.exec → c.code = cc → meth.sig.returnType = ret → (∀ w ∈ ws, w.before av.toArray s = true) → s.vm.findClass own = some m.cls → meth.locks = false → c.maxLocals = maxL → meth.name = y.name → va_K G.1 vwCl (xT G) s → (∀ q, s.heap.size ≤ q → A q) → xw G.1 vwCl A M s.heap → xTh A s1 s2 s → xThW thC s → c.exceptionTable.toList = tableOf hh → ∀ ls : Array Slot, lv_has ls maxL (lv_args 0 av) →
      W p l e rm s m av.toArray below meth c s.heap [] 0 0 (vx_MQ below Qc XC av.toArray s mc ms A) (F0 m 0 ls [])) : vx_Met l y ws rm (va_Pc av (xPcH G A s1 s2 M)) Qc XC mc ms A := by
  refine vx_ofWH (cc := cc) (maxL := maxL) (ret := ret) hy hw ?_
  intro p e s m args below meth c s₁ B hml hv
  obtain ⟨rfl, ⟨⟨hK, hA, hX⟩, hT⟩, hC⟩ := hv
  have hl := lv_entry av (n := maxL) hlen
  rw [lg_entry_eq]
  exact body p e s m below meth c B.exec B.bytes B.returns (atoms_spec (ws := ws) B.pre) (by rw [← hyo]; exact findClass_of_methodNamed B.named) B.notSynchronized hml (name_of_methodNamed B.named B.method).1 hK hA hX hT hC (vx_table (x := y) B (atoms_spec (ws := ws) B.pre _ (by rw [hw]; exact List.mem_cons_self))) _ hl
end XL
theorem xRec_lo {G : xG} {M M1 : xM} {ad : Nat → Nat} {nc : Nat} {sd : Nat → Int32} {jn : Nat → Int32} {tc : Nat → Nat} {dt : Nat → Int32} {fd : Nat → Int64} {ld : Nat → Int64} {tk : Nat → Nat → Int32} {kd : Nat → Nat → Int32} {wn : Nat → Nat} {jc : Nat} {jz : Nat → Nat} {jo : Nat → Nat} {ju : Nat → Int32} {bg : Int32} {cn : Nat} {zs : Nat → Nat} {os : Nat → Nat} {ab : Nat → Nat} {bl : Nat → Nat} {od : Nat → Nat} {sp : Nat → Nat} {pr : Nat → Nat} {fa : Int64} {fb : Int64} (h : xRec G M ad nc sd jn tc dt fd ld tk kd wn jc jz jo ju bg cn zs os ab bl od sp pr fa fb) (hn : nc ≤ 50) (hj : jc ≤ 100) (hf : ∀ t, t < 500 → M1 t = M t) : xRec G M1 ad nc sd jn tc dt fd ld tk kd wn jc jz jo ju bg cn zs os ab bl od sp pr fa fb := by
  refine xRec_go (M := fun t => if t < 500 then M t else M1 t) ?_ hn hj (fun t ht => ?_)
  · unfold xRec at h ⊢
    simp only [show (0 : Nat) < 500 from by omega, show (1 : Nat) < 500 from by omega, show (2 : Nat) < 500 from by omega, show (3 : Nat) < 500 from by omega, show (4 : Nat) < 500 from by omega, show (5 : Nat) < 500 from by omega, show (6 : Nat) < 500 from by omega, show (7 : Nat) < 500 from by omega, show (8 : Nat) < 500 from by omega, show (9 : Nat) < 500 from by omega, show (10 : Nat) < 500 from by omega, show (11 : Nat) < 500 from by omega, show (12 : Nat) < 500 from by omega, if_true]
    obtain ⟨hc0, hc1, hc2, hc3, hcL, hc5, hc6, hc7, hc8, hc9, hc10, hc11, hc12, hnm, hjn⟩ := h
    refine ⟨hc0, hc1, hc2, hc3, hcL, hc5, hc6, hc7, hc8, hc9, hc10, hc11, hc12, fun i hi => ?_, fun j hj9 => ?_⟩
    · rw [if_pos (by omega), if_pos (by omega), if_pos (by omega)]
      exact hnm i hi
    · rw [if_pos (by omega)]
      exact hjn j hj9
  · show M1 t = if t < 500 then M t else M1 t
    by_cases q : t < 500
    · rw [if_pos q]; exact hf t q
    · rw [if_neg q]


abbrev rmL_score : Room := { frames := 8, cells := 1, slots := 6, locals := 144 }
set_option maxHeartbeats 4000000 in
set_option maxRecDepth 100000 in
/-- the law's score -/
theorem ctL_score (l : Launch) (hst : l.stackTraces = false) (G : xG) (A : Nat → Prop) (s1 s2 : Nat) (M : xM) {ad : Nat → Nat} {nc : Nat} {sd : Nat → Int32} {jn : Nat → Int32} {tc : Nat → Nat} {dt : Nat → Int32} {fd : Nat → Int64} {ld : Nat → Int64} {tk : Nat → Nat → Int32} {kd : Nat → Nat → Int32} {wn : Nat → Nat} {jc : Nat} {jz : Nat → Nat} {jo : Nat → Nat} {ju : Nat → Int32} {bg : Int32} {cn : Nat} {zs : Nat → Nat} {os : Nat → Nat} {ab : Nat → Nat} {bl : Nat → Nat} {od : Nat → Nat} {sp : Nat → Nat} {pr : Nat → Nat} {fa : Int64} {fb : Int64} (hR : xRec G M ad nc sd jn tc dt fd ld tk kd wn jc jz jo ju bg cn zs os ab bl od sp pr fa fb) {o : Nat} {fo : Nat → Int64} (hF : M 600 = some (o, .inl (G.2 1, 1, .inr (.inl fo)))) (p0 p1 : Int32) (hcn : cn ≤ 625) (hod : ∀ j, j < cn → od j < 625) (hzo : ∀ j, j < cn → (∃ a, a < nc ∧ zs (od j) = a + 1 ∧ sd a = nI 0) ∧ (∃ b, b < nc ∧ os (od j) = b + 1 ∧ sd b = nI 1)) (hnc : nc ≤ 50) (hjc : jc ≤ 100) (htk : ∀ i, i < nc → tc i ≤ 8 ∧ ∀ j, j < tc i → vp_in (kd i j) 4) (hwn : ∀ k, wn k ≤ 252000) : vx_Met l yL_score wsL_score rmL_score (va_Pc ([.ref (ad 0), .int p0, .int p1, .ref o] : List Value) (xPcH G A s1 s2 M)) (va_Qi (fun r M1 => ((r = 0 ∧ ∃ v : Int64, ((∃ i a b, (i < cn ∧ p0 = nI i ∧ a < nc ∧ b < nc ∧ zs (od i) = a + 1 ∧ os (od i) = b + 1) ∧ (0 < cD tc dt tk kd wn a b ∧ v = if p1 = 0 then lN (cU tc dt fd ld tk kd wn a b / Nat.gcd (cU tc dt fd ld tk kd wn a b) (cD tc dt tk kd wn a b)) else lN (cD tc dt tk kd wn a b / Nat.gcd (cU tc dt fd ld tk kd wn a b) (cD tc dt tk kd wn a b)))) ∨ (¬ (¬ p0 < 0 ∧ ¬ nI cn ≤ p0) ∧ v = (-1))) ∧ M1 600 = some (o, .inl (G.2 1, 1, .inr (.inl (vp_updL fo 0 (v)))))) ∨ (r = nI 1 ∧ (∃ i a b, (i < cn ∧ p0 = nI i ∧ a < nc ∧ b < nc ∧ zs (od i) = a + 1 ∧ os (od i) = b + 1) ∧ cD tc dt tk kd wn a b = 0) ∧ M1 600 = M 600)) ∧ ∃ fa9 fb9 : Int64, xRec G M1 ad nc sd jn tc dt fd ld tk kd wn jc jz jo ju bg cn zs os ab bl od sp pr (fa9) (fb9) ∧ ∀ t, 500 ≤ t → t ≠ 600 → M1 t = M t) (xPc G A) A) (xNo G A) 1 6 A := by
  refine x_metH (cc := cL_score) (maxL := 5) (ret := (some .int)) RL (by decide) rfl (Nat.le_of_ble_eq_true rfl) rfl ?_
  intro p e s m below meth c hx hb hr hts hown hlocks hml hin hK hA hX hT hC htab ls hl
  have lk := hts (.classLink RL 13 "java/lang/ArithmeticException") (by decide +kernel)
  have hS : va_S A s.heap s.heap [] := va_S.rf
  have hl : lv_has ls 5 [(0, .ref (ad 0)), (1, .int p0), (2, .int p1), (3, .ref o)] := hl
  refine lv_aload_n hx hb dL_score_0 rfl (lv_at hl 3 rfl) ?_
  refine lv_iconst (v := nI 0) hx hb dL_score_1 (by decide) ?_
  refine lv_aload_n hx hb dL_score_2 rfl (lv_at hl 0 rfl) ?_
  refine lv_iload_n hx hb dL_score_3 rfl (lv_at hl 1 rfl) ?_
  refine lv_iload_n hx hb dL_score_4 rfl (lv_at hl 2 rfl) ?_
  refine x_calllT (x_runVT (q := (RX4, TX4, 7)) (As := [.int p0, .int p1]) (rest := [.int (nI 0), .ref o]) ⟨hx, hb, hml, hown, hts⟩ (ctX4_score l hst G A s1 s2 M hR p0 p1 hcn hod hzo hnc htk hwn) (cwV 2 hts gL_score_X4_score rfl rfl rfl (by decide +kernel) ⟨Nat.le_of_ble_eq_true rfl, Nat.le_of_ble_eq_true rfl⟩) hK hA hX hS hT hR.1 rfl rfl hl.1 rfl (lv_room (Nat.le_of_ble_eq_true rfl)) dL_score_5 ⟨by decide, by decide⟩) hS (fun ce q9 M1 H locs hp hX hS hce hcv hcl => ?_) (fun r M1 H locs hp hX hS => ?_)
  · refine x_catch (own := RL) (name := "java/lang/ArithmeticException") (E := "java/lang/ArithmeticException") (x := ⟨0, 9, 12, 13⟩) hown htab (by decide) (by decide) lk (x_tu thC_k hC (.castable "java/lang/ArithmeticException" "java/lang/ArithmeticException") (by decide +kernel)) hce hcv hcl ?_
    refine lv_astore (lv' := [(4, .ref q9), (0, .ref (ad 0)), (1, .int p0), (2, .int p1), (3, .ref o)]) hx hb dL_score_12 hl (by decide) rfl (fun ls hl => ?_)
    refine lv_iconst (v := nI 1) hx hb dL_score_14 (by decide) ?_
    exact vx_ret (x_iret hx hb hr hlocks hK hA hX hS dL_score_15 (⟨Or.inr ⟨rfl, hp.1, hp.2.choose_spec.choose_spec.2 600 (by omega)⟩, hp.2.choose, hp.2.choose_spec.choose, hp.2.choose_spec.choose_spec.1, fun t ht _ => hp.2.choose_spec.choose_spec.2 t ht⟩))
  · obtain ⟨hv, fa9, fb9, hR1, hf⟩ := hp
    have hF1 : M1 600 = some (o, .inl (G.2 1, 1, .inr (.inl fo))) := by rw [hf 600 (by omega)]; exact hF
    refine x_lsN hx hb hK hX hS hF1 (by omega) (by omega) dL_score_8 (fun H locs hX hS => ?_)
    refine lv_goto (tgt := 16) hx hb dL_score_9 (by decide) ?_
    refine lv_iconst (v := nI 0) hx hb dL_score_16 (by decide) ?_
    exact vx_ret (x_iret hx hb hr hlocks hK hA hX hS dL_score_17 (⟨Or.inl ⟨rfl, r, hv, xu_s⟩, fa9, fb9, xRec_lo hR1 hnc hjc (fun t ht => xu_n (by omega)), fun t ht hn => by rw [xu_n hn]; exact hf t ht⟩))

abbrev rmL_index : Room := { frames := 8, cells := 1, slots := 6, locals := 144 }
set_option maxHeartbeats 4000000 in
set_option maxRecDepth 100000 in
/-- the law's index -/
theorem ctL_index (l : Launch) (hst : l.stackTraces = false) (G : xG) (A : Nat → Prop) (s1 s2 : Nat) (M : xM) {ad : Nat → Nat} {nc : Nat} {sd : Nat → Int32} {jn : Nat → Int32} {tc : Nat → Nat} {dt : Nat → Int32} {fd : Nat → Int64} {ld : Nat → Int64} {tk : Nat → Nat → Int32} {kd : Nat → Nat → Int32} {wn : Nat → Nat} {jc : Nat} {jz : Nat → Nat} {jo : Nat → Nat} {ju : Nat → Int32} {bg : Int32} {cn : Nat} {zs : Nat → Nat} {os : Nat → Nat} {ab : Nat → Nat} {bl : Nat → Nat} {od : Nat → Nat} {sp : Nat → Nat} {pr : Nat → Nat} {fa : Int64} {fb : Int64} (hR : xRec G M ad nc sd jn tc dt fd ld tk kd wn jc jz jo ju bg cn zs os ab bl od sp pr fa fb) {o : Nat} {fo : Nat → Int64} (hF : M 600 = some (o, .inl (G.2 1, 1, .inr (.inl fo)))) (p0 p1 : Int32) (hcn : cn ≤ 625) (hod : ∀ j, j < cn → od j < 625) (hnc : nc ≤ 50) (hjc : jc ≤ 100) : vx_Met l yL_index wsL_index rmL_index (va_Pc ([.ref (ad 0), .int p0, .int p1, .ref o] : List Value) (xPcH G A s1 s2 M)) (va_Qi (fun r M1 => ((r = 0 ∧ ∃ v : Int32, (∃ i, i < cn ∧ p0 = nI i ∧ v = if p1 = nI 1 then nI (os (od i)) else nI (zs (od i))) ∧ M1 600 = some (o, .inl (G.2 1, 1, .inr (.inl (vp_updL fo 0 (v.toInt64)))))) ∨ (r = nI 1 ∧ (¬ (¬ p0 < 0 ∧ ¬ nI cn ≤ p0)) ∧ M1 600 = M 600)) ∧ ∃ fa9 fb9 : Int64, xRec G M1 ad nc sd jn tc dt fd ld tk kd wn jc jz jo ju bg cn zs os ab bl od sp pr (fa9) (fb9) ∧ ∀ t, 500 ≤ t → t ≠ 600 → M1 t = M t) (xPc G A) A) (xNo G A) 1 6 A := by
  refine x_metH (cc := cL_index) (maxL := 5) (ret := (some .int)) RL (by decide) rfl (Nat.le_of_ble_eq_true rfl) rfl ?_
  intro p e s m below meth c hx hb hr hts hown hlocks hml hin hK hA hX hT hC htab ls hl
  have lk := hts (.classLink RL 19 "java/lang/ArrayIndexOutOfBoundsException") (by decide +kernel)
  have hS : va_S A s.heap s.heap [] := va_S.rf
  have hl : lv_has ls 5 [(0, .ref (ad 0)), (1, .int p0), (2, .int p1), (3, .ref o)] := hl
  refine lv_aload_n hx hb dL_index_0 rfl (lv_at hl 3 rfl) ?_
  refine lv_iconst (v := nI 0) hx hb dL_index_1 (by decide) ?_
  refine lv_aload_n hx hb dL_index_2 rfl (lv_at hl 0 rfl) ?_
  refine lv_iload_n hx hb dL_index_3 rfl (lv_at hl 1 rfl) ?_
  refine lv_iload_n hx hb dL_index_4 rfl (lv_at hl 2 rfl) ?_
  refine x_calliT (x_runVT (q := (RX4, TX4, 7)) (As := [.int p0, .int p1]) (rest := [.int (nI 0), .ref o]) ⟨hx, hb, hml, hown, hts⟩ (ctX4_index l hst G A s1 s2 M hR p0 p1 hcn hod) (cwV 2 hts gL_index_X4_index rfl rfl rfl (by decide +kernel) ⟨Nat.le_of_ble_eq_true rfl, Nat.le_of_ble_eq_true rfl⟩) hK hA hX hS hT hR.1 rfl rfl hl.1 rfl (lv_room (Nat.le_of_ble_eq_true rfl)) dL_index_5 ⟨by decide, by decide⟩) hS (fun ce q9 M1 H locs hp hX hS hce hcv hcl => ?_) (fun r M1 H locs hp hX hS => ?_)
  · refine x_catch (own := RL) (name := "java/lang/ArrayIndexOutOfBoundsException") (E := "java/lang/ArrayIndexOutOfBoundsException") (x := ⟨0, 10, 13, 19⟩) hown htab (by decide) (by decide) lk (x_tu thC_k hC (.castable "java/lang/ArrayIndexOutOfBoundsException" "java/lang/ArrayIndexOutOfBoundsException") (by decide +kernel)) hce hcv hcl ?_
    refine lv_astore (lv' := [(4, .ref q9), (0, .ref (ad 0)), (1, .int p0), (2, .int p1), (3, .ref o)]) hx hb dL_index_13 hl (by decide) rfl (fun ls hl => ?_)
    refine lv_iconst (v := nI 1) hx hb dL_index_15 (by decide) ?_
    exact vx_ret (x_iret hx hb hr hlocks hK hA hX hS dL_index_16 (⟨Or.inr ⟨rfl, hp.2, by rw [hp.1]⟩, fa, fb, by rw [hp.1]; exact hR, fun t _ _ => by rw [hp.1]⟩))
  · obtain ⟨eM, hv⟩ := hp
    rw [eM] at hX
    refine lv_i2l (v := r.toInt64) hx hb dL_index_8 rfl ?_
    refine x_lsN hx hb hK hX hS hF (by omega) (by omega) dL_index_9 (fun H locs hX hS => ?_)
    refine lv_goto (tgt := 17) hx hb dL_index_10 (by decide) ?_
    refine lv_iconst (v := nI 0) hx hb dL_index_17 (by decide) ?_
    exact vx_ret (x_iret hx hb hr hlocks hK hA hX hS dL_index_18 (⟨Or.inl ⟨rfl, r, hv, xu_s⟩, fa, fb, xRec_lo hR hnc hjc (fun t ht => xu_n (by omega)), fun t ht hn => xu_n hn⟩))

theorem xMod_lo {G : xG} {M M1 : xM} {am : Nat → Nat} {th : Int32} {nc : Nat} {mS : Nat → Int32} {mT : Nat → Int32} {mK : Nat → Int32} {mC : Nat → Nat} {mD : Nat → Int32} {mF : Nat → Int64} {mO : Nat → Int64} {mP : Nat → Nat} {wn : Nat → Nat} {bg : Int32} {cn : Nat} {o1 : Nat → Nat} {o2 : Nat → Nat} {u1 : Nat → Nat} {d1 : Nat → Nat} {jc : Nat} {jA : Nat → Nat} {jB : Nat → Nat} {mx : Nat → Nat} {up : Int64} {dn : Int64} (h : xMod G M am th nc mS mT mK mC mD mF mO mP wn bg cn o1 o2 u1 d1 jc jA jB mx up dn) (hf : ∀ t, 500 ≤ t → t ≤ 516 → M1 t = M t) : xMod G M1 am th nc mS mT mK mC mD mF mO mP wn bg cn o1 o2 u1 d1 jc jA jB mx up dn := by
  unfold xMod at h ⊢
  rw [hf 500 (by omega) (by omega), hf 501 (by omega) (by omega), hf 502 (by omega) (by omega), hf 503 (by omega) (by omega), hf 504 (by omega) (by omega), hf 505 (by omega) (by omega), hf 506 (by omega) (by omega), hf 507 (by omega) (by omega), hf 508 (by omega) (by omega), hf 509 (by omega) (by omega), hf 510 (by omega) (by omega), hf 511 (by omega) (by omega), hf 512 (by omega) (by omega), hf 513 (by omega) (by omega), hf 514 (by omega) (by omega), hf 515 (by omega) (by omega), hf 516 (by omega) (by omega)]
  exact h

set_option maxHeartbeats 1000000 in
theorem rl_score (l : Launch) (hst : l.stackTraces = false) (G : xG) (A : Nat → Prop) (s1 s2 : Nat) {M : xM} {a b o : Nat} (h : xRel G M a b o) (p0 p1 : Int32) : ∃ post4 : Int32 → xM → Prop, vx_Met l yL_score wsL_score rmL_score (va_Pc ([.ref a, .int p0, .int p1, .ref o] : List Value) (xPcH G A s1 s2 M)) (va_Qi post4 (xPc G A) A) (xNo G A) 1 6 A ∧ ∀ r M1, post4 r M1 → (∃ fs, M1 500 = some (b, .inr (7, fs))) ∧ ∃ post5 : Int64 → xM → Prop, Met l yX5_score wsX5_score rmX5_score (va_Pc ([.ref b, .int p0, .int p1] : List Value) (xPc G A M1)) (va_Ql post5 (xPc G A) A) 0 0 A ∧ ∀ b9 M2, post5 b9 M2 → xRel G M2 a b o ∧ (∃ fs, M2 500 = some (b, .inr (7, fs))) ∧ Met l yX5_thrown wsX5_thrown rmX5_thrown (va_Pc ([.ref b] : List Value) (xPc G A M2)) (va_Qi (fun r3 M3 => M3 = M2 ∧ r3 = r) (xPc G A) A) 0 0 A ∧ (r = nI 1 ∨ r = nI 0 ∧ ∃ f9 : Nat → Int64, M2 600 = some (o, .inl (G.2 1, 1, .inr (.inl f9))) ∧ f9 0 = b9) := by
  obtain ⟨ad, nc, sd, jn, tc, dt, fd, ld, tk, kd, wn, jc, jz, jo, ju, bg, cn, zs, os, ab, bl, od, sp, pr, fa, fb, am, th, mS, mT, mK, mC, mD, mF, mO, mP, o1, o2, u1, d1, jA, jB, mx, up, dn, ⟨ea, eb⟩, hR, hO, hN, hJ, hP, fo, hF⟩ := h
  subst ea
  subst eb
  have hnc := hN.1.1
  have hjc := hN.1.2.1
  have hcn := hP.1
  have hod : ∀ j, j < cn → od j < cn := fun j hj => (xGood_in hP.2.1 (by omega) hj).2
  have hzo : ∀ j, j < cn → (∃ a, a < nc ∧ zs (od j) = a + 1 ∧ sd a = nI 0) ∧ (∃ b, b < nc ∧ os (od j) = b + 1 ∧ sd b = nI 1) := fun j hj => (hP.2.2.2.1 _ (hod j hj)).2
  have hoo : ∀ k, k < cn → (1 ≤ o1 k ∧ o1 k ≤ 50) ∧ (1 ≤ o2 k ∧ o2 k ≤ 50) := fun k hk => by
    obtain ⟨g1, g2, _⟩ := hP.2.2.1 k hk
    obtain ⟨⟨i, hi, ei, _⟩, ⟨j, hj, ej, _⟩⟩ := hzo k hk
    omega
  refine ⟨_, ctL_score l hst G A s1 s2 M hR hF p0 p1 hcn (fun j hj => by have := hod j hj; omega) hzo hnc hjc hN.2.2.1 hN.1.2.2, fun r M1 hp => ?_⟩
  obtain ⟨hv, fa9, fb9, hR1, hf⟩ := hp
  have hO1 := xMod_go (M1 := fun t => if t = 600 then M t else M1 t) hO (fun t ht => by
    show (if t = 600 then M t else M1 t) = M t
    by_cases q : t = 600
    · rw [if_pos q]
    · rw [if_neg q]; exact hf t ht q)
  have hO1 : xMod G M1 am th nc mS mT mK mC mD mF mO mP wn bg cn o1 o2 u1 d1 jc jA jB mx up dn := xMod_lo hO1 (fun t h1 h2 => (if_neg (by omega)).symm)
  refine ⟨⟨_, hO1.1⟩, _, ctX5_score l G A M1 hO1 p0 p1 hcn hoo (rNm_c hN) (rNm_k hN) hN.1.2.2, fun b9 M2 hq => ?_⟩
  obtain ⟨hq, hf2⟩ := hq
  have hF1 : ∃ f9 : Nat → Int64, M1 600 = some (o, .inl (G.2 1, 1, .inr (.inl f9))) := by
    rcases hv with ⟨_, v, _, z⟩ | ⟨_, _, z⟩
    · exact ⟨_, z⟩
    · exact ⟨_, z.trans hF⟩
  obtain ⟨f9, hF1⟩ := hF1
  rcases hq with ⟨i0, hi0, ei0, hq⟩ | ⟨hno, eb9, hO2⟩
  · obtain ⟨g1, g2, _⟩ := hP.2.2.1 i0 hi0
    obtain ⟨⟨a, ha, ea, _⟩, ⟨b, hb, eb, _⟩⟩ := hzo i0 hi0
    rw [g1, g2, ea, eb, rNm_D hN ha hb, rNm_U hN ha hb] at hq
    have match9 : ∀ i a' b', (i < cn ∧ p0 = nI i ∧ a' < nc ∧ b' < nc ∧ zs (od i) = a' + 1 ∧ os (od i) = b' + 1) → i = i0 ∧ a' = a ∧ b' = b := fun i a' b' z => by
      have e1 := (nI_eq (by omega) (by omega)).mp (z.2.1.symm.trans ei0)
      subst e1
      have := z.2.2.2.2.1
      have := z.2.2.2.2.2
      exact ⟨rfl, by omega, by omega⟩
    rcases hq with ⟨hz, hO2⟩ | ⟨hz, eb9, hO2⟩
    · have er : r = nI 1 := by
        rcases hv with ⟨_, v, z, _⟩ | ⟨er, _, _⟩
        · rcases z with ⟨i, a', b', z1, z2, _⟩ | ⟨z, _⟩
          · obtain ⟨_, y2, y3⟩ := match9 i a' b' z1
            subst y2
            subst y3
            omega
          · rw [ei0] at z
            exact absurd (x_inr hi0 hcn) z
        · exact er
      refine ⟨⟨_, _, _, _, _, _, _, _, _, _, _, _, _, _, _, _, _, _, _, _, _, _, _, _, _, _, _, _, _, _, _, _, _, _, _, _, _, _, _, _, _, _, _, _, _, ⟨rfl, rfl⟩, xRec_go hR1 hnc hjc hf2, hO2, hN, hJ, hP, _, by rw [hf2 600 (by omega)]; exact hF1⟩, ⟨_, hO2.1⟩, ?_, ?_⟩
      · rw [er]; exact ctX5_thrown l G A M2 hO2
      · exact Or.inl er
    · rcases hv with ⟨er, v, z, y⟩ | ⟨_, ⟨i, a', b', z1, z2⟩, _⟩
      · rcases z with ⟨i, a', b', z1, z2, ev⟩ | ⟨z, _⟩
        · obtain ⟨_, y2, y3⟩ := match9 i a' b' z1
          subst y2
          subst y3
          refine ⟨⟨_, _, _, _, _, _, _, _, _, _, _, _, _, _, _, _, _, _, _, _, _, _, _, _, _, _, _, _, _, _, _, _, _, _, _, _, _, _, _, _, _, _, _, _, _, ⟨rfl, rfl⟩, xRec_go hR1 hnc hjc hf2, hO2, hN, hJ, hP, _, by rw [hf2 600 (by omega)]; exact hF1⟩, ⟨_, hO2.1⟩, ?_, ?_⟩
          · rw [er]; exact ctX5_thrown l G A M2 hO2
          · refine Or.inr ⟨er, _, (by rw [hf2 600 (by omega)]; exact y), ?_⟩
            rw [ul_s, ev, eb9]
        · rw [ei0] at z
          exact absurd (x_inr hi0 hcn) z
      · obtain ⟨_, y2, y3⟩ := match9 i a' b' z1
        subst y2
        subst y3
        omega
  · rcases hv with ⟨er, v, z, y⟩ | ⟨_, ⟨i, a', b', z1, z2⟩, _⟩
    · rcases z with ⟨i, a', b', z1, z2, ev⟩ | ⟨z, ev⟩
      · rw [z1.2.1] at hno
        exact absurd (x_inr z1.1 hcn) hno
      · refine ⟨⟨_, _, _, _, _, _, _, _, _, _, _, _, _, _, _, _, _, _, _, _, _, _, _, _, _, _, _, _, _, _, _, _, _, _, _, _, _, _, _, _, _, _, _, _, _, ⟨rfl, rfl⟩, xRec_go hR1 hnc hjc hf2, hO2, hN, hJ, hP, _, by rw [hf2 600 (by omega)]; exact hF1⟩, ⟨_, hO2.1⟩, ?_, ?_⟩
        · rw [er]; exact ctX5_thrown l G A M2 hO2
        · refine Or.inr ⟨er, _, (by rw [hf2 600 (by omega)]; exact y), ?_⟩
          rw [ul_s, ev, eb9]
    · rw [z1.2.1] at hno
      exact absurd (x_inr z1.1 hcn) hno

set_option maxHeartbeats 1000000 in
theorem rl_index (l : Launch) (hst : l.stackTraces = false) (G : xG) (A : Nat → Prop) (s1 s2 : Nat) {M : xM} {a b o : Nat} (h : xRel G M a b o) (p0 p1 : Int32) : ∃ post4 : Int32 → xM → Prop, vx_Met l yL_index wsL_index rmL_index (va_Pc ([.ref a, .int p0, .int p1, .ref o] : List Value) (xPcH G A s1 s2 M)) (va_Qi post4 (xPc G A) A) (xNo G A) 1 6 A ∧ ∀ r M1, post4 r M1 → (∃ fs, M1 500 = some (b, .inr (7, fs))) ∧ ∃ post5 : Int32 → xM → Prop, Met l yX5_index wsX5_index rmX5_index (va_Pc ([.ref b, .int p0, .int p1] : List Value) (xPc G A M1)) (va_Qi post5 (xPc G A) A) 0 0 A ∧ ∀ b9 M2, post5 b9 M2 → xRel G M2 a b o ∧ (∃ fs, M2 500 = some (b, .inr (7, fs))) ∧ Met l yX5_thrown wsX5_thrown rmX5_thrown (va_Pc ([.ref b] : List Value) (xPc G A M2)) (va_Qi (fun r3 M3 => M3 = M2 ∧ r3 = r) (xPc G A) A) 0 0 A ∧ (r = nI 1 ∨ r = nI 0 ∧ ∃ f9 : Nat → Int64, M2 600 = some (o, .inl (G.2 1, 1, .inr (.inl f9))) ∧ f9 0 = b9.toInt64) := by
  obtain ⟨ad, nc, sd, jn, tc, dt, fd, ld, tk, kd, wn, jc, jz, jo, ju, bg, cn, zs, os, ab, bl, od, sp, pr, fa, fb, am, th, mS, mT, mK, mC, mD, mF, mO, mP, o1, o2, u1, d1, jA, jB, mx, up, dn, ⟨ea, eb⟩, hR, hO, hN, hJ, hP, fo, hF⟩ := h
  subst ea
  subst eb
  have hnc := hN.1.1
  have hjc := hN.1.2.1
  have hcn := hP.1
  have hod : ∀ j, j < cn → od j < cn := fun j hj => (xGood_in hP.2.1 (by omega) hj).2
  refine ⟨_, ctL_index l hst G A s1 s2 M hR hF p0 p1 hcn (fun j hj => by have := hod j hj; omega) hnc hjc, fun r M1 hp => ?_⟩
  obtain ⟨hv, fa9, fb9, hR1, hf⟩ := hp
  have hO1 := xMod_go (M1 := fun t => if t = 600 then M t else M1 t) hO (fun t ht => by
    show (if t = 600 then M t else M1 t) = M t
    by_cases q : t = 600
    · rw [if_pos q]
    · rw [if_neg q]; exact hf t ht q)
  have hO1 : xMod G M1 am th nc mS mT mK mC mD mF mO mP wn bg cn o1 o2 u1 d1 jc jA jB mx up dn := xMod_lo hO1 (fun t h1 h2 => (if_neg (by omega)).symm)
  refine ⟨⟨_, hO1.1⟩, _, ctX5_index l G A M1 hO1 p0 p1 hcn, fun b9 M2 hq => ?_⟩
  obtain ⟨hq, hf2⟩ := hq
  have hF1 : ∃ f9 : Nat → Int64, M1 600 = some (o, .inl (G.2 1, 1, .inr (.inl f9))) := by
    rcases hv with ⟨_, v, _, z⟩ | ⟨_, _, z⟩
    · exact ⟨_, z⟩
    · exact ⟨_, z.trans hF⟩
  obtain ⟨f9, hF1⟩ := hF1
  rcases hq with ⟨i0, hi0, ei0, eb9, hO2⟩ | ⟨hno, hO2⟩
  · obtain ⟨g1, g2, _⟩ := hP.2.2.1 i0 hi0
    rcases hv with ⟨er, v, ⟨i, hi, ei, ev⟩, y⟩ | ⟨_, z, _⟩
    · have e1 := (nI_eq (by omega) (by omega)).mp (ei.symm.trans ei0)
      subst e1
      refine ⟨⟨_, _, _, _, _, _, _, _, _, _, _, _, _, _, _, _, _, _, _, _, _, _, _, _, _, _, _, _, _, _, _, _, _, _, _, _, _, _, _, _, _, _, _, _, _, ⟨rfl, rfl⟩, xRec_go hR1 hnc hjc hf2, hO2, hN, hJ, hP, _, by rw [hf2 600 (by omega)]; exact hF1⟩, ⟨_, hO2.1⟩, ?_, ?_⟩
      · rw [er]; exact ctX5_thrown l G A M2 hO2
      · refine Or.inr ⟨er, _, (by rw [hf2 600 (by omega)]; exact y), ?_⟩
        rw [ul_s, ev, eb9, g1, g2]
    · rw [ei0] at z
      exact absurd (x_inr hi0 hcn) z
  · rcases hv with ⟨er, v, ⟨i, hi, ei, ev⟩, y⟩ | ⟨er, z, _⟩
    · rw [ei] at hno
      exact absurd (x_inr hi hcn) hno
    · refine ⟨⟨_, _, _, _, _, _, _, _, _, _, _, _, _, _, _, _, _, _, _, _, _, _, _, _, _, _, _, _, _, _, _, _, _, _, _, _, _, _, _, _, _, _, _, _, _, ⟨rfl, rfl⟩, xRec_go hR1 hnc hjc hf2, hO2, hN, hJ, hP, _, by rw [hf2 600 (by omega)]; exact hF1⟩, ⟨_, hO2.1⟩, ?_, ?_⟩
      · rw [er]; exact ctX5_thrown l G A M2 hO2
      · exact Or.inl er
