/-! Reconcile: score and index, which may throw -/
def thA : List Cond := vx_atS RX4 109 "java/lang/ArithmeticException" ["java/lang/RuntimeException", "java/lang/Exception"]
def thB : List Cond := vx_atS RX4 158 "java/lang/ArrayIndexOutOfBoundsException" ["java/lang/IndexOutOfBoundsException", "java/lang/RuntimeException", "java/lang/Exception"]
theorem thA_in : ∀ w ∈ thA, w ∈ lw_tbl := by decide +kernel
theorem thB_in : ∀ w ∈ thB, w ∈ lw_tbl := by decide +kernel
theorem thA_k : thA.all (fun w => w.onTables && w.keepsFace) = true := by decide +kernel
theorem thB_k : thB.all (fun w => w.onTables && w.keepsFace) = true := by decide +kernel
def xThW (L : List Cond) (U : State) : Prop := ∀ w ∈ L, w.before #[] U = true
theorem x_tw {L : List Cond} (hk : L.all (fun w => w.onTables && w.keepsFace) = true) {s U : State} (hW : s.WarmedH U.vm) (h : xThW L s) : xThW L U := fun w hw => by
  have h1 := List.all_eq_true.mp hk w hw
  simp only [Bool.and_eq_true] at h1
  exact va_tabs h1.1 (rfl : (s.setVm U.vm).vm = U.vm) (Cond.before_shiftedFace (State.Shifted.of_warmed hW) _ h1.2 (h w hw))
theorem x_ts {L : List Cond} (hk : L.all (fun w => w.onTables && w.keepsFace) = true) {s U : State} (hv : s.vm = U.vm) (h : xThW L s) : xThW L U := fun w hw => by
  have h1 := List.all_eq_true.mp hk w hw
  simp only [Bool.and_eq_true] at h1
  exact va_tabs h1.1 hv (h w hw)
theorem x_tu {L : List Cond} (hk : L.all (fun w => w.onTables && w.keepsFace) = true) {s : State} {args : Array Value} (h : xThW L s) : ∀ w ∈ L, w.before args s = true := fun w hw => by
  have h1 := List.all_eq_true.mp hk w hw
  simp only [Bool.and_eq_true] at h1
  exact va_tabs h1.1 rfl (h w hw)
/-- what a throw wants of the state -/
def xTh (A : Nat → Prop) (s1 s2 : Nat) (U : State) : Prop := xThW thA U ∧ xThW thB U ∧ vk_R RX4 107 "no score now" s1 U ∧ vk_R RX4 156 "no such pair" s2 U ∧ vx_Zq Bundle.tN "UNASSIGNED_STACK" Bundle.steD A U U.heap ∧ vx_Zq Bundle.tN "SUPPRESSED_SENTINEL" Bundle.listD A U U.heap
def xPcT (G : xG) (A : Nat → Prop) (s1 s2 : Nat) (M : xM) (U : State) : Prop := xPc G A M U ∧ xTh A s1 s2 U
theorem xTh_go {A : Nat → Prop} {s1 s2 : Nat} {s U : State} {H : Heap} {locs : List Loc} (h : xTh A s1 s2 s) (hS : va_S A s.heap H locs) (hU : U.heap = H) (hW : s.WarmedH U.vm) : xTh A s1 s2 U :=
  ⟨x_tw thA_k hW h.1, x_tw thB_k hW h.2.1, vk_R.warm hW h.2.2.1, vk_R.warm hW h.2.2.2.1, by rw [hU]; exact vx_Zq.moved hW.alike (vx_Zq.kept h.2.2.2.2.1 (fun a h1 h2 => hS.2.1 a h1 h2)), by rw [hU]; exact vx_Zq.moved hW.alike (vx_Zq.kept h.2.2.2.2.2 (fun a h1 h2 => hS.2.1 a h1 h2))⟩
theorem x_blindT {av : List Value} {G : xG} {A : Nat → Prop} {s1 s2 : Nat} {M : xM} : FrameBlind (va_Pc av (xPcT G A s1 s2 M)) := fun a U g mk q =>
  ⟨q.1, (x_blind (av := av) a U g mk ⟨q.1, q.2.1⟩).2, x_ts thA_k (s := U) (U := U.calling g mk a) rfl q.2.2.1, x_ts thB_k (s := U) (U := U.calling g mk a) rfl q.2.2.2.1, vk_R.same (u := U) (U := U.calling g mk a) rfl q.2.2.2.2.1, vk_R.same (u := U) (U := U.calling g mk a) rfl q.2.2.2.2.2.1, vx_Zq.moved (u := U) (U := U.calling g mk a) (Vm.Alike.refl U.vm) q.2.2.2.2.2.2.1, vx_Zq.moved (u := U) (U := U.calling g mk a) (Vm.Alike.refl U.vm) q.2.2.2.2.2.2.2⟩
theorem xw_keep {D : va_G} {cl : List vw_C} {A : Nat → Prop} {M : xM} {H H1 : Heap} (h : xw D cl A M H) (hk : ∀ q : Nat, q < H.size → H1[q]? = H[q]?) : xw D cl A M H1 := by
  obtain ⟨ws, hP, hD, h3, h4⟩ := h
  exact ⟨ws, hP.kept (fun k q hq => hk q.1 ((hP k q hq).lt)), hD, h3, h4⟩
def xX (G : xG) (A : Nat → Prop) (E : String) (px : xM → Prop) : String → State → State → Prop := vx_X px (fun F M1 t => F = E ∧ xPc G A M1 t) A
section XT
variable {p : Program} {l : Launch} {e : Env} {R : Room} {s : State} {m : MethodId} {args : Array Value} {below : List Frame} {meth : Method} {c : Code} {H : Heap} {locs : List Loc} {cells slots : Nat} {Q : State → Prop}
variable {cc : ByteArray} {pc : Nat} {ls : Array Slot} {rest : List Value} {A : Nat → Prop} {M : xM} {G : xG}
variable {ws ws' : List Cond} {mc ms : Nat} {y : MethodName} {ret : Option FieldType} {rm : Room} {Qc : Array Value → State → Outcome → State → Prop} {XC : String → State → State → Prop}
theorem x_metT {s1 s2 : Nat} {av : List Value} {maxL : Nat} (own : String) (hy : plainName y.cls = true) (hw : ws = Cond.code y cc maxL ret :: ws') (hlen : (lg_sl av).length ≤ maxL) (hyo : y.cls = own)
    (body : ∀ (p : Program) (e : Env) (s : State) (m : MethodId) (below : List Frame) (meth : Method) (c : Code), p.tables.exec = Jvm.exec → c.code = cc → meth.sig.returnType = ret → (∀ w ∈ ws, w.before av.toArray s = true) → s.vm.findClass own = some m.cls → meth.locks = false → c.maxLocals = maxL → meth.name = y.name → va_K G.1 vwCl (xT G) s → (∀ q, s.heap.size ≤ q → A q) → xw G.1 vwCl A M s.heap → xTh A s1 s2 s → (∀ x ∈ c.exceptionTable.toList, False) → ∀ ls : Array Slot, lv_has ls maxL (lv_args 0 av) →
      W p l e rm s m av.toArray below meth c s.heap [] 0 0 (vx_MQ below Qc XC av.toArray s mc ms A) (F0 m 0 ls [])) : vx_Met l y ws rm (va_Pc av (xPcT G A s1 s2 M)) Qc XC mc ms A := by
  refine vx_ofW (cc := cc) (maxL := maxL) (ret := ret) hy hw ?_
  intro p e s m args below meth c s₁ B hml hnt hv
  obtain ⟨rfl, ⟨hK, hA, hX⟩, hT⟩ := hv
  have hl := lv_entry av (n := maxL) hlen
  rw [lg_entry_eq]
  exact body p e s m below meth c B.exec B.bytes B.returns (atoms_spec (ws := ws) B.pre) (by rw [← hyo]; exact findClass_of_methodNamed B.named) B.notSynchronized hml (name_of_methodNamed B.named B.method).1 hK hA hX hT hnt _ hl
theorem x_thx {E : String} {px : xM → Prop} (hK : va_K G.1 vwCl (xT G) s) (hA : ∀ q, s.heap.size ≤ q → A q) (hX : xw G.1 vwCl A M H) (hS : va_S A s.heap H locs) (hp : px M) : ∀ t : State, s.vm.Alike t.vm → H.size ≤ t.heap.size → (∀ q : Nat, q < H.size → t.heap[q]? = H[q]?) → xX G A E px E s t :=
  fun t hvm hz hk => ⟨M, hp, ⟨rfl, va_K.moved hvm hK, fun q h => hA q (Nat.le_trans (Nat.le_trans hS.1 hz) h), xw_keep hX hk⟩, Nat.le_trans hS.1 hz, fun q h1 h2 => (hk q (Nat.lt_of_lt_of_le h1 hS.1)).trans (hS.2.1 q h1 h2)⟩
end XT

abbrev rmX4_index : Room := { frames := 7, cells := 1, slots := 6, locals := 120 }
set_option maxHeartbeats 4000000 in
set_option maxRecDepth 100000 in
/-- index -/
theorem ctX4_index (l : Launch) (hst : l.stackTraces = false) (G : xG) (A : Nat → Prop) (s1 s2 : Nat) (M : xM) {ad : Nat → Nat} {nc : Nat} {sd : Nat → Int32} {jn : Nat → Int32} {tc : Nat → Nat} {dt : Nat → Int32} {fd : Nat → Int64} {ld : Nat → Int64} {tk : Nat → Nat → Int32} {kd : Nat → Nat → Int32} {wn : Nat → Nat} {jc : Nat} {jz : Nat → Nat} {jo : Nat → Nat} {ju : Nat → Int32} {bg : Int32} {cn : Nat} {zs : Nat → Nat} {os : Nat → Nat} {ab : Nat → Nat} {bl : Nat → Nat} {od : Nat → Nat} {sp : Nat → Nat} {pr : Nat → Nat} {fa : Int64} {fb : Int64} (hR : xRec G M ad nc sd jn tc dt fd ld tk kd wn jc jz jo ju bg cn zs os ab bl od sp pr fa fb) (p0 p1 : Int32) (hcn : cn ≤ 625) (hod : ∀ j, j < cn → od j < 625) : vx_Met l yX4_index wsX4_index rmX4_index (va_Pc ([.ref (ad 0), .int p0, .int p1] : List Value) (xPcT G A s1 s2 M)) (va_Qi (fun r M1 => M1 = M ∧ ∃ i, i < cn ∧ p0 = nI i ∧ r = if p1 = nI 1 then nI (os (od i)) else nI (zs (od i))) (xPc G A) A) (xX G A "java/lang/ArrayIndexOutOfBoundsException" (fun M1 => M1 = M ∧ ¬ (¬ p0 < 0 ∧ ¬ nI cn ≤ p0))) 1 6 A := by
  refine x_metT (cc := cX4_index) (maxL := 3) (ret := (some .int)) RX4 (by decide) rfl (Nat.le_of_ble_eq_true rfl) rfl ?_
  intro p e s m below meth c hx hb hr hts hown hlocks hml hin hK hA hX hT hnt ls hl
  have inX4 : ∀ w ∈ wsX40, w ∈ wsX4_index := by decide +kernel
  have lk_fieldLink_37 := hts (.fieldLink RX4 37 "Reconcile" "latest" "LReconcile$Listing;") (by decide +kernel)
  have lk_classLink_154 := hts (.classLink RX4 154 RJx00060) (by decide +kernel)
  have hS : va_S A s.heap s.heap [] := va_S.rf
  have hl : lv_has ls 3 [(0, .ref (ad 0)), (1, .int p0), (2, .int p1)] := hl
  obtain ⟨hc0, hc1, hc2, hc3, hcL, hc5, hc6, hc7, hc8, hc9, hc10, hc11, hc12, hnm, hjn⟩ := hR
  refine lv_aload_n hx hb dX4_index_0 rfl (lv_at hl 0 rfl) ?_
  refine x_get (ci := 6) (v := .ref (ad 4)) (C := RX4) (T := TX4) (N := 7) hx hb hts inX4 hown hK hX hc0 rfl 5 (by decide) lk_fieldLink_37 (fun _ h9 => h9) rfl dX4_index_1 ?_
  refine lv_iload_n hx hb dX4_index_4 rfl (lv_at hl 1 rfl) ?_
  refine x_calli (x_runV (q := (RX2, TX2, 9)) (As := [.int p0]) (rest := []) ⟨hx, hb, hml, hown, hts⟩ (ctX2_holds l G A M hcL hc6 hc7 hc8 hc9 hc10 hc11 hc12 hcn p0) (cwV 1 hts gX4_index_X2_holds rfl rfl rfl (by decide +kernel) ⟨Nat.le_of_ble_eq_true rfl, Nat.le_of_ble_eq_true rfl⟩) hK hA hX hS hcL rfl rfl hl.1 rfl (lv_room (Nat.le_of_ble_eq_true rfl)) dX4_index_5 ⟨by decide, by decide⟩) hS (fun r_1 M_2 H locs hp hX hS => ?_)
  obtain ⟨hM_, er_1⟩ := hp
  rw [hM_] at hX
  refine lv_if_ne (tgt := 21) hx hb dX4_index_8 (by decide) (fun c_3 => ?_) (fun c_3 => ?_)
  · have hh := x_if1 er_1 c_3
    obtain ⟨i, hi, ei⟩ := x_in (by omega) hh.1 hh.2
    subst ei
    refine lv_aload_n hx hb dX4_index_21 rfl (lv_at hl 0 rfl) ?_
    refine x_get (ci := 6) (v := .ref (ad 4)) (C := RX4) (T := TX4) (N := 7) hx hb hts inX4 hown hK hX hc0 rfl 5 (by decide) lk_fieldLink_37 (fun _ h9 => h9) rfl dX4_index_22 ?_
    refine lv_iload_n hx hb dX4_index_25 rfl (lv_at hl 1 rfl) ?_
    refine lv_iload_n hx hb dX4_index_26 rfl (lv_at hl 2 rfl) ?_
    refine x_calli (x_runV (q := (RX2, TX2, 9)) (As := [.int (nI i), .int p1]) (rest := []) ⟨hx, hb, hml, hown, hts⟩ (ctX2_nameAt l G A M hcL hc6 hc7 hc8 hc9 hc10 hc11 hc12 hcn i p1 (by omega) (hod i hi)) (cwV 2 hts gX4_index_X2_nameAt rfl rfl rfl (by decide +kernel) ⟨Nat.le_of_ble_eq_true rfl, Nat.le_of_ble_eq_true rfl⟩) hK hA hX hS hcL rfl rfl hl.1 rfl (lv_room (Nat.le_of_ble_eq_true rfl)) dX4_index_27 ⟨by decide, by decide⟩) hS (fun r_4 M_5 H locs hp hX hS => ?_)
    obtain ⟨hM_, er_4⟩ := hp
    rw [hM_] at hX
    refine W.widen (k := 1) (n := 6) (by omega) (by omega) ?_
    exact vx_ret (x_iret hx hb hr hlocks hK hA hX hS dX4_index_30 (⟨rfl, i, hi, rfl, er_4⟩))
  · have hh := x_if0 er_1 c_3
    exact vx_throwS (own := RX4) (cls := "java/lang/ArrayIndexOutOfBoundsException") (text := "no such pair") (names := ["java/lang/IndexOutOfBoundsException", "java/lang/RuntimeException", "java/lang/Exception"]) hx hb hst hown (by decide +kernel) (by decide +kernel) lk_classLink_154 (hts (.initialized "java/lang/ArrayIndexOutOfBoundsException") (by decide +kernel)) hT.2.2.2.1 (x_tu thB_k hT.2.1) (by decide +kernel) hT.2.2.2.2.1 hT.2.2.2.2.2 hS (hl.1.trans hml.symm) dX4_index_11 dX4_index_14 dX4_index_15 dX4_index_17 dX4_index_20 (fun x hx9 => (hnt x hx9).elim) (Nat.le_of_ble_eq_true rfl) (Nat.le_of_ble_eq_true rfl) (Nat.le_of_ble_eq_true rfl) (Nat.le_of_ble_eq_true rfl) hlocks (x_thx hK hA hX hS (⟨rfl, hh⟩)) hS.2.2 (Nat.le_of_ble_eq_true rfl) (Nat.le_of_ble_eq_true rfl)

abbrev rmX4_score : Room := { frames := 7, cells := 1, slots := 6, locals := 120 }
set_option maxHeartbeats 4000000 in
set_option maxRecDepth 100000 in
/-- score -/
theorem ctX4_score (l : Launch) (hst : l.stackTraces = false) (G : xG) (A : Nat → Prop) (s1 s2 : Nat) (M : xM) {ad : Nat → Nat} {nc : Nat} {sd : Nat → Int32} {jn : Nat → Int32} {tc : Nat → Nat} {dt : Nat → Int32} {fd : Nat → Int64} {ld : Nat → Int64} {tk : Nat → Nat → Int32} {kd : Nat → Nat → Int32} {wn : Nat → Nat} {jc : Nat} {jz : Nat → Nat} {jo : Nat → Nat} {ju : Nat → Int32} {bg : Int32} {cn : Nat} {zs : Nat → Nat} {os : Nat → Nat} {ab : Nat → Nat} {bl : Nat → Nat} {od : Nat → Nat} {sp : Nat → Nat} {pr : Nat → Nat} {fa : Int64} {fb : Int64} (hR : xRec G M ad nc sd jn tc dt fd ld tk kd wn jc jz jo ju bg cn zs os ab bl od sp pr fa fb) (p0 p1 : Int32) (hcn : cn ≤ 625) (hod : ∀ j, j < cn → od j < 625) (hzo : ∀ j, j < cn → (∃ a, a < nc ∧ zs (od j) = a + 1 ∧ sd a = nI 0) ∧ (∃ b, b < nc ∧ os (od j) = b + 1 ∧ sd b = nI 1)) (hnc : nc ≤ 50) (htk : ∀ i, i < nc → tc i ≤ 8 ∧ ∀ j, j < tc i → vp_in (kd i j) 4) (hwn : ∀ k, wn k ≤ 252000) : vx_Met l yX4_score wsX4_score rmX4_score (va_Pc ([.ref (ad 0), .int p0, .int p1] : List Value) (xPcT G A s1 s2 M)) (va_Ql (fun r M1 => ((∃ i a b, (i < cn ∧ p0 = nI i ∧ a < nc ∧ b < nc ∧ zs (od i) = a + 1 ∧ os (od i) = b + 1) ∧ (0 < cD tc dt tk kd wn a b ∧ r = if p1 = 0 then lN (cU tc dt fd ld tk kd wn a b / Nat.gcd (cU tc dt fd ld tk kd wn a b) (cD tc dt tk kd wn a b)) else lN (cD tc dt tk kd wn a b / Nat.gcd (cU tc dt fd ld tk kd wn a b) (cD tc dt tk kd wn a b)))) ∨ (¬ (¬ p0 < 0 ∧ ¬ nI cn ≤ p0) ∧ r = (-1))) ∧ ∃ fa9 fb9 : Int64, xRec G M1 ad nc sd jn tc dt fd ld tk kd wn jc jz jo ju bg cn zs os ab bl od sp pr fa9 fb9 ∧ ∀ t, 500 ≤ t → M1 t = M t) (xPc G A) A) (xX G A "java/lang/ArithmeticException" (fun M1 => (∃ i a b, (i < cn ∧ p0 = nI i ∧ a < nc ∧ b < nc ∧ zs (od i) = a + 1 ∧ os (od i) = b + 1) ∧ cD tc dt tk kd wn a b = 0) ∧ ∃ fa9 fb9 : Int64, xRec G M1 ad nc sd jn tc dt fd ld tk kd wn jc jz jo ju bg cn zs os ab bl od sp pr fa9 fb9 ∧ ∀ t, 500 ≤ t → M1 t = M t)) 1 6 A := by
  refine x_metT (cc := cX4_score) (maxL := 5) (ret := (some .long)) RX4 (by decide) rfl (Nat.le_of_ble_eq_true rfl) rfl ?_
  intro p e s m below meth c hx hb hr hts hown hlocks hml hin hK hA hX hT hnt ls hl
  have inX0 : ∀ w ∈ wsX00, w ∈ wsX4_score := by decide +kernel
  have inX4 : ∀ w ∈ wsX40, w ∈ wsX4_score := by decide +kernel
  have lk_fieldLink_37 := hts (.fieldLink RX4 37 "Reconcile" "latest" "LReconcile$Listing;") (by decide +kernel)
  have lk_fieldLink_44 := hts (.fieldLink RX4 44 "Reconcile" "measured" "LReconcile$Fraction;") (by decide +kernel)
  have lk_fieldLink_21 := hts (.fieldLink RX4 21 "Reconcile" "weights" "[J") (by decide +kernel)
  have lk_fieldLink_119 := hts (.fieldLink RX4 119 "Reconcile$Fraction" "below" "J") (by decide +kernel)
  have lk_fieldLink_115 := hts (.fieldLink RX4 115 "Reconcile$Fraction" "above" "J") (by decide +kernel)
  have lk_classLink_105 := hts (.classLink RX4 105 "java/lang/ArithmeticException") (by decide +kernel)
  have lk_constantLong_95 := hts (.constantLong RX4 95 (-1)) (by decide +kernel)
  have hS : va_S A s.heap s.heap [] := va_S.rf
  have hl : lv_has ls 5 [(0, .ref (ad 0)), (1, .int p0), (2, .int p1)] := hl
  have hRR := hR
  obtain ⟨hc0, hc1, hc2, hc3, hcL, hc5, hc6, hc7, hc8, hc9, hc10, hc11, hc12, hnm, hjn⟩ := hR
  refine lv_aload_n hx hb dX4_score_0 rfl (lv_at hl 0 rfl) ?_
  refine x_get (ci := 6) (v := .ref (ad 4)) (C := RX4) (T := TX4) (N := 7) hx hb hts inX4 hown hK hX hc0 rfl 5 (by decide) lk_fieldLink_37 (fun _ h9 => h9) rfl dX4_score_1 ?_
  refine lv_iload_n hx hb dX4_score_4 rfl (lv_at hl 1 rfl) ?_
  refine x_calli (x_runV (q := (RX2, TX2, 9)) (As := [.int p0]) (rest := []) ⟨hx, hb, hml, hown, hts⟩ (ctX2_holds l G A M hcL hc6 hc7 hc8 hc9 hc10 hc11 hc12 hcn p0) (cwV 1 hts gX4_score_X2_holds rfl rfl rfl (by decide +kernel) ⟨Nat.le_of_ble_eq_true rfl, Nat.le_of_ble_eq_true rfl⟩) hK hA hX hS hcL rfl rfl hl.1 rfl (lv_room (Nat.le_of_ble_eq_true rfl)) dX4_score_5 ⟨by decide, by decide⟩) hS (fun r_1 M_2 H locs hp hX hS => ?_)
  obtain ⟨hM_, er_1⟩ := hp
  rw [hM_] at hX
  refine lv_if_ne (tgt := 15) hx hb dX4_score_8 (by decide) (fun c_3 => ?_) (fun c_3 => ?_)
  · have hh := x_if1 er_1 c_3
    obtain ⟨i, hi, ei⟩ := x_in (by omega) hh.1 hh.2
    subst ei
    obtain ⟨⟨a, ha, eza, hsa⟩, ⟨b, hb9, eob, hsb⟩⟩ := hzo i hi
    have hoi := hod i hi
    refine lv_aload_n hx hb dX4_score_15 rfl (lv_at hl 0 rfl) ?_
    refine lv_aload_n hx hb dX4_score_16 rfl (lv_at hl 0 rfl) ?_
    refine x_get (ci := 6) (v := .ref (ad 4)) (C := RX4) (T := TX4) (N := 7) hx hb hts inX4 hown hK hX hc0 rfl 5 (by decide) lk_fieldLink_37 (fun _ h9 => h9) rfl dX4_score_17 ?_
    refine lv_iload_n hx hb dX4_score_20 rfl (lv_at hl 1 rfl) ?_
    refine lv_iconst (v := nI 0) hx hb dX4_score_21 (by decide) ?_
    refine x_calli (x_runV (q := (RX2, TX2, 9)) (As := [.int (nI i), .int (nI 0)]) (rest := [.ref (ad 0)]) ⟨hx, hb, hml, hown, hts⟩ (ctX2_nameAt l G A M hcL hc6 hc7 hc8 hc9 hc10 hc11 hc12 hcn i (nI 0) (by omega) hoi) (cwV 2 hts gX4_score_X2_nameAt rfl rfl rfl (by decide +kernel) ⟨Nat.le_of_ble_eq_true rfl, Nat.le_of_ble_eq_true rfl⟩) hK hA hX hS hcL rfl rfl hl.1 rfl (lv_room (Nat.le_of_ble_eq_true rfl)) dX4_score_22 ⟨by decide, by decide⟩) hS (fun r_4 M_5 H locs hp hX hS => ?_)
    obtain ⟨hM_, er_4⟩ := hp
    rw [hM_] at hX
    refine x_ri (y := nI (a + 1)) (by rw [er_4, if_neg (by decide), eza]) ?_
    refine x_callq (x_runV (q := (RX4, TX4, 7)) (As := [.int (nI (a + 1))]) (rest := []) ⟨hx, hb, hml, hown, hts⟩ (ctX4_find l G A M hRR (nI (a + 1)) hnc) (cwV 1 hts gX4_score_X4_find rfl rfl rfl (by decide +kernel) ⟨Nat.le_of_ble_eq_true rfl, Nat.le_of_ble_eq_true rfl⟩) hK hA hX hS hc0 rfl rfl hl.1 rfl (lv_room (Nat.le_of_ble_eq_true rfl)) dX4_score_25 ⟨by decide, by decide⟩) hS (fun r_6 M_7 H locs hp hX hS => ?_)
    obtain ⟨hM_, hq_r_6⟩ := hp
    rw [hM_] at hX
    rcases hq_r_6 with ⟨j2, hj2, ep, er⟩ | ⟨ep, er⟩
    · have ejj : a = j2 := by have q := (nI_eq (a := a + 1) (b := j2 + 1) (by omega) (by omega)).mp ep; omega
      subst ejj
      subst er
      obtain ⟨hn0i, hn1i, hn2i⟩ := hnm a ha
      refine x_rv (y := .ref (ad (100 + 3 * a))) rfl ?_
      refine lv_astore_n (lv' := [(3, .ref (ad (100 + 3 * a))), (0, .ref (ad 0)), (1, .int (nI i)), (2, .int p1)]) hx hb dX4_score_28 rfl hl (by decide) rfl (fun ls hl => ?_)
      refine lv_aload_n hx hb dX4_score_29 rfl (lv_at hl 1 rfl) ?_
      refine lv_aload_n hx hb dX4_score_30 rfl (lv_at hl 1 rfl) ?_
      refine x_get (ci := 6) (v := .ref (ad 4)) (C := RX4) (T := TX4) (N := 7) hx hb hts inX4 hown hK hX hc0 rfl 5 (by decide) lk_fieldLink_37 (fun _ h9 => h9) rfl dX4_score_31 ?_
      refine lv_iload_n hx hb dX4_score_34 rfl (lv_at hl 2 rfl) ?_
      refine lv_iconst (v := nI 1) hx hb dX4_score_35 (by decide) ?_
      refine x_calli (x_runV (q := (RX2, TX2, 9)) (As := [.int (nI i), .int (nI 1)]) (rest := [.ref (ad 0)]) ⟨hx, hb, hml, hown, hts⟩ (ctX2_nameAt l G A M hcL hc6 hc7 hc8 hc9 hc10 hc11 hc12 hcn i (nI 1) (by omega) hoi) (cwV 2 hts gX4_score_X2_nameAt rfl rfl rfl (by decide +kernel) ⟨Nat.le_of_ble_eq_true rfl, Nat.le_of_ble_eq_true rfl⟩) hK hA hX hS hcL rfl rfl hl.1 rfl (lv_room (Nat.le_of_ble_eq_true rfl)) dX4_score_36 ⟨by decide, by decide⟩) hS (fun r_8 M_9 H locs hp hX hS => ?_)
      obtain ⟨hM_, er_8⟩ := hp
      rw [hM_] at hX
      refine x_ri (y := nI (b + 1)) (by rw [er_8, if_pos rfl, eob]) ?_
      refine x_callq (x_runV (q := (RX4, TX4, 7)) (As := [.int (nI (b + 1))]) (rest := []) ⟨hx, hb, hml, hown, hts⟩ (ctX4_find l G A M hRR (nI (b + 1)) hnc) (cwV 1 hts gX4_score_X4_find rfl rfl rfl (by decide +kernel) ⟨Nat.le_of_ble_eq_true rfl, Nat.le_of_ble_eq_true rfl⟩) hK hA hX hS hc0 rfl rfl hl.1 rfl (lv_room (Nat.le_of_ble_eq_true rfl)) dX4_score_39 ⟨by decide, by decide⟩) hS (fun r_10 M_11 H locs hp hX hS => ?_)
      obtain ⟨hM_, hq_r_10⟩ := hp
      rw [hM_] at hX
      rcases hq_r_10 with ⟨j2, hj2, ep, er⟩ | ⟨ep, er⟩
      · have ejj : b = j2 := by have q := (nI_eq (a := b + 1) (b := j2 + 1) (by omega) (by omega)).mp ep; omega
        subst ejj
        subst er
        obtain ⟨hn0j, hn1j, hn2j⟩ := hnm b hb9
        refine x_rv (y := .ref (ad (100 + 3 * b))) rfl ?_
        refine lv_astore (lv' := [(4, .ref (ad (100 + 3 * b))), (3, .ref (ad (100 + 3 * a))), (0, .ref (ad 0)), (1, .int (nI i)), (2, .int p1)]) hx hb dX4_score_42 hl (by decide) rfl (fun ls hl => ?_)
        refine lv_aload_n hx hb dX4_score_44 rfl (lv_at hl 1 rfl) ?_
        refine lv_ifnull hx hb dX4_score_45 ?_
        refine lv_aload hx hb dX4_score_48 (lv_at hl 0 rfl) ?_
        refine lv_ifnonnull (tgt := 57) hx hb dX4_score_50 (by decide) ?_
        refine lv_aload_n hx hb dX4_score_57 rfl (lv_at hl 2 rfl) ?_
        refine x_get (ci := 6) (v := .ref (ad 5)) (C := RX4) (T := TX4) (N := 7) hx hb hts inX4 hown hK hX hc0 rfl 6 (by decide) lk_fieldLink_44 (fun _ h9 => h9) rfl dX4_score_58 ?_
        refine lv_aload_n hx hb dX4_score_61 rfl (lv_at hl 1 rfl) ?_
        refine lv_aload hx hb dX4_score_62 (lv_at hl 0 rfl) ?_
        refine lv_aload_n hx hb dX4_score_64 rfl (lv_at hl 2 rfl) ?_
        refine x_get (ci := 6) (v := .ref (ad 2)) (C := RX4) (T := TX4) (N := 7) hx hb hts inX4 hown hK hX hc0 rfl 2 (by decide) lk_fieldLink_21 (fun _ h9 => h9) rfl dX4_score_65 ?_
        have hij : a ≠ b := fun q => by rw [q] at hsa; exact absurd (hsa.symm.trans hsb) (by decide)
        refine x_callv (x_runV (q := (RX0, TX0, 2)) (As := [.ref (ad (100 + 3 * a)), .ref (ad (100 + 3 * b)), .ref (ad 2)]) (rest := []) ⟨hx, hb, hml, hown, hts⟩ (ctX0_measure l G A M hc5 hn0i hn1i hn2i (htk a ha).1 hn0j hn1j hn2j (htk b hb9).1 (htk a ha).2 (htk b hb9).2 hc2 (by omega) (by omega) (by omega) (by omega) (by omega) (by omega) (by omega)) (cwV 3 hts gX4_score_X0_measure rfl rfl rfl (by decide +kernel) ⟨Nat.le_of_ble_eq_true rfl, Nat.le_of_ble_eq_true rfl⟩) hK hA hX hS hc5 rfl rfl hl.1 rfl (lv_room (Nat.le_of_ble_eq_true rfl)) dX4_score_68 ⟨by decide, by decide⟩) hS (fun M_13 H locs hp hX hS => ?_)
        have hMm : M_13 = xu M 5 (ad 5, .inr (2, [.long (lN (cU tc dt fd ld tk kd wn a b)), .long (lN (cD tc dt tk kd wn a b))])) := hp
        have hc0 : M_13 0 = some (ad 0, .inr (6, [.ref (ad 1), .int (nI nc), .ref (ad 2), .ref (ad 3), .int (nI jc), .ref (ad 4), .ref (ad 5)])) := by rw [hMm, xu_n (by omega)]; exact hc0
        have hc1 : M_13 1 = some (ad 1, .inl (G.2 3, 50, .inr (.inr (.inr (.inr (fun k => if k < nc then some (ad (100 + 3 * k)) else none)))))) := by rw [hMm, xu_n (by omega)]; exact hc1
        have hc2 : M_13 2 = some (ad 2, .inl (G.2 1, 4, .inr (.inl (fun k => lN (wn k))))) := by rw [hMm, xu_n (by omega)]; exact hc2
        have hc3 : M_13 3 = some (ad 3, .inl (G.2 4, 100, .inr (.inr (.inr (.inr (fun k => if k < jc then some (ad (300 + k)) else none)))))) := by rw [hMm, xu_n (by omega)]; exact hc3
        have hcL : M_13 4 = some (ad 4, .inr (4, [.int bg, .int (nI cn), .ref (ad 6), .ref (ad 7), .ref (ad 8), .ref (ad 9), .ref (ad 10), .ref (ad 11), .ref (ad 12)])) := by rw [hMm, xu_n (by omega)]; exact hcL
        have hc6 : M_13 6 = some (ad 6, .inl (G.2 0, 625, .inl (fun k => nI (zs k)))) := by rw [hMm, xu_n (by omega)]; exact hc6
        have hc7 : M_13 7 = some (ad 7, .inl (G.2 0, 625, .inl (fun k => nI (os k)))) := by rw [hMm, xu_n (by omega)]; exact hc7
        have hc8 : M_13 8 = some (ad 8, .inl (G.2 1, 625, .inr (.inl (fun k => lN (ab k))))) := by rw [hMm, xu_n (by omega)]; exact hc8
        have hc9 : M_13 9 = some (ad 9, .inl (G.2 1, 625, .inr (.inl (fun k => lN (bl k))))) := by rw [hMm, xu_n (by omega)]; exact hc9
        have hc10 : M_13 10 = some (ad 10, .inl (G.2 0, 625, .inl (fun k => nI (od k)))) := by rw [hMm, xu_n (by omega)]; exact hc10
        have hc11 : M_13 11 = some (ad 11, .inl (G.2 0, 625, .inl (fun k => nI (sp k)))) := by rw [hMm, xu_n (by omega)]; exact hc11
        have hc12 : M_13 12 = some (ad 12, .inl (G.2 2, 51, .inl (fun k => nI (pr k)))) := by rw [hMm, xu_n (by omega)]; exact hc12
        have hn0i : M_13 (100 + 3 * a) = some (ad (100 + 3 * a), .inr (5, [.int (sd a), .int (jn a), .ref (ad (100 + 3 * a + 1)), .ref (ad (100 + 3 * a + 2)), .int (nI (tc a)), .int (dt a), .long (fd a), .long (ld a)])) := by rw [hMm, xu_n (by omega)]; exact hn0i
        have hn1i : M_13 (100 + 3 * a + 1) = some (ad (100 + 3 * a + 1), .inl (G.2 0, 8, .inl (tk a))) := by rw [hMm, xu_n (by omega)]; exact hn1i
        have hn2i : M_13 (100 + 3 * a + 2) = some (ad (100 + 3 * a + 2), .inl (G.2 0, 8, .inl (kd a))) := by rw [hMm, xu_n (by omega)]; exact hn2i
        have hn0j : M_13 (100 + 3 * b) = some (ad (100 + 3 * b), .inr (5, [.int (sd b), .int (jn b), .ref (ad (100 + 3 * b + 1)), .ref (ad (100 + 3 * b + 2)), .int (nI (tc b)), .int (dt b), .long (fd b), .long (ld b)])) := by rw [hMm, xu_n (by omega)]; exact hn0j
        have hn1j : M_13 (100 + 3 * b + 1) = some (ad (100 + 3 * b + 1), .inl (G.2 0, 8, .inl (tk b))) := by rw [hMm, xu_n (by omega)]; exact hn1j
        have hn2j : M_13 (100 + 3 * b + 2) = some (ad (100 + 3 * b + 2), .inl (G.2 0, 8, .inl (kd b))) := by rw [hMm, xu_n (by omega)]; exact hn2j
        have hc5 : M_13 5 = some (ad 5, .inr (2, [.long (lN (cU tc dt fd ld tk kd wn a b)), .long (lN (cD tc dt tk kd wn a b))])) := by rw [hMm]; exact xu_s
        have hRm : xRec G M_13 ad nc sd jn tc dt fd ld tk kd wn jc jz jo ju bg cn zs os ab bl od sp pr (lN (cU tc dt fd ld tk kd wn a b)) (lN (cD tc dt tk kd wn a b)) := by rw [hMm]; exact xRec_frac hRR
        have hfm : ∀ t, 500 ≤ t → M_13 t = M t := fun t ht => by rw [hMm, xu_n (by omega)]
        have hbU := cU_le (dt := dt) (fd := fd) (ld := ld) (tk := tk) (kd := kd) (j := b) hwn (htk a ha).1
        have hbD := cD_le (dt := dt) (tk := tk) (kd := kd) hwn (htk a ha).1 (htk b hb9).1
        refine lv_aload_n hx hb dX4_score_71 rfl (lv_at hl 2 rfl) ?_
        refine x_get (ci := 6) (v := .ref (ad 5)) (C := RX4) (T := TX4) (N := 7) hx hb hts inX4 hown hK hX hc0 rfl 6 (by decide) lk_fieldLink_44 (fun _ h9 => h9) rfl dX4_score_72 ?_
        refine x_calli (x_runV (q := (RX0, TX0, 2)) (As := []) (rest := []) ⟨hx, hb, hml, hown, hts⟩ (ctX0_exists l G A M_13 hc5 hbU hbD) (cwV 0 hts gX4_score_X0_exists rfl rfl rfl (by decide +kernel) ⟨Nat.le_of_ble_eq_true rfl, Nat.le_of_ble_eq_true rfl⟩) hK hA hX hS hc5 rfl rfl hl.1 rfl (lv_room (Nat.le_of_ble_eq_true rfl)) dX4_score_75 ⟨by decide, by decide⟩) hS (fun r_14 M_15 H locs hp hX hS => ?_)
        obtain ⟨hM_, er_14⟩ := hp
        rw [hM_] at hX
        refine lv_if_ne (tgt := 91) hx hb dX4_score_78 (by decide) (fun c_16 => ?_) (fun c_16 => ?_)
        · have hex := x_if1 er_14 c_16
          refine lv_aload_n hx hb dX4_score_91 rfl (lv_at hl 2 rfl) ?_
          refine x_get (ci := 6) (v := .ref (ad 5)) (C := RX4) (T := TX4) (N := 7) hx hb hts inX4 hown hK hX hc0 rfl 6 (by decide) lk_fieldLink_44 (fun _ h9 => h9) rfl dX4_score_92 ?_
          refine x_callv (x_runV (q := (RX0, TX0, 2)) (As := []) (rest := []) ⟨hx, hb, hml, hown, hts⟩ (ctX0_reduce l G A M_13 hc5 hbU hbD hex) (cwV 0 hts gX4_score_X0_reduce rfl rfl rfl (by decide +kernel) ⟨Nat.le_of_ble_eq_true rfl, Nat.le_of_ble_eq_true rfl⟩) hK hA hX hS hc5 rfl rfl hl.1 rfl (lv_room (Nat.le_of_ble_eq_true rfl)) dX4_score_95 ⟨by decide, by decide⟩) hS (fun M_18 H locs hp hX hS => ?_)
          have hMr := hp
          have hc0 : M_18 0 = some (ad 0, .inr (6, [.ref (ad 1), .int (nI nc), .ref (ad 2), .ref (ad 3), .int (nI jc), .ref (ad 4), .ref (ad 5)])) := by rw [hMr, xu_n (by omega)]; exact hc0
          have hc1 : M_18 1 = some (ad 1, .inl (G.2 3, 50, .inr (.inr (.inr (.inr (fun k => if k < nc then some (ad (100 + 3 * k)) else none)))))) := by rw [hMr, xu_n (by omega)]; exact hc1
          have hc2 : M_18 2 = some (ad 2, .inl (G.2 1, 4, .inr (.inl (fun k => lN (wn k))))) := by rw [hMr, xu_n (by omega)]; exact hc2
          have hc3 : M_18 3 = some (ad 3, .inl (G.2 4, 100, .inr (.inr (.inr (.inr (fun k => if k < jc then some (ad (300 + k)) else none)))))) := by rw [hMr, xu_n (by omega)]; exact hc3
          have hcL : M_18 4 = some (ad 4, .inr (4, [.int bg, .int (nI cn), .ref (ad 6), .ref (ad 7), .ref (ad 8), .ref (ad 9), .ref (ad 10), .ref (ad 11), .ref (ad 12)])) := by rw [hMr, xu_n (by omega)]; exact hcL
          have hc6 : M_18 6 = some (ad 6, .inl (G.2 0, 625, .inl (fun k => nI (zs k)))) := by rw [hMr, xu_n (by omega)]; exact hc6
          have hc7 : M_18 7 = some (ad 7, .inl (G.2 0, 625, .inl (fun k => nI (os k)))) := by rw [hMr, xu_n (by omega)]; exact hc7
          have hc8 : M_18 8 = some (ad 8, .inl (G.2 1, 625, .inr (.inl (fun k => lN (ab k))))) := by rw [hMr, xu_n (by omega)]; exact hc8
          have hc9 : M_18 9 = some (ad 9, .inl (G.2 1, 625, .inr (.inl (fun k => lN (bl k))))) := by rw [hMr, xu_n (by omega)]; exact hc9
          have hc10 : M_18 10 = some (ad 10, .inl (G.2 0, 625, .inl (fun k => nI (od k)))) := by rw [hMr, xu_n (by omega)]; exact hc10
          have hc11 : M_18 11 = some (ad 11, .inl (G.2 0, 625, .inl (fun k => nI (sp k)))) := by rw [hMr, xu_n (by omega)]; exact hc11
          have hc12 : M_18 12 = some (ad 12, .inl (G.2 2, 51, .inl (fun k => nI (pr k)))) := by rw [hMr, xu_n (by omega)]; exact hc12
          have hn0i : M_18 (100 + 3 * a) = some (ad (100 + 3 * a), .inr (5, [.int (sd a), .int (jn a), .ref (ad (100 + 3 * a + 1)), .ref (ad (100 + 3 * a + 2)), .int (nI (tc a)), .int (dt a), .long (fd a), .long (ld a)])) := by rw [hMr, xu_n (by omega)]; exact hn0i
          have hn1i : M_18 (100 + 3 * a + 1) = some (ad (100 + 3 * a + 1), .inl (G.2 0, 8, .inl (tk a))) := by rw [hMr, xu_n (by omega)]; exact hn1i
          have hn2i : M_18 (100 + 3 * a + 2) = some (ad (100 + 3 * a + 2), .inl (G.2 0, 8, .inl (kd a))) := by rw [hMr, xu_n (by omega)]; exact hn2i
          have hn0j : M_18 (100 + 3 * b) = some (ad (100 + 3 * b), .inr (5, [.int (sd b), .int (jn b), .ref (ad (100 + 3 * b + 1)), .ref (ad (100 + 3 * b + 2)), .int (nI (tc b)), .int (dt b), .long (fd b), .long (ld b)])) := by rw [hMr, xu_n (by omega)]; exact hn0j
          have hn1j : M_18 (100 + 3 * b + 1) = some (ad (100 + 3 * b + 1), .inl (G.2 0, 8, .inl (tk b))) := by rw [hMr, xu_n (by omega)]; exact hn1j
          have hn2j : M_18 (100 + 3 * b + 2) = some (ad (100 + 3 * b + 2), .inl (G.2 0, 8, .inl (kd b))) := by rw [hMr, xu_n (by omega)]; exact hn2j
          have hc5 : M_18 5 = some (ad 5, .inr (2, [.long (lN (cU tc dt fd ld tk kd wn a b / Nat.gcd (cU tc dt fd ld tk kd wn a b) (cD tc dt tk kd wn a b))), .long (lN (cD tc dt tk kd wn a b / Nat.gcd (cU tc dt fd ld tk kd wn a b) (cD tc dt tk kd wn a b)))])) := by rw [hMr]; exact xu_s
          have hRr : xRec G M_18 ad nc sd jn tc dt fd ld tk kd wn jc jz jo ju bg cn zs os ab bl od sp pr (lN (cU tc dt fd ld tk kd wn a b / Nat.gcd (cU tc dt fd ld tk kd wn a b) (cD tc dt tk kd wn a b))) (lN (cD tc dt tk kd wn a b / Nat.gcd (cU tc dt fd ld tk kd wn a b) (cD tc dt tk kd wn a b))) := by rw [hMr]; exact xRec_frac hRm
          have hfr : ∀ t, 500 ≤ t → M_18 t = M t := fun t ht => by rw [hMr, xu_n (by omega)]; exact hfm t ht
          refine lv_iload_n hx hb dX4_score_98 rfl (lv_at hl 4 rfl) ?_
          refine lv_if_ne (tgt := 112) hx hb dX4_score_99 (by decide) (fun c_19 => ?_) (fun c_19 => ?_)
          · refine lv_aload_n hx hb dX4_score_112 rfl (lv_at hl 2 rfl) ?_
            refine x_get (ci := 6) (v := .ref (ad 5)) (C := RX4) (T := TX4) (N := 7) hx hb hts inX4 hown hK hX hc0 rfl 6 (by decide) lk_fieldLink_44 (fun _ h9 => h9) rfl dX4_score_113 ?_
            refine x_get (ci := 2) (v := .long (lN (cD tc dt tk kd wn a b / Nat.gcd (cU tc dt fd ld tk kd wn a b) (cD tc dt tk kd wn a b)))) (C := RX0) (T := TX0) (N := 2) hx hb hts inX0 hown hK hX hc5 rfl 1 (by decide) lk_fieldLink_119 (fun _ h9 => h9) rfl dX4_score_116 ?_
            refine W.widen (k := 1) (n := 6) (by omega) (by omega) ?_
            exact vx_ret (x_lret hx hb hr hlocks hK hA hX hS dX4_score_119 (⟨Or.inl ⟨i, a, b, ⟨hi, rfl, ha, hb9, eza, eob⟩, hex, by rw [if_neg c_19]⟩, _, _, hRr, hfr⟩))
          · refine lv_aload_n hx hb dX4_score_102 rfl (lv_at hl 2 rfl) ?_
            refine x_get (ci := 6) (v := .ref (ad 5)) (C := RX4) (T := TX4) (N := 7) hx hb hts inX4 hown hK hX hc0 rfl 6 (by decide) lk_fieldLink_44 (fun _ h9 => h9) rfl dX4_score_103 ?_
            refine x_get (ci := 2) (v := .long (lN (cU tc dt fd ld tk kd wn a b / Nat.gcd (cU tc dt fd ld tk kd wn a b) (cD tc dt tk kd wn a b)))) (C := RX0) (T := TX0) (N := 2) hx hb hts inX0 hown hK hX hc5 rfl 0 (by decide) lk_fieldLink_115 (fun _ h9 => h9) rfl dX4_score_106 ?_
            refine lv_goto (tgt := 119) hx hb dX4_score_109 (by decide) ?_
            refine W.widen (k := 1) (n := 6) (by omega) (by omega) ?_
            exact vx_ret (x_lret hx hb hr hlocks hK hA hX hS dX4_score_119 (⟨Or.inl ⟨i, a, b, ⟨hi, rfl, ha, hb9, eza, eob⟩, hex, by rw [if_pos c_19]⟩, _, _, hRr, hfr⟩))
        · have hex := x_if0 er_14 c_16
          exact vx_throwS (own := RX4) (cls := "java/lang/ArithmeticException") (text := "no score now") (names := ["java/lang/RuntimeException", "java/lang/Exception"]) hx hb hst hown (by decide +kernel) (by decide +kernel) lk_classLink_105 (hts (.initialized "java/lang/ArithmeticException") (by decide +kernel)) hT.2.2.1 (x_tu thA_k hT.1) (by decide +kernel) hT.2.2.2.2.1 hT.2.2.2.2.2 hS (hl.1.trans hml.symm) dX4_score_81 dX4_score_84 dX4_score_85 dX4_score_87 dX4_score_90 (fun x hx9 => (hnt x hx9).elim) (Nat.le_of_ble_eq_true rfl) (Nat.le_of_ble_eq_true rfl) (Nat.le_of_ble_eq_true rfl) (Nat.le_of_ble_eq_true rfl) hlocks (x_thx hK hA hX hS (⟨⟨i, a, b, ⟨hi, rfl, ha, hb9, eza, eob⟩, by omega⟩, _, _, hRm, hfm⟩)) hS.2.2 (Nat.le_of_ble_eq_true rfl) (Nat.le_of_ble_eq_true rfl)
      · exact absurd ep (fun q => q.elim (fun z => by have := (nI_ltI (by omega) (by omega)).mp z; omega) (fun z => z ((nI_leI (by omega) (by omega)).mpr (by omega))))
    · exact absurd ep (fun q => q.elim (fun z => by have := (nI_ltI (by omega) (by omega)).mp z; omega) (fun z => z ((nI_leI (by omega) (by omega)).mpr (by omega))))
  · have hh := x_if0 er_1 c_3
    refine lv_ldc2 (v := (-1)) hx hb hown lk_constantLong_95 dX4_score_11 ?_
    refine W.widen (k := 1) (n := 6) (by omega) (by omega) ?_
    exact vx_ret (x_lret hx hb hr hlocks hK hA hX hS dX4_score_14 (⟨Or.inr ⟨hh, rfl⟩, fa, fb, hRR, fun _ _ => rfl⟩))
