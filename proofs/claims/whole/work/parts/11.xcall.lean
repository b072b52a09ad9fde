/-! contracts, calls and returns over the world of tags -/
abbrev xG : Type := va_G × (Nat → ClassId)
def xT (G : xG) : List (ClassId × FieldType) := [(G.2 0, .int), (G.2 1, .long), (G.2 2, .boolean), (G.2 3, .object RX3), (G.2 4, .object RX1)]
def xPc (G : xG) (A : Nat → Prop) (M : xM) (U : State) : Prop := va_K G.1 vwCl (xT G) U ∧ (∀ q, U.heap.size ≤ q → A q) ∧ xw G.1 vwCl A M U.heap
theorem x_blind {av : List Value} {G : xG} {A : Nat → Prop} {M : xM} : FrameBlind (va_Pc av (xPc G A M)) := fun a U g mk q => ⟨q.1, va_K.moved (u := U) (U := U.calling g mk a) (Vm.Alike.refl U.vm) q.2.1, q.2.2.1, q.2.2.2⟩
section XC
variable {p : Program} {l : Launch} {e : Env} {R : Room} {s : State} {m : MethodId} {args : Array Value} {below : List Frame} {meth : Method} {c : Code} {H : Heap} {locs : List Loc} {cells slots : Nat} {Q : State → Prop}
variable {cc : ByteArray} {pc : Nat} {ls : Array Slot} {rest : List Value} {A : Nat → Prop} {M : xM} {G : xG} {H0 : Heap}
variable {Ts ws ws' : List Cond} {nL maxL index n mc ms : Nat} {own C : String} {y : MethodName} {bytes : ByteArray} {ret : Option FieldType} {rm : Room} {Qc : Array Value → State → Outcome → State → Prop} {b : Nat} {As : List Value} {st : List Value} {a : Array Value}
theorem x_pre {av : List Value} (hK : va_K G.1 vwCl (xT G) s) (hA : ∀ q, s.heap.size ≤ q → A q) (hX : xw G.1 vwCl A M H) (hS : va_S A s.heap H locs) : ∀ U : State, U.heap = H → s.WarmedH U.vm → va_Pc av (xPc G A M) av.toArray U :=
  fun U hU hW => ⟨rfl, va_K.moved hW.alike hK, by rw [hU]; exact fun q h => hA q (Nat.le_trans hS.1 h), by rw [hU]; exact hX⟩
theorem x_recv (hK : va_K G.1 vwCl (xT G) s) (hX : xw G.1 vwCl A M H) {t ci : Nat} {fs : List Value} {q : vw_C} (he : M t = some (b, .inr (ci, fs))) (hc : vwCl[ci]? = some q) : ∃ cell : Cell, H[b]? = some cell ∧ cell.vm.isStatics = false ∧ s.vm.findClass q.1 = some cell.cls := by
  obtain ⟨ws, hP, -, h3, -⟩ := hX
  obtain ⟨k, hk⟩ := h3 t _ he
  exact va_recv hK hP hc hk
theorem x_runV (S : CallFix p m c cc nL s args Ts own) (hM : Met l y ws rm (va_Pc (.ref b :: As) (xPc G A M)) Qc mc ms A) {q : vw_C} (cw : CallW R s args own q.1 index y bytes maxL ret ws rm mc ms n) (hK : va_K G.1 vwCl (xT G) s) (hA : ∀ q, s.heap.size ≤ q → A q) (hX : xw G.1 vwCl A M H) (hS : va_S A s.heap H locs) {t ci : Nat} {fs : List Value} (he : M t = some (b, .inr (ci, fs))) (hc : vwCl[ci]? = some q)
    (hn : As.length = n) (hsize : ls.size = nL) (hstack : st = As.reverse ++ .ref b :: rest) (hW : 2 * (F0 m pc ls st).monitorRoom + (rest.map fun v => v.category).sum ≤ 8) (hdg : decode cc pc = .ok (.invokevirtual index, 3)) (hf : cells + mc ≤ R.cells ∧ slots + ms ≤ R.slots) :
    va_Run p l e R s m args below meth c H locs cells slots mc ms (F0 m pc ls st) rest (Qc (Value.ref b :: As).toArray) A :=
  va_runV S hM cw ⟨x_blind, x_recv hK hX he hc, x_pre hK hA hX hS⟩ rfl hn hsize hstack hW hdg hf
theorem x_runS (S : CallFix p m c cc nL s args Ts own) (hM : Met l y ws rm (va_Pc As (xPc G A M)) Qc mc ms A) (cw : CallB R s args own index y bytes maxL ret ws rm mc ms n ∧ (Cond.static y).before args s = true) (hK : va_K G.1 vwCl (xT G) s) (hA : ∀ q, s.heap.size ≤ q → A q) (hX : xw G.1 vwCl A M H) (hS : va_S A s.heap H locs)
    (hn : As.length = n) (hsize : ls.size = nL) (hstack : st = As.reverse ++ rest) (hW : 2 * (F0 m pc ls st).monitorRoom + (rest.map fun v => v.category).sum ≤ 8) (hdg : decode cc pc = .ok (.invokestatic index, 3)) (hf : cells + mc ≤ R.cells ∧ slots + ms ≤ R.slots) :
    va_Run p l e R s m args below meth c H locs cells slots mc ms (F0 m pc ls st) rest (Qc As.toArray) A :=
  va_runS S hM cw ⟨x_blind, x_pre hK hA hX hS⟩ rfl hn hsize hstack hW hdg hf
theorem x_runI (S : CallFix p m c cc nL s args Ts own) (hM : Met l y ws rm (va_Pc (.ref b :: As) (xPc G A M)) Qc mc ms A) (cw : CallB R s args own index y bytes maxL none ws rm mc ms n ∧ y.name = "<init>" ∧ (Cond.instanceMethod y).before args s = true) (hK : va_K G.1 vwCl (xT G) s) (hA : ∀ q, s.heap.size ≤ q → A q) (hX : xw G.1 vwCl A M H) (hS : va_S A s.heap H locs)
    (hn : As.length = n) (hsize : ls.size = nL) (hstack : st = As.reverse ++ .ref b :: rest) (hW : 2 * (F0 m pc ls st).monitorRoom + (rest.map fun v => v.category).sum ≤ 8) (hdg : decode cc pc = .ok (.invokespecial index, 3)) (hf : cells + mc ≤ R.cells ∧ slots + ms ≤ R.slots) :
    va_Run p l e R s m args below meth c H locs cells slots mc ms (F0 m pc ls st) rest (Qc (Value.ref b :: As).toArray) A :=
  va_runI S hM cw ⟨x_blind, x_pre hK hA hX hS⟩ rfl hn hsize hstack hW hdg hf
theorem x_calli {post : Int32 → xM → Prop} (hr : va_Run p l e R s m args below meth c H locs cells slots mc ms (F0 m pc ls st) rest (va_Qi post (xPc G A) A a) A) (hS : va_S A H0 H locs)
    (kk : ∀ (r : Int32) (M1 : xM) (H1 : Heap) (locs1 : List Loc), post r M1 → xw G.1 vwCl A M1 H1 → va_S A H0 H1 locs1 → W p l e R s m args below meth c H1 locs1 (cells + mc) (slots + ms) Q (F0 m (pc + 3) ls (.int r :: rest))) : W p l e R s m args below meth c H locs cells slots Q (F0 m pc ls st) :=
  va_calli hr hS (fun _ _ h => h) (fun _ h => h) (fun r u t H1 locs1 ht _ hw hB _ _ hS1 => kk r u H1 locs1 hw (by rw [← ht]; exact hB.2.2) hS1)
theorem x_calll {post : Int64 → xM → Prop} (hr : va_Run p l e R s m args below meth c H locs cells slots mc ms (F0 m pc ls st) rest (va_Ql post (xPc G A) A a) A) (hS : va_S A H0 H locs)
    (kk : ∀ (r : Int64) (M1 : xM) (H1 : Heap) (locs1 : List Loc), post r M1 → xw G.1 vwCl A M1 H1 → va_S A H0 H1 locs1 → W p l e R s m args below meth c H1 locs1 (cells + mc) (slots + ms) Q (F0 m (pc + 3) ls (.long r :: rest))) : W p l e R s m args below meth c H locs cells slots Q (F0 m pc ls st) :=
  va_calll hr hS (fun _ _ h => h) (fun _ h => h) (fun r u t H1 locs1 ht _ hw hB _ _ hS1 => kk r u H1 locs1 hw (by rw [← ht]; exact hB.2.2) hS1)
theorem x_callv {post : xM → Prop} (hr : va_Run p l e R s m args below meth c H locs cells slots mc ms (F0 m pc ls st) rest (va_Qv post (xPc G A) A a) A) (hS : va_S A H0 H locs)
    (kk : ∀ (M1 : xM) (H1 : Heap) (locs1 : List Loc), post M1 → xw G.1 vwCl A M1 H1 → va_S A H0 H1 locs1 → W p l e R s m args below meth c H1 locs1 (cells + mc) (slots + ms) Q (F0 m (pc + 3) ls rest)) : W p l e R s m args below meth c H locs cells slots Q (F0 m pc ls st) :=
  va_callv hr hS (fun _ _ h => h) (fun _ h => h) (fun u t H1 locs1 ht _ hw hB _ _ hS1 => kk u H1 locs1 hw (by rw [← ht]; exact hB.2.2) hS1)
theorem x_callq {post : Option Nat → xM → Prop} (hr : va_Run p l e R s m args below meth c H locs cells slots mc ms (F0 m pc ls st) rest (va_Qq post (xPc G A) A a) A) (hS : va_S A H0 H locs)
    (kk : ∀ (r : Option Nat) (M1 : xM) (H1 : Heap) (locs1 : List Loc), post r M1 → xw G.1 vwCl A M1 H1 → va_S A H0 H1 locs1 → W p l e R s m args below meth c H1 locs1 (cells + mc) (slots + ms) Q (F0 m (pc + 3) ls (va_rf r :: rest))) : W p l e R s m args below meth c H locs cells slots Q (F0 m pc ls st) :=
  va_callq hr hS (fun _ _ h => h) (fun _ h => h) (fun r u t H1 locs1 ht _ hw hB _ _ hS1 => kk r u H1 locs1 hw (by rw [← ht]; exact hB.2.2) hS1)
theorem x_end (hK : va_K G.1 vwCl (xT G) s) (hA : ∀ q, s.heap.size ≤ q → A q) (hX : xw G.1 vwCl A M H) (hS : va_S A s.heap H locs) {t : State} (ht : t.heap = H) (hW : s.WarmedH t.vm) : xPc G A M t :=
  ⟨va_K.moved hW.alike hK, by rw [ht]; exact fun q h => hA q (Nat.le_trans hS.1 h), by rw [ht]; exact hX⟩
theorem x_iret {post : Int32 → xM → Prop} {v : Int32} (hx : p.tables.exec = Jvm.exec) (hb : c.code = cc) (hr : meth.sig.returnType = some .int) (hlocks : meth.locks = false) (hK : va_K G.1 vwCl (xT G) s) (hA : ∀ q, s.heap.size ≤ q → A q) (hX : xw G.1 vwCl A M H) (hS : va_S A s.heap H locs) (hdg : decode cc pc = .ok (.ireturn, 1)) (hp : post v M) :
    W p l e R s m args below meth c H locs cells slots (MQ below (va_Qi post (xPc G A) A) args s cells slots A) (F0 m pc ls [.int v]) :=
  W.iret hx hb hr (fun _ ht hW => ⟨⟨v, M, rfl, hp, x_end hK hA hX hS ht hW⟩, hS.F ht⟩) hS.2.2 hdg hlocks
theorem x_zret {post : Int32 → xM → Prop} {v : Int32} (hx : p.tables.exec = Jvm.exec) (hb : c.code = cc) (hr : meth.sig.returnType = some .boolean) (hlocks : meth.locks = false) (hK : va_K G.1 vwCl (xT G) s) (hA : ∀ q, s.heap.size ≤ q → A q) (hX : xw G.1 vwCl A M H) (hS : va_S A s.heap H locs) (hdg : decode cc pc = .ok (.ireturn, 1)) (hn : narrow .boolean (.int v) = .int v) (hp : post v M) :
    W p l e R s m args below meth c H locs cells slots (MQ below (va_Qi post (xPc G A) A) args s cells slots A) (F0 m pc ls [.int v]) :=
  W.zret hx hb hr hn (fun _ ht hW => ⟨⟨v, M, rfl, hp, x_end hK hA hX hS ht hW⟩, hS.F ht⟩) hS.2.2 hdg hlocks
theorem x_lret {post : Int64 → xM → Prop} {v : Int64} (hx : p.tables.exec = Jvm.exec) (hb : c.code = cc) (hr : meth.sig.returnType = some .long) (hlocks : meth.locks = false) (hK : va_K G.1 vwCl (xT G) s) (hA : ∀ q, s.heap.size ≤ q → A q) (hX : xw G.1 vwCl A M H) (hS : va_S A s.heap H locs) (hdg : decode cc pc = .ok (.lreturn, 1)) (hp : post v M) :
    W p l e R s m args below meth c H locs cells slots (MQ below (va_Ql post (xPc G A) A) args s cells slots A) (F0 m pc ls [.long v]) :=
  W.lret hx hb hr (fun _ ht hW => ⟨⟨v, M, rfl, hp, x_end hK hA hX hS ht hW⟩, hS.F ht⟩) hS.2.2 hdg hlocks
theorem x_vret {post : xM → Prop} (hx : p.tables.exec = Jvm.exec) (hb : c.code = cc) (hr : meth.sig.returnType = none) (hlocks : meth.locks = false) (hK : va_K G.1 vwCl (xT G) s) (hA : ∀ q, s.heap.size ≤ q → A q) (hX : xw G.1 vwCl A M H) (hS : va_S A s.heap H locs) (hdg : decode cc pc = .ok (.return_, 1)) (hp : post M) :
    W p l e R s m args below meth c H locs cells slots (MQ below (va_Qv post (xPc G A) A) args s cells slots A) (F0 m pc ls []) :=
  W.vret hx hb hr (fun _ ht hW => ⟨⟨M, rfl, hp, x_end hK hA hX hS ht hW⟩, hS.F ht⟩) hS.2.2 hdg hlocks
theorem x_aret {post : Option Nat → xM → Prop} {C : String} {r : Option Nat} {v : Value} (hv : v = va_rf r) (hx : p.tables.exec = Jvm.exec) (hb : c.code = cc) (hr : meth.sig.returnType = some (.object C)) (hlocks : meth.locks = false) (hK : va_K G.1 vwCl (xT G) s) (hA : ∀ q, s.heap.size ≤ q → A q) (hX : xw G.1 vwCl A M H) (hS : va_S A s.heap H locs) (hdg : decode cc pc = .ok (.areturn, 1)) (hp : post r M) :
    W p l e R s m args below meth c H locs cells slots (MQ below (va_Qq post (xPc G A) A) args s cells slots A) (F0 m pc ls [v]) := by
  subst hv
  exact W.aret hx hb hr (Or.inl ⟨_, rfl⟩) (by cases r with | none => exact Or.inl rfl | some a => exact Or.inr ⟨a, rfl⟩) (fun _ ht hW => ⟨⟨r, M, rfl, hp, x_end hK hA hX hS ht hW⟩, hS.F ht⟩) hS.2.2 hdg hlocks
theorem x_ri {x y : Int32} (h : x = y) (k : W p l e R s m args below meth c H locs cells slots Q (F0 m pc ls (.int y :: rest))) : W p l e R s m args below meth c H locs cells slots Q (F0 m pc ls (.int x :: rest)) := h ▸ k
theorem x_rl {x y : Int64} (h : x = y) (k : W p l e R s m args below meth c H locs cells slots Q (F0 m pc ls (.long y :: rest))) : W p l e R s m args below meth c H locs cells slots Q (F0 m pc ls (.long x :: rest)) := h ▸ k
theorem x_rv {x y : Value} (h : x = y) (k : W p l e R s m args below meth c H locs cells slots Q (F0 m pc ls (y :: rest))) : W p l e R s m args below meth c H locs cells slots Q (F0 m pc ls (x :: rest)) := h ▸ k
theorem x_iN (hx : p.tables.exec = Jvm.exec) (hb : c.code = cc) (hK : va_K G.1 vwCl (xT G) s) (hX : xw G.1 vwCl A M H) {t i n aa : Nat} {f : Nat → Int32} (ha : M t = some (aa, .inl (G.2 0, n, .inl f))) (hi : i < n) (hn : n < 2 ^ 31) (hdg : decode cc pc = .ok (.iaload, 1)) (kk : W p l e R s m args below meth c H locs cells slots Q (F0 m (pc + 1) ls (.int (f i) :: rest))) : W p l e R s m args below meth c H locs cells slots Q (F0 m pc ls (.int (nI i) :: .ref aa :: rest)) :=
  x_iald hx hb hK hX 0 ha rfl (vp_in_nI hi hn) hdg (by rw [nI_clamp (by omega)]; exact kk)
theorem x_lN (hx : p.tables.exec = Jvm.exec) (hb : c.code = cc) (hK : va_K G.1 vwCl (xT G) s) (hX : xw G.1 vwCl A M H) {t i n aa : Nat} {f : Nat → Int64} (ha : M t = some (aa, .inl (G.2 1, n, .inr (.inl f)))) (hi : i < n) (hn : n < 2 ^ 31) (hdg : decode cc pc = .ok (.laload, 1)) (kk : W p l e R s m args below meth c H locs cells slots Q (F0 m (pc + 1) ls (.long (f i) :: rest))) : W p l e R s m args below meth c H locs cells slots Q (F0 m pc ls (.int (nI i) :: .ref aa :: rest)) :=
  x_lald hx hb hK hX 1 ha rfl (vp_in_nI hi hn) hdg (by rw [nI_clamp (by omega)]; exact kk)
theorem x_zN (hx : p.tables.exec = Jvm.exec) (hb : c.code = cc) (hK : va_K G.1 vwCl (xT G) s) (hX : xw G.1 vwCl A M H) {t i n aa : Nat} {f : Nat → Int32} (ha : M t = some (aa, .inl (G.2 2, n, .inl f))) (hi : i < n) (hn : n < 2 ^ 31) (hdg : decode cc pc = .ok (.baload, 1)) (kk : W p l e R s m args below meth c H locs cells slots Q (F0 m (pc + 1) ls (.int (f i) :: rest))) : W p l e R s m args below meth c H locs cells slots Q (F0 m pc ls (.int (nI i) :: .ref aa :: rest)) :=
  x_zald hx hb hK hX 2 ha rfl (vp_in_nI hi hn) hdg (by rw [nI_clamp (by omega)]; exact kk)
theorem x_aN (hx : p.tables.exec = Jvm.exec) (hb : c.code = cc) (hK : va_K G.1 vwCl (xT G) s) (hX : xw G.1 vwCl A M H) {t i n aa : Nat} {f : Nat → Option Nat} (t0 : Nat) {C : String} {cA : ClassId} (ht : (xT G)[t0]? = some (cA, .object C)) (ha : M t = some (aa, .inl (cA, n, .inr (.inr (.inr (.inr f)))))) (hi : i < n) (hn : n < 2 ^ 31) (hdg : decode cc pc = .ok (.aaload, 1)) (kk : W p l e R s m args below meth c H locs cells slots Q (F0 m (pc + 1) ls (va_rf (f i) :: rest))) : W p l e R s m args below meth c H locs cells slots Q (F0 m pc ls (.int (nI i) :: .ref aa :: rest)) :=
  x_aald hx hb hK hX t0 ha ht (vp_in_nI hi hn) hdg (by rw [nI_clamp (by omega)]; exact kk)
theorem x_isN (hx : p.tables.exec = Jvm.exec) (hb : c.code = cc) (hK : va_K G.1 vwCl (xT G) s) (hX : xw G.1 vwCl A M H) (hS : va_S A H0 H locs) {t i n aa : Nat} {f : Nat → Int32} {x : Int32} (ha : M t = some (aa, .inl (G.2 0, n, .inl f))) (hi : i < n) (hn : n < 2 ^ 31) (hdg : decode cc pc = .ok (.iastore, 1)) (kk : ∀ (H1 : Heap) (locs1 : List Loc), xw G.1 vwCl A (xu M t (aa, .inl (G.2 0, n, .inl (upd f i x)))) H1 → va_S A H0 H1 locs1 → W p l e R s m args below meth c H1 locs1 cells slots Q (F0 m (pc + 1) ls rest)) : W p l e R s m args below meth c H locs cells slots Q (F0 m pc ls (.int x :: .int (nI i) :: .ref aa :: rest)) :=
  x_iast hx hb hK hX hS 0 ha rfl (vp_in_nI hi hn) hdg (by rw [nI_clamp (by omega)]; exact kk)
theorem x_lsN (hx : p.tables.exec = Jvm.exec) (hb : c.code = cc) (hK : va_K G.1 vwCl (xT G) s) (hX : xw G.1 vwCl A M H) (hS : va_S A H0 H locs) {t i n aa : Nat} {f : Nat → Int64} {x : Int64} (ha : M t = some (aa, .inl (G.2 1, n, .inr (.inl f)))) (hi : i < n) (hn : n < 2 ^ 31) (hdg : decode cc pc = .ok (.lastore, 1)) (kk : ∀ (H1 : Heap) (locs1 : List Loc), xw G.1 vwCl A (xu M t (aa, .inl (G.2 1, n, .inr (.inl (vp_updL f i x))))) H1 → va_S A H0 H1 locs1 → W p l e R s m args below meth c H1 locs1 cells slots Q (F0 m (pc + 1) ls rest)) : W p l e R s m args below meth c H locs cells slots Q (F0 m pc ls (.long x :: .int (nI i) :: .ref aa :: rest)) :=
  x_last hx hb hK hX hS 1 ha rfl (vp_in_nI hi hn) hdg (by rw [nI_clamp (by omega)]; exact kk)
theorem x_zsN (hx : p.tables.exec = Jvm.exec) (hb : c.code = cc) (hK : va_K G.1 vwCl (xT G) s) (hX : xw G.1 vwCl A M H) (hS : va_S A H0 H locs) {t i n aa : Nat} {f : Nat → Int32} {x x' : Int32} (hx' : vp_nar .boolean x = x') (ha : M t = some (aa, .inl (G.2 2, n, .inl f))) (hi : i < n) (hn : n < 2 ^ 31) (hdg : decode cc pc = .ok (.bastore, 1)) (kk : ∀ (H1 : Heap) (locs1 : List Loc), xw G.1 vwCl A (xu M t (aa, .inl (G.2 2, n, .inl (upd f i x')))) H1 → va_S A H0 H1 locs1 → W p l e R s m args below meth c H1 locs1 cells slots Q (F0 m (pc + 1) ls rest)) : W p l e R s m args below meth c H locs cells slots Q (F0 m pc ls (.int x :: .int (nI i) :: .ref aa :: rest)) :=
  x_zast hx hb hK hX hS 2 ha rfl (vp_in_nI hi hn) hdg (by rw [nI_clamp (by omega), hx']; exact kk)
theorem x_asN (hx : p.tables.exec = Jvm.exec) (hb : c.code = cc) (hK : va_K G.1 vwCl (xT G) s) (hX : xw G.1 vwCl A M H) (hS : va_S A H0 H locs) {t tv i n aa v ci : Nat} {f : Nat → Option Nat} {vs : List Value} {r : vw_C} {cA : ClassId} (t0 : Nat) (ht : (xT G)[t0]? = some (cA, .object r.1)) (ha : M t = some (aa, .inl (cA, n, .inr (.inr (.inr (.inr f)))))) (hv : M tv = some (v, .inr (ci, vs))) (hc : vwCl[ci]? = some r) (hi : i < n) (hn : n < 2 ^ 31) (hdg : decode cc pc = .ok (.aastore, 1)) (kk : ∀ (H1 : Heap) (locs1 : List Loc), xw G.1 vwCl A (xu M t (aa, .inl (cA, n, .inr (.inr (.inr (.inr (va_up f i (some v)))))))) H1 → va_S A H0 H1 locs1 → W p l e R s m args below meth c H1 locs1 cells slots Q (F0 m (pc + 1) ls rest)) : W p l e R s m args below meth c H locs cells slots Q (F0 m pc ls (.ref v :: .int (nI i) :: .ref aa :: rest)) :=
  x_aast hx hb hK hX hS t0 ci ha ht hv hc (vp_in_nI hi hn) hdg (by rw [nI_clamp (by omega)]; exact kk)
theorem x_met {av : List Value} {maxL : Nat} (own : String) (hy : plainName y.cls = true) (hw : ws = Cond.code y cc maxL ret :: ws') (hlen : (lg_sl av).length ≤ maxL) (hyo : y.cls = own)
    (body : ∀ (p : Program) (e : Env) (s : State) (m : MethodId) (below : List Frame) (meth : Method) (c : Code), p.tables.exec = Jvm.exec → c.code = cc → meth.sig.returnType = ret → (∀ w ∈ ws, w.before av.toArray s = true) → s.vm.findClass own = some m.cls → meth.locks = false → c.maxLocals = maxL → meth.name = y.name → va_K G.1 vwCl (xT G) s → (∀ q, s.heap.size ≤ q → A q) → xw G.1 vwCl A M s.heap → ∀ ls : Array Slot, lv_has ls maxL (lv_args 0 av) →
      W p l e rm s m av.toArray below meth c s.heap [] 0 0 (MQ below Qc av.toArray s mc ms A) (F0 m 0 ls [])) : Met l y ws rm (va_Pc av (xPc G A M)) Qc mc ms A := by
  refine Met.ofW (cc := cc) (maxL := maxL) (ret := ret) hy hw ?_
  intro p e s m args below meth c s₁ B hml hv
  obtain ⟨rfl, hK, hA, hX⟩ := hv
  have hl := lv_entry av (n := maxL) hlen
  rw [lg_entry_eq]
  exact body p e s m below meth c B.exec B.bytes B.returns (atoms_spec (ws := ws) B.pre) (by rw [← hyo]; exact findClass_of_methodNamed B.named) B.notSynchronized hml (name_of_methodNamed B.named B.method).1 hK hA hX _ hl
theorem x_uu {M : xM} {t : Nat} {x z : Nat × va_E} : xu (xu M t x) t z = xu M t z := by
  funext j
  by_cases h : j = t
  · subst h; rw [xu_s, xu_s]
  · rw [xu_n h, xu_n h, xu_n h]
theorem x_us {M : xM} {t : Nat} {x : Nat × va_E} (h : M t = some x) : xu M t x = M := by
  funext j
  by_cases hj : j = t
  · subst hj; rw [xu_s, h]
  · rw [xu_n hj]
end XC
