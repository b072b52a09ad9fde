section
-- ===== PART A: goes FIRST, ahead of the names: the tables' words, and 'selects' of the private methods out of them =====
/-- a private method of a class that the tables say can be made, by its rows of tables_1 -/
def lw_okq (q : MethodName × Nat) : Prop := (q.1.cls ≠ "java/lang/invoke/MethodHandle" ∧ q.1.cls ≠ "java/lang/invoke/VarHandle") ∧ Cond.instantiable q.1.cls q.2 ∈ tables_1 ∧ Cond.privateMethod q.1 ∈ tables_1 ∧ Cond.instanceMethod q.1 ∈ tables_1
theorem lw_p0 : lw_okq (⟨"Reconcile", "find", "(I)LReconcile$Name;"⟩, 7) := ⟨⟨by decide +kernel, by decide +kernel⟩, List.mem_of_getElem? (i := 17) (by decide +kernel), List.mem_of_getElem? (i := 151) (by decide +kernel), List.mem_of_getElem? (i := 152) (by decide +kernel)⟩
theorem lw_p1 : lw_okq (⟨"Reconcile$Name", "hasToken", "(II)Z"⟩, 8) := ⟨⟨by decide +kernel, by decide +kernel⟩, List.mem_of_getElem? (i := 113) (by decide +kernel), List.mem_of_getElem? (i := 159) (by decide +kernel), List.mem_of_getElem? (i := 160) (by decide +kernel)⟩
theorem lw_p2 : lw_okq (⟨"Reconcile", "listPairsOf", "(ILReconcile$Name;)V"⟩, 7) := ⟨⟨by decide +kernel, by decide +kernel⟩, List.mem_of_getElem? (i := 17) (by decide +kernel), List.mem_of_getElem? (i := 189) (by decide +kernel), List.mem_of_getElem? (i := 190) (by decide +kernel)⟩
theorem lw_p3 : lw_okq (⟨"Reconcile$Listing", "merge", "(III)V"⟩, 9) := ⟨⟨by decide +kernel, by decide +kernel⟩, List.mem_of_getElem? (i := 30) (by decide +kernel), List.mem_of_getElem? (i := 234) (by decide +kernel), List.mem_of_getElem? (i := 235) (by decide +kernel)⟩
theorem lw_p4 : lw_okq (⟨"Reconcile$Listing", "isGreater", "(II)Z"⟩, 9) := ⟨⟨by decide +kernel, by decide +kernel⟩, List.mem_of_getElem? (i := 30) (by decide +kernel), List.mem_of_getElem? (i := 238) (by decide +kernel), List.mem_of_getElem? (i := 239) (by decide +kernel)⟩
theorem lw_p5 : lw_okq (⟨"java/lang/Throwable", "fillInStackTrace", "(I)Ljava/lang/Throwable;"⟩, 6) := ⟨⟨by decide +kernel, by decide +kernel⟩, List.mem_of_getElem? (i := 357) (by decide +kernel), List.mem_of_getElem? (i := 355) (by decide +kernel), List.mem_of_getElem? (i := 356) (by decide +kernel)⟩
theorem lw_p6 : lw_okq (⟨"ReconcileModel", "isName", "(I)Z"⟩, 23) := ⟨⟨by decide +kernel, by decide +kernel⟩, List.mem_of_getElem? (i := 445) (by decide +kernel), List.mem_of_getElem? (i := 534) (by decide +kernel), List.mem_of_getElem? (i := 535) (by decide +kernel)⟩
theorem lw_p7 : lw_okq (⟨"ReconcileModel", "has", "(III)Z"⟩, 23) := ⟨⟨by decide +kernel, by decide +kernel⟩, List.mem_of_getElem? (i := 445) (by decide +kernel), List.mem_of_getElem? (i := 538) (by decide +kernel), List.mem_of_getElem? (i := 539) (by decide +kernel)⟩
theorem lw_p8 : lw_okq (⟨"ReconcileModel", "reckon", "(II)V"⟩, 23) := ⟨⟨by decide +kernel, by decide +kernel⟩, List.mem_of_getElem? (i := 445) (by decide +kernel), List.mem_of_getElem? (i := 556) (by decide +kernel), List.mem_of_getElem? (i := 557) (by decide +kernel)⟩
theorem lw_p9 : lw_okq (⟨"ReconcileModel", "isPair", "(I)Z"⟩, 23) := ⟨⟨by decide +kernel, by decide +kernel⟩, List.mem_of_getElem? (i := 445) (by decide +kernel), List.mem_of_getElem? (i := 565) (by decide +kernel), List.mem_of_getElem? (i := 566) (by decide +kernel)⟩
def lw_privs_1 : List (MethodName × Nat) := [(⟨"Reconcile", "find", "(I)LReconcile$Name;"⟩, 7), (⟨"Reconcile$Name", "hasToken", "(II)Z"⟩, 8), (⟨"Reconcile", "listPairsOf", "(ILReconcile$Name;)V"⟩, 7), (⟨"Reconcile$Listing", "merge", "(III)V"⟩, 9), (⟨"Reconcile$Listing", "isGreater", "(II)Z"⟩, 9), (⟨"java/lang/Throwable", "fillInStackTrace", "(I)Ljava/lang/Throwable;"⟩, 6), (⟨"ReconcileModel", "isName", "(I)Z"⟩, 23), (⟨"ReconcileModel", "has", "(III)Z"⟩, 23), (⟨"ReconcileModel", "reckon", "(II)V"⟩, 23), (⟨"ReconcileModel", "isPair", "(I)Z"⟩, 23)]
theorem lw_r1 : ∀ q ∈ lw_privs_1, lw_okq q := List.forall_mem_cons.mpr ⟨lw_p0, List.forall_mem_cons.mpr ⟨lw_p1, List.forall_mem_cons.mpr ⟨lw_p2, List.forall_mem_cons.mpr ⟨lw_p3, List.forall_mem_cons.mpr ⟨lw_p4, List.forall_mem_cons.mpr ⟨lw_p5, List.forall_mem_cons.mpr ⟨lw_p6, List.forall_mem_cons.mpr ⟨lw_p7, List.forall_mem_cons.mpr ⟨lw_p8, List.forall_mem_cons.mpr ⟨lw_p9, fun _ h => absurd h List.not_mem_nil⟩⟩⟩⟩⟩⟩⟩⟩⟩⟩
def lw_privs : List (MethodName × Nat) := lw_privs_1
def lw_tbl : List Cond := k2_sels lw_privs ++ tables_1
theorem lw_privs_ok : ∀ q ∈ lw_privs, lw_okq q := lw_r1
end
section
/-! ===== BEGIN words of one list among another's, by their places ===== -/
theorem goodIn_r {big : List Cond} (ws : List Cond) (ps : List Nat) (hp : ws = ps.filterMap (fun i => big[i]?)) (h : ws.all goodWord = true) : GoodIn big ws := by
  intro w hw
  have h1 := List.all_eq_true.mp h w hw
  rw [hp] at hw
  obtain ⟨i, -, hi⟩ := List.mem_filterMap.mp hw
  have hm : w ∈ big := by first | exact List.mem_of_getElem? hi | exact List.getElem?_mem hi
  exact ⟨hm, good_of_word h1⟩
theorem goodIn_app {big a b : List Cond} (ha : GoodIn big a) (hb : GoodIn big b) : GoodIn big (a ++ b) := fun w h => (List.mem_append.mp h).elim (ha w) (hb w)
theorem goodIn_ca {big a b : List Cond} {c : Cond} (ha : GoodIn big (c :: a)) (hb : GoodIn big b) : GoodIn big (c :: (a ++ b)) := fun w h => (List.mem_cons.mp h).elim (fun e => ha w (List.mem_cons.mpr (Or.inl e))) (fun h => (List.mem_append.mp h).elim (fun h => ha w (List.mem_cons.mpr (Or.inr h))) (hb w))
theorem goodIn_sub {big ws : List Cond} (hm : ∀ w ∈ ws, w ∈ big) (h : ws.all goodWord = true) : GoodIn big ws := fun w hw => ⟨hm w hw, good_of_word (List.all_eq_true.mp h w hw)⟩
/-! ===== END ===== -/

/-! ===== BEGIN exceptions that leave a method, and their catching by the caller (launches without stack traces) ===== -/
section VXA
/-! The laws vx_back, vx_callV, vx_callS, vx_callSW, vx_throw0, vx_throwS follow proofs of the library, with one case more: JvmDerived/Free/Laws.lean (Back.of_free), Shelf42/LK1.lean (callV, callS), Shelf/KitTraced.lean (throwNew0V, throwNewS). -/
/-- where a method has thrown q: the class by its name, the cell, what was written, the world -/
def vx_T (XC : String → State → State → Prop) (st : State) (q : Addr) (t : State) (mc ms : Nat) (free : Addr → Prop) : Prop :=
  ∃ (E : String) (ce : Cell) (L : List Loc), XC E st t ∧ t.heap[q]? = some ce ∧ ce.vm = .none ∧ st.vm.findClass E = some ce.cls ∧ st.WarmedH t.vm ∧ st.sameButNew ({ t with vm := st.vm } : State) L mc ms ∧ ∀ z ∈ L, free z.base
def vx_Q (Qc : Array Value → State → Outcome → State → Prop) (XC : String → State → State → Prop) (mc ms : Nat) (free : Addr → Prop) : Array Value → State → Outcome → State → Prop := fun a st o t =>
  (Qc a st o t ∧ ∃ L, FrameEnd st o t L mc ms ∧ ∀ q ∈ L, free q.base) ∨ ∃ q, o = .threw q ∧ vx_T XC st q t mc ms free
/-- a callee that returns or throws -/
def vx_Met (l : Launch) (y : MethodName) (ws : List Cond) (rm : Room) (Pc : Array Value → State → Prop) (Qc : Array Value → State → Outcome → State → Prop) (XC : String → State → State → Prop) (mc ms : Nat) (free : Addr → Prop) : Prop :=
  MetFree l y (headSpec ws rm) Pc (fun _ _ _ _ _ => True) (vx_Q Qc XC mc ms free)
def vx_Post (XC : String → State → State → Prop) (mc ms : Nat) (free : Addr → Prop) : Pt → Array Value → Addr → Pt → Prop := fun A a q B =>
  ∃ (g : JFrame) (mk : MethodId) (t : State) (L : List Loc) (E : String) (ce : Cell), B.U.heap = t.heap ∧ B.U.vm = t.vm ∧ XC E (A.U.calling g mk a) t ∧ t.heap[q]? = some ce ∧ ce.vm = .none ∧ A.U.vm.findClass E = some ce.cls ∧ B.locs = A.locs ++ L ∧ (∀ z ∈ L, free z.base) ∧ B.cells = A.cells + mc ∧ B.slots = A.slots + ms
def vx_Back (l : Launch) (R : Room) (p : Program) (e : Env) (below : List Frame) (s : State) (sargs : Array Value) (y : MethodName) (len W9 : Nat)
    (Pre : Pt → Array Value → Prop) (Post : Pt → Array Value → Option Value → Pt → Prop) (PostX : Pt → Array Value → Addr → Pt → Prop) : Prop :=
  ∀ (m : MethodId) (meth : Method) (c : Code) (A : Pt) (g : JFrame) (ig : Instr) (mk : MethodId) (a : Array Value),
    Stand p l e R s m sargs below meth c A.U A.locs A.cells A.slots → g.method = m → g.locals.size = c.maxLocals → decode c.code g.pc = .ok (ig, len) →
    2 * g.monitorRoom + (g.stack.map fun v => v.category).sum ≤ W9 → A.U.methodNamed? y = some mk → Pre A a →
    (∃ (v : Option Value) (B : Pt), Stand p l e R s m sargs below meth c B.U B.locs B.cells B.slots ∧ Post A a v B ∧
      Steps p.tables e below (doInvoke e (A.U.setTop g) [] mk a).1 (B.U.setTop { g with pc := g.pc + len, stack := v.toList ++ g.stack })) ∨
    (∃ (q : Addr) (B : Pt), Stand p l e R s m sargs below meth c B.U B.locs B.cells B.slots ∧ PostX A a q B ∧
      Steps p.tables e below (doInvoke e (A.U.setTop g) [] mk a).1 ((B.U.setTop g).pushFrame (.throwing q)))
section Payer
variable {l : Launch} {R : Room} {p : Program} {e : Env} {below : List Frame} {s : State} {sargs : Array Value} {y : MethodName} {len W9 : Nat}
theorem vx_back {ws : List Cond} {rm : Room} {Pc : Array Value → State → Prop} {Qc : Array Value → State → Outcome → State → Prop} {XC : String → State → State → Prop} {mc ms : Nat} {free : Addr → Prop} {bytes : ByteArray} {maxL : Nat} {ret : Option FieldType}
    (hM : vx_Met l y ws rm Pc Qc XC mc ms free) (hblind : FrameBlind Pc) (hrc : rm.cells = mc) (hrs : rm.slots = ms)
    (hframes : rm.frames + 1 ≤ R.frames) (hlocals : W9 + (maxL + 11) + rm.locals ≤ R.locals)
    (hws : ∀ w ∈ ws, ∀ a' U, s.WarmedH U.vm → w.before a' U = true) (hcode : Cond.code y bytes maxL ret ∈ ws) (hinit : ∀ a' U, s.WarmedH U.vm → (Cond.initialized y.cls).before a' U = true) :
    vx_Back l R p e below s sargs y len W9 (PreOf R mc ms Pc) (PostOf Qc mc ms free) (vx_Post XC mc ms free) := by
  intro m meth c A g ig mk a X hg hsize hdg hW hn hp
  have h1 : (headSpec ws rm).pre.before a A.U = true := atoms_intro fun w hw => hws w hw _ _ X.warmed
  have h2 : (Cond.code y bytes maxL ret).before a A.U = true := hws _ hcode _ _ X.warmed
  have h3 : (Cond.initialized y.cls).before a A.U = true := hinit _ _ X.warmed
  have h4 : A.cells + (headSpec ws rm).room.cells ≤ R.cells := by rw [show (headSpec ws rm).room.cells = mc from hrc]; exact hp.1
  have h5 : A.slots + (headSpec ws rm).room.slots ≤ R.slots := by rw [show (headSpec ws rm).room.slots = ms from hrs]; exact hp.2.1
  have hPc : Pc a (A.U.calling g mk a) := hblind _ _ _ _ hp.2.2
  obtain ⟨U, Ls, c0, s0⟩ := A
  dsimp only [Pt.U, Pt.locs, Pt.cells, Pt.slots] at h1 h2 h3 h4 h5 X hn hPc ⊢
  obtain ⟨methY, cY, hmY, hcY, -, hlY, -, -, -, -⟩ := Cond.code_spec hn h2
  obtain ⟨kY, hkY, -⟩ := className_of_methodNamed hn
  have hinitY : kY.init = .initialized := Cond.initialized_spec (findClass_of_methodNamed hn) hkY h3
  have h : At U g.method c below := by rw [hg]; exact X.here
  have hlocals9 : W9 + (maxL + 11) + (headSpec ws rm).room.locals ≤ R.locals := hlocals
  have happ : (headSpec ws rm).appliesLoose y e.platform (U.calling g mk a) = true :=
    Spec.appliesLoose_calling (g := g) h hdg hn hkY hinitY
      (X.room_calling (g := g) (R' := (headSpec ws rm).room) hsize hmY hcY hframes (by rw [hlY]; omega) h4 h5) h1
  obtain ⟨mid, hmid⟩ := h.above
  have hfr : (U.setTop g).frames = (.java g :: mid) ++ below := by rw [State.frames_setTop' g h.top, hmid]; rfl
  obtain ⟨o, s₂, hsteps, -, hend, hq⟩ := Steps.callFree hM p X.admits X.cas X.clock (acts := []) hfr happ hPc trivial
  have hq' : vx_Q Qc XC mc ms free a (U.calling g mk a) o s₂ := hq
  rw [State.frames_setTop' g h.top] at hend
  obtain ⟨g₀, hg0⟩ := Option.isSome_iff_exists.mp h.top
  obtain ⟨r, hr⟩ := State.topJava?_eq_some.mp hg0
  have hr' : (({ U with heap := s₂.heap, slotsUsed := s₂.slotsUsed } : State).setVm s₂.vm).frames = .java g₀ :: r := hr
  rcases hq' with ⟨hqc, L, hfe, hL⟩ | ⟨q, rfl, E, ce, L, hx, hce, hcv, hcl, hW₂, hsm, hL⟩
  · obtain ⟨⟨v, rfl⟩, hW₂, e2, q2, q3, q4, q5, q6⟩ := id hfe
    have e3 : s₂ = ({ (U.calling g mk a).setFrames s₂.frames with heap := s₂.heap, slotsUsed := s₂.slotsUsed } : State).setVm s₂.vm := by
      have : s₂ = ({ s₂ with vm := (U.calling g mk a).vm } : State).setVm s₂.vm := rfl
      rw [e2] at this
      exact this
    obtain ⟨c₂, i₂, len₂, hc₂, hd₂, hf₂⟩ := hend
    have hW' : U.WarmedH s₂.vm := hW₂
    have hcc : c₂ = c := by
      have h1 : s₂.code? g.method = U.code? g.method := by
        rw [State.code?_eq, State.code?_eq, hW'.alike.method?]
      exact Option.some.inj (hc₂.symm.trans (h1.trans h.code))
    subst hcc
    have hlen : len₂ = len := by rw [hdg] at hd₂; cases hd₂; rfl
    subst hlen
    have hs₂ : s₂ = (({ U with heap := s₂.heap, slotsUsed := s₂.slotsUsed } : State).setVm s₂.vm).setTop { g with pc := g.pc + len₂, stack := v.toList ++ g.stack } := by
      refine e3.trans ?_
      rw [hf₂, State.calling_eq h.top, State.setFrames_setFrames, State.setTop_of_frames _ hr', hr]
      rfl
    have hsame : U.sameButNew ({ U with heap := s₂.heap, slotsUsed := s₂.slotsUsed } : State) L mc ms := by
      refine ⟨?_, q2, q3, q4, q5, q6⟩
      obtain ⟨t, ht, -⟩ := State.frames_cons hr
      show ({ U with heap := s₂.heap, slotsUsed := s₂.slotsUsed } : State) = { U.setFrames U.frames with heap := s₂.heap, slotsUsed := s₂.slotsUsed }
      rw [State.setFrames_self ht]
    subst hg
    refine Or.inl ⟨v, ⟨(({ U with heap := s₂.heap, slotsUsed := s₂.slotsUsed } : State).setVm s₂.vm), Ls ++ L, c0 + mc, s0 + ms⟩,
      ⟨X.admits, X.cas, X.clock, X.frames, X.room, X.hears, X.method, X.code, (X.here.setHeapUsed s₂.heap s₂.slotsUsed).setVm hW'.alike, X.tail, State.WarmedH.trans X.warmed hW', X.limits, X.bytes, X.same.trans (hsame.setVm s.vm)⟩,
      ⟨g, mk, s₂, L, rfl, rfl, hqc, rfl, hL, rfl, rfl⟩, ?_⟩
    show Steps p.tables e below _ ((({ U with heap := s₂.heap, slotsUsed := s₂.slotsUsed } : State).setVm s₂.vm).setTop { g with pc := g.pc + len₂, stack := v.toList ++ g.stack })
    rw [← hs₂]
    exact hsteps
  · obtain ⟨e2, q2, q3, q4, q5, q6⟩ := id hsm
    have e3 : s₂ = ({ (U.calling g mk a).setFrames s₂.frames with heap := s₂.heap, slotsUsed := s₂.slotsUsed } : State).setVm s₂.vm := by
      have : s₂ = ({ s₂ with vm := (U.calling g mk a).vm } : State).setVm s₂.vm := rfl
      rw [e2] at this
      exact this
    have hf₂ : s₂.frames = .throwing q :: .java g :: U.frames.tail := hend
    have hW' : U.WarmedH s₂.vm := hW₂
    have hs₂ : s₂ = ((({ U with heap := s₂.heap, slotsUsed := s₂.slotsUsed } : State).setVm s₂.vm).setTop g).pushFrame (.throwing q) := by
      refine e3.trans ?_
      rw [hf₂, State.calling_eq h.top, State.setFrames_setFrames, State.pushFrame, State.frames_setTop _ hr', State.setTop_of_frames _ hr', State.setFrames_setFrames, hr]
      rfl
    have hsame : U.sameButNew ({ U with heap := s₂.heap, slotsUsed := s₂.slotsUsed } : State) L mc ms := by
      refine ⟨?_, q2, q3, q4, q5, q6⟩
      obtain ⟨t, ht, -⟩ := State.frames_cons hr
      show ({ U with heap := s₂.heap, slotsUsed := s₂.slotsUsed } : State) = { U.setFrames U.frames with heap := s₂.heap, slotsUsed := s₂.slotsUsed }
      rw [State.setFrames_self ht]
    subst hg
    refine Or.inr ⟨q, ⟨(({ U with heap := s₂.heap, slotsUsed := s₂.slotsUsed } : State).setVm s₂.vm), Ls ++ L, c0 + mc, s0 + ms⟩,
      ⟨X.admits, X.cas, X.clock, X.frames, X.room, X.hears, X.method, X.code, (X.here.setHeapUsed s₂.heap s₂.slotsUsed).setVm hW'.alike, X.tail, State.WarmedH.trans X.warmed hW', X.limits, X.bytes, X.same.trans (hsame.setVm s.vm)⟩,
      ⟨g, mk, s₂, L, E, ce, rfl, rfl, hx, hce, hcv, hcl, rfl, hL, rfl, rfl⟩, ?_⟩
    show Steps p.tables e below _ (((({ U with heap := s₂.heap, slotsUsed := s₂.slotsUsed } : State).setVm s₂.vm).setTop g).pushFrame (.throwing q))
    rw [← hs₂]
    exact hsteps
end Payer
section Calls
variable {p : Program} {l : Launch} {e : Env} {R : Room} {s : State} {m : MethodId} {args : Array Value} {below : List Frame} {meth : Method} {c : Code} {T : State} {locs : List Loc} {cells slots : Nat}
theorem vx_callV (X : Stand p l e R s m args below meth c T locs cells slots) (hexec : p.tables.exec = Jvm.exec) {own C : String} {index : Nat} {y : MethodName} {bytes : ByteArray} {maxL : Nat} {ret : Option FieldType}
    (hown : s.vm.findClass own = some m.cls) (hlink : (Cond.methodLink own index y).before args s = true) (hinst : (Cond.instanceMethod y).before args s = true) (hsel : (Cond.selects C y y).before args s = true)
    (hcode : (Cond.code y bytes maxL ret).before args s = true) (hy : y.cls ≠ "java/lang/invoke/MethodHandle" ∧ y.cls ≠ "java/lang/invoke/VarHandle")
    {W9 : Nat} {Pre : Pt → Array Value → Prop} {Post : Pt → Array Value → Option Value → Pt → Prop} {PostX : Pt → Array Value → Addr → Pt → Prop} (hK : vx_Back l R p e below s args y 3 W9 Pre Post PostX)
    {b : Addr} {cellB : Cell} (hcell : T.heap[b]? = some cellB) (hobj : cellB.vm.isStatics = false) (hcls : s.vm.findClass C = some cellB.cls)
    {g : JFrame} (hg : g.method = m) (hsize : g.locals.size = c.maxLocals) {argsL rest : List Value} (hlen : ∀ sig, parseMethodDescriptor y.desc = some sig → argsL.length = sig.parameters.length)
    (hstack : g.stack = argsL.reverse ++ .ref b :: rest) (hW : 2 * g.monitorRoom + (rest.map fun v => v.category).sum ≤ W9) (hdg : decode c.code g.pc = .ok (.invokevirtual index, 3))
    (hpre : ∀ vm₁, s.WarmedH vm₁ → Pre ⟨T.setVm vm₁, locs, cells, slots⟩ (Value.ref b :: argsL).toArray) :
    (∃ (v : Option Value) (vm₁ : Vm) (B : Pt), s.WarmedH vm₁ ∧ Stand p l e R s m args below meth c B.U B.locs B.cells B.slots ∧ Post ⟨T.setVm vm₁, locs, cells, slots⟩ (Value.ref b :: argsL).toArray v B ∧
      ∀ target, Steps p.tables e below (B.U.setTop { g with pc := g.pc + 3, stack := v.toList ++ rest }) target → Steps p.tables e below (T.setTop g) target) ∨
    (∃ (q : Addr) (vm₁ : Vm) (B : Pt), s.WarmedH vm₁ ∧ Stand p l e R s m args below meth c B.U B.locs B.cells B.slots ∧ PostX ⟨T.setVm vm₁, locs, cells, slots⟩ (Value.ref b :: argsL).toArray q B ∧
      Steps p.tables e below (T.setTop g) ((B.U.setTop { g with stack := rest }).pushFrame (.throwing q))) := by
  obtain ⟨mk, methM, hnamed, hmethM, hstM, habM⟩ := Cond.instanceMethod_spec hinst
  obtain ⟨methM', cM, hmethM', -, -, -, -, -, -, hsigM⟩ := Cond.code_spec hnamed hcode
  cases hmethM.symm.trans hmethM'
  obtain ⟨c2, r2, m2, q1, q2, q3, q4, kP, hkP, hkPi⟩ := Cond.selects_spec hsel
  cases hcls.symm.trans q1
  cases (State.methodFound?_of_named hnamed hy).symm.trans q2
  cases hnamed.symm.trans q3
  have hselP : selectMethod e.platform s.vm cellB.cls mk = .method mk := by rw [Launch.admits_selectMethod X.admits]; exact q4
  obtain ⟨vm₁, X₁, hstep₁⟩ := X.invokevirtual hexec hown hlink hnamed hmethM hstM hkP hkPi hy (a := b) (cell := cellB) hcell
    (fun z h => by rw [h] at hobj; cases hobj) hselP hmethM habM hkP hkPi (g := g) hg (argsL := argsL) (rest := rest) (hlen _ hsigM) hstack hdg
  rcases hK m meth c ⟨T.setVm vm₁, locs, cells, slots⟩ { g with stack := rest } (.invokevirtual index) mk (Value.ref b :: argsL).toArray X₁ hg hsize hdg hW (X₁.named hnamed) (hpre vm₁ X₁.warmed) with ⟨v, B, X', hpost, hsteps⟩ | ⟨q, B, X', hpost, hsteps⟩
  · exact Or.inl ⟨v, vm₁, B, X₁.warmed, X', hpost, fun target h => hstep₁ _ fun acts => by rw [doInvoke_state]; exact hsteps.trans h⟩
  · exact Or.inr ⟨q, vm₁, B, X₁.warmed, X', hpost, hstep₁ _ fun acts => by rw [doInvoke_state]; exact hsteps⟩
theorem vx_callS (X : Stand p l e R s m args below meth c T locs cells slots) (hexec : p.tables.exec = Jvm.exec) {own : String} {index : Nat} {y : MethodName} {bytes : ByteArray} {maxL : Nat} {ret : Option FieldType}
    (hown : s.vm.findClass own = some m.cls) (hlink : (Cond.methodLink own index y).before args s = true) (hstat : (Cond.static y).before args s = true) (hinit : (Cond.initialized y.cls).before args s = true)
    (hcode : (Cond.code y bytes maxL ret).before args s = true) (hy : y.cls ≠ "java/lang/invoke/MethodHandle" ∧ y.cls ≠ "java/lang/invoke/VarHandle")
    {W9 : Nat} {Pre : Pt → Array Value → Prop} {Post : Pt → Array Value → Option Value → Pt → Prop} {PostX : Pt → Array Value → Addr → Pt → Prop} (hK : vx_Back l R p e below s args y 3 W9 Pre Post PostX)
    {g : JFrame} (hg : g.method = m) (hsize : g.locals.size = c.maxLocals) {argsL rest : List Value} (hlen : ∀ sig, parseMethodDescriptor y.desc = some sig → argsL.length = sig.parameters.length)
    (hstack : g.stack = argsL.reverse ++ rest) (hW : 2 * g.monitorRoom + (rest.map fun v => v.category).sum ≤ W9) (hdg : decode c.code g.pc = .ok (.invokestatic index, 3))
    (hpre : ∀ vm₁, s.WarmedH vm₁ → Pre ⟨T.setVm vm₁, locs, cells, slots⟩ argsL.toArray) :
    (∃ (v : Option Value) (vm₁ : Vm) (B : Pt), s.WarmedH vm₁ ∧ Stand p l e R s m args below meth c B.U B.locs B.cells B.slots ∧ Post ⟨T.setVm vm₁, locs, cells, slots⟩ argsL.toArray v B ∧
      ∀ target, Steps p.tables e below (B.U.setTop { g with pc := g.pc + 3, stack := v.toList ++ rest }) target → Steps p.tables e below (T.setTop g) target) ∨
    (∃ (q : Addr) (vm₁ : Vm) (B : Pt), s.WarmedH vm₁ ∧ Stand p l e R s m args below meth c B.U B.locs B.cells B.slots ∧ PostX ⟨T.setVm vm₁, locs, cells, slots⟩ argsL.toArray q B ∧
      Steps p.tables e below (T.setTop g) ((B.U.setTop { g with stack := rest }).pushFrame (.throwing q))) := by
  obtain ⟨mk, hnamed⟩ := Cond.code_named hcode
  obtain ⟨methM, cM, hmethM, -, -, -, -, -, -, hsigM⟩ := Cond.code_spec hnamed hcode
  have hstatic : methM.isStatic = true := Cond.static_spec hnamed hmethM hstat
  obtain ⟨kP, hkP, -⟩ := className_of_methodNamed hnamed
  have hinitP : kP.init = .initialized := Cond.initialized_spec (findClass_of_methodNamed hnamed) hkP hinit
  obtain ⟨vm₁, X₁, hstep₁⟩ := X.invokestatic hexec hown hlink hnamed hmethM hstatic hkP hinitP hy (g := g) hg (argsL := argsL) (rest := rest) (hlen _ hsigM) hstack hdg
  rcases hK m meth c ⟨T.setVm vm₁, locs, cells, slots⟩ { g with stack := rest } (.invokestatic index) mk argsL.toArray X₁ hg hsize hdg hW (X₁.named hnamed) (hpre vm₁ X₁.warmed) with ⟨v, B, X', hpost, hsteps⟩ | ⟨q, B, X', hpost, hsteps⟩
  · exact Or.inl ⟨v, vm₁, B, X₁.warmed, X', hpost, fun target h => hstep₁ _ fun acts => by rw [doInvoke_state]; exact hsteps.trans h⟩
  · exact Or.inr ⟨q, vm₁, B, X₁.warmed, X', hpost, hstep₁ _ fun acts => by rw [doInvoke_state]; exact hsteps⟩
end Calls
theorem vx_cls {s : State} {T : State} {vm₁ : Vm} {E : String} {k : ClassId} (hW : s.WarmedH vm₁) (h : (T.setVm vm₁).vm.findClass E = some k) : s.vm.findClass E = some k := by
  have h1 : vm₁.findClass E = some k := h
  rw [hW.alike.findClass] at h1
  exact h1
/-- the method's frame g, with q thrown over it -/
def vx_W (p : Program) (l : Launch) (e : Env) (R : Room) (s : State) (m : MethodId) (args : Array Value) (below : List Frame) (meth : Method) (c : Code) (H : Heap) (locs : List Loc) (cells slots : Nat) (Q : State → Prop) (g : JFrame) (q : Addr) : Prop :=
  ∀ T : State, T.heap = H → Stand p l e R s m args below meth c T locs cells slots → ∃ t, Steps p.tables e below ((T.setTop g).pushFrame (.throwing q)) t ∧ Q t
def vx_Run (p : Program) (l : Launch) (e : Env) (R : Room) (s : State) (m : MethodId) (args : Array Value) (below : List Frame) (meth : Method) (c : Code) (H : Heap) (locs : List Loc) (cells slots mc ms : Nat) (g : JFrame) (rest : List Value) (Qa : State → Outcome → State → Prop) (XC : String → State → State → Prop) (free : Addr → Prop) : Prop :=
  ∀ T : State, T.heap = H → Stand p l e R s m args below meth c T locs cells slots →
    (∃ (v : Option Value) (st₀ t T' : State) (L : List Loc), st₀.heap = H ∧ Stand p l e R s m args below meth c T' (locs ++ L) (cells + mc) (slots + ms) ∧ (∀ q ∈ L, free q.base) ∧ T'.heap = t.heap ∧ T'.vm = t.vm ∧ Qa st₀ (.returned v) t ∧
      Goes p e below T g T' { g with pc := g.pc + 3, stack := v.toList ++ rest }) ∨
    (∃ (q : Addr) (st₀ t T' : State) (L : List Loc) (E : String) (ce : Cell), st₀.heap = H ∧ Stand p l e R s m args below meth c T' (locs ++ L) (cells + mc) (slots + ms) ∧ (∀ z ∈ L, free z.base) ∧ T'.heap = t.heap ∧ T'.vm = t.vm ∧ XC E st₀ t ∧ t.heap[q]? = some ce ∧ ce.vm = .none ∧ s.vm.findClass E = some ce.cls ∧
      Steps p.tables e below (T.setTop g) ((T'.setTop { g with stack := rest }).pushFrame (.throwing q)))
def vx_X {S : Type} (px : S → Prop) (B : String → S → State → Prop) (A : Nat → Prop) : String → State → State → Prop := fun E st t => ∃ u : S, px u ∧ B E u t ∧ va_F A st t
section Runs
variable {p : Program} {l : Launch} {e : Env} {R : Room} {s : State} {m : MethodId} {args : Array Value} {below : List Frame} {meth : Method} {c : Code} {H : Heap} {locs : List Loc} {cells slots : Nat}
variable {y : MethodName} {bytes cc : ByteArray} {maxL nL mc ms n index : Nat} {ret : Option FieldType} {ws : List Cond} {rm : Room} {Pc : Array Value → State → Prop} {Qc : Array Value → State → Outcome → State → Prop} {XC : String → State → State → Prop} {free : Addr → Prop} {Ts : List Cond} {own C : String} {b : Addr} {As rest : List Value} {g : JFrame}
theorem vx_callBack (cb : CallB R s args own index y bytes maxL ret ws rm mc ms n) (hM : vx_Met l y ws rm Pc Qc XC mc ms free) (hbl : FrameBlind Pc) : vx_Back l R p e below s args y 3 8 (PreOf R mc ms Pc) (PostOf Qc mc ms free) (vx_Post XC mc ms free) := by
  obtain ⟨hrc, hrs, hfr, hlo, hws, hcw, -, hini, -⟩ := cb
  exact vx_back (bytes := bytes) (maxL := maxL) (ret := ret) hM hbl hrc hrs hfr hlo hws hcw (fun a' U hW => word_at hW (Or.inl (by first | rfl | simp [Cond.onTables, Cond.keeps, Cond.steady])) hini)
theorem vx_runV (S : CallFix p m c cc nL s args Ts own) (hM : vx_Met l y ws rm Pc Qc XC mc ms free) (cw : CallW R s args own C index y bytes maxL ret ws rm mc ms n) (hp : PreV s H C b Pc As)
    (hg : g.method = m) (hn : As.length = n) (hsize : g.locals.size = nL) (hstack : g.stack = As.reverse ++ .ref b :: rest) (hW : 2 * g.monitorRoom + (rest.map fun v => v.category).sum ≤ 8) (hdg : decode cc g.pc = .ok (.invokevirtual index, 3)) (hf : cells + mc ≤ R.cells ∧ slots + ms ≤ R.slots) :
    vx_Run p l e R s m args below meth c H locs cells slots mc ms g rest (Qc (Value.ref b :: As).toArray) XC free := by
  have hK : vx_Back l R p e below s args y 3 8 (PreOf R mc ms Pc) (PostOf Qc mc ms free) (vx_Post XC mc ms free) := vx_callBack cw.1 hM hp.1
  obtain ⟨⟨-, -, -, -, -, -, hcode, -, hy, hlen, hl⟩, hin, hse⟩ := cw
  obtain ⟨hx, hb, hml, ho, -⟩ := S
  obtain ⟨-, ⟨cellB, hcB, hoB, hclB⟩, hPc⟩ := hp
  intro T hT X
  rcases vx_callV X hx (C := C) (bytes := bytes) (maxL := maxL) (ret := ret) ho hl hin hse hcode hy hK (by rw [hT]; exact hcB) hoB hclB hg (hsize.trans hml.symm) (argsL := As) (rest := rest) (fun sig h => hn.trans (hlen sig h)) hstack hW (by rw [hb]; exact hdg)
    (fun vm₁ hW₁ => ⟨hf.1, hf.2, hPc (T.setVm vm₁) hT hW₁⟩) with ⟨v, vm₁, ⟨U', l2, c2, s2⟩, hW₁, X', ⟨g', mk, t, L, e1, e2, hq, h1, hL, h2, h3⟩, st⟩ | ⟨q, vm₁, ⟨U', l2, c2, s2⟩, hW₁, X', ⟨g', mk, t, L, E, ce, e1, e2, hq, hce, hcv, hcl, h1, hL, h2, h3⟩, st⟩
  · dsimp only [Pt.U, Pt.locs, Pt.cells, Pt.slots] at X' e1 e2 h1 h2 h3 st
    subst h1; subst h2; subst h3
    exact Or.inl ⟨v, (T.setVm vm₁).calling g' mk (Value.ref b :: As).toArray, t, U', L, hT, X', hL, e1, e2, hq, st⟩
  · dsimp only [Pt.U, Pt.locs, Pt.cells, Pt.slots] at X' e1 e2 h1 h2 h3 st hcl
    subst h1; subst h2; subst h3
    exact Or.inr ⟨q, (T.setVm vm₁).calling g' mk (Value.ref b :: As).toArray, t, U', L, E, ce, hT, X', hL, e1, e2, hq, hce, hcv, vx_cls hW₁ hcl, st⟩
theorem vx_runS (S : CallFix p m c cc nL s args Ts own) (hM : vx_Met l y ws rm Pc Qc XC mc ms free) (cw : CallB R s args own index y bytes maxL ret ws rm mc ms n ∧ (Cond.static y).before args s = true) (hp : PreS s H Pc As)
    (hg : g.method = m) (hn : As.length = n) (hsize : g.locals.size = nL) (hstack : g.stack = As.reverse ++ rest) (hW : 2 * g.monitorRoom + (rest.map fun v => v.category).sum ≤ 8) (hdg : decode cc g.pc = .ok (.invokestatic index, 3)) (hf : cells + mc ≤ R.cells ∧ slots + ms ≤ R.slots) :
    vx_Run p l e R s m args below meth c H locs cells slots mc ms g rest (Qc As.toArray) XC free := by
  have hK : vx_Back l R p e below s args y 3 8 (PreOf R mc ms Pc) (PostOf Qc mc ms free) (vx_Post XC mc ms free) := vx_callBack cw.1 hM hp.1
  obtain ⟨⟨-, -, -, -, -, -, hcode, hini, hy, hlen, hl⟩, hstt⟩ := cw
  obtain ⟨hx, hb, hml, ho, -⟩ := S
  intro T hT X
  rcases vx_callS X hx (bytes := bytes) (maxL := maxL) (ret := ret) ho hl hstt hini hcode hy hK hg (hsize.trans hml.symm) (argsL := As) (rest := rest) (fun sig h => hn.trans (hlen sig h)) hstack hW (by rw [hb]; exact hdg)
    (fun vm₁ hW₁ => ⟨hf.1, hf.2, hp.2 (T.setVm vm₁) hT hW₁⟩) with ⟨v, vm₁, ⟨U', l2, c2, s2⟩, hW₁, X', ⟨g', mk, t, L, e1, e2, hq, h1, hL, h2, h3⟩, st⟩ | ⟨q, vm₁, ⟨U', l2, c2, s2⟩, hW₁, X', ⟨g', mk, t, L, E, ce, e1, e2, hq, hce, hcv, hcl, h1, hL, h2, h3⟩, st⟩
  · dsimp only [Pt.U, Pt.locs, Pt.cells, Pt.slots] at X' e1 e2 h1 h2 h3 st
    subst h1; subst h2; subst h3
    exact Or.inl ⟨v, (T.setVm vm₁).calling g' mk As.toArray, t, U', L, hT, X', hL, e1, e2, hq, st⟩
  · dsimp only [Pt.U, Pt.locs, Pt.cells, Pt.slots] at X' e1 e2 h1 h2 h3 st hcl
    subst h1; subst h2; subst h3
    exact Or.inr ⟨q, (T.setVm vm₁).calling g' mk As.toArray, t, U', L, E, ce, hT, X', hL, e1, e2, hq, hce, hcv, vx_cls hW₁ hcl, st⟩
end Runs
section Rows
variable {p : Program} {l : Launch} {e : Env} {R : Room} {s : State} {m : MethodId} {args : Array Value} {below : List Frame} {meth : Method} {c : Code} {H : Heap} {locs : List Loc} {cells slots : Nat} {Q : State → Prop}
variable {mc ms : Nat} {free : Addr → Prop} {A0 A1 : Nat → Prop} {H0 : Heap} {a : Array Value} {pc : Nat} {ls : Array Slot} {st0 rest : List Value}
theorem vx_keep {st₀ t T' : State} {L : List Loc} (h0 : st₀.heap = H) (e1 : T'.heap = t.heap) (hS : va_S A0 H0 H locs) (hA : ∀ q, q < H.size → A1 q → A0 q) (hf : ∀ q, free q → A0 q) (hL : ∀ q ∈ L, free q.base) (hF : va_F A1 st₀ t) :
    H.size ≤ T'.heap.size ∧ (∀ q : Nat, q < H.size → ¬ A1 q → T'.heap[q]? = H[q]?) ∧ va_S A0 H0 T'.heap (locs ++ L) := by
  obtain ⟨hz, hk⟩ := hF
  rw [h0] at hz hk
  exact ⟨by rw [e1]; exact hz, fun q h1 h2 => by rw [e1]; exact hk q h1 h2,
    ⟨Nat.le_trans hS.1 (by rw [e1]; exact hz), fun q h1 h2 => by rw [e1, hk q (Nat.lt_of_lt_of_le h1 hS.1) (fun z => h2 (hA q (Nat.lt_of_lt_of_le h1 hS.1) z))]; exact hS.2.1 q h1 h2, fun q hq => by
      rcases List.mem_append.mp hq with h | h
      · exact hS.2.2 q h
      · exact hf _ (hL q h)⟩⟩
theorem vx_calli {S SX : Type} {post : Int32 → S → Prop} {px : SX → Prop} {B : S → State → Prop} {BX : String → SX → State → Prop} {AX : Nat → Prop} (hr : vx_Run p l e R s m args below meth c H locs cells slots mc ms (F0 m pc ls st0) rest (va_Qi post B A1 a) (vx_X px BX AX) free) (hS : va_S A0 H0 H locs) (hA : ∀ q, q < H.size → A1 q → A0 q) (hf : ∀ q, free q → A0 q) (hAX : ∀ q, q < H.size → AX q → A0 q)
    (kx : ∀ (E : String) (ce : Cell) (q9 : Addr) (u : SX) (t : State) (H1 : Heap) (locs1 : List Loc), t.heap = H1 → s.vm.Alike t.vm → px u → BX E u t → H.size ≤ H1.size → (∀ q : Nat, q < H.size → ¬ AX q → H1[q]? = H[q]?) → va_S A0 H0 H1 locs1 → H1[q9]? = some ce → ce.vm = .none → s.vm.findClass E = some ce.cls → vx_W p l e R s m args below meth c H1 locs1 (cells + mc) (slots + ms) Q (F0 m pc ls rest) q9)
    (kk : ∀ (r : Int32) (u : S) (t : State) (H1 : Heap) (locs1 : List Loc), t.heap = H1 → s.vm.Alike t.vm → post r u → B u t → H.size ≤ H1.size → (∀ q : Nat, q < H.size → ¬ A1 q → H1[q]? = H[q]?) → va_S A0 H0 H1 locs1 → W p l e R s m args below meth c H1 locs1 (cells + mc) (slots + ms) Q (F0 m (pc + 3) ls (.int r :: rest))) : W p l e R s m args below meth c H locs cells slots Q (F0 m pc ls st0) := by
  intro T hT X
  rcases hr T hT X with ⟨v, st₀, t, T', L, h0, X', hL, e1, e2, ⟨⟨r, u, hv, hp, hb⟩, hF⟩, st⟩ | ⟨q, st₀, t, T', L, E, ce, h0, X', hL, e1, e2, ⟨u, hp, hb, hF⟩, hce, hcv, hcl, st⟩
  · cases hv
    obtain ⟨k1, k2, k3⟩ := vx_keep h0 e1 hS hA hf hL hF
    obtain ⟨t2, a1, b1⟩ := kk r u t T'.heap (locs ++ L) e1.symm (by rw [← e2]; exact X'.warmed.alike) hp hb k1 k2 k3 T' rfl X'
    exact ⟨t2, st t2 a1, b1⟩
  · obtain ⟨k1, k2, k3⟩ := vx_keep h0 e1 hS hAX hf hL hF
    obtain ⟨t2, a1, b1⟩ := kx E ce q u t T'.heap (locs ++ L) e1.symm (by rw [← e2]; exact X'.warmed.alike) hp hb k1 k2 k3 (by rw [e1]; exact hce) hcv hcl T' rfl X'
    exact ⟨t2, st.trans a1, b1⟩
theorem vx_calll {S SX : Type} {post : Int64 → S → Prop} {px : SX → Prop} {B : S → State → Prop} {BX : String → SX → State → Prop} {AX : Nat → Prop} (hr : vx_Run p l e R s m args below meth c H locs cells slots mc ms (F0 m pc ls st0) rest (va_Ql post B A1 a) (vx_X px BX AX) free) (hS : va_S A0 H0 H locs) (hA : ∀ q, q < H.size → A1 q → A0 q) (hf : ∀ q, free q → A0 q) (hAX : ∀ q, q < H.size → AX q → A0 q)
    (kx : ∀ (E : String) (ce : Cell) (q9 : Addr) (u : SX) (t : State) (H1 : Heap) (locs1 : List Loc), t.heap = H1 → s.vm.Alike t.vm → px u → BX E u t → H.size ≤ H1.size → (∀ q : Nat, q < H.size → ¬ AX q → H1[q]? = H[q]?) → va_S A0 H0 H1 locs1 → H1[q9]? = some ce → ce.vm = .none → s.vm.findClass E = some ce.cls → vx_W p l e R s m args below meth c H1 locs1 (cells + mc) (slots + ms) Q (F0 m pc ls rest) q9)
    (kk : ∀ (r : Int64) (u : S) (t : State) (H1 : Heap) (locs1 : List Loc), t.heap = H1 → s.vm.Alike t.vm → post r u → B u t → H.size ≤ H1.size → (∀ q : Nat, q < H.size → ¬ A1 q → H1[q]? = H[q]?) → va_S A0 H0 H1 locs1 → W p l e R s m args below meth c H1 locs1 (cells + mc) (slots + ms) Q (F0 m (pc + 3) ls (.long r :: rest))) : W p l e R s m args below meth c H locs cells slots Q (F0 m pc ls st0) := by
  intro T hT X
  rcases hr T hT X with ⟨v, st₀, t, T', L, h0, X', hL, e1, e2, ⟨⟨r, u, hv, hp, hb⟩, hF⟩, st⟩ | ⟨q, st₀, t, T', L, E, ce, h0, X', hL, e1, e2, ⟨u, hp, hb, hF⟩, hce, hcv, hcl, st⟩
  · cases hv
    obtain ⟨k1, k2, k3⟩ := vx_keep h0 e1 hS hA hf hL hF
    obtain ⟨t2, a1, b1⟩ := kk r u t T'.heap (locs ++ L) e1.symm (by rw [← e2]; exact X'.warmed.alike) hp hb k1 k2 k3 T' rfl X'
    exact ⟨t2, st t2 a1, b1⟩
  · obtain ⟨k1, k2, k3⟩ := vx_keep h0 e1 hS hAX hf hL hF
    obtain ⟨t2, a1, b1⟩ := kx E ce q u t T'.heap (locs ++ L) e1.symm (by rw [← e2]; exact X'.warmed.alike) hp hb k1 k2 k3 (by rw [e1]; exact hce) hcv hcl T' rfl X'
    exact ⟨t2, st.trans a1, b1⟩
theorem vx_callf {S SX : Type} {post : UInt32 → S → Prop} {px : SX → Prop} {B : S → State → Prop} {BX : String → SX → State → Prop} {AX : Nat → Prop} (hr : vx_Run p l e R s m args below meth c H locs cells slots mc ms (F0 m pc ls st0) rest (va_Qf post B A1 a) (vx_X px BX AX) free) (hS : va_S A0 H0 H locs) (hA : ∀ q, q < H.size → A1 q → A0 q) (hf : ∀ q, free q → A0 q) (hAX : ∀ q, q < H.size → AX q → A0 q)
    (kx : ∀ (E : String) (ce : Cell) (q9 : Addr) (u : SX) (t : State) (H1 : Heap) (locs1 : List Loc), t.heap = H1 → s.vm.Alike t.vm → px u → BX E u t → H.size ≤ H1.size → (∀ q : Nat, q < H.size → ¬ AX q → H1[q]? = H[q]?) → va_S A0 H0 H1 locs1 → H1[q9]? = some ce → ce.vm = .none → s.vm.findClass E = some ce.cls → vx_W p l e R s m args below meth c H1 locs1 (cells + mc) (slots + ms) Q (F0 m pc ls rest) q9)
    (kk : ∀ (r : UInt32) (u : S) (t : State) (H1 : Heap) (locs1 : List Loc), t.heap = H1 → s.vm.Alike t.vm → post r u → B u t → H.size ≤ H1.size → (∀ q : Nat, q < H.size → ¬ A1 q → H1[q]? = H[q]?) → va_S A0 H0 H1 locs1 → W p l e R s m args below meth c H1 locs1 (cells + mc) (slots + ms) Q (F0 m (pc + 3) ls (.float r :: rest))) : W p l e R s m args below meth c H locs cells slots Q (F0 m pc ls st0) := by
  intro T hT X
  rcases hr T hT X with ⟨v, st₀, t, T', L, h0, X', hL, e1, e2, ⟨⟨r, u, hv, hp, hb⟩, hF⟩, st⟩ | ⟨q, st₀, t, T', L, E, ce, h0, X', hL, e1, e2, ⟨u, hp, hb, hF⟩, hce, hcv, hcl, st⟩
  · cases hv
    obtain ⟨k1, k2, k3⟩ := vx_keep h0 e1 hS hA hf hL hF
    obtain ⟨t2, a1, b1⟩ := kk r u t T'.heap (locs ++ L) e1.symm (by rw [← e2]; exact X'.warmed.alike) hp hb k1 k2 k3 T' rfl X'
    exact ⟨t2, st t2 a1, b1⟩
  · obtain ⟨k1, k2, k3⟩ := vx_keep h0 e1 hS hAX hf hL hF
    obtain ⟨t2, a1, b1⟩ := kx E ce q u t T'.heap (locs ++ L) e1.symm (by rw [← e2]; exact X'.warmed.alike) hp hb k1 k2 k3 (by rw [e1]; exact hce) hcv hcl T' rfl X'
    exact ⟨t2, st.trans a1, b1⟩
theorem vx_calld {S SX : Type} {post : UInt64 → S → Prop} {px : SX → Prop} {B : S → State → Prop} {BX : String → SX → State → Prop} {AX : Nat → Prop} (hr : vx_Run p l e R s m args below meth c H locs cells slots mc ms (F0 m pc ls st0) rest (va_Qd post B A1 a) (vx_X px BX AX) free) (hS : va_S A0 H0 H locs) (hA : ∀ q, q < H.size → A1 q → A0 q) (hf : ∀ q, free q → A0 q) (hAX : ∀ q, q < H.size → AX q → A0 q)
    (kx : ∀ (E : String) (ce : Cell) (q9 : Addr) (u : SX) (t : State) (H1 : Heap) (locs1 : List Loc), t.heap = H1 → s.vm.Alike t.vm → px u → BX E u t → H.size ≤ H1.size → (∀ q : Nat, q < H.size → ¬ AX q → H1[q]? = H[q]?) → va_S A0 H0 H1 locs1 → H1[q9]? = some ce → ce.vm = .none → s.vm.findClass E = some ce.cls → vx_W p l e R s m args below meth c H1 locs1 (cells + mc) (slots + ms) Q (F0 m pc ls rest) q9)
    (kk : ∀ (r : UInt64) (u : S) (t : State) (H1 : Heap) (locs1 : List Loc), t.heap = H1 → s.vm.Alike t.vm → post r u → B u t → H.size ≤ H1.size → (∀ q : Nat, q < H.size → ¬ A1 q → H1[q]? = H[q]?) → va_S A0 H0 H1 locs1 → W p l e R s m args below meth c H1 locs1 (cells + mc) (slots + ms) Q (F0 m (pc + 3) ls (.double r :: rest))) : W p l e R s m args below meth c H locs cells slots Q (F0 m pc ls st0) := by
  intro T hT X
  rcases hr T hT X with ⟨v, st₀, t, T', L, h0, X', hL, e1, e2, ⟨⟨r, u, hv, hp, hb⟩, hF⟩, st⟩ | ⟨q, st₀, t, T', L, E, ce, h0, X', hL, e1, e2, ⟨u, hp, hb, hF⟩, hce, hcv, hcl, st⟩
  · cases hv
    obtain ⟨k1, k2, k3⟩ := vx_keep h0 e1 hS hA hf hL hF
    obtain ⟨t2, a1, b1⟩ := kk r u t T'.heap (locs ++ L) e1.symm (by rw [← e2]; exact X'.warmed.alike) hp hb k1 k2 k3 T' rfl X'
    exact ⟨t2, st t2 a1, b1⟩
  · obtain ⟨k1, k2, k3⟩ := vx_keep h0 e1 hS hAX hf hL hF
    obtain ⟨t2, a1, b1⟩ := kx E ce q u t T'.heap (locs ++ L) e1.symm (by rw [← e2]; exact X'.warmed.alike) hp hb k1 k2 k3 (by rw [e1]; exact hce) hcv hcl T' rfl X'
    exact ⟨t2, st.trans a1, b1⟩
theorem vx_callv {S SX : Type} {post : S → Prop} {px : SX → Prop} {B : S → State → Prop} {BX : String → SX → State → Prop} {AX : Nat → Prop} (hr : vx_Run p l e R s m args below meth c H locs cells slots mc ms (F0 m pc ls st0) rest (va_Qv post B A1 a) (vx_X px BX AX) free) (hS : va_S A0 H0 H locs) (hA : ∀ q, q < H.size → A1 q → A0 q) (hf : ∀ q, free q → A0 q) (hAX : ∀ q, q < H.size → AX q → A0 q)
    (kx : ∀ (E : String) (ce : Cell) (q9 : Addr) (u : SX) (t : State) (H1 : Heap) (locs1 : List Loc), t.heap = H1 → s.vm.Alike t.vm → px u → BX E u t → H.size ≤ H1.size → (∀ q : Nat, q < H.size → ¬ AX q → H1[q]? = H[q]?) → va_S A0 H0 H1 locs1 → H1[q9]? = some ce → ce.vm = .none → s.vm.findClass E = some ce.cls → vx_W p l e R s m args below meth c H1 locs1 (cells + mc) (slots + ms) Q (F0 m pc ls rest) q9)
    (kk : ∀ (u : S) (t : State) (H1 : Heap) (locs1 : List Loc), t.heap = H1 → s.vm.Alike t.vm → post u → B u t → H.size ≤ H1.size → (∀ q : Nat, q < H.size → ¬ A1 q → H1[q]? = H[q]?) → va_S A0 H0 H1 locs1 → W p l e R s m args below meth c H1 locs1 (cells + mc) (slots + ms) Q (F0 m (pc + 3) ls (rest))) : W p l e R s m args below meth c H locs cells slots Q (F0 m pc ls st0) := by
  intro T hT X
  rcases hr T hT X with ⟨v, st₀, t, T', L, h0, X', hL, e1, e2, ⟨⟨u, hv, hp, hb⟩, hF⟩, st⟩ | ⟨q, st₀, t, T', L, E, ce, h0, X', hL, e1, e2, ⟨u, hp, hb, hF⟩, hce, hcv, hcl, st⟩
  · cases hv
    obtain ⟨k1, k2, k3⟩ := vx_keep h0 e1 hS hA hf hL hF
    obtain ⟨t2, a1, b1⟩ := kk u t T'.heap (locs ++ L) e1.symm (by rw [← e2]; exact X'.warmed.alike) hp hb k1 k2 k3 T' rfl X'
    exact ⟨t2, st t2 a1, b1⟩
  · obtain ⟨k1, k2, k3⟩ := vx_keep h0 e1 hS hAX hf hL hF
    obtain ⟨t2, a1, b1⟩ := kx E ce q u t T'.heap (locs ++ L) e1.symm (by rw [← e2]; exact X'.warmed.alike) hp hb k1 k2 k3 (by rw [e1]; exact hce) hcv hcl T' rfl X'
    exact ⟨t2, st.trans a1, b1⟩
end Rows
section Ends
variable {p : Program} {l : Launch} {e : Env} {R : Room} {s : State} {m : MethodId} {args : Array Value} {below : List Frame} {meth : Method} {c : Code} {H : Heap} {locs : List Loc} {cells slots : Nat} {Q : State → Prop}
variable {mc ms : Nat} {free : Addr → Prop} {A0 A1 : Nat → Prop} {H0 : Heap} {a : Array Value} {ls : Array Slot} {st0 rest : List Value}
variable {Qc : Array Value → State → Outcome → State → Prop} {XC : String → State → State → Prop}
/-- what a body that may throw owes at its end -/
def vx_MQ (below : List Frame) (Qc : Array Value → State → Outcome → State → Prop) (XC : String → State → State → Prop) (a : Array Value) (s : State) (mc ms : Nat) (free : Addr → Prop) : State → Prop := fun t =>
  ∃ o, t.status = .running ∧ Ended t below o ∧ vx_Q Qc XC mc ms free a s o t
theorem vx_ret {g : JFrame} {mc ms : Nat} (k : W p l e R s m args below meth c H locs cells slots (MQ below Qc args s mc ms free) g) : W p l e R s m args below meth c H locs cells slots (vx_MQ below Qc XC args s mc ms free) g := by
  intro T hT X
  obtain ⟨t, a1, o, b1, b2, b3, b4⟩ := k T hT X
  exact ⟨t, a1, o, b1, b2, Or.inl ⟨b3, b4⟩⟩
/-- not caught here: it goes on to the caller -/
theorem vx_widen {g : JFrame} {q : Addr} {k n : Nat} (h1 : cells ≤ k) (h2 : slots ≤ n) (kk : vx_W p l e R s m args below meth c H locs k n Q g q) : vx_W p l e R s m args below meth c H locs cells slots Q g q := fun T hT X => kk T hT (stand_widen X h1 h2)
theorem vx_out {pc : Nat} {E : String} {ce : Cell} {q : Addr} {mc ms : Nat} (hout : ∀ x ∈ c.exceptionTable.toList, covers x pc = false) (hlocks : meth.locks = false) (hcell : H[q]? = some ce) (hv : ce.vm = .none) (hcl : s.vm.findClass E = some ce.cls)
    (hx : ∀ t : State, t.heap = H → s.vm.Alike t.vm → XC E s t) (hf : ∀ z ∈ locs, free z.base) (hc : cells ≤ mc) (hs : slots ≤ ms) :
    vx_W p l e R s m args below meth c H locs cells slots (vx_MQ below Qc XC args s mc ms free) (F0 m pc ls rest) q := by
  intro T hT X
  obtain ⟨st1, hrun, hend, hW, hsm⟩ := X.leaveThrown q (g := F0 m pc ls rest) rfl rfl rfl hout hlocks
  have hcell9 : (T.setFrames (.throwing q :: below)).heap[q]? = some ce := by
    show T.heap[q]? = some ce
    rw [hT]; exact hcell
  exact ⟨_, st1, .threw q, hrun, hend, Or.inr ⟨q, rfl, E, ce, locs, hx _ hT hW.alike, hcell9, hv, hcl, hW, hsm.mono hc hs, hf⟩⟩
theorem vx_frame {U : State} {k n : Nat} (h : s.sameButNew ({ U with vm := s.vm } : State) locs k n) : s.heap.size ≤ U.heap.size ∧ ∀ q : Nat, q < s.heap.size → (∀ z ∈ locs, z.base ≠ q) → U.heap[q]? = s.heap[q]? := by
  obtain ⟨-, h2, -, -, -, h6⟩ := h
  refine ⟨h2, fun q hq hz => ?_⟩
  obtain ⟨c9, e1, e2, e3, e4⟩ := h6 q _ (Array.getElem?_eq_getElem hq)
  have hs : c9.slots = (s.heap[q]).slots := Array.ext_getElem? fun i => e4 i fun hm => hz _ hm rfl
  have h9 : c9 = s.heap[q] := by
    rw [hs] at e2
    exact e2
  have e5 : U.heap[q]? = some c9 := e1
  rw [e5, h9, Array.getElem?_eq_getElem hq]
/-- the words of a throw but the four that speak of the heap -/
def vx_no (w : Cond) : Bool := decide (w ≠ .isRef (.static Bundle.tN "UNASSIGNED_STACK" Bundle.steD)) && decide (w ≠ .isRef (.static Bundle.tN "SUPPRESSED_SENTINEL" Bundle.listD)) && decide (w ≠ .laysStatic Bundle.tN "UNASSIGNED_STACK" Bundle.steD) && decide (w ≠ .laysStatic Bundle.tN "SUPPRESSED_SENTINEL" Bundle.listD)
def vx_at0 (own : String) (ic : Nat) (X : String) (names : List String) : List Cond := (Bundle.ownAtoms0 own ic X names).filter vx_no
def vx_atS (own : String) (ic : Nat) (X : String) (names : List String) : List Cond := (Bundle.ownAtoms own ic X names).filter vx_no
/-- a word that the tables alone decide, or a good one -/
def vx_ot (w : Cond) : Bool := w.onTables || goodWord w
theorem vx_ot_at {args a' : Array Value} {s U : State} {w : Cond} (hW : s.WarmedH U.vm) (hvm : s.vm = U.vm) (hg : vx_ot w = true) (h : w.before args s = true) : w.before a' U = true := by
  simp only [vx_ot, Bool.or_eq_true] at hg
  rcases hg with hg | hg
  · exact va_tabs hg hvm h
  · exact word_at hW (good_of_word hg) h
/-- a list's words: the good ones out of the method's own list, the others by premises of their own -/
theorem vx_hat {args : Array Value} {s : State} {L B : List Cond} (h1 : ∀ w ∈ L.filter goodWord, w.before args s = true) (h2 : ∀ w ∈ L.filter (fun w => !goodWord w), w ∈ B) (h3 : ∀ w ∈ B, w.before args s = true) : ∀ w ∈ L, w.before args s = true := by
  intro w hw
  by_cases g : goodWord w = true
  · exact h1 w (List.mem_filter.mpr ⟨hw, g⟩)
  · refine h3 w (h2 w (List.mem_filter.mpr ⟨hw, ?_⟩))
    show (!goodWord w) = true
    cases hgw : goodWord w
    · rfl
    · exact absurd hgw g
theorem vx_c {args : Array Value} {s : State} {w : Cond} {B : List Cond} (h : w.before args s = true) (t : ∀ w ∈ B, w.before args s = true) : ∀ w' ∈ w :: B, w'.before args s = true := fun w' h' => (List.mem_cons.mp h').elim (fun e => by rw [e]; exact h) (t w')
theorem vx_n {args : Array Value} {s : State} : ∀ w ∈ ([] : List Cond), w.before args s = true := fun _ h => nomatch h
theorem vx_own {args : Array Value} {s : State} {L : List Cond} (h1 : ∀ w ∈ L.filter vx_no, w.before args s = true)
    (hU : (Cond.isRef (.static Bundle.tN "UNASSIGNED_STACK" Bundle.steD)).before args s = true) (hN : (Cond.isRef (.static Bundle.tN "SUPPRESSED_SENTINEL" Bundle.listD)).before args s = true)
    (lU : (Cond.laysStatic Bundle.tN "UNASSIGNED_STACK" Bundle.steD).before args s = true) (lN : (Cond.laysStatic Bundle.tN "SUPPRESSED_SENTINEL" Bundle.listD).before args s = true) : ∀ w ∈ L, w.before args s = true := by
  intro w hw
  by_cases e1 : w = .isRef (.static Bundle.tN "UNASSIGNED_STACK" Bundle.steD)
  · rw [e1]; exact hU
  · by_cases e2 : w = .isRef (.static Bundle.tN "SUPPRESSED_SENTINEL" Bundle.listD)
    · rw [e2]; exact hN
    · by_cases e3 : w = .laysStatic Bundle.tN "UNASSIGNED_STACK" Bundle.steD
      · rw [e3]; exact lU
      · by_cases e4 : w = .laysStatic Bundle.tN "SUPPRESSED_SENTINEL" Bundle.listD
        · rw [e4]; exact lN
        · exact h1 w (List.mem_filter.mpr ⟨hw, by unfold vx_no; rw [decide_eq_true e1, decide_eq_true e2, decide_eq_true e3, decide_eq_true e4]; rfl⟩)
/-- where a static field lies, its class's statics cell in H -/
def vx_L (C n d : String) (A : Nat → Prop) (U : State) (H : Heap) : Prop := ∃ (c : ClassId) (k : Class) (i : Nat) (f : Field) (a : Nat) (cell : Cell), U.vm.findClass C = some c ∧ U.fieldFound? C n d = some (c, k, i, f) ∧ f.isStatic = true ∧ k.statics = some a ∧ H[a]? = some cell ∧ cell.vm.isStatics = true ∧ cell.cls = c ∧ f.slot < cell.slots.size ∧ k.staticTypes[f.slot]? = some f.type ∧ ¬ A a
theorem vx_L.moved {C n d : String} {A : Nat → Prop} {u U : State} {H : Heap} (hvm : u.vm.Alike U.vm) (h : vx_L C n d A u H) : vx_L C n d A U H := by
  obtain ⟨c, k, i, f, a, cell, h1, h2, h3, h4, h5, h6, h7, h8, h9, h10⟩ := h
  obtain ⟨k', hi', he⟩ := State.fieldFound?_setVm hvm h2
  exact ⟨c, k', i, f, a, cell, by rw [hvm.findClass]; exact h1, hi', h3, by rw [he]; exact h4, h5, h6, h7, h8, by rw [he]; exact h9, h10⟩
theorem vx_L.kept {C n d : String} {A : Nat → Prop} {U : State} {H H1 : Heap} (h : vx_L C n d A U H) (hq : ∀ a : Nat, a < H.size → ¬ A a → H1[a]? = H[a]?) : vx_L C n d A U H1 := by
  obtain ⟨c, k, i, f, a, cell, h1, h2, h3, h4, h5, h6, h7, h8, h9, h10⟩ := h
  exact ⟨c, k, i, f, a, cell, h1, h2, h3, h4, by rw [hq a (Array.getElem?_eq_some_iff.mp h5).1 h10]; exact h5, h6, h7, h8, h9, h10⟩
theorem vx_L.narrow {C n d : String} {A B : Nat → Prop} {U : State} {H : Heap} (h : vx_L C n d A U H) (hAB : ∀ q, B q → A q) : vx_L C n d B U H := by
  obtain ⟨c, k, i, f, a, cell, h1, h2, h3, h4, h5, h6, h7, h8, h9, h10⟩ := h
  exact ⟨c, k, i, f, a, cell, h1, h2, h3, h4, h5, h6, h7, h8, h9, fun z => h10 (hAB _ z)⟩
theorem vx_L.word {C n d : String} {A : Nat → Prop} {s : State} {args : Array Value} (h : vx_L C n d A s s.heap) : (Cond.laysStatic C n d).before args s = true := by
  obtain ⟨c, k, i, f, a, cell, h1, h2, h3, h4, h5, h6, h7, h8, h9, -⟩ := h
  show (Cond.laysStatic C n d).holds args s none s [] = true
  exact Cond.laysStatic_of h1 h2 h3 h4 h5 h6 h7 h8 h9
/-- .. and what it holds: null or some reference -/
def vx_Zq (C n d : String) (A : Nat → Prop) (U : State) (H : Heap) : Prop := va_Zq C n d A U H ∧ vx_L C n d A U H
theorem vx_Zq.moved {C n d : String} {A : Nat → Prop} {u U : State} {H : Heap} (hvm : u.vm.Alike U.vm) (h : vx_Zq C n d A u H) : vx_Zq C n d A U H := ⟨va_Zq.moved hvm h.1, vx_L.moved hvm h.2⟩
theorem vx_Zq.kept {C n d : String} {A : Nat → Prop} {U : State} {H H1 : Heap} (h : vx_Zq C n d A U H) (hq : ∀ a : Nat, a < H.size → ¬ A a → H1[a]? = H[a]?) : vx_Zq C n d A U H1 := ⟨va_Zq.kept h.1 hq, vx_L.kept h.2 hq⟩
theorem vx_Zq.narrow {C n d : String} {A B : Nat → Prop} {U : State} {H : Heap} (h : vx_Zq C n d A U H) (hAB : ∀ q, B q → A q) : vx_Zq C n d B U H := ⟨va_Zq.narrow h.1 hAB, vx_L.narrow h.2 hAB⟩
theorem vx_Zqof {args : Array Value} {s : State} {C n d : String} {A : Nat → Prop} (hl : (Cond.laysStatic C n d).before args s = true) (hini : (Cond.initialized C).before args s = true) (h : (Cond.isRef (.static C n d)).before args s = true) (hA : ∀ a : Nat, a < s.heap.size → ¬ A a) : vx_Zq C n d A s s.heap := by
  refine ⟨va_Zqof hl hini h hA, ?_⟩
  obtain ⟨c, k, i, f, a, cell, h1, h2, h3, h4, h5, h6, h7, h8, h9⟩ := Cond.laysStatic_spec hl
  exact ⟨c, k, i, f, a, cell, h1, h2, h3, h4, h5, h6, h7, h8, h9, hA a (Array.getElem?_eq_some_iff.mp h5).1⟩
theorem vx_isRef {C n d : String} {v : Value} {A : Nat → Prop} {s : State} {args : Array Value} (h : va_Z C n d v A s s.heap) (hv : v.isRef = true) : (Cond.isRef (.static C n d)).before args s = true := by
  obtain ⟨cf, kf, fi, f, a, cell, h1, h2, h3, h4, h5, h6, h7, -⟩ := h
  have he : (Term.static C n d).eval args s none [] s = some v := by
    simp [Term.eval, State.fieldNamed?, h1, h2, h4, h5, h6, h7]
  simp only [Cond.before, Cond.holds, Cond.value, he]
  cases v <;> simp_all [Value.isRef]
theorem vx_isRefq {C n d : String} {A : Nat → Prop} {s : State} {args : Array Value} (h : va_Zq C n d A s s.heap) : (Cond.isRef (.static C n d)).before args s = true := by
  rcases h with h | ⟨t, h⟩
  · exact vx_isRef h rfl
  · exact vx_isRef h rfl
/-- the same frame, seen from here: as if the method were called anew in this heap -/
theorem vx_rebase {T : State} (X : Stand p l e R s m args below meth c T locs cells slots) {R' : Room} (hf : R'.frames ≤ R.frames) (hl : R'.locals ≤ R.locals) (hc : cells + R'.cells ≤ R.cells) (hs : slots + R'.slots ≤ R.slots) :
    Stand p l e R' ((T.setVm s.vm).setFrames (.invoking m args :: below)) m args below meth c T [] 0 0 := by
  have htop : (T.setVm s.vm).topJava?.isSome := X.here.top
  have hF : ((T.setVm s.vm).setFrames (.invoking m args :: below)).frames = .invoking m args :: below := State.frames_setFrames _ (State.cur_lt_of_top htop)
  obtain ⟨g₀, hg0⟩ := Option.isSome_iff_exists.mp htop
  obtain ⟨r, hr⟩ := State.topJava?_eq_some.mp hg0
  have hl9 : e.platform.stackLimits (T.setVm s.vm).me = e.platform.stackLimits s.me := X.limits
  have hb9 : (T.setVm s.vm).me.stackBytes = s.me.stackBytes := X.bytes
  refine ⟨X.admits, X.cas, X.clock, hF, ?_, X.hears, X.method, X.code, X.here, X.tail, X.warmed, ?_, ?_, ?_⟩
  · have h := X.room
    have hU : ((T.setVm s.vm).setFrames (.invoking m args :: below)).localsInUse = s.localsInUse := by
      rw [State.localsInUse_invoking hF (meth := meth) (c := c) X.method X.code, State.localsInUse_invoking X.frames X.method X.code]
    simp only [State.hasRoom, Bool.and_eq_true, decide_eq_true_eq] at h ⊢
    obtain ⟨⟨⟨⟨h1, h2, h3, h4, h5, h6⟩, h7⟩, h8⟩, h9⟩ := h
    rw [X.frames, List.length_cons] at h2 h3
    have q1 := X.heapSize
    have q2 := X.used
    simp only [hF, hU, List.length_cons, State.stackLimits_setFrames, State.stackBytes_setFrames, hl9, hb9]
    refine ⟨⟨⟨⟨by omega, by omega, by omega, by omega, by omega, h6⟩, ?_⟩, ?_⟩, X.book⟩
    · show T.heap.size + R'.cells ≤ e.platform.maxCells
      omega
    · show T.slotsUsed + R'.slots ≤ e.platform.maxSlots
      omega
  · rw [State.stackLimits_setFrames]; rfl
  · rw [State.stackBytes_setFrames]; rfl
  · refine ⟨?_, Nat.le_refl _, Nat.le_refl _, ?_, ?_, fun a c9 h9 => ⟨c9, h9, rfl, rfl, fun _ _ => rfl⟩⟩
    · obtain ⟨t, ht, -⟩ := State.frames_cons hr
      show T.setVm s.vm = { ((T.setVm s.vm).setFrames (.invoking m args :: below)).setFrames (T.setVm s.vm).frames with heap := T.heap, slotsUsed := T.slotsUsed }
      rw [State.setFrames_setFrames, State.setFrames_self ht]
      rfl
    · show T.slotsUsed = T.slotsUsed + ((T.heap.toList.drop T.heap.size).map (·.slots.size)).sum
      rw [List.drop_eq_nil_of_le (Nat.le_of_eq Array.length_toList)]
      rfl
    · show ((T.heap.toList.drop T.heap.size).map (·.slots.size)).sum ≤ 0
      rw [List.drop_eq_nil_of_le (Nat.le_of_eq Array.length_toList)]
      exact Nat.le_refl _
/-- 'throw new E()': new; dup; invokespecial; athrow -/
theorem vx_throw0 {cc : ByteArray} {pc : Nat} (hexec : p.tables.exec = Jvm.exec) (hb : c.code = cc) (hl : l.stackTraces = false) {own cls : String} {names : List String} {ik ic mc ms : Nat} {A : Nat → Prop}
    (hown : s.vm.findClass own = some m.cls) (hcls : Bundle.fit cls = true) (hnames : ∀ n ∈ names, Bundle.fit n = true)
    (hk : (Cond.classLink own ik cls).before args s = true) (hini : (Cond.initialized cls).before args s = true) (hat : ∀ w ∈ vx_at0 own ic cls names, w.before args s = true)
    (hgood : ∀ w ∈ Cond.classLink own ik cls :: Cond.initialized cls :: vx_at0 own ic cls names, vx_ot w = true)
    (hU : vx_Zq Bundle.tN "UNASSIGNED_STACK" Bundle.steD A s s.heap) (hN : vx_Zq Bundle.tN "SUPPRESSED_SENTINEL" Bundle.listD A s s.heap) (hS : va_S A s.heap H locs) (hsize : ls.size = c.maxLocals)
    (d0 : decode cc pc = .ok (.new ik, 3)) (d3 : decode cc (pc + 3) = .ok (.dup, 1)) (d4 : decode cc (pc + 4) = .ok (.invokespecial ic, 3)) (d7 : decode cc (pc + 7) = .ok (.athrow, 1))
    (hout : ∀ x ∈ c.exceptionTable.toList, covers x (pc + 7) = false)
    (hRframes : names.length + 3 < R.frames) (hRlocals : (rest.map fun v => v.category).sum + (13 * (names.length + 1) + 42) ≤ R.locals) (hRcells : cells + 1 ≤ R.cells) (hRslots : slots + 6 ≤ R.slots) (hlocks : meth.locks = false)
    (hx : ∀ t : State, s.vm.Alike t.vm → H.size ≤ t.heap.size → (∀ q : Nat, q < H.size → t.heap[q]? = H[q]?) → XC cls s t)
    (hf : ∀ z ∈ locs, free z.base) (hc : cells + 1 ≤ mc) (hs : slots + 6 ≤ ms) :
    W p l e R s m args below meth c H locs cells slots (vx_MQ below Qc XC args s mc ms free) (F0 m pc ls rest) := by
  intro T hT X
  have htr : e.platform.stackTraces = false := (show e.platform.stackTraces = l.stackTraces by rw [X.admits.platform]).trans hl
  have Y := vx_rebase X (R' := { frames := R.frames, locals := R.locals, cells := 1, slots := 6 }) (Nat.le_refl _) (Nat.le_refl _) hRcells hRslots
  obtain ⟨s', hA⟩ : ∃ z, z = (T.setVm s.vm).setFrames (.invoking m args :: below) := ⟨_, rfl⟩
  rw [← hA] at Y
  have hvm : s'.vm = s.vm := by rw [hA]; rfl
  have hhp : s'.heap = H := by rw [hA]; exact hT
  have hW0 : s.WarmedH s'.vm := by rw [hvm]; exact State.WarmedH.refl s
  have hat' : ∀ w ∈ vx_at0 own ic cls names, w.before args s' = true := fun w hw => vx_ot_at hW0 hvm.symm (hgood w (List.mem_cons_of_mem _ (List.mem_cons_of_mem _ hw))) (hat w hw)
  have hk' : (Cond.classLink own ik cls).before args s' = true := vx_ot_at hW0 hvm.symm (hgood _ List.mem_cons_self) hk
  have hini' : (Cond.initialized cls).before args s' = true := vx_ot_at hW0 hvm.symm (hgood _ (List.mem_cons_of_mem _ List.mem_cons_self)) hini
  have hU' : vx_Zq Bundle.tN "UNASSIGNED_STACK" Bundle.steD A s' s'.heap := by rw [hhp]; exact vx_Zq.moved hW0.alike (hU.kept hS.2.1)
  have hN' : vx_Zq Bundle.tN "SUPPRESSED_SENTINEL" Bundle.listD A s' s'.heap := by rw [hhp]; exact vx_Zq.moved hW0.alike (hN.kept hS.2.1)
  have h : ∀ w ∈ Bundle.ownAtoms0 own ic cls names, w.before args s' = true := vx_own hat' (vx_isRefq hU'.1) (vx_isRefq hN'.1) hU'.2.word hN'.2.word
  have hown' : s'.vm.findClass own = some m.cls := by rw [hvm]; exact hown
  have hins : (Cond.instantiable cls 6).before args s' = true := h _ (by simp [Bundle.ownAtoms0])
  obtain ⟨vm₁, cX, kX, hfX, hkX, -, -, X₁, st1⟩ := Y.newCold hexec (own := own) (C := cls) (index := ik) (n := 6) hown' hk' hins hini'
    (g := F0 m pc ls rest) rfl (by rw [hb]; exact d0) (Nat.le_refl _) (Nat.le_refl _)
  generalize hT1 : (T.setVm vm₁).pushCell { cls := cX, slots := kX.instanceTypes.map defaultValue, vm := .none } = T1 at X₁ st1
  have hcat : (Value.ref T.heap.size).category = 1 := rfl
  have hcellA : T1.heap[T.heap.size]? = some (freshCell cX kX) := by rw [← hT1]; exact State.heap_pushCell_size _ _
  have d3' : decode c.code (pc + 3) = .ok (.dup, 1) := by rw [hb]; exact d3
  obtain ⟨U, hsteps, hrun, hend, hW, hsame, ce, hce, hO⟩ := X₁.ctorThrow0 hexec htr (own := own) (cls := cls) (names := names) (ic := ic) hown' hcls hnames h (fun x hx => nomatch hx) hfX hkX hcellA (by rw [hhp, hT]; exact Nat.le_refl _)
    (g := { method := m, pc := pc + 4, locals := ls, stack := .ref T.heap.size :: .ref T.heap.size :: rest, locked := none }) rfl hsize rfl rfl (rest := rest) rfl
    (by rw [hb]; exact d4) (by rw [hb]; exact d7) hout hRframes (by simp only [List.map_cons, List.sum_cons, hcat]; omega) hlocks
  obtain ⟨f1, f2⟩ := vx_frame hsame
  rw [hhp] at f1 f2
  have hWs : s.WarmedH U.vm := State.WarmedH.trans hW0 hW
  have hcl : s.vm.findClass cls = some ce.cls := by
    have h9 := hO.cls
    rw [hvm] at h9
    exact h9
  have hall : s.sameButNew ({ U with vm := s.vm } : State) locs mc ms := by
    subst hA
    obtain ⟨e1, e2⟩ := hsame
    rw [State.setFrames_setFrames] at e1
    have h2 : (T.setVm s.vm).sameButNew ({ U with vm := s.vm } : State) [] (0 + 1) (0 + 6) := ⟨e1, e2⟩
    have h3 := X.same.trans h2
    rw [List.append_nil] at h3
    exact h3.mono hc hs
  refine ⟨U, ?_, .threw T.heap.size, hrun, hend, Or.inr ⟨T.heap.size, rfl, cls, ce, locs, hx U hWs.alike f1 (fun q hq => f2 q hq (fun z hz => nomatch hz)), hce, hO.vm, hcl, hWs, hall, hf⟩⟩
  refine st1 _ ?_
  show Steps p.tables e below (T1.setTop { method := m, pc := pc + 3, locals := ls, stack := .ref T.heap.size :: rest, locked := none }) _
  jvm_step X₁.here [X₁.here.top, hexec, d3', Value.category]
  exact hsteps
/-- 'throw new E("text")': new; dup; ldc; invokespecial; athrow -/
theorem vx_throwS {cc : ByteArray} {pc : Nat} (hexec : p.tables.exec = Jvm.exec) (hb : c.code = cc) (hl : l.stackTraces = false) {own cls text : String} {names : List String} {ik is ic mc ms sa : Nat} {A : Nat → Prop}
    (hown : s.vm.findClass own = some m.cls) (hcls : Bundle.fit cls = true) (hnames : ∀ n ∈ names, Bundle.fit n = true)
    (hk : (Cond.classLink own ik cls).before args s = true) (hini : (Cond.initialized cls).before args s = true) (hstr : vk_R own is text sa s) (hat : ∀ w ∈ vx_atS own ic cls names, w.before args s = true)
    (hgood : ∀ w ∈ Cond.classLink own ik cls :: Cond.initialized cls :: vx_atS own ic cls names, vx_ot w = true)
    (hU : vx_Zq Bundle.tN "UNASSIGNED_STACK" Bundle.steD A s s.heap) (hN : vx_Zq Bundle.tN "SUPPRESSED_SENTINEL" Bundle.listD A s s.heap) (hS : va_S A s.heap H locs) (hsize : ls.size = c.maxLocals)
    (d0 : decode cc pc = .ok (.new ik, 3)) (d3 : decode cc (pc + 3) = .ok (.dup, 1)) (d4 : decode cc (pc + 4) = .ok (.ldc is, 2)) (d6 : decode cc (pc + 6) = .ok (.invokespecial ic, 3)) (d9 : decode cc (pc + 9) = .ok (.athrow, 1))
    (hout : ∀ x ∈ c.exceptionTable.toList, covers x (pc + 9) = false)
    (hRframes : names.length + 3 < R.frames) (hRlocals : (rest.map fun v => v.category).sum + (13 * (names.length + 1) + 43) ≤ R.locals) (hRcells : cells + 1 ≤ R.cells) (hRslots : slots + 6 ≤ R.slots) (hlocks : meth.locks = false)
    (hx : ∀ t : State, s.vm.Alike t.vm → H.size ≤ t.heap.size → (∀ q : Nat, q < H.size → t.heap[q]? = H[q]?) → XC cls s t)
    (hf : ∀ z ∈ locs, free z.base) (hc : cells + 1 ≤ mc) (hs : slots + 6 ≤ ms) :
    W p l e R s m args below meth c H locs cells slots (vx_MQ below Qc XC args s mc ms free) (F0 m pc ls rest) := by
  intro T hT X
  have htr : e.platform.stackTraces = false := (show e.platform.stackTraces = l.stackTraces by rw [X.admits.platform]).trans hl
  have Y := vx_rebase X (R' := { frames := R.frames, locals := R.locals, cells := 1, slots := 6 }) (Nat.le_refl _) (Nat.le_refl _) hRcells hRslots
  obtain ⟨s', hA⟩ : ∃ z, z = (T.setVm s.vm).setFrames (.invoking m args :: below) := ⟨_, rfl⟩
  rw [← hA] at Y
  have hvm : s'.vm = s.vm := by rw [hA]; rfl
  have hhp : s'.heap = H := by rw [hA]; exact hT
  have hW0 : s.WarmedH s'.vm := by rw [hvm]; exact State.WarmedH.refl s
  have hat' : ∀ w ∈ vx_atS own ic cls names, w.before args s' = true := fun w hw => vx_ot_at hW0 hvm.symm (hgood w (List.mem_cons_of_mem _ (List.mem_cons_of_mem _ hw))) (hat w hw)
  have hk' : (Cond.classLink own ik cls).before args s' = true := vx_ot_at hW0 hvm.symm (hgood _ List.mem_cons_self) hk
  have hini' : (Cond.initialized cls).before args s' = true := vx_ot_at hW0 hvm.symm (hgood _ (List.mem_cons_of_mem _ List.mem_cons_self)) hini
  have hU' : vx_Zq Bundle.tN "UNASSIGNED_STACK" Bundle.steD A s' s'.heap := by rw [hhp]; exact vx_Zq.moved hW0.alike (hU.kept hS.2.1)
  have hN' : vx_Zq Bundle.tN "SUPPRESSED_SENTINEL" Bundle.listD A s' s'.heap := by rw [hhp]; exact vx_Zq.moved hW0.alike (hN.kept hS.2.1)
  have h : ∀ w ∈ Bundle.ownAtoms own ic cls names, w.before args s' = true := vx_own hat' (vx_isRefq hU'.1) (vx_isRefq hN'.1) hU'.2.word hN'.2.word
  have hown' : s'.vm.findClass own = some m.cls := by rw [hvm]; exact hown
  have hins : (Cond.instantiable cls 6).before args s' = true := h _ (by simp [Bundle.ownAtoms])
  obtain ⟨vm₁, cX, kX, hfX, hkX, -, -, X₁, st1⟩ := Y.newCold hexec (own := own) (C := cls) (index := ik) (n := 6) hown' hk' hins hini'
    (g := F0 m pc ls rest) rfl (by rw [hb]; exact d0) (Nat.le_refl _) (Nat.le_refl _)
  generalize hT1 : (T.setVm vm₁).pushCell { cls := cX, slots := kX.instanceTypes.map defaultValue, vm := .none } = T1 at X₁ st1
  have hcat : (Value.ref T.heap.size).category = 1 := rfl
  have hcellA : T1.heap[T.heap.size]? = some (freshCell cX kX) := by rw [← hT1]; exact State.heap_pushCell_size _ _
  have d3' : decode c.code (pc + 3) = .ok (.dup, 1) := by rw [hb]; exact d3
  have d4' : decode c.code (pc + 4) = .ok (.ldc is, 2) := by rw [hb]; exact d4
  have hstr' : vk_R own is text sa s' := vk_R.warm hW0 hstr
  obtain ⟨U, hsteps, hrun, hend, hW, hsame, ce, hce, hO⟩ := X₁.ctorThrowS hexec htr (own := own) (cls := cls) (names := names) (ic := ic) hown' hcls hnames h (fun x hx => nomatch hx) hfX hkX hcellA (by rw [hhp, hT]; exact Nat.le_refl _) (msg := .ref sa) rfl
    (g := { method := m, pc := pc + 6, locals := ls, stack := .ref sa :: .ref T.heap.size :: .ref T.heap.size :: rest, locked := none }) rfl hsize rfl rfl (rest := rest) rfl
    (by rw [hb]; exact d6) (by rw [hb]; exact d9) hout hRframes (by simp only [List.map_cons, List.sum_cons, hcat]; omega) hlocks
  obtain ⟨f1, f2⟩ := vx_frame hsame
  rw [hhp] at f1 f2
  have hWs : s.WarmedH U.vm := State.WarmedH.trans hW0 hW
  have hcl : s.vm.findClass cls = some ce.cls := by
    have h9 := hO.cls
    rw [hvm] at h9
    exact h9
  have hall : s.sameButNew ({ U with vm := s.vm } : State) locs mc ms := by
    subst hA
    obtain ⟨e1, e2⟩ := hsame
    rw [State.setFrames_setFrames] at e1
    have h2 : (T.setVm s.vm).sameButNew ({ U with vm := s.vm } : State) [] (0 + 1) (0 + 6) := ⟨e1, e2⟩
    have h3 := X.same.trans h2
    rw [List.append_nil] at h3
    exact h3.mono hc hs
  refine ⟨U, ?_, .threw T.heap.size, hrun, hend, Or.inr ⟨T.heap.size, rfl, cls, ce, locs, hx U hWs.alike f1 (fun q hq => f2 q hq (fun z hz => nomatch hz)), hce, hO.vm, hcl, hWs, hall, hf⟩⟩
  refine st1 _ ?_
  show Steps p.tables e below (T1.setTop { method := m, pc := pc + 3, locals := ls, stack := .ref T.heap.size :: rest, locked := none }) _
  jvm_step X₁.here [X₁.here.top, hexec, d3', Value.category]
  exact X₁.ldcString hexec (own := own) (text := text) (index := is) (a := sa) hown' hstr'.1 hstr'.2
    (g := { method := m, pc := pc + 4, locals := ls, stack := .ref T.heap.size :: .ref T.heap.size :: rest, locked := none }) rfl d4' _ hsteps
/-- 'throw new E("text")', the text by a wide index -/
theorem vx_throwSW {cc : ByteArray} {pc : Nat} (hexec : p.tables.exec = Jvm.exec) (hb : c.code = cc) (hl : l.stackTraces = false) {own cls text : String} {names : List String} {ik is ic mc ms sa : Nat} {A : Nat → Prop}
    (hown : s.vm.findClass own = some m.cls) (hcls : Bundle.fit cls = true) (hnames : ∀ n ∈ names, Bundle.fit n = true)
    (hk : (Cond.classLink own ik cls).before args s = true) (hini : (Cond.initialized cls).before args s = true) (hstr : vk_R own is text sa s) (hat : ∀ w ∈ vx_atS own ic cls names, w.before args s = true)
    (hgood : ∀ w ∈ Cond.classLink own ik cls :: Cond.initialized cls :: vx_atS own ic cls names, vx_ot w = true)
    (hU : vx_Zq Bundle.tN "UNASSIGNED_STACK" Bundle.steD A s s.heap) (hN : vx_Zq Bundle.tN "SUPPRESSED_SENTINEL" Bundle.listD A s s.heap) (hS : va_S A s.heap H locs) (hsize : ls.size = c.maxLocals)
    (d0 : decode cc pc = .ok (.new ik, 3)) (d3 : decode cc (pc + 3) = .ok (.dup, 1)) (d4 : decode cc (pc + 4) = .ok (.ldc_w is, 3)) (d7 : decode cc (pc + 7) = .ok (.invokespecial ic, 3)) (d10 : decode cc (pc + 10) = .ok (.athrow, 1))
    (hout : ∀ x ∈ c.exceptionTable.toList, covers x (pc + 10) = false)
    (hRframes : names.length + 3 < R.frames) (hRlocals : (rest.map fun v => v.category).sum + (13 * (names.length + 1) + 43) ≤ R.locals) (hRcells : cells + 1 ≤ R.cells) (hRslots : slots + 6 ≤ R.slots) (hlocks : meth.locks = false)
    (hx : ∀ t : State, s.vm.Alike t.vm → H.size ≤ t.heap.size → (∀ q : Nat, q < H.size → t.heap[q]? = H[q]?) → XC cls s t)
    (hf : ∀ z ∈ locs, free z.base) (hc : cells + 1 ≤ mc) (hs : slots + 6 ≤ ms) :
    W p l e R s m args below meth c H locs cells slots (vx_MQ below Qc XC args s mc ms free) (F0 m pc ls rest) := by
  intro T hT X
  have htr : e.platform.stackTraces = false := (show e.platform.stackTraces = l.stackTraces by rw [X.admits.platform]).trans hl
  have Y := vx_rebase X (R' := { frames := R.frames, locals := R.locals, cells := 1, slots := 6 }) (Nat.le_refl _) (Nat.le_refl _) hRcells hRslots
  obtain ⟨s', hA⟩ : ∃ z, z = (T.setVm s.vm).setFrames (.invoking m args :: below) := ⟨_, rfl⟩
  rw [← hA] at Y
  have hvm : s'.vm = s.vm := by rw [hA]; rfl
  have hhp : s'.heap = H := by rw [hA]; exact hT
  have hW0 : s.WarmedH s'.vm := by rw [hvm]; exact State.WarmedH.refl s
  have hat' : ∀ w ∈ vx_atS own ic cls names, w.before args s' = true := fun w hw => vx_ot_at hW0 hvm.symm (hgood w (List.mem_cons_of_mem _ (List.mem_cons_of_mem _ hw))) (hat w hw)
  have hk' : (Cond.classLink own ik cls).before args s' = true := vx_ot_at hW0 hvm.symm (hgood _ List.mem_cons_self) hk
  have hini' : (Cond.initialized cls).before args s' = true := vx_ot_at hW0 hvm.symm (hgood _ (List.mem_cons_of_mem _ List.mem_cons_self)) hini
  have hU' : vx_Zq Bundle.tN "UNASSIGNED_STACK" Bundle.steD A s' s'.heap := by rw [hhp]; exact vx_Zq.moved hW0.alike (hU.kept hS.2.1)
  have hN' : vx_Zq Bundle.tN "SUPPRESSED_SENTINEL" Bundle.listD A s' s'.heap := by rw [hhp]; exact vx_Zq.moved hW0.alike (hN.kept hS.2.1)
  have h : ∀ w ∈ Bundle.ownAtoms own ic cls names, w.before args s' = true := vx_own hat' (vx_isRefq hU'.1) (vx_isRefq hN'.1) hU'.2.word hN'.2.word
  have hown' : s'.vm.findClass own = some m.cls := by rw [hvm]; exact hown
  have hins : (Cond.instantiable cls 6).before args s' = true := h _ (by simp [Bundle.ownAtoms])
  obtain ⟨vm₁, cX, kX, hfX, hkX, -, -, X₁, st1⟩ := Y.newCold hexec (own := own) (C := cls) (index := ik) (n := 6) hown' hk' hins hini'
    (g := F0 m pc ls rest) rfl (by rw [hb]; exact d0) (Nat.le_refl _) (Nat.le_refl _)
  generalize hT1 : (T.setVm vm₁).pushCell { cls := cX, slots := kX.instanceTypes.map defaultValue, vm := .none } = T1 at X₁ st1
  have hcat : (Value.ref T.heap.size).category = 1 := rfl
  have hcellA : T1.heap[T.heap.size]? = some (freshCell cX kX) := by rw [← hT1]; exact State.heap_pushCell_size _ _
  have d3' : decode c.code (pc + 3) = .ok (.dup, 1) := by rw [hb]; exact d3
  have d4' : decode c.code (pc + 4) = .ok (.ldc_w is, 3) := by rw [hb]; exact d4
  have hstr' : vk_R own is text sa s' := vk_R.warm hW0 hstr
  obtain ⟨U, hsteps, hrun, hend, hW, hsame, ce, hce, hO⟩ := X₁.ctorThrowS hexec htr (own := own) (cls := cls) (names := names) (ic := ic) hown' hcls hnames h (fun x hx => nomatch hx) hfX hkX hcellA (by rw [hhp, hT]; exact Nat.le_refl _) (msg := .ref sa) rfl
    (g := { method := m, pc := pc + 7, locals := ls, stack := .ref sa :: .ref T.heap.size :: .ref T.heap.size :: rest, locked := none }) rfl hsize rfl rfl (rest := rest) rfl
    (by rw [hb]; exact d7) (by rw [hb]; exact d10) hout hRframes (by simp only [List.map_cons, List.sum_cons, hcat]; omega) hlocks
  obtain ⟨f1, f2⟩ := vx_frame hsame
  rw [hhp] at f1 f2
  have hWs : s.WarmedH U.vm := State.WarmedH.trans hW0 hW
  have hcl : s.vm.findClass cls = some ce.cls := by
    have h9 := hO.cls
    rw [hvm] at h9
    exact h9
  have hall : s.sameButNew ({ U with vm := s.vm } : State) locs mc ms := by
    subst hA
    obtain ⟨e1, e2⟩ := hsame
    rw [State.setFrames_setFrames] at e1
    have h2 : (T.setVm s.vm).sameButNew ({ U with vm := s.vm } : State) [] (0 + 1) (0 + 6) := ⟨e1, e2⟩
    have h3 := X.same.trans h2
    rw [List.append_nil] at h3
    exact h3.mono hc hs
  refine ⟨U, ?_, .threw T.heap.size, hrun, hend, Or.inr ⟨T.heap.size, rfl, cls, ce, locs, hx U hWs.alike f1 (fun q hq => f2 q hq (fun z hz => nomatch hz)), hce, hO.vm, hcl, hWs, hall, hf⟩⟩
  refine st1 _ ?_
  show Steps p.tables e below (T1.setTop { method := m, pc := pc + 3, locals := ls, stack := .ref T.heap.size :: rest, locked := none }) _
  jvm_step X₁.here [X₁.here.top, hexec, d3', Value.category]
  exact X₁.ldcStringW hexec (own := own) (text := text) (index := is) (a := sa) hown' hstr'.1 hstr'.2
    (g := { method := m, pc := pc + 4, locals := ls, stack := .ref T.heap.size :: .ref T.heap.size :: rest, locked := none }) rfl d4' _ hsteps
end Ends
section Bodies
variable {l : Launch}
theorem vx_ofW {y : MethodName} {ws ws' : List Cond} {rm : Room} {Pc : Array Value → State → Prop} {Qc : Array Value → State → Outcome → State → Prop} {XC : String → State → State → Prop} {mc ms : Nat} {free : Addr → Prop} {cc : ByteArray} {maxL : Nat} {ret : Option FieldType}
    (hy : plainName y.cls = true) (hw : ws = Cond.code y cc maxL ret :: ws')
    (body : ∀ p e s m args below meth c s₁, BodyLoose p l y (headSpec ws rm) cc maxL ret e s m args below meth c s₁ → c.maxLocals = maxL → (∀ x ∈ c.exceptionTable.toList, False) → Pc args s →
      W p l e (headSpec ws rm).room s m args below meth c s.heap [] 0 0 (vx_MQ below Qc XC args s mc ms free) (entryFrame m args maxL)) : vx_Met l y ws rm Pc Qc XC mc ms free := by
  refine MetFree.of_bodyS (code := cc) (maxLocals := maxL) (ret := ret) hy ?_ ?_
  · intro args s m h hn
    obtain ⟨meth, c, h1, h2, h3, h4, h5, h6, -, -⟩ := Cond.code_spec hn (atoms_spec (ws := ws) h _ (by rw [hw]; exact List.mem_cons_self))
    exact ⟨meth, c, h1, h2, h3, h4, h5, h6⟩
  · intro p e s m args below meth c s₁ B hml hP _
    have hh0 : s₁.heap = s.heap := by rw [B.state]; rfl
    have ht : ∀ x ∈ c.exceptionTable.toList, False := by
      obtain ⟨meth9, c9, h1, h2, -, -, -, -, h7, -⟩ := Cond.code_spec B.named (atoms_spec (ws := ws) B.pre _ (by rw [hw]; exact List.mem_cons_self))
      cases Option.some.inj (h1.symm.trans B.method)
      cases Option.some.inj (h2.symm.trans (Stand.of_body B).code)
      intro x hx
      rw [Array.isEmpty_iff.mp h7] at hx
      cases hx
    obtain ⟨t, a1, o, b1, b2, b3⟩ := body p e s m args below meth c s₁ B hml ht hP s₁ hh0 (Stand.of_body B)
    exact ⟨t, o, a1, b1, b2, b3⟩
/-- the table of a body with handlers -/
theorem vx_table {p : Program} {x y : MethodName} {S : Spec} {cc bytes : ByteArray} {maxL maxL' : Nat} {ret ret' : Option FieldType} {e : Env} {s s₁ : State} {m : MethodId} {args : Array Value} {below : List Frame} {meth : Method} {c : Code} {hh : List (Nat × Nat × Nat × Nat)}
    (B : BodyLoose p l y S cc maxL ret e s m args below meth c s₁) (h : (Cond.codeWith y bytes maxL' ret' hh).before args s = true) : c.exceptionTable.toList = tableOf hh := by
  obtain ⟨m9, meth9, c9, hn9, h1, h2, -, -, h6, -⟩ := Cond.codeWith_spec h
  cases Option.some.inj (hn9.symm.trans B.named)
  cases Option.some.inj (h1.symm.trans B.method)
  cases Option.some.inj (h2.symm.trans (Stand.of_body B).code)
  rw [← h6, table_eq]
end Bodies
end VXA
/-! ===== END ===== -/
/-! ===== BEGIN a static call of a method with an exception table ===== -/
section VXS
variable {p : Program} {l : Launch} {e : Env} {R : Room} {s : State} {m : MethodId} {args : Array Value} {below : List Frame} {meth : Method} {c : Code} {T : State} {H : Heap} {locs : List Loc} {cells slots : Nat}
abbrev vx_CSW (R : Room) (s : State) (args : Array Value) (own : String) (index : Nat) (y : MethodName) (bytes : ByteArray) (maxL : Nat) (ret : Option FieldType) (hh : List (Nat × Nat × Nat × Nat)) (ws : List Cond) (rm : Room) (mc ms n : Nat) : Prop :=
  (rm.cells = mc ∧ rm.slots = ms ∧ rm.frames + 1 ≤ R.frames ∧ 8 + (maxL + 11) + rm.locals ≤ R.locals ∧ (∀ w ∈ ws, ∀ (a' : Array Value) (U : State), s.WarmedH U.vm → w.before a' U = true) ∧ Cond.codeWith y bytes maxL ret hh ∈ ws) ∧
  (Cond.codeWith y bytes maxL ret hh).before args s = true ∧ (Cond.initialized y.cls).before args s = true ∧ (y.cls ≠ "java/lang/invoke/MethodHandle" ∧ y.cls ≠ "java/lang/invoke/VarHandle") ∧
  (∀ sig, parseMethodDescriptor y.desc = some sig → n = sig.parameters.length) ∧ (Cond.methodLink own index y).before args s = true ∧ (Cond.static y).before args s = true
theorem vx_cwSW {own : String} {index maxL mc ms : Nat} {y : MethodName} {bytes : ByteArray} {ret : Option FieldType} {hh : List (Nat × Nat × Nat × Nat)} {Ts ws ws' : List Cond} {rm : Room} (n : Nat) (ht : ∀ w ∈ Ts, w.before args s = true) (hT : GoodIn Ts (va_wsS own index y ws)) (hw : ws = Cond.codeWith y bytes maxL ret hh :: ws') (hrc : rm.cells = mc) (hrs : rm.slots = ms)
    (hd : y.cls ≠ "java/lang/invoke/MethodHandle" ∧ y.cls ≠ "java/lang/invoke/VarHandle" ∧ (parseMethodDescriptor y.desc).map (fun d => d.parameters.length) = some n) (hR : rm.frames + 1 ≤ R.frames ∧ 8 + (maxL + 11) + rm.locals ≤ R.locals) :
    vx_CSW R s args own index y bytes maxL ret hh ws rm mc ms n := by
  have ok : ∀ w ∈ va_wsS own index y ws, w.before args s = true := fun w h => ht w (hT w h).1
  have hG : GoodIn Ts ws := fun w h => hT w (by unfold va_wsS; exact List.mem_append_right _ h)
  have hc : Cond.codeWith y bytes maxL ret hh ∈ ws := by rw [hw]; exact List.mem_cons_self
  refine ⟨⟨hrc, hrs, hR.1, hR.2, pay_in ht hG, hc⟩, ht _ (hG _ hc).1, ok _ (by simp [va_wsS]), ⟨hd.1, hd.2.1⟩, fun sig h => ?_, ok _ (by simp [va_wsS]), ok _ (by simp [va_wsS])⟩
  have h2 := hd.2.2
  rw [h] at h2
  exact (Option.some.inj h2).symm
theorem vx_callSW (X : Stand p l e R s m args below meth c T locs cells slots) (hexec : p.tables.exec = Jvm.exec) {own : String} {index : Nat} {y : MethodName} {bytes : ByteArray} {maxL : Nat} {ret : Option FieldType} {hh : List (Nat × Nat × Nat × Nat)}
    (hown : s.vm.findClass own = some m.cls) (hlink : (Cond.methodLink own index y).before args s = true) (hstat : (Cond.static y).before args s = true) (hinit : (Cond.initialized y.cls).before args s = true)
    (hcode : (Cond.codeWith y bytes maxL ret hh).before args s = true) (hy : y.cls ≠ "java/lang/invoke/MethodHandle" ∧ y.cls ≠ "java/lang/invoke/VarHandle")
    {W9 : Nat} {Pre : Pt → Array Value → Prop} {Post : Pt → Array Value → Option Value → Pt → Prop} (hK : Back l R p e below s args y 3 W9 Pre Post)
    {g : JFrame} (hg : g.method = m) (hsize : g.locals.size = c.maxLocals) {argsL rest : List Value} (hlen : ∀ sig, parseMethodDescriptor y.desc = some sig → argsL.length = sig.parameters.length)
    (hstack : g.stack = argsL.reverse ++ rest) (hW : 2 * g.monitorRoom + (rest.map fun v => v.category).sum ≤ W9) (hdg : decode c.code g.pc = .ok (.invokestatic index, 3))
    (hpre : ∀ vm₁, s.WarmedH vm₁ → Pre ⟨T.setVm vm₁, locs, cells, slots⟩ argsL.toArray) :
    ∃ (v : Option Value) (vm₁ : Vm) (B : Pt), s.WarmedH vm₁ ∧ Stand p l e R s m args below meth c B.U B.locs B.cells B.slots ∧ Post ⟨T.setVm vm₁, locs, cells, slots⟩ argsL.toArray v B ∧
      ∀ target, Steps p.tables e below (B.U.setTop { g with pc := g.pc + 3, stack := v.toList ++ rest }) target → Steps p.tables e below (T.setTop g) target := by
  obtain ⟨mk, methM, cM, hnamed, hmethM, -, -, -, -, -, -, hsigM⟩ := Cond.codeWith_spec hcode
  have hstatic : methM.isStatic = true := Cond.static_spec hnamed hmethM hstat
  obtain ⟨kP, hkP, -⟩ := className_of_methodNamed hnamed
  have hinitP : kP.init = .initialized := Cond.initialized_spec (findClass_of_methodNamed hnamed) hkP hinit
  obtain ⟨vm₁, X₁, hstep₁⟩ := X.invokestatic hexec hown hlink hnamed hmethM hstatic hkP hinitP hy (g := g) hg (argsL := argsL) (rest := rest) (hlen _ hsigM) hstack hdg
  obtain ⟨v, B, X', hpost, hsteps⟩ := hK m meth c ⟨T.setVm vm₁, locs, cells, slots⟩ { g with stack := rest } (.invokestatic index) mk argsL.toArray X₁ hg hsize hdg hW (X₁.named hnamed) (hpre vm₁ X₁.warmed)
  exact ⟨v, vm₁, B, X₁.warmed, X', hpost, fun target h => hstep₁ _ fun acts => by rw [doInvoke_state]; exact hsteps.trans h⟩
theorem vx_runSW {y : MethodName} {bytes cc : ByteArray} {maxL nL mc ms n index : Nat} {ret : Option FieldType} {hh : List (Nat × Nat × Nat × Nat)} {ws : List Cond} {rm : Room} {Pc : Array Value → State → Prop} {Qc : Array Value → State → Outcome → State → Prop} {free : Addr → Prop} {Ts : List Cond} {own : String} {As rest : List Value} {g : JFrame}
    (S : CallFix p m c cc nL s args Ts own) (hM : Met l y ws rm Pc Qc mc ms free) (cw : vx_CSW R s args own index y bytes maxL ret hh ws rm mc ms n) (hp : PreS s H Pc As)
    (hg : g.method = m) (hn : As.length = n) (hsize : g.locals.size = nL) (hstack : g.stack = As.reverse ++ rest) (hW : 2 * g.monitorRoom + (rest.map fun v => v.category).sum ≤ 8) (hdg : decode cc g.pc = .ok (.invokestatic index, 3)) (hf : cells + mc ≤ R.cells ∧ slots + ms ≤ R.slots) :
    va_Run p l e R s m args below meth c H locs cells slots mc ms g rest (Qc As.toArray) (free) := by
  obtain ⟨⟨hrc, hrs, hfr, hlo, hws, hcw⟩, hcode, hini, hy, hlen, hl, hstt⟩ := cw
  have hK : Back l R p e below s args y 3 8 (PreOf R mc ms Pc) (PostOf Qc mc ms free) := va_backW (hh := hh) (bytes := bytes) (maxL := maxL) (ret := ret) hM hp.1 hrc hrs hfr hlo hws hcw (fun a' U hW => word_at hW (Or.inl (by first | rfl | simp [Cond.onTables, Cond.keeps, Cond.steady])) hini)
  obtain ⟨hx, hb, hml, ho, -⟩ := S
  intro T hT X
  obtain ⟨v, vm₁, ⟨U', l2, c2, s2⟩, hW₁, X', ⟨g', mk, t, L, e1, e2, hq, h1, hL, h2, h3⟩, st⟩ := vx_callSW X hx (hh := hh) (bytes := bytes) (maxL := maxL) (ret := ret) ho hl hstt hini hcode hy hK hg (hsize.trans hml.symm) (argsL := As) (rest := rest) (fun sig h => hn.trans (hlen sig h)) hstack hW (by rw [hb]; exact hdg)
    (fun vm₁ hW₁ => ⟨hf.1, hf.2, hp.2 (T.setVm vm₁) hT hW₁⟩)
  dsimp only [Pt.U, Pt.locs, Pt.cells, Pt.slots] at X' e1 e2 h1 h2 h3 st
  subst h1; subst h2; subst h3
  exact ⟨v, (T.setVm vm₁).calling g' mk As.toArray, t, U', L, hT, X', hL, e1, e2, hq, st⟩
/-- a thing of a world lies in the heap -/
theorem vx_lt {D : va_G} {cl : List vw_C} {ws : va_W} {H1 : Heap} (h : va_P D cl ws H1) {k : Nat} {q : Nat × va_E} (hk : ws[k]? = some q) : q.1 < H1.size := (h k q hk).lt
end VXS
/-! ===== END ===== -/
/-! ===== BEGIN methods with a table of their own: called by a name, returning or throwing ===== -/
section VXH
/-! vx_backW, vx_callVX, vx_callSX, vx_callVW, vx_runVW, vx_runVX, vx_runSX, vx_ofWH follow the same proofs as their sisters above (Free/Laws.lean, Shelf42/LK1.lean); vx_outP calls Shelf42/NT130.lean (outThrough). -/
section
variable {l : Launch} {R : Room} {p : Program} {e : Env} {below : List Frame} {s : State} {sargs : Array Value} {y : MethodName} {len W9 : Nat}
theorem vx_backW {ws : List Cond} {rm : Room} {Pc : Array Value → State → Prop} {Qc : Array Value → State → Outcome → State → Prop} {XC : String → State → State → Prop} {mc ms : Nat} {free : Addr → Prop} {bytes : ByteArray} {maxL : Nat} {ret : Option FieldType} {hh : List (Nat × Nat × Nat × Nat)}
    (hM : vx_Met l y ws rm Pc Qc XC mc ms free) (hblind : FrameBlind Pc) (hrc : rm.cells = mc) (hrs : rm.slots = ms)
    (hframes : rm.frames + 1 ≤ R.frames) (hlocals : W9 + (maxL + 11) + rm.locals ≤ R.locals)
    (hws : ∀ w ∈ ws, ∀ a' U, s.WarmedH U.vm → w.before a' U = true) (hcode : Cond.codeWith y bytes maxL ret hh ∈ ws) (hinit : ∀ a' U, s.WarmedH U.vm → (Cond.initialized y.cls).before a' U = true) :
    vx_Back l R p e below s sargs y len W9 (PreOf R mc ms Pc) (PostOf Qc mc ms free) (vx_Post XC mc ms free) := by
  intro m meth c A g ig mk a X hg hsize hdg hW hn hp
  have h1 : (headSpec ws rm).pre.before a A.U = true := atoms_intro fun w hw => hws w hw _ _ X.warmed
  have h2 : (Cond.codeWith y bytes maxL ret hh).before a A.U = true := hws _ hcode _ _ X.warmed
  have h3 : (Cond.initialized y.cls).before a A.U = true := hinit _ _ X.warmed
  have h4 : A.cells + (headSpec ws rm).room.cells ≤ R.cells := by rw [show (headSpec ws rm).room.cells = mc from hrc]; exact hp.1
  have h5 : A.slots + (headSpec ws rm).room.slots ≤ R.slots := by rw [show (headSpec ws rm).room.slots = ms from hrs]; exact hp.2.1
  have hPc : Pc a (A.U.calling g mk a) := hblind _ _ _ _ hp.2.2
  obtain ⟨U, Ls, c0, s0⟩ := A
  dsimp only [Pt.U, Pt.locs, Pt.cells, Pt.slots] at h1 h2 h3 h4 h5 X hn hPc ⊢
  obtain ⟨m9, methY, cY, hn9, hmY, hcY, -, hlY, -⟩ := Cond.codeWith_spec h2
  cases Option.some.inj (hn9.symm.trans hn)
  obtain ⟨kY, hkY, -⟩ := className_of_methodNamed hn
  have hinitY : kY.init = .initialized := Cond.initialized_spec (findClass_of_methodNamed hn) hkY h3
  have h : At U g.method c below := by rw [hg]; exact X.here
  have hlocals9 : W9 + (maxL + 11) + (headSpec ws rm).room.locals ≤ R.locals := hlocals
  have happ : (headSpec ws rm).appliesLoose y e.platform (U.calling g mk a) = true :=
    Spec.appliesLoose_calling (g := g) h hdg hn hkY hinitY
      (X.room_calling (g := g) (R' := (headSpec ws rm).room) hsize hmY hcY hframes (by rw [hlY]; omega) h4 h5) h1
  obtain ⟨mid, hmid⟩ := h.above
  have hfr : (U.setTop g).frames = (.java g :: mid) ++ below := by rw [State.frames_setTop' g h.top, hmid]; rfl
  obtain ⟨o, s₂, hsteps, -, hend, hq⟩ := Steps.callFree hM p X.admits X.cas X.clock (acts := []) hfr happ hPc trivial
  have hq' : vx_Q Qc XC mc ms free a (U.calling g mk a) o s₂ := hq
  rw [State.frames_setTop' g h.top] at hend
  obtain ⟨g₀, hg0⟩ := Option.isSome_iff_exists.mp h.top
  obtain ⟨r, hr⟩ := State.topJava?_eq_some.mp hg0
  have hr' : (({ U with heap := s₂.heap, slotsUsed := s₂.slotsUsed } : State).setVm s₂.vm).frames = .java g₀ :: r := hr
  rcases hq' with ⟨hqc, L, hfe, hL⟩ | ⟨q, rfl, E, ce, L, hx, hce, hcv, hcl, hW₂, hsm, hL⟩
  · obtain ⟨⟨v, rfl⟩, hW₂, e2, q2, q3, q4, q5, q6⟩ := id hfe
    have e3 : s₂ = ({ (U.calling g mk a).setFrames s₂.frames with heap := s₂.heap, slotsUsed := s₂.slotsUsed } : State).setVm s₂.vm := by
      have : s₂ = ({ s₂ with vm := (U.calling g mk a).vm } : State).setVm s₂.vm := rfl
      rw [e2] at this
      exact this
    obtain ⟨c₂, i₂, len₂, hc₂, hd₂, hf₂⟩ := hend
    have hW' : U.WarmedH s₂.vm := hW₂
    have hcc : c₂ = c := by
      have h1 : s₂.code? g.method = U.code? g.method := by
        rw [State.code?_eq, State.code?_eq, hW'.alike.method?]
      exact Option.some.inj (hc₂.symm.trans (h1.trans h.code))
    subst hcc
    have hlen : len₂ = len := by rw [hdg] at hd₂; cases hd₂; rfl
    subst hlen
    have hs₂ : s₂ = (({ U with heap := s₂.heap, slotsUsed := s₂.slotsUsed } : State).setVm s₂.vm).setTop { g with pc := g.pc + len₂, stack := v.toList ++ g.stack } := by
      refine e3.trans ?_
      rw [hf₂, State.calling_eq h.top, State.setFrames_setFrames, State.setTop_of_frames _ hr', hr]
      rfl
    have hsame : U.sameButNew ({ U with heap := s₂.heap, slotsUsed := s₂.slotsUsed } : State) L mc ms := by
      refine ⟨?_, q2, q3, q4, q5, q6⟩
      obtain ⟨t, ht, -⟩ := State.frames_cons hr
      show ({ U with heap := s₂.heap, slotsUsed := s₂.slotsUsed } : State) = { U.setFrames U.frames with heap := s₂.heap, slotsUsed := s₂.slotsUsed }
      rw [State.setFrames_self ht]
    subst hg
    refine Or.inl ⟨v, ⟨(({ U with heap := s₂.heap, slotsUsed := s₂.slotsUsed } : State).setVm s₂.vm), Ls ++ L, c0 + mc, s0 + ms⟩,
      ⟨X.admits, X.cas, X.clock, X.frames, X.room, X.hears, X.method, X.code, (X.here.setHeapUsed s₂.heap s₂.slotsUsed).setVm hW'.alike, X.tail, State.WarmedH.trans X.warmed hW', X.limits, X.bytes, X.same.trans (hsame.setVm s.vm)⟩,
      ⟨g, mk, s₂, L, rfl, rfl, hqc, rfl, hL, rfl, rfl⟩, ?_⟩
    show Steps p.tables e below _ ((({ U with heap := s₂.heap, slotsUsed := s₂.slotsUsed } : State).setVm s₂.vm).setTop { g with pc := g.pc + len₂, stack := v.toList ++ g.stack })
    rw [← hs₂]
    exact hsteps
  · obtain ⟨e2, q2, q3, q4, q5, q6⟩ := id hsm
    have e3 : s₂ = ({ (U.calling g mk a).setFrames s₂.frames with heap := s₂.heap, slotsUsed := s₂.slotsUsed } : State).setVm s₂.vm := by
      have : s₂ = ({ s₂ with vm := (U.calling g mk a).vm } : State).setVm s₂.vm := rfl
      rw [e2] at this
      exact this
    have hf₂ : s₂.frames = .throwing q :: .java g :: U.frames.tail := hend
    have hW' : U.WarmedH s₂.vm := hW₂
    have hs₂ : s₂ = ((({ U with heap := s₂.heap, slotsUsed := s₂.slotsUsed } : State).setVm s₂.vm).setTop g).pushFrame (.throwing q) := by
      refine e3.trans ?_
      rw [hf₂, State.calling_eq h.top, State.setFrames_setFrames, State.pushFrame, State.frames_setTop _ hr', State.setTop_of_frames _ hr', State.setFrames_setFrames, hr]
      rfl
    have hsame : U.sameButNew ({ U with heap := s₂.heap, slotsUsed := s₂.slotsUsed } : State) L mc ms := by
      refine ⟨?_, q2, q3, q4, q5, q6⟩
      obtain ⟨t, ht, -⟩ := State.frames_cons hr
      show ({ U with heap := s₂.heap, slotsUsed := s₂.slotsUsed } : State) = { U.setFrames U.frames with heap := s₂.heap, slotsUsed := s₂.slotsUsed }
      rw [State.setFrames_self ht]
    subst hg
    refine Or.inr ⟨q, ⟨(({ U with heap := s₂.heap, slotsUsed := s₂.slotsUsed } : State).setVm s₂.vm), Ls ++ L, c0 + mc, s0 + ms⟩,
      ⟨X.admits, X.cas, X.clock, X.frames, X.room, X.hears, X.method, X.code, (X.here.setHeapUsed s₂.heap s₂.slotsUsed).setVm hW'.alike, X.tail, State.WarmedH.trans X.warmed hW', X.limits, X.bytes, X.same.trans (hsame.setVm s.vm)⟩,
      ⟨g, mk, s₂, L, E, ce, rfl, rfl, hx, hce, hcv, hcl, rfl, hL, rfl, rfl⟩, ?_⟩
    show Steps p.tables e below _ (((({ U with heap := s₂.heap, slotsUsed := s₂.slotsUsed } : State).setVm s₂.vm).setTop g).pushFrame (.throwing q))
    rw [← hs₂]
    exact hsteps
end
variable {p : Program} {l : Launch} {e : Env} {R : Room} {s : State} {m : MethodId} {args : Array Value} {below : List Frame} {meth : Method} {c : Code} {T : State} {H : Heap} {locs : List Loc} {cells slots : Nat}
theorem vx_callVX (X : Stand p l e R s m args below meth c T locs cells slots) (hexec : p.tables.exec = Jvm.exec) {own C : String} {index : Nat} {y : MethodName} {bytes : ByteArray} {maxL : Nat} {ret : Option FieldType} {hh : List (Nat × Nat × Nat × Nat)}
    (hown : s.vm.findClass own = some m.cls) (hlink : (Cond.methodLink own index y).before args s = true) (hinst : (Cond.instanceMethod y).before args s = true) (hsel : (Cond.selects C y y).before args s = true)
    (hcode : (Cond.codeWith y bytes maxL ret hh).before args s = true) (hy : y.cls ≠ "java/lang/invoke/MethodHandle" ∧ y.cls ≠ "java/lang/invoke/VarHandle")
    {W9 : Nat} {Pre : Pt → Array Value → Prop} {Post : Pt → Array Value → Option Value → Pt → Prop} {PostX : Pt → Array Value → Addr → Pt → Prop} (hK : vx_Back l R p e below s args y 3 W9 Pre Post PostX)
    {b : Addr} {cellB : Cell} (hcell : T.heap[b]? = some cellB) (hobj : cellB.vm.isStatics = false) (hcls : s.vm.findClass C = some cellB.cls)
    {g : JFrame} (hg : g.method = m) (hsize : g.locals.size = c.maxLocals) {argsL rest : List Value} (hlen : ∀ sig, parseMethodDescriptor y.desc = some sig → argsL.length = sig.parameters.length)
    (hstack : g.stack = argsL.reverse ++ .ref b :: rest) (hW : 2 * g.monitorRoom + (rest.map fun v => v.category).sum ≤ W9) (hdg : decode c.code g.pc = .ok (.invokevirtual index, 3))
    (hpre : ∀ vm₁, s.WarmedH vm₁ → Pre ⟨T.setVm vm₁, locs, cells, slots⟩ (Value.ref b :: argsL).toArray) :
    (∃ (v : Option Value) (vm₁ : Vm) (B : Pt), s.WarmedH vm₁ ∧ Stand p l e R s m args below meth c B.U B.locs B.cells B.slots ∧ Post ⟨T.setVm vm₁, locs, cells, slots⟩ (Value.ref b :: argsL).toArray v B ∧
      ∀ target, Steps p.tables e below (B.U.setTop { g with pc := g.pc + 3, stack := v.toList ++ rest }) target → Steps p.tables e below (T.setTop g) target) ∨
    (∃ (q : Addr) (vm₁ : Vm) (B : Pt), s.WarmedH vm₁ ∧ Stand p l e R s m args below meth c B.U B.locs B.cells B.slots ∧ PostX ⟨T.setVm vm₁, locs, cells, slots⟩ (Value.ref b :: argsL).toArray q B ∧
      Steps p.tables e below (T.setTop g) ((B.U.setTop { g with stack := rest }).pushFrame (.throwing q))) := by
  obtain ⟨mk, methM, hnamed, hmethM, hstM, habM⟩ := Cond.instanceMethod_spec hinst
  obtain ⟨m8, methM', cM, hn8, hmethM', -, -, -, -, -, -, hsigM⟩ := Cond.codeWith_spec hcode
  cases Option.some.inj (hn8.symm.trans hnamed)
  cases hmethM.symm.trans hmethM'
  obtain ⟨c2, r2, m2, q1, q2, q3, q4, kP, hkP, hkPi⟩ := Cond.selects_spec hsel
  cases hcls.symm.trans q1
  cases (State.methodFound?_of_named hnamed hy).symm.trans q2
  cases hnamed.symm.trans q3
  have hselP : selectMethod e.platform s.vm cellB.cls mk = .method mk := by rw [Launch.admits_selectMethod X.admits]; exact q4
  obtain ⟨vm₁, X₁, hstep₁⟩ := X.invokevirtual hexec hown hlink hnamed hmethM hstM hkP hkPi hy (a := b) (cell := cellB) hcell
    (fun z h => by rw [h] at hobj; cases hobj) hselP hmethM habM hkP hkPi (g := g) hg (argsL := argsL) (rest := rest) (hlen _ hsigM) hstack hdg
  rcases hK m meth c ⟨T.setVm vm₁, locs, cells, slots⟩ { g with stack := rest } (.invokevirtual index) mk (Value.ref b :: argsL).toArray X₁ hg hsize hdg hW (X₁.named hnamed) (hpre vm₁ X₁.warmed) with ⟨v, B, X', hpost, hsteps⟩ | ⟨q, B, X', hpost, hsteps⟩
  · exact Or.inl ⟨v, vm₁, B, X₁.warmed, X', hpost, fun target h => hstep₁ _ fun acts => by rw [doInvoke_state]; exact hsteps.trans h⟩
  · exact Or.inr ⟨q, vm₁, B, X₁.warmed, X', hpost, hstep₁ _ fun acts => by rw [doInvoke_state]; exact hsteps⟩
theorem vx_callSX (X : Stand p l e R s m args below meth c T locs cells slots) (hexec : p.tables.exec = Jvm.exec) {own : String} {index : Nat} {y : MethodName} {bytes : ByteArray} {maxL : Nat} {ret : Option FieldType} {hh : List (Nat × Nat × Nat × Nat)}
    (hown : s.vm.findClass own = some m.cls) (hlink : (Cond.methodLink own index y).before args s = true) (hstat : (Cond.static y).before args s = true) (hinit : (Cond.initialized y.cls).before args s = true)
    (hcode : (Cond.codeWith y bytes maxL ret hh).before args s = true) (hy : y.cls ≠ "java/lang/invoke/MethodHandle" ∧ y.cls ≠ "java/lang/invoke/VarHandle")
    {W9 : Nat} {Pre : Pt → Array Value → Prop} {Post : Pt → Array Value → Option Value → Pt → Prop} {PostX : Pt → Array Value → Addr → Pt → Prop} (hK : vx_Back l R p e below s args y 3 W9 Pre Post PostX)
    {g : JFrame} (hg : g.method = m) (hsize : g.locals.size = c.maxLocals) {argsL rest : List Value} (hlen : ∀ sig, parseMethodDescriptor y.desc = some sig → argsL.length = sig.parameters.length)
    (hstack : g.stack = argsL.reverse ++ rest) (hW : 2 * g.monitorRoom + (rest.map fun v => v.category).sum ≤ W9) (hdg : decode c.code g.pc = .ok (.invokestatic index, 3))
    (hpre : ∀ vm₁, s.WarmedH vm₁ → Pre ⟨T.setVm vm₁, locs, cells, slots⟩ argsL.toArray) :
    (∃ (v : Option Value) (vm₁ : Vm) (B : Pt), s.WarmedH vm₁ ∧ Stand p l e R s m args below meth c B.U B.locs B.cells B.slots ∧ Post ⟨T.setVm vm₁, locs, cells, slots⟩ argsL.toArray v B ∧
      ∀ target, Steps p.tables e below (B.U.setTop { g with pc := g.pc + 3, stack := v.toList ++ rest }) target → Steps p.tables e below (T.setTop g) target) ∨
    (∃ (q : Addr) (vm₁ : Vm) (B : Pt), s.WarmedH vm₁ ∧ Stand p l e R s m args below meth c B.U B.locs B.cells B.slots ∧ PostX ⟨T.setVm vm₁, locs, cells, slots⟩ argsL.toArray q B ∧
      Steps p.tables e below (T.setTop g) ((B.U.setTop { g with stack := rest }).pushFrame (.throwing q))) := by
  obtain ⟨mk, methM, cM, hnamed, hmethM, -, -, -, -, -, -, hsigM⟩ := Cond.codeWith_spec hcode
  have hstatic : methM.isStatic = true := Cond.static_spec hnamed hmethM hstat
  obtain ⟨kP, hkP, -⟩ := className_of_methodNamed hnamed
  have hinitP : kP.init = .initialized := Cond.initialized_spec (findClass_of_methodNamed hnamed) hkP hinit
  obtain ⟨vm₁, X₁, hstep₁⟩ := X.invokestatic hexec hown hlink hnamed hmethM hstatic hkP hinitP hy (g := g) hg (argsL := argsL) (rest := rest) (hlen _ hsigM) hstack hdg
  rcases hK m meth c ⟨T.setVm vm₁, locs, cells, slots⟩ { g with stack := rest } (.invokestatic index) mk argsL.toArray X₁ hg hsize hdg hW (X₁.named hnamed) (hpre vm₁ X₁.warmed) with ⟨v, B, X', hpost, hsteps⟩ | ⟨q, B, X', hpost, hsteps⟩
  · exact Or.inl ⟨v, vm₁, B, X₁.warmed, X', hpost, fun target h => hstep₁ _ fun acts => by rw [doInvoke_state]; exact hsteps.trans h⟩
  · exact Or.inr ⟨q, vm₁, B, X₁.warmed, X', hpost, hstep₁ _ fun acts => by rw [doInvoke_state]; exact hsteps⟩
theorem vx_callVW (X : Stand p l e R s m args below meth c T locs cells slots) (hexec : p.tables.exec = Jvm.exec) {own C : String} {index : Nat} {y : MethodName} {bytes : ByteArray} {maxL : Nat} {ret : Option FieldType} {hh : List (Nat × Nat × Nat × Nat)}
    (hown : s.vm.findClass own = some m.cls) (hlink : (Cond.methodLink own index y).before args s = true) (hinst : (Cond.instanceMethod y).before args s = true) (hsel : (Cond.selects C y y).before args s = true)
    (hcode : (Cond.codeWith y bytes maxL ret hh).before args s = true) (hy : y.cls ≠ "java/lang/invoke/MethodHandle" ∧ y.cls ≠ "java/lang/invoke/VarHandle")
    {W9 : Nat} {Pre : Pt → Array Value → Prop} {Post : Pt → Array Value → Option Value → Pt → Prop} (hK : Back l R p e below s args y 3 W9 Pre Post)
    {b : Addr} {cellB : Cell} (hcell : T.heap[b]? = some cellB) (hobj : cellB.vm.isStatics = false) (hcls : s.vm.findClass C = some cellB.cls)
    {g : JFrame} (hg : g.method = m) (hsize : g.locals.size = c.maxLocals) {argsL rest : List Value} (hlen : ∀ sig, parseMethodDescriptor y.desc = some sig → argsL.length = sig.parameters.length)
    (hstack : g.stack = argsL.reverse ++ .ref b :: rest) (hW : 2 * g.monitorRoom + (rest.map fun v => v.category).sum ≤ W9) (hdg : decode c.code g.pc = .ok (.invokevirtual index, 3))
    (hpre : ∀ vm₁, s.WarmedH vm₁ → Pre ⟨T.setVm vm₁, locs, cells, slots⟩ (Value.ref b :: argsL).toArray) :
    ∃ (v : Option Value) (vm₁ : Vm) (B : Pt), s.WarmedH vm₁ ∧ Stand p l e R s m args below meth c B.U B.locs B.cells B.slots ∧ Post ⟨T.setVm vm₁, locs, cells, slots⟩ (Value.ref b :: argsL).toArray v B ∧
      ∀ target, Steps p.tables e below (B.U.setTop { g with pc := g.pc + 3, stack := v.toList ++ rest }) target → Steps p.tables e below (T.setTop g) target := by
  obtain ⟨mk, methM, hnamed, hmethM, hstM, habM⟩ := Cond.instanceMethod_spec hinst
  obtain ⟨m8, methM', cM, hn8, hmethM', -, -, -, -, -, -, hsigM⟩ := Cond.codeWith_spec hcode
  cases Option.some.inj (hn8.symm.trans hnamed)
  cases hmethM.symm.trans hmethM'
  obtain ⟨c2, r2, m2, q1, q2, q3, q4, kP, hkP, hkPi⟩ := Cond.selects_spec hsel
  cases hcls.symm.trans q1
  cases (State.methodFound?_of_named hnamed hy).symm.trans q2
  cases hnamed.symm.trans q3
  have hselP : selectMethod e.platform s.vm cellB.cls mk = .method mk := by rw [Launch.admits_selectMethod X.admits]; exact q4
  obtain ⟨vm₁, X₁, hstep₁⟩ := X.invokevirtual hexec hown hlink hnamed hmethM hstM hkP hkPi hy (a := b) (cell := cellB) hcell
    (fun z h => by rw [h] at hobj; cases hobj) hselP hmethM habM hkP hkPi (g := g) hg (argsL := argsL) (rest := rest) (hlen _ hsigM) hstack hdg
  obtain ⟨v, B, X', hpost, hsteps⟩ := hK m meth c ⟨T.setVm vm₁, locs, cells, slots⟩ { g with stack := rest } (.invokevirtual index) mk (Value.ref b :: argsL).toArray X₁ hg hsize hdg hW (X₁.named hnamed) (hpre vm₁ X₁.warmed)
  exact ⟨v, vm₁, B, X₁.warmed, X', hpost, fun target h => hstep₁ _ fun acts => by rw [doInvoke_state]; exact hsteps.trans h⟩
abbrev vx_CVW (R : Room) (s : State) (args : Array Value) (own C : String) (index : Nat) (y : MethodName) (bytes : ByteArray) (maxL : Nat) (ret : Option FieldType) (hh : List (Nat × Nat × Nat × Nat)) (ws : List Cond) (rm : Room) (mc ms n : Nat) : Prop :=
  (rm.cells = mc ∧ rm.slots = ms ∧ rm.frames + 1 ≤ R.frames ∧ 8 + (maxL + 11) + rm.locals ≤ R.locals ∧ (∀ w ∈ ws, ∀ (a' : Array Value) (U : State), s.WarmedH U.vm → w.before a' U = true) ∧ Cond.codeWith y bytes maxL ret hh ∈ ws) ∧
  (Cond.codeWith y bytes maxL ret hh).before args s = true ∧ (Cond.initialized y.cls).before args s = true ∧ (y.cls ≠ "java/lang/invoke/MethodHandle" ∧ y.cls ≠ "java/lang/invoke/VarHandle") ∧
  (∀ sig, parseMethodDescriptor y.desc = some sig → n = sig.parameters.length) ∧ (Cond.methodLink own index y).before args s = true ∧ (Cond.instanceMethod y).before args s = true ∧ (Cond.selects C y y).before args s = true
theorem vx_cwVW {own C : String} {index maxL mc ms : Nat} {y : MethodName} {bytes : ByteArray} {ret : Option FieldType} {hh : List (Nat × Nat × Nat × Nat)} {Ts ws ws' : List Cond} {rm : Room} (n : Nat) (ht : ∀ w ∈ Ts, w.before args s = true) (hT : GoodIn Ts (wsV own index C y ws)) (hw : ws = Cond.codeWith y bytes maxL ret hh :: ws') (hrc : rm.cells = mc) (hrs : rm.slots = ms)
    (hd : y.cls = C ∧ y.cls ≠ "java/lang/invoke/MethodHandle" ∧ y.cls ≠ "java/lang/invoke/VarHandle" ∧ (parseMethodDescriptor y.desc).map (fun d => d.parameters.length) = some n) (hR : rm.frames + 1 ≤ R.frames ∧ 8 + (maxL + 11) + rm.locals ≤ R.locals) :
    vx_CVW R s args own C index y bytes maxL ret hh ws rm mc ms n := by
  obtain ⟨hC, hd⟩ := hd
  subst hC
  have ok : ∀ w ∈ wsV own index y.cls y ws, w.before args s = true := fun w h => ht w (hT w h).1
  have hG : GoodIn Ts ws := fun w h => hT w (by unfold wsV; exact List.mem_append_right _ h)
  have hc : Cond.codeWith y bytes maxL ret hh ∈ ws := by rw [hw]; exact List.mem_cons_self
  refine ⟨⟨hrc, hrs, hR.1, hR.2, pay_in ht hG, hc⟩, ht _ (hG _ hc).1, ok _ (by simp [wsV]), ⟨hd.1, hd.2.1⟩, fun sig h => ?_, ok _ (by simp [wsV]), ok _ (by simp [wsV]), ok _ (by simp [wsV])⟩
  have h2 := hd.2.2
  rw [h] at h2
  exact (Option.some.inj h2).symm
theorem vx_runVW {y : MethodName} {bytes cc : ByteArray} {maxL nL mc ms n index : Nat} {ret : Option FieldType} {hh : List (Nat × Nat × Nat × Nat)} {ws : List Cond} {rm : Room} {Pc : Array Value → State → Prop} {Qc : Array Value → State → Outcome → State → Prop} {free : Addr → Prop} {Ts : List Cond} {own C : String} {b : Addr} {As rest : List Value} {g : JFrame}
    (S : CallFix p m c cc nL s args Ts own) (hM : Met l y ws rm Pc Qc mc ms free) (cw : vx_CVW R s args own C index y bytes maxL ret hh ws rm mc ms n) (hp : PreV s H C b Pc As)
    (hg : g.method = m) (hn : As.length = n) (hsize : g.locals.size = nL) (hstack : g.stack = As.reverse ++ .ref b :: rest) (hW : 2 * g.monitorRoom + (rest.map fun v => v.category).sum ≤ 8) (hdg : decode cc g.pc = .ok (.invokevirtual index, 3)) (hf : cells + mc ≤ R.cells ∧ slots + ms ≤ R.slots) :
    va_Run p l e R s m args below meth c H locs cells slots mc ms g rest (Qc (Value.ref b :: As).toArray) free := by
  obtain ⟨⟨hrc, hrs, hfr, hlo, hws, hcw⟩, hcode, hini, hy, hlen, hl, hin, hse⟩ := cw
  have hK : Back l R p e below s args y 3 8 (PreOf R mc ms Pc) (PostOf Qc mc ms free) := va_backW (hh := hh) (bytes := bytes) (maxL := maxL) (ret := ret) hM hp.1 hrc hrs hfr hlo hws hcw (fun a' U hW => word_at hW (Or.inl (by first | rfl | simp [Cond.onTables, Cond.keeps, Cond.steady])) hini)
  obtain ⟨hx, hb, hml, ho, -⟩ := S
  obtain ⟨-, ⟨cellB, hcB, hoB, hclB⟩, hPc⟩ := hp
  intro T hT X
  obtain ⟨v, vm₁, ⟨U', l2, c2, s2⟩, hW₁, X', ⟨g', mk, t, L, e1, e2, hq, h1, hL, h2, h3⟩, st⟩ := vx_callVW X hx (C := C) (hh := hh) (bytes := bytes) (maxL := maxL) (ret := ret) ho hl hin hse hcode hy hK (by rw [hT]; exact hcB) hoB hclB hg (hsize.trans hml.symm) (argsL := As) (rest := rest) (fun sig h => hn.trans (hlen sig h)) hstack hW (by rw [hb]; exact hdg)
    (fun vm₁ hW₁ => ⟨hf.1, hf.2, hPc (T.setVm vm₁) hT hW₁⟩)
  dsimp only [Pt.U, Pt.locs, Pt.cells, Pt.slots] at X' e1 e2 h1 h2 h3 st
  subst h1; subst h2; subst h3
  exact ⟨v, (T.setVm vm₁).calling g' mk (Value.ref b :: As).toArray, t, U', L, hT, X', hL, e1, e2, hq, st⟩
section
variable {y : MethodName} {bytes cc : ByteArray} {maxL nL mc ms n index : Nat} {ret : Option FieldType} {ws : List Cond} {rm : Room} {Pc : Array Value → State → Prop} {Qc : Array Value → State → Outcome → State → Prop} {XC : String → State → State → Prop} {free : Addr → Prop} {Ts : List Cond} {own C : String} {b : Addr} {As rest : List Value} {g : JFrame}
theorem vx_runVX {hh : List (Nat × Nat × Nat × Nat)} (S : CallFix p m c cc nL s args Ts own) (hM : vx_Met l y ws rm Pc Qc XC mc ms free) (cw : vx_CVW R s args own C index y bytes maxL ret hh ws rm mc ms n) (hp : PreV s H C b Pc As)
    (hg : g.method = m) (hn : As.length = n) (hsize : g.locals.size = nL) (hstack : g.stack = As.reverse ++ .ref b :: rest) (hW : 2 * g.monitorRoom + (rest.map fun v => v.category).sum ≤ 8) (hdg : decode cc g.pc = .ok (.invokevirtual index, 3)) (hf : cells + mc ≤ R.cells ∧ slots + ms ≤ R.slots) :
    vx_Run p l e R s m args below meth c H locs cells slots mc ms g rest (Qc (Value.ref b :: As).toArray) XC free := by
  obtain ⟨⟨hrc, hrs, hfr, hlo, hws, hcw⟩, hcode, hini, hy, hlen, hl, hin, hse⟩ := cw
  have hK : vx_Back l R p e below s args y 3 8 (PreOf R mc ms Pc) (PostOf Qc mc ms free) (vx_Post XC mc ms free) := vx_backW (hh := hh) (bytes := bytes) (maxL := maxL) (ret := ret) hM hp.1 hrc hrs hfr hlo hws hcw (fun a' U hW => word_at hW (Or.inl (by first | rfl | simp [Cond.onTables, Cond.keeps, Cond.steady])) hini)
  obtain ⟨hx, hb, hml, ho, -⟩ := S
  obtain ⟨-, ⟨cellB, hcB, hoB, hclB⟩, hPc⟩ := hp
  intro T hT X
  rcases vx_callVX X hx (C := C) (hh := hh) (bytes := bytes) (maxL := maxL) (ret := ret) ho hl hin hse hcode hy hK (by rw [hT]; exact hcB) hoB hclB hg (hsize.trans hml.symm) (argsL := As) (rest := rest) (fun sig h => hn.trans (hlen sig h)) hstack hW (by rw [hb]; exact hdg)
    (fun vm₁ hW₁ => ⟨hf.1, hf.2, hPc (T.setVm vm₁) hT hW₁⟩) with ⟨v, vm₁, ⟨U', l2, c2, s2⟩, hW₁, X', ⟨g', mk, t, L, e1, e2, hq, h1, hL, h2, h3⟩, st⟩ | ⟨q, vm₁, ⟨U', l2, c2, s2⟩, hW₁, X', ⟨g', mk, t, L, E, ce, e1, e2, hq, hce, hcv, hcl, h1, hL, h2, h3⟩, st⟩
  · dsimp only [Pt.U, Pt.locs, Pt.cells, Pt.slots] at X' e1 e2 h1 h2 h3 st
    subst h1; subst h2; subst h3
    exact Or.inl ⟨v, (T.setVm vm₁).calling g' mk (Value.ref b :: As).toArray, t, U', L, hT, X', hL, e1, e2, hq, st⟩
  · dsimp only [Pt.U, Pt.locs, Pt.cells, Pt.slots] at X' e1 e2 h1 h2 h3 st hcl
    subst h1; subst h2; subst h3
    exact Or.inr ⟨q, (T.setVm vm₁).calling g' mk (Value.ref b :: As).toArray, t, U', L, E, ce, hT, X', hL, e1, e2, hq, hce, hcv, vx_cls hW₁ hcl, st⟩
theorem vx_runSX {hh : List (Nat × Nat × Nat × Nat)} (S : CallFix p m c cc nL s args Ts own) (hM : vx_Met l y ws rm Pc Qc XC mc ms free) (cw : vx_CSW R s args own index y bytes maxL ret hh ws rm mc ms n) (hp : PreS s H Pc As)
    (hg : g.method = m) (hn : As.length = n) (hsize : g.locals.size = nL) (hstack : g.stack = As.reverse ++ rest) (hW : 2 * g.monitorRoom + (rest.map fun v => v.category).sum ≤ 8) (hdg : decode cc g.pc = .ok (.invokestatic index, 3)) (hf : cells + mc ≤ R.cells ∧ slots + ms ≤ R.slots) :
    vx_Run p l e R s m args below meth c H locs cells slots mc ms g rest (Qc As.toArray) XC free := by
  obtain ⟨⟨hrc, hrs, hfr, hlo, hws, hcw⟩, hcode, hini, hy, hlen, hl, hstt⟩ := cw
  have hK : vx_Back l R p e below s args y 3 8 (PreOf R mc ms Pc) (PostOf Qc mc ms free) (vx_Post XC mc ms free) := vx_backW (hh := hh) (bytes := bytes) (maxL := maxL) (ret := ret) hM hp.1 hrc hrs hfr hlo hws hcw (fun a' U hW => word_at hW (Or.inl (by first | rfl | simp [Cond.onTables, Cond.keeps, Cond.steady])) hini)
  obtain ⟨hx, hb, hml, ho, -⟩ := S
  intro T hT X
  rcases vx_callSX X hx (hh := hh) (bytes := bytes) (maxL := maxL) (ret := ret) ho hl hstt hini hcode hy hK hg (hsize.trans hml.symm) (argsL := As) (rest := rest) (fun sig h => hn.trans (hlen sig h)) hstack hW (by rw [hb]; exact hdg)
    (fun vm₁ hW₁ => ⟨hf.1, hf.2, hp.2 (T.setVm vm₁) hT hW₁⟩) with ⟨v, vm₁, ⟨U', l2, c2, s2⟩, hW₁, X', ⟨g', mk, t, L, e1, e2, hq, h1, hL, h2, h3⟩, st⟩ | ⟨q, vm₁, ⟨U', l2, c2, s2⟩, hW₁, X', ⟨g', mk, t, L, E, ce, e1, e2, hq, hce, hcv, hcl, h1, hL, h2, h3⟩, st⟩
  · dsimp only [Pt.U, Pt.locs, Pt.cells, Pt.slots] at X' e1 e2 h1 h2 h3 st
    subst h1; subst h2; subst h3
    exact Or.inl ⟨v, (T.setVm vm₁).calling g' mk As.toArray, t, U', L, hT, X', hL, e1, e2, hq, st⟩
  · dsimp only [Pt.U, Pt.locs, Pt.cells, Pt.slots] at X' e1 e2 h1 h2 h3 st hcl
    subst h1; subst h2; subst h3
    exact Or.inr ⟨q, (T.setVm vm₁).calling g' mk As.toArray, t, U', L, E, ce, hT, X', hL, e1, e2, hq, hce, hcv, vx_cls hW₁ hcl, st⟩
end
end VXH
theorem vx_ofWH {l : Launch} {y : MethodName} {ws ws' : List Cond} {rm : Room} {Pc : Array Value → State → Prop} {Qc : Array Value → State → Outcome → State → Prop} {XC : String → State → State → Prop} {mc ms : Nat} {free : Addr → Prop} {cc : ByteArray} {maxL : Nat} {ret : Option FieldType} {hh : List (Nat × Nat × Nat × Nat)}
    (hy : plainName y.cls = true) (hw : ws = Cond.codeWith y cc maxL ret hh :: ws')
    (body : ∀ p e s m args below meth c s₁, BodyLoose p l y (headSpec ws rm) cc maxL ret e s m args below meth c s₁ → c.maxLocals = maxL → Pc args s →
      W p l e (headSpec ws rm).room s m args below meth c s.heap [] 0 0 (vx_MQ below Qc XC args s mc ms free) (entryFrame m args maxL)) : vx_Met l y ws rm Pc Qc XC mc ms free := by
  refine MetFree.of_bodyS (code := cc) (maxLocals := maxL) (ret := ret) hy ?_ ?_
  · intro args s m h hn
    obtain ⟨m9, meth, c, hn9, h1, h2, h3, h4, -, h5, h6, -⟩ := Cond.codeWith_spec (atoms_spec (ws := ws) h _ (by rw [hw]; exact List.mem_cons_self))
    cases hn.symm.trans hn9
    exact ⟨meth, c, h1, h2, h3, h4, h5, h6⟩
  · intro p e s m args below meth c s₁ B hml hP _
    have hh0 : s₁.heap = s.heap := by rw [B.state]; rfl
    obtain ⟨t, a1, o, b1, b2, b3⟩ := body p e s m args below meth c s₁ B hml hP s₁ hh0 (Stand.of_body B)
    exact ⟨t, o, a1, b1, b2, b3⟩
/-! ===== END ===== -/

def vx_atM (X : String) (names : List String) : List Cond := (Bundle.messageArmAtoms X names).filter vx_no
end
section
/-! ===== BEGIN printed: names, fields, word lists, decode rows ===== -/
def RX0 : String := "Reconcile$Fraction"
def TX0 : u_T := fun k => match k with
  | 0 => ("Reconcile$Fraction", "above", "J", false)
  | _ => ("Reconcile$Fraction", "below", "J", false)
def tyX0 : Nat → FieldType := fun k => match k with
  | 0 => .long
  | _ => .long
abbrev wsX00 : List Cond := u_ws RX0 TX0 2
theorem nmX0 : ∀ a, a < 2 → ∀ b, b < 2 → a ≠ b → (TX0 a).2.1 ≠ (TX0 b).2.1 := by decide +kernel
theorem tyX0_ok : ∀ k, k < 2 → parseFieldDescriptor (TX0 k).2.2.1 = some (tyX0 k) := by decide +kernel
abbrev cX0_init : ByteArray := prog_2_method_1_code
def yX0_init : MethodName := ⟨RX0, "<init>", "()V"⟩
abbrev cX0_measure : ByteArray := prog_2_method_2_code
def yX0_measure : MethodName := ⟨RX0, "measure", "(LReconcile$Name;LReconcile$Name;[J)V"⟩
abbrev cX0_exists : ByteArray := prog_2_method_3_code
def yX0_exists : MethodName := ⟨RX0, "exists", "()Z"⟩
abbrev cX0_isHalfAtLeast : ByteArray := prog_2_method_4_code
def yX0_isHalfAtLeast : MethodName := ⟨RX0, "isHalfAtLeast", "()Z"⟩
abbrev cX0_reduce : ByteArray := prog_2_method_5_code
def yX0_reduce : MethodName := ⟨RX0, "reduce", "()V"⟩
abbrev cX0_greatestDivisor : ByteArray := prog_2_method_6_code
def yX0_greatestDivisor : MethodName := ⟨RX0, "greatestDivisor", "(JJ)J"⟩
def RX1 : String := "Reconcile$Join"
def TX1 : u_T := fun k => match k with
  | 0 => ("Reconcile$Join", "zero", "LReconcile$Name;", true)
  | 1 => ("Reconcile$Join", "one", "LReconcile$Name;", true)
  | _ => ("Reconcile$Join", "undone", "Z", false)
def tyX1 : Nat → FieldType := fun k => match k with
  | 0 => .object "Reconcile$Name"
  | 1 => .object "Reconcile$Name"
  | _ => .boolean
abbrev wsX10 : List Cond := u_ws RX1 TX1 3
theorem nmX1 : ∀ a, a < 3 → ∀ b, b < 3 → a ≠ b → (TX1 a).2.1 ≠ (TX1 b).2.1 := by decide +kernel
theorem tyX1_ok : ∀ k, k < 3 → parseFieldDescriptor (TX1 k).2.2.1 = some (tyX1 k) := by decide +kernel
abbrev cX1_init : ByteArray := prog_3_method_1_code
def yX1_init : MethodName := ⟨RX1, "<init>", "(LReconcile$Name;LReconcile$Name;)V"⟩
abbrev cX1_takeBack : ByteArray := prog_3_method_2_code
def yX1_takeBack : MethodName := ⟨RX1, "takeBack", "()V"⟩
def RX2 : String := "Reconcile$Listing"
def TX2 : u_T := fun k => match k with
  | 0 => ("Reconcile$Listing", "begun", "Z", false)
  | 1 => ("Reconcile$Listing", "count", "I", false)
  | 2 => ("Reconcile$Listing", "zeros", "[I", true)
  | 3 => ("Reconcile$Listing", "ones", "[I", true)
  | 4 => ("Reconcile$Listing", "aboves", "[J", true)
  | 5 => ("Reconcile$Listing", "belows", "[J", true)
  | 6 => ("Reconcile$Listing", "order", "[I", true)
  | 7 => ("Reconcile$Listing", "spare", "[I", true)
  | _ => ("Reconcile$Listing", "paired", "[Z", true)
def tyX2 : Nat → FieldType := fun k => match k with
  | 0 => .boolean
  | 1 => .int
  | 2 => .array .int
  | 3 => .array .int
  | 4 => .array .long
  | 5 => .array .long
  | 6 => .array .int
  | 7 => .array .int
  | _ => .array .boolean
abbrev wsX20 : List Cond := u_ws RX2 TX2 9
theorem nmX2 : ∀ a, a < 9 → ∀ b, b < 9 → a ≠ b → (TX2 a).2.1 ≠ (TX2 b).2.1 := by decide +kernel
theorem tyX2_ok : ∀ k, k < 9 → parseFieldDescriptor (TX2 k).2.2.1 = some (tyX2 k) := by decide +kernel
abbrev cX2_init : ByteArray := prog_4_method_1_code
def yX2_init : MethodName := ⟨RX2, "<init>", "()V"⟩
abbrev cX2_begin : ByteArray := prog_4_method_2_code
def yX2_begin : MethodName := ⟨RX2, "begin", "()V"⟩
abbrev cX2_add : ByteArray := prog_4_method_3_code
def yX2_add : MethodName := ⟨RX2, "add", "(IILReconcile$Fraction;)V"⟩
abbrev cX2_size : ByteArray := prog_4_method_4_code
def yX2_size : MethodName := ⟨RX2, "size", "()I"⟩
abbrev cX2_holds : ByteArray := prog_4_method_5_code
def yX2_holds : MethodName := ⟨RX2, "holds", "(I)Z"⟩
abbrev cX2_hasName : ByteArray := prog_4_method_6_code
def yX2_hasName : MethodName := ⟨RX2, "hasName", "(I)Z"⟩
abbrev cX2_nameAt : ByteArray := prog_4_method_7_code
def yX2_nameAt : MethodName := ⟨RX2, "nameAt", "(II)I"⟩
abbrev cX2_sort : ByteArray := prog_4_method_8_code
def yX2_sort : MethodName := ⟨RX2, "sort", "()V"⟩
abbrev cX2_merge : ByteArray := prog_4_method_9_code
def yX2_merge : MethodName := ⟨RX2, "merge", "(III)V"⟩
abbrev cX2_isGreater : ByteArray := prog_4_method_10_code
def yX2_isGreater : MethodName := ⟨RX2, "isGreater", "(II)Z"⟩
abbrev cX2_isBestOfBoth : ByteArray := prog_4_method_11_code
def yX2_isBestOfBoth : MethodName := ⟨RX2, "isBestOfBoth", "(I)Z"⟩
abbrev cX2_placeAfterMixing : ByteArray := prog_4_method_12_code
def yX2_placeAfterMixing : MethodName := ⟨RX2, "placeAfterMixing", "(JI)I"⟩
abbrev cX2_partner : ByteArray := prog_4_method_13_code
def yX2_partner : MethodName := ⟨RX2, "partner", "(III)I"⟩
def RX3 : String := "Reconcile$Name"
def TX3 : u_T := fun k => match k with
  | 0 => ("Reconcile$Name", "side", "I", true)
  | 1 => ("Reconcile$Name", "joined", "Z", false)
  | 2 => ("Reconcile$Name", "tokens", "[I", true)
  | 3 => ("Reconcile$Name", "kinds", "[I", true)
  | 4 => ("Reconcile$Name", "tokenCount", "I", false)
  | 5 => ("Reconcile$Name", "dated", "Z", false)
  | 6 => ("Reconcile$Name", "firstDay", "J", false)
  | _ => ("Reconcile$Name", "lastDay", "J", false)
def tyX3 : Nat → FieldType := fun k => match k with
  | 0 => .int
  | 1 => .boolean
  | 2 => .array .int
  | 3 => .array .int
  | 4 => .int
  | 5 => .boolean
  | 6 => .long
  | _ => .long
abbrev wsX30 : List Cond := u_ws RX3 TX3 8
theorem nmX3 : ∀ a, a < 8 → ∀ b, b < 8 → a ≠ b → (TX3 a).2.1 ≠ (TX3 b).2.1 := by decide +kernel
theorem tyX3_ok : ∀ k, k < 8 → parseFieldDescriptor (TX3 k).2.2.1 = some (tyX3 k) := by decide +kernel
abbrev cX3_init : ByteArray := prog_5_method_1_code
def yX3_init : MethodName := ⟨RX3, "<init>", "(I)V"⟩
abbrev cX3_addToken : ByteArray := prog_5_method_2_code
def yX3_addToken : MethodName := ⟨RX3, "addToken", "(II)V"⟩
abbrev cX3_hasToken : ByteArray := prog_5_method_3_code
def yX3_hasToken : MethodName := ⟨RX3, "hasToken", "(II)Z"⟩
abbrev cX3_setDates : ByteArray := prog_5_method_4_code
def yX3_setDates : MethodName := ⟨RX3, "setDates", "(JJ)V"⟩
abbrev cX3_mayPair : ByteArray := prog_5_method_5_code
def yX3_mayPair : MethodName := ⟨RX3, "mayPair", "(I)Z"⟩
abbrev cX3_mayJoin : ByteArray := prog_5_method_6_code
def yX3_mayJoin : MethodName := ⟨RX3, "mayJoin", "(I)Z"⟩
abbrev cX3_weightOfAll : ByteArray := prog_5_method_7_code
def yX3_weightOfAll : MethodName := ⟨RX3, "weightOfAll", "([J)J"⟩
abbrev cX3_weightOfShared : ByteArray := prog_5_method_8_code
def yX3_weightOfShared : MethodName := ⟨RX3, "weightOfShared", "(LReconcile$Name;[J)J"⟩
abbrev cX3_bothDated : ByteArray := prog_5_method_9_code
def yX3_bothDated : MethodName := ⟨RX3, "bothDated", "(LReconcile$Name;)Z"⟩
abbrev cX3_sharesDay : ByteArray := prog_5_method_10_code
def yX3_sharesDay : MethodName := ⟨RX3, "sharesDay", "(LReconcile$Name;)Z"⟩
def RX4 : String := "Reconcile"
def TX4 : u_T := fun k => match k with
  | 0 => ("Reconcile", "names", "[LReconcile$Name;", true)
  | 1 => ("Reconcile", "nameCount", "I", false)
  | 2 => ("Reconcile", "weights", "[J", true)
  | 3 => ("Reconcile", "joins", "[LReconcile$Join;", true)
  | 4 => ("Reconcile", "joinCount", "I", false)
  | 5 => ("Reconcile", "latest", "LReconcile$Listing;", true)
  | _ => ("Reconcile", "measured", "LReconcile$Fraction;", true)
def tyX4 : Nat → FieldType := fun k => match k with
  | 0 => .array (.object "Reconcile$Name")
  | 1 => .int
  | 2 => .array .long
  | 3 => .array (.object "Reconcile$Join")
  | 4 => .int
  | 5 => .object "Reconcile$Listing"
  | _ => .object "Reconcile$Fraction"
abbrev wsX40 : List Cond := u_ws RX4 TX4 7
theorem nmX4 : ∀ a, a < 7 → ∀ b, b < 7 → a ≠ b → (TX4 a).2.1 ≠ (TX4 b).2.1 := by decide +kernel
theorem tyX4_ok : ∀ k, k < 7 → parseFieldDescriptor (TX4 k).2.2.1 = some (tyX4 k) := by decide +kernel
abbrev cX4_init : ByteArray := prog_1_method_1_code
def yX4_init : MethodName := ⟨RX4, "<init>", "()V"⟩
abbrev cX4_name : ByteArray := prog_1_method_2_code
def yX4_name : MethodName := ⟨RX4, "name", "(I)I"⟩
abbrev cX4_token : ByteArray := prog_1_method_3_code
def yX4_token : MethodName := ⟨RX4, "token", "(III)V"⟩
abbrev cX4_date : ByteArray := prog_1_method_4_code
def yX4_date : MethodName := ⟨RX4, "date", "(IJJ)V"⟩
abbrev cX4_weight : ByteArray := prog_1_method_5_code
def yX4_weight : MethodName := ⟨RX4, "weight", "(IJJ)I"⟩
abbrev cX4_run : ByteArray := prog_1_method_6_code
def yX4_run : MethodName := ⟨RX4, "run", "()I"⟩
abbrev cX4_pair : ByteArray := prog_1_method_7_code
def yX4_pair : MethodName := ⟨RX4, "pair", "(II)I"⟩
abbrev cX4_score : ByteArray := prog_1_method_8_code
def yX4_score : MethodName := ⟨RX4, "score", "(II)J"⟩
abbrev cX4_mutual : ByteArray := prog_1_method_9_code
def yX4_mutual : MethodName := ⟨RX4, "mutual", "(I)I"⟩
abbrev cX4_join : ByteArray := prog_1_method_10_code
def yX4_join : MethodName := ⟨RX4, "join", "(II)I"⟩
abbrev cX4_undo : ByteArray := prog_1_method_11_code
def yX4_undo : MethodName := ⟨RX4, "undo", "(I)I"⟩
abbrev cX4_sample : ByteArray := prog_1_method_12_code
def yX4_sample : MethodName := ⟨RX4, "sample", "(JI)I"⟩
abbrev cX4_none : ByteArray := prog_1_method_13_code
def yX4_none : MethodName := ⟨RX4, "none", "(I)I"⟩
abbrev cX4_index : ByteArray := prog_1_method_14_code
def yX4_index : MethodName := ⟨RX4, "index", "(II)I"⟩
abbrev cX4_best : ByteArray := prog_1_method_15_code
def yX4_best : MethodName := ⟨RX4, "best", "(III)I"⟩
abbrev cX4_isSide : ByteArray := prog_1_method_16_code
def yX4_isSide : MethodName := ⟨RX4, "isSide", "(I)Z"⟩
abbrev cX4_find : ByteArray := prog_1_method_17_code
def yX4_find : MethodName := ⟨RX4, "find", "(I)LReconcile$Name;"⟩
abbrev cX4_listPairsOf : ByteArray := prog_1_method_18_code
def yX4_listPairsOf : MethodName := ⟨RX4, "listPairsOf", "(ILReconcile$Name;)V"⟩
def RX5 : String := "ReconcileModel"
def TX5 : u_T := fun k => match k with
  | 0 => ("ReconcileModel", "thrown", "I", false)
  | 1 => ("ReconcileModel", "names", "I", false)
  | 2 => ("ReconcileModel", "sides", "[I", true)
  | 3 => ("ReconcileModel", "tokens", "[I", true)
  | 4 => ("ReconcileModel", "tokenKinds", "[I", true)
  | 5 => ("ReconcileModel", "counts", "[I", true)
  | 6 => ("ReconcileModel", "dated", "[Z", true)
  | 7 => ("ReconcileModel", "froms", "[J", true)
  | 8 => ("ReconcileModel", "tos", "[J", true)
  | 9 => ("ReconcileModel", "partners", "[I", true)
  | 10 => ("ReconcileModel", "weights", "[J", true)
  | 11 => ("ReconcileModel", "ran", "Z", false)
  | 12 => ("ReconcileModel", "pairs", "I", false)
  | 13 => ("ReconcileModel", "ones", "[I", true)
  | 14 => ("ReconcileModel", "twos", "[I", true)
  | 15 => ("ReconcileModel", "ups", "[J", true)
  | 16 => ("ReconcileModel", "downs", "[J", true)
  | 17 => ("ReconcileModel", "joins", "I", false)
  | 18 => ("ReconcileModel", "joinA", "[I", true)
  | 19 => ("ReconcileModel", "joinB", "[I", true)
  | 20 => ("ReconcileModel", "mixed", "[I", true)
  | 21 => ("ReconcileModel", "up", "J", false)
  | _ => ("ReconcileModel", "down", "J", false)
def tyX5 : Nat → FieldType := fun k => match k with
  | 0 => .int
  | 1 => .int
  | 2 => .array .int
  | 3 => .array .int
  | 4 => .array .int
  | 5 => .array .int
  | 6 => .array .boolean
  | 7 => .array .long
  | 8 => .array .long
  | 9 => .array .int
  | 10 => .array .long
  | 11 => .boolean
  | 12 => .int
  | 13 => .array .int
  | 14 => .array .int
  | 15 => .array .long
  | 16 => .array .long
  | 17 => .int
  | 18 => .array .int
  | 19 => .array .int
  | 20 => .array .int
  | 21 => .long
  | _ => .long
abbrev wsX50 : List Cond := u_ws RX5 TX5 23
theorem nmX5 : ∀ a, a < 23 → ∀ b, b < 23 → a ≠ b → (TX5 a).2.1 ≠ (TX5 b).2.1 := by decide +kernel
theorem tyX5_ok : ∀ k, k < 23 → parseFieldDescriptor (TX5 k).2.2.1 = some (tyX5 k) := by decide +kernel
abbrev cX5_init : ByteArray := prog_7_method_1_code
def yX5_init : MethodName := ⟨RX5, "<init>", "()V"⟩
abbrev cX5_thrown : ByteArray := prog_7_method_2_code
def yX5_thrown : MethodName := ⟨RX5, "thrown", "()I"⟩
abbrev cX5_isName : ByteArray := prog_7_method_3_code
def yX5_isName : MethodName := ⟨RX5, "isName", "(I)Z"⟩
abbrev cX5_name : ByteArray := prog_7_method_4_code
def yX5_name : MethodName := ⟨RX5, "name", "(I)I"⟩
abbrev cX5_has : ByteArray := prog_7_method_5_code
def yX5_has : MethodName := ⟨RX5, "has", "(III)Z"⟩
abbrev cX5_token : ByteArray := prog_7_method_6_code
def yX5_token : MethodName := ⟨RX5, "token", "(III)V"⟩
abbrev cX5_date : ByteArray := prog_7_method_7_code
def yX5_date : MethodName := ⟨RX5, "date", "(IJJ)V"⟩
abbrev cX5_weight : ByteArray := prog_7_method_8_code
def yX5_weight : MethodName := ⟨RX5, "weight", "(IJJ)I"⟩
abbrev cX5_reckon : ByteArray := prog_7_method_9_code
def yX5_reckon : MethodName := ⟨RX5, "reckon", "(II)V"⟩
abbrev cX5_run : ByteArray := prog_7_method_10_code
def yX5_run : MethodName := ⟨RX5, "run", "()I"⟩
abbrev cX5_isPair : ByteArray := prog_7_method_11_code
def yX5_isPair : MethodName := ⟨RX5, "isPair", "(I)Z"⟩
abbrev cX5_pair : ByteArray := prog_7_method_12_code
def yX5_pair : MethodName := ⟨RX5, "pair", "(II)I"⟩
abbrev cX5_index : ByteArray := prog_7_method_13_code
def yX5_index : MethodName := ⟨RX5, "index", "(II)I"⟩
abbrev cX5_score : ByteArray := prog_7_method_14_code
def yX5_score : MethodName := ⟨RX5, "score", "(II)J"⟩
abbrev cX5_mutual : ByteArray := prog_7_method_15_code
def yX5_mutual : MethodName := ⟨RX5, "mutual", "(I)I"⟩
abbrev cX5_join : ByteArray := prog_7_method_16_code
def yX5_join : MethodName := ⟨RX5, "join", "(II)I"⟩
abbrev cX5_undo : ByteArray := prog_7_method_17_code
def yX5_undo : MethodName := ⟨RX5, "undo", "(I)I"⟩
abbrev cX5_sample : ByteArray := prog_7_method_18_code
def yX5_sample : MethodName := ⟨RX5, "sample", "(JI)I"⟩
abbrev cX5_none : ByteArray := prog_7_method_19_code
def yX5_none : MethodName := ⟨RX5, "none", "(I)I"⟩
abbrev cX5_best : ByteArray := prog_7_method_20_code
def yX5_best : MethodName := ⟨RX5, "best", "(III)I"⟩
def RJx00060 : String := "java/lang/ArrayIndexOutOfBoundsException"
def TJx00060 : u_T := fun k => match k with
  | 0 => ("java/lang/Throwable", "backtrace", "Ljava/lang/Object;", false)
  | 1 => ("java/lang/Throwable", "detailMessage", "Ljava/lang/String;", false)
  | 2 => ("java/lang/Throwable", "cause", "Ljava/lang/Throwable;", false)
  | 3 => ("java/lang/Throwable", "stackTrace", "[Ljava/lang/StackTraceElement;", false)
  | 4 => ("java/lang/Throwable", "depth", "I", false)
  | _ => ("java/lang/Throwable", "suppressedExceptions", "Ljava/util/List;", false)
def tyJx00060 : Nat → FieldType := fun k => match k with
  | 0 => .object "java/lang/Object"
  | 1 => .object "java/lang/String"
  | 2 => .object "java/lang/Throwable"
  | 3 => .array (.object "java/lang/StackTraceElement")
  | 4 => .int
  | _ => .object "java/util/List"
abbrev wsJx000600 : List Cond := u_ws RJx00060 TJx00060 6
theorem nmJx00060 : ∀ a, a < 6 → ∀ b, b < 6 → a ≠ b → (TJx00060 a).2.1 ≠ (TJx00060 b).2.1 := by decide +kernel
theorem tyJx00060_ok : ∀ k, k < 6 → parseFieldDescriptor (TJx00060 k).2.2.1 = some (tyJx00060 k) := by decide +kernel
abbrev cJx00060_init_a7421 : ByteArray := prog_9_method_2_code
def yJx00060_init_a7421 : MethodName := ⟨RJx00060, "<init>", "(Ljava/lang/String;)V"⟩
def RJ9 : String := "java/lang/Math"
def TJ9 : u_T := fun k => match k with
  | _ => ("", "", "", false)
def tyJ9 : Nat → FieldType := fun k => match k with
  | _ => .int
abbrev wsJ90 : List Cond := u_ws RJ9 TJ9 0
theorem nmJ9 : ∀ a, a < 0 → ∀ b, b < 0 → a ≠ b → (TJ9 a).2.1 ≠ (TJ9 b).2.1 := by decide +kernel
theorem tyJ9_ok : ∀ k, k < 0 → parseFieldDescriptor (TJ9 k).2.2.1 = some (tyJ9 k) := by decide +kernel
abbrev cJ9_min_7cf53 : ByteArray := prog_12_method_69_code
def yJ9_min_7cf53 : MethodName := ⟨RJ9, "min", "(II)I"⟩
def RJ0 : String := "java/lang/String"
def TJ0 : u_T := fun k => match k with
  | 0 => ("java/lang/String", "value", "[B", true)
  | _ => ("java/lang/String", "coder", "B", true)
def tyJ0 : Nat → FieldType := fun k => match k with
  | 0 => .array .byte
  | _ => .byte
abbrev wsJ00 : List Cond := u_ws RJ0 TJ0 2
theorem nmJ0 : ∀ a, a < 2 → ∀ b, b < 2 → a ≠ b → (TJ0 a).2.1 ≠ (TJ0 b).2.1 := by decide +kernel
theorem tyJ0_ok : ∀ k, k < 2 → parseFieldDescriptor (TJ0 k).2.2.1 = some (tyJ0 k) := by decide +kernel
def RJ10 : String := "java/lang/System"
def TJ10 : u_T := fun k => match k with
  | _ => ("", "", "", false)
def tyJ10 : Nat → FieldType := fun k => match k with
  | _ => .int
abbrev wsJ100 : List Cond := u_ws RJ10 TJ10 0
theorem nmJ10 : ∀ a, a < 0 → ∀ b, b < 0 → a ≠ b → (TJ10 a).2.1 ≠ (TJ10 b).2.1 := by decide +kernel
theorem tyJ10_ok : ∀ k, k < 0 → parseFieldDescriptor (TJ10 k).2.2.1 = some (tyJ10 k) := by decide +kernel
def RL : String := "ReconcileLaw"
abbrev cL_score : ByteArray := method_3_code
def yL_score : MethodName := ⟨RL, "score", "(LReconcile;II[J)I"⟩
abbrev cL_index : ByteArray := method_4_code
def yL_index : MethodName := ⟨RL, "index", "(LReconcile;II[J)I"⟩
abbrev cL_law : ByteArray := code
def yL_law : MethodName := ⟨RL, "law", "([I)Z"⟩
def wsX0_init : List Cond := .code yX0_init cX0_init 1 none :: ([.methodLink RX0 3 objectInit, .instanceMethod objectInit, .code objectInit ⟨#[0xb1]⟩ 1 none, .fieldLink RX0 9 "Reconcile$Fraction" "above" "J", .fieldLink RX0 15 "Reconcile$Fraction" "below" "J"] ++ wsX00)
def wsX3_hasToken : List Cond := .code yX3_hasToken cX3_hasToken 4 (some .boolean) :: ([.fieldLink RX3 22 "Reconcile$Name" "tokenCount" "I", .fieldLink RX3 15 "Reconcile$Name" "tokens" "[I", .fieldLink RX3 19 "Reconcile$Name" "kinds" "[I"] ++ wsX30 ++ (vx_atM "java/lang/ArrayIndexOutOfBoundsException" ["java/lang/IndexOutOfBoundsException", "java/lang/RuntimeException", "java/lang/Exception"]).filter goodWord)
def wsX3_weightOfShared : List Cond := .code yX3_weightOfShared cX3_weightOfShared 6 (some .long) :: ([.fieldLink RX3 22 "Reconcile$Name" "tokenCount" "I", .fieldLink RX3 15 "Reconcile$Name" "tokens" "[I", .fieldLink RX3 19 "Reconcile$Name" "kinds" "[I", .methodLink RX3 39 yX3_hasToken, .instanceMethod yX3_hasToken, .selects RX3 yX3_hasToken yX3_hasToken, .initialized RX3, .code yX3_hasToken cX3_hasToken 4 (some .boolean)] ++ wsX30 ++ (vx_atM "java/lang/ArrayIndexOutOfBoundsException" ["java/lang/IndexOutOfBoundsException", "java/lang/RuntimeException", "java/lang/Exception"]).filter goodWord)
def wsX3_weightOfAll : List Cond := .code yX3_weightOfAll cX3_weightOfAll 5 (some .long) :: ([.fieldLink RX3 22 "Reconcile$Name" "tokenCount" "I", .fieldLink RX3 19 "Reconcile$Name" "kinds" "[I"] ++ wsX30 ++ (vx_atM "java/lang/ArrayIndexOutOfBoundsException" ["java/lang/IndexOutOfBoundsException", "java/lang/RuntimeException", "java/lang/Exception"]).filter goodWord)
def wsX3_bothDated : List Cond := .code yX3_bothDated cX3_bothDated 2 (some .boolean) :: ([.fieldLink RX3 26 "Reconcile$Name" "dated" "Z"] ++ wsX30)
def wsX3_sharesDay : List Cond := .code yX3_sharesDay cX3_sharesDay 2 (some .boolean) :: ([.fieldLink RX3 29 "Reconcile$Name" "firstDay" "J", .fieldLink RX3 33 "Reconcile$Name" "lastDay" "J", .methodLink RX3 43 yX3_bothDated, .instanceMethod yX3_bothDated, .selects RX3 yX3_bothDated yX3_bothDated, .initialized RX3, .code yX3_bothDated cX3_bothDated 2 (some .boolean), .fieldLink RX3 26 "Reconcile$Name" "dated" "Z"] ++ wsX30)
def wsX0_measure_r1 : List Cond := [Cond.fieldLink RX0 9 "Reconcile$Fraction" "above" "J", Cond.fieldLink RX0 15 "Reconcile$Fraction" "below" "J", Cond.methodLink RX0 18 yX3_weightOfShared, Cond.instanceMethod yX3_weightOfShared, Cond.selects RX3 yX3_weightOfShared yX3_weightOfShared, Cond.initialized RX3, Cond.code yX3_weightOfShared cX3_weightOfShared 6 (some .long), Cond.fieldLink RX3 22 "Reconcile$Name" "tokenCount" "I", Cond.fieldLink RX3 15 "Reconcile$Name" "tokens" "[I", Cond.fieldLink RX3 19 "Reconcile$Name" "kinds" "[I", Cond.methodLink RX3 39 yX3_hasToken, Cond.instanceMethod yX3_hasToken, Cond.selects RX3 yX3_hasToken yX3_hasToken, Cond.code yX3_hasToken cX3_hasToken 4 (some .boolean), Cond.methodLink RX0 24 yX3_weightOfAll, Cond.instanceMethod yX3_weightOfAll, Cond.selects RX3 yX3_weightOfAll yX3_weightOfAll, Cond.code yX3_weightOfAll cX3_weightOfAll 5 (some .long), Cond.methodLink RX0 28 yX3_bothDated, Cond.instanceMethod yX3_bothDated, Cond.selects RX3 yX3_bothDated yX3_bothDated, Cond.code yX3_bothDated cX3_bothDated 2 (some .boolean), Cond.fieldLink RX3 26 "Reconcile$Name" "dated" "Z", Cond.methodLink RX0 32 yX3_sharesDay]
def wsX0_measure_r2 : List Cond := [Cond.instanceMethod yX3_sharesDay, Cond.selects RX3 yX3_sharesDay yX3_sharesDay, Cond.code yX3_sharesDay cX3_sharesDay 2 (some .boolean), Cond.fieldLink RX3 29 "Reconcile$Name" "firstDay" "J", Cond.fieldLink RX3 33 "Reconcile$Name" "lastDay" "J", Cond.methodLink RX3 43 yX3_bothDated]
def wsX0_measure : List Cond := .code yX0_measure cX0_measure 6 none :: ((wsX0_measure_r1 ++ wsX0_measure_r2) ++ wsX00 ++ wsX30 ++ (vx_atM "java/lang/ArrayIndexOutOfBoundsException" ["java/lang/IndexOutOfBoundsException", "java/lang/RuntimeException", "java/lang/Exception"]).filter goodWord)
def wsX0_exists : List Cond := .code yX0_exists cX0_exists 1 (some .boolean) :: ([.fieldLink RX0 15 "Reconcile$Fraction" "below" "J"] ++ wsX00)
def wsX0_isHalfAtLeast : List Cond := .code yX0_isHalfAtLeast cX0_isHalfAtLeast 1 (some .boolean) :: ([.constantLong RX0 35 (2), .fieldLink RX0 9 "Reconcile$Fraction" "above" "J", .fieldLink RX0 15 "Reconcile$Fraction" "below" "J"] ++ wsX00)
def wsX0_greatestDivisor : List Cond := .code yX0_greatestDivisor cX0_greatestDivisor 11 (some .long) :: ([] ++ (vx_atM "java/lang/ArithmeticException" ["java/lang/RuntimeException", "java/lang/Exception"]).filter goodWord)
def wsX0_reduce : List Cond := .code yX0_reduce cX0_reduce 3 none :: ([.fieldLink RX0 9 "Reconcile$Fraction" "above" "J", .fieldLink RX0 15 "Reconcile$Fraction" "below" "J", .methodLink RX0 37 yX0_greatestDivisor, .static yX0_greatestDivisor, .initialized RX0, .code yX0_greatestDivisor cX0_greatestDivisor 11 (some .long)] ++ wsX00 ++ (vx_atM "java/lang/ArithmeticException" ["java/lang/RuntimeException", "java/lang/Exception"]).filter goodWord)
def wsX1_init : List Cond := .code yX1_init cX1_init 3 none :: ([.methodLink RX1 1 objectInit, .instanceMethod objectInit, .code objectInit ⟨#[0xb1]⟩ 1 none, .fieldLink RX1 7 "Reconcile$Join" "undone" "Z", .fieldLink RX1 13 "Reconcile$Join" "zero" "LReconcile$Name;", .fieldLink RX1 17 "Reconcile$Join" "one" "LReconcile$Name;"] ++ wsX10)
def wsX1_takeBack : List Cond := .code yX1_takeBack cX1_takeBack 1 none :: ([.fieldLink RX1 7 "Reconcile$Join" "undone" "Z", .fieldLink RX1 13 "Reconcile$Join" "zero" "LReconcile$Name;", .fieldLink RX1 20 "Reconcile$Name" "joined" "Z", .fieldLink RX1 17 "Reconcile$Join" "one" "LReconcile$Name;"] ++ wsX10 ++ wsX30)
def wsX2_init : List Cond := .code yX2_init cX2_init 1 none :: ([.methodLink RX2 3 objectInit, .instanceMethod objectInit, .code objectInit ⟨#[0xb1]⟩ 1 none, .fieldLink RX2 9 "Reconcile$Listing" "begun" "Z", .fieldLink RX2 15 "Reconcile$Listing" "count" "I", .arrayClass .int, .fieldLink RX2 19 "Reconcile$Listing" "zeros" "[I", .fieldLink RX2 23 "Reconcile$Listing" "ones" "[I", .arrayClass .long, .fieldLink RX2 26 "Reconcile$Listing" "aboves" "[J", .fieldLink RX2 30 "Reconcile$Listing" "belows" "[J", .fieldLink RX2 33 "Reconcile$Listing" "order" "[I", .fieldLink RX2 36 "Reconcile$Listing" "spare" "[I", .arrayClass .boolean, .fieldLink RX2 39 "Reconcile$Listing" "paired" "[Z"] ++ wsX20)
def wsX2_begin : List Cond := .code yX2_begin cX2_begin 2 none :: ([.fieldLink RX2 9 "Reconcile$Listing" "begun" "Z", .fieldLink RX2 15 "Reconcile$Listing" "count" "I", .fieldLink RX2 39 "Reconcile$Listing" "paired" "[Z"] ++ wsX20 ++ (vx_atM "java/lang/ArrayIndexOutOfBoundsException" ["java/lang/IndexOutOfBoundsException", "java/lang/RuntimeException", "java/lang/Exception"]).filter goodWord)
def wsX2_add : List Cond := .code yX2_add cX2_add 4 none :: ([.fieldLink RX2 15 "Reconcile$Listing" "count" "I", .fieldLink RX2 19 "Reconcile$Listing" "zeros" "[I", .fieldLink RX2 23 "Reconcile$Listing" "ones" "[I", .fieldLink RX2 26 "Reconcile$Listing" "aboves" "[J", .fieldLink RX2 43 "Reconcile$Fraction" "above" "J", .fieldLink RX2 30 "Reconcile$Listing" "belows" "[J", .fieldLink RX2 49 "Reconcile$Fraction" "below" "J", .fieldLink RX2 33 "Reconcile$Listing" "order" "[I", .fieldLink RX2 39 "Reconcile$Listing" "paired" "[Z"] ++ wsX20 ++ wsX00 ++ (vx_atM "java/lang/ArrayIndexOutOfBoundsException" ["java/lang/IndexOutOfBoundsException", "java/lang/RuntimeException", "java/lang/Exception"]).filter goodWord)
def wsX2_size : List Cond := .code yX2_size cX2_size 1 (some .int) :: ([.fieldLink RX2 15 "Reconcile$Listing" "count" "I"] ++ wsX20)
def wsX2_holds : List Cond := .code yX2_holds cX2_holds 2 (some .boolean) :: ([.fieldLink RX2 15 "Reconcile$Listing" "count" "I"] ++ wsX20)
def wsX2_hasName : List Cond := .code yX2_hasName cX2_hasName 2 (some .boolean) :: ([.fieldLink RX2 39 "Reconcile$Listing" "paired" "[Z"] ++ wsX20 ++ (vx_atM "java/lang/ArrayIndexOutOfBoundsException" ["java/lang/IndexOutOfBoundsException", "java/lang/RuntimeException", "java/lang/Exception"]).filter goodWord)
def wsX2_nameAt : List Cond := .code yX2_nameAt cX2_nameAt 4 (some .int) :: ([.fieldLink RX2 33 "Reconcile$Listing" "order" "[I", .fieldLink RX2 23 "Reconcile$Listing" "ones" "[I", .fieldLink RX2 19 "Reconcile$Listing" "zeros" "[I"] ++ wsX20 ++ (vx_atM "java/lang/ArrayIndexOutOfBoundsException" ["java/lang/IndexOutOfBoundsException", "java/lang/RuntimeException", "java/lang/Exception"]).filter goodWord)
def wsX2_isGreater : List Cond := .code yX2_isGreater cX2_isGreater 3 (some .boolean) :: ([.fieldLink RX2 26 "Reconcile$Listing" "aboves" "[J", .fieldLink RX2 30 "Reconcile$Listing" "belows" "[J"] ++ wsX20 ++ (vx_atM "java/lang/ArrayIndexOutOfBoundsException" ["java/lang/IndexOutOfBoundsException", "java/lang/RuntimeException", "java/lang/Exception"]).filter goodWord)
def wsX2_merge : List Cond := .code yX2_merge cX2_merge 7 none :: ([.fieldLink RX2 33 "Reconcile$Listing" "order" "[I", .fieldLink RX2 36 "Reconcile$Listing" "spare" "[I", .methodLink RX2 68 yX2_isGreater, .instanceMethod yX2_isGreater, .selects RX2 yX2_isGreater yX2_isGreater, .initialized RX2, .code yX2_isGreater cX2_isGreater 3 (some .boolean), .fieldLink RX2 26 "Reconcile$Listing" "aboves" "[J", .fieldLink RX2 30 "Reconcile$Listing" "belows" "[J"] ++ wsX20 ++ (vx_atM "java/lang/ArrayIndexOutOfBoundsException" ["java/lang/IndexOutOfBoundsException", "java/lang/RuntimeException", "java/lang/Exception"]).filter goodWord)
def wsX2_sort : List Cond := .code yX2_sort cX2_sort 3 none :: ([.fieldLink RX2 15 "Reconcile$Listing" "count" "I", .methodLink RX2 52 Lib.Math.min.name, .static Lib.Math.min.name, .initialized "java/lang/Math", .code Lib.Math.min.name Lib.Math.min.code 2 (some .int), .fieldLink RX2 36 "Reconcile$Listing" "spare" "[I", .fieldLink RX2 33 "Reconcile$Listing" "order" "[I", .methodLink RX2 62 arraycopyName, .native arraycopyName, .static arraycopyName, .initialized "java/lang/System", .methodLink RX2 58 yX2_merge, .instanceMethod yX2_merge, .selects RX2 yX2_merge yX2_merge, .initialized RX2, .code yX2_merge cX2_merge 7 none, .methodLink RX2 68 yX2_isGreater, .instanceMethod yX2_isGreater, .selects RX2 yX2_isGreater yX2_isGreater, .code yX2_isGreater cX2_isGreater 3 (some .boolean), .fieldLink RX2 26 "Reconcile$Listing" "aboves" "[J", .fieldLink RX2 30 "Reconcile$Listing" "belows" "[J"] ++ wsX20 ++ (vx_atM "java/lang/ArrayIndexOutOfBoundsException" ["java/lang/IndexOutOfBoundsException", "java/lang/RuntimeException", "java/lang/Exception"]).filter goodWord)
def wsX2_isBestOfBoth : List Cond := .code yX2_isBestOfBoth cX2_isBestOfBoth 6 (some .boolean) :: ([.fieldLink RX2 33 "Reconcile$Listing" "order" "[I", .fieldLink RX2 19 "Reconcile$Listing" "zeros" "[I", .fieldLink RX2 23 "Reconcile$Listing" "ones" "[I", .methodLink RX2 68 yX2_isGreater, .instanceMethod yX2_isGreater, .selects RX2 yX2_isGreater yX2_isGreater, .initialized RX2, .code yX2_isGreater cX2_isGreater 3 (some .boolean), .fieldLink RX2 26 "Reconcile$Listing" "aboves" "[J", .fieldLink RX2 30 "Reconcile$Listing" "belows" "[J"] ++ wsX20 ++ (vx_atM "java/lang/ArrayIndexOutOfBoundsException" ["java/lang/IndexOutOfBoundsException", "java/lang/RuntimeException", "java/lang/Exception"]).filter goodWord)
def wsX2_placeAfterMixing : List Cond := .code yX2_placeAfterMixing cX2_placeAfterMixing 9 (some .int) :: ([.fieldLink RX2 15 "Reconcile$Listing" "count" "I", .fieldLink RX2 36 "Reconcile$Listing" "spare" "[I", .constantLong RX2 72 (6364136223846793005), .constantLong RX2 74 (1442695040888963407)] ++ wsX20 ++ (vx_atM "java/lang/ArrayIndexOutOfBoundsException" ["java/lang/IndexOutOfBoundsException", "java/lang/RuntimeException", "java/lang/Exception"]).filter goodWord ++ (vx_atM "java/lang/ArithmeticException" ["java/lang/RuntimeException", "java/lang/Exception"]).filter goodWord)
def wsX2_partner : List Cond := .code yX2_partner cX2_partner 6 (some .int) :: ([.fieldLink RX2 15 "Reconcile$Listing" "count" "I", .methodLink RX2 76 yX2_nameAt, .instanceMethod yX2_nameAt, .selects RX2 yX2_nameAt yX2_nameAt, .initialized RX2, .code yX2_nameAt cX2_nameAt 4 (some .int), .fieldLink RX2 33 "Reconcile$Listing" "order" "[I", .fieldLink RX2 23 "Reconcile$Listing" "ones" "[I", .fieldLink RX2 19 "Reconcile$Listing" "zeros" "[I"] ++ wsX20 ++ (vx_atM "java/lang/ArrayIndexOutOfBoundsException" ["java/lang/IndexOutOfBoundsException", "java/lang/RuntimeException", "java/lang/Exception"]).filter goodWord)
def wsX3_init : List Cond := .code yX3_init cX3_init 2 none :: ([.methodLink RX3 3 objectInit, .instanceMethod objectInit, .code objectInit ⟨#[0xb1]⟩ 1 none, .fieldLink RX3 9 "Reconcile$Name" "joined" "Z", .arrayClass .int, .fieldLink RX3 15 "Reconcile$Name" "tokens" "[I", .fieldLink RX3 19 "Reconcile$Name" "kinds" "[I", .fieldLink RX3 22 "Reconcile$Name" "tokenCount" "I", .fieldLink RX3 26 "Reconcile$Name" "dated" "Z", .fieldLink RX3 29 "Reconcile$Name" "firstDay" "J", .fieldLink RX3 33 "Reconcile$Name" "lastDay" "J", .fieldLink RX3 36 "Reconcile$Name" "side" "I"] ++ wsX30)
def wsX3_addToken : List Cond := .code yX3_addToken cX3_addToken 3 none :: ([.fieldLink RX3 22 "Reconcile$Name" "tokenCount" "I", .fieldLink RX3 15 "Reconcile$Name" "tokens" "[I", .fieldLink RX3 19 "Reconcile$Name" "kinds" "[I", .methodLink RX3 39 yX3_hasToken, .instanceMethod yX3_hasToken, .selects RX3 yX3_hasToken yX3_hasToken, .initialized RX3, .code yX3_hasToken cX3_hasToken 4 (some .boolean)] ++ wsX30 ++ (vx_atM "java/lang/ArrayIndexOutOfBoundsException" ["java/lang/IndexOutOfBoundsException", "java/lang/RuntimeException", "java/lang/Exception"]).filter goodWord)
def wsX3_setDates : List Cond := .code yX3_setDates cX3_setDates 5 none :: ([.fieldLink RX3 26 "Reconcile$Name" "dated" "Z", .fieldLink RX3 29 "Reconcile$Name" "firstDay" "J", .fieldLink RX3 33 "Reconcile$Name" "lastDay" "J"] ++ wsX30)
def wsX3_mayPair : List Cond := .code yX3_mayPair cX3_mayPair 2 (some .boolean) :: ([.fieldLink RX3 36 "Reconcile$Name" "side" "I", .fieldLink RX3 22 "Reconcile$Name" "tokenCount" "I", .fieldLink RX3 9 "Reconcile$Name" "joined" "Z"] ++ wsX30)
def wsX3_mayJoin : List Cond := .code yX3_mayJoin cX3_mayJoin 2 (some .boolean) :: ([.fieldLink RX3 36 "Reconcile$Name" "side" "I", .fieldLink RX3 9 "Reconcile$Name" "joined" "Z"] ++ wsX30)
def wsX4_init_r1 : List Cond := [Cond.methodLink RX4 1 objectInit, Cond.instanceMethod objectInit, Cond.code objectInit ⟨#[0xb1]⟩ 1 none, Cond.classLink RX4 9 RX3, Cond.fieldLink RX4 11 "Reconcile" "names" "[LReconcile$Name;", Cond.fieldLink RX4 15 "Reconcile" "nameCount" "I", Cond.arrayClass .long, Cond.constantLong RX4 19 (2520), Cond.fieldLink RX4 21 "Reconcile" "weights" "[J", Cond.classLink RX4 25 RX1, Cond.fieldLink RX4 27 "Reconcile" "joins" "[LReconcile$Join;", Cond.fieldLink RX4 31 "Reconcile" "joinCount" "I", Cond.classLink RX4 34 RX2, Cond.instantiable RX2 9, Cond.initialized RX2, Cond.fieldLink RX4 37 "Reconcile" "latest" "LReconcile$Listing;", Cond.classLink RX4 41 RX0, Cond.instantiable RX0 2, Cond.initialized RX0, Cond.fieldLink RX4 44 "Reconcile" "measured" "LReconcile$Fraction;", Cond.instanceMethod yX2_init, Cond.code yX2_init cX2_init 1 none, Cond.methodLink RX2 3 objectInit, Cond.fieldLink RX2 9 "Reconcile$Listing" "begun" "Z"]
def wsX4_init_r2 : List Cond := [Cond.fieldLink RX2 15 "Reconcile$Listing" "count" "I", Cond.arrayClass .int, Cond.fieldLink RX2 19 "Reconcile$Listing" "zeros" "[I", Cond.fieldLink RX2 23 "Reconcile$Listing" "ones" "[I", Cond.fieldLink RX2 26 "Reconcile$Listing" "aboves" "[J", Cond.fieldLink RX2 30 "Reconcile$Listing" "belows" "[J", Cond.fieldLink RX2 33 "Reconcile$Listing" "order" "[I", Cond.fieldLink RX2 36 "Reconcile$Listing" "spare" "[I", Cond.arrayClass .boolean, Cond.fieldLink RX2 39 "Reconcile$Listing" "paired" "[Z", Cond.instanceMethod yX0_init, Cond.code yX0_init cX0_init 1 none, Cond.methodLink RX0 3 objectInit, Cond.fieldLink RX0 9 "Reconcile$Fraction" "above" "J", Cond.fieldLink RX0 15 "Reconcile$Fraction" "below" "J"]
def wsX4_init : List Cond := .code yX4_init cX4_init 1 none :: ((wsX4_init_r1 ++ wsX4_init_r2) ++ wsX40 ++ wsX20 ++ wsX00 ++ (vx_atM "java/lang/ArrayIndexOutOfBoundsException" ["java/lang/IndexOutOfBoundsException", "java/lang/RuntimeException", "java/lang/Exception"]).filter goodWord)
def wsX4_isSide : List Cond := .code yX4_isSide cX4_isSide 1 (some .boolean) :: ([])
def wsX4_name : List Cond := .code yX4_name cX4_name 2 (some .int) :: ([.fieldLink RX4 15 "Reconcile" "nameCount" "I", .fieldLink RX4 11 "Reconcile" "names" "[LReconcile$Name;", .classLink RX4 9 RX3, .instantiable RX3 8, .initialized RX3, .methodLink RX4 48 yX4_isSide, .static yX4_isSide, .initialized RX4, .code yX4_isSide cX4_isSide 1 (some .boolean), .methodLink RX4 52 yX3_init, .instanceMethod yX3_init, .code yX3_init cX3_init 2 none, .methodLink RX3 3 objectInit, .instanceMethod objectInit, .code objectInit ⟨#[0xb1]⟩ 1 none, .fieldLink RX3 9 "Reconcile$Name" "joined" "Z", .arrayClass .int, .fieldLink RX3 15 "Reconcile$Name" "tokens" "[I", .fieldLink RX3 19 "Reconcile$Name" "kinds" "[I", .fieldLink RX3 22 "Reconcile$Name" "tokenCount" "I", .fieldLink RX3 26 "Reconcile$Name" "dated" "Z", .fieldLink RX3 29 "Reconcile$Name" "firstDay" "J", .fieldLink RX3 33 "Reconcile$Name" "lastDay" "J", .fieldLink RX3 36 "Reconcile$Name" "side" "I"] ++ wsX40 ++ wsX30)
def wsX4_find : List Cond := .code yX4_find cX4_find 2 (some (.object "Reconcile$Name")) :: ([.fieldLink RX4 15 "Reconcile" "nameCount" "I", .fieldLink RX4 11 "Reconcile" "names" "[LReconcile$Name;"] ++ wsX40)
def wsX4_token : List Cond := .code yX4_token cX4_token 5 none :: ([.methodLink RX4 55 yX4_find, .instanceMethod yX4_find, .selects RX4 yX4_find yX4_find, .initialized RX4, .code yX4_find cX4_find 2 (some (.object "Reconcile$Name")), .fieldLink RX4 15 "Reconcile" "nameCount" "I", .fieldLink RX4 11 "Reconcile" "names" "[LReconcile$Name;", .methodLink RX4 59 yX3_addToken, .instanceMethod yX3_addToken, .selects RX3 yX3_addToken yX3_addToken, .initialized RX3, .code yX3_addToken cX3_addToken 3 none, .fieldLink RX3 22 "Reconcile$Name" "tokenCount" "I", .fieldLink RX3 15 "Reconcile$Name" "tokens" "[I", .fieldLink RX3 19 "Reconcile$Name" "kinds" "[I", .methodLink RX3 39 yX3_hasToken, .instanceMethod yX3_hasToken, .selects RX3 yX3_hasToken yX3_hasToken, .code yX3_hasToken cX3_hasToken 4 (some .boolean)] ++ wsX40 ++ wsX30 ++ (vx_atM "java/lang/ArrayIndexOutOfBoundsException" ["java/lang/IndexOutOfBoundsException", "java/lang/RuntimeException", "java/lang/Exception"]).filter goodWord)
def wsX4_date : List Cond := .code yX4_date cX4_date 7 none :: ([.methodLink RX4 55 yX4_find, .instanceMethod yX4_find, .selects RX4 yX4_find yX4_find, .initialized RX4, .code yX4_find cX4_find 2 (some (.object "Reconcile$Name")), .fieldLink RX4 15 "Reconcile" "nameCount" "I", .fieldLink RX4 11 "Reconcile" "names" "[LReconcile$Name;", .methodLink RX4 63 yX3_setDates, .instanceMethod yX3_setDates, .selects RX3 yX3_setDates yX3_setDates, .initialized RX3, .code yX3_setDates cX3_setDates 5 none, .fieldLink RX3 26 "Reconcile$Name" "dated" "Z", .fieldLink RX3 29 "Reconcile$Name" "firstDay" "J", .fieldLink RX3 33 "Reconcile$Name" "lastDay" "J"] ++ wsX40 ++ wsX30)
def wsX4_weight : List Cond := .code yX4_weight cX4_weight 6 (some .int) :: ([.constantLong RX4 67 (100), .constantLong RX4 69 (10), .fieldLink RX4 21 "Reconcile" "weights" "[J", .constantLong RX4 19 (2520)] ++ wsX40 ++ (vx_atM "java/lang/ArithmeticException" ["java/lang/RuntimeException", "java/lang/Exception"]).filter goodWord ++ (vx_atM "java/lang/ArrayIndexOutOfBoundsException" ["java/lang/IndexOutOfBoundsException", "java/lang/RuntimeException", "java/lang/Exception"]).filter goodWord)
def wsX4_listPairsOf_r1 : List Cond := [Cond.fieldLink RX4 15 "Reconcile" "nameCount" "I", Cond.fieldLink RX4 44 "Reconcile" "measured" "LReconcile$Fraction;", Cond.fieldLink RX4 21 "Reconcile" "weights" "[J", Cond.fieldLink RX4 37 "Reconcile" "latest" "LReconcile$Listing;", Cond.methodLink RX4 55 yX4_find, Cond.instanceMethod yX4_find, Cond.selects RX4 yX4_find yX4_find, Cond.initialized RX4, Cond.code yX4_find cX4_find 2 (some (.object "Reconcile$Name")), Cond.fieldLink RX4 11 "Reconcile" "names" "[LReconcile$Name;", Cond.methodLink RX4 74 yX3_mayPair, Cond.instanceMethod yX3_mayPair, Cond.selects RX3 yX3_mayPair yX3_mayPair, Cond.initialized RX3, Cond.code yX3_mayPair cX3_mayPair 2 (some .boolean), Cond.fieldLink RX3 36 "Reconcile$Name" "side" "I", Cond.fieldLink RX3 22 "Reconcile$Name" "tokenCount" "I", Cond.fieldLink RX3 9 "Reconcile$Name" "joined" "Z", Cond.methodLink RX4 97 yX0_measure, Cond.instanceMethod yX0_measure, Cond.selects RX0 yX0_measure yX0_measure, Cond.initialized RX0, Cond.code yX0_measure cX0_measure 6 none, Cond.fieldLink RX0 9 "Reconcile$Fraction" "above" "J"]
def wsX4_listPairsOf_r2 : List Cond := [Cond.fieldLink RX0 15 "Reconcile$Fraction" "below" "J", Cond.methodLink RX0 18 yX3_weightOfShared, Cond.instanceMethod yX3_weightOfShared, Cond.selects RX3 yX3_weightOfShared yX3_weightOfShared, Cond.code yX3_weightOfShared cX3_weightOfShared 6 (some .long), Cond.fieldLink RX3 15 "Reconcile$Name" "tokens" "[I", Cond.fieldLink RX3 19 "Reconcile$Name" "kinds" "[I", Cond.methodLink RX3 39 yX3_hasToken, Cond.instanceMethod yX3_hasToken, Cond.selects RX3 yX3_hasToken yX3_hasToken, Cond.code yX3_hasToken cX3_hasToken 4 (some .boolean), Cond.methodLink RX0 24 yX3_weightOfAll, Cond.instanceMethod yX3_weightOfAll, Cond.selects RX3 yX3_weightOfAll yX3_weightOfAll, Cond.code yX3_weightOfAll cX3_weightOfAll 5 (some .long), Cond.methodLink RX0 28 yX3_bothDated, Cond.instanceMethod yX3_bothDated, Cond.selects RX3 yX3_bothDated yX3_bothDated, Cond.code yX3_bothDated cX3_bothDated 2 (some .boolean), Cond.fieldLink RX3 26 "Reconcile$Name" "dated" "Z", Cond.methodLink RX0 32 yX3_sharesDay, Cond.instanceMethod yX3_sharesDay, Cond.selects RX3 yX3_sharesDay yX3_sharesDay, Cond.code yX3_sharesDay cX3_sharesDay 2 (some .boolean)]
def wsX4_listPairsOf_r3 : List Cond := [Cond.fieldLink RX3 29 "Reconcile$Name" "firstDay" "J", Cond.fieldLink RX3 33 "Reconcile$Name" "lastDay" "J", Cond.methodLink RX3 43 yX3_bothDated, Cond.methodLink RX4 101 yX0_exists, Cond.instanceMethod yX0_exists, Cond.selects RX0 yX0_exists yX0_exists, Cond.code yX0_exists cX0_exists 1 (some .boolean), Cond.methodLink RX4 163 yX0_isHalfAtLeast, Cond.instanceMethod yX0_isHalfAtLeast, Cond.selects RX0 yX0_isHalfAtLeast yX0_isHalfAtLeast, Cond.code yX0_isHalfAtLeast cX0_isHalfAtLeast 1 (some .boolean), Cond.constantLong RX0 35 (2), Cond.methodLink RX4 166 yX2_add, Cond.instanceMethod yX2_add, Cond.selects RX2 yX2_add yX2_add, Cond.initialized RX2, Cond.code yX2_add cX2_add 4 none, Cond.fieldLink RX2 15 "Reconcile$Listing" "count" "I", Cond.fieldLink RX2 19 "Reconcile$Listing" "zeros" "[I", Cond.fieldLink RX2 23 "Reconcile$Listing" "ones" "[I", Cond.fieldLink RX2 26 "Reconcile$Listing" "aboves" "[J", Cond.fieldLink RX2 43 "Reconcile$Fraction" "above" "J", Cond.fieldLink RX2 30 "Reconcile$Listing" "belows" "[J", Cond.fieldLink RX2 49 "Reconcile$Fraction" "below" "J"]
def wsX4_listPairsOf_r4 : List Cond := [Cond.fieldLink RX2 33 "Reconcile$Listing" "order" "[I", Cond.fieldLink RX2 39 "Reconcile$Listing" "paired" "[Z"]
def wsX4_listPairsOf : List Cond := .code yX4_listPairsOf cX4_listPairsOf 5 none :: ((wsX4_listPairsOf_r1 ++ (wsX4_listPairsOf_r2 ++ (wsX4_listPairsOf_r3 ++ wsX4_listPairsOf_r4))) ++ wsX40 ++ wsX30 ++ wsX00 ++ wsX20 ++ (vx_atM "java/lang/ArrayIndexOutOfBoundsException" ["java/lang/IndexOutOfBoundsException", "java/lang/RuntimeException", "java/lang/Exception"]).filter goodWord)
def wsX4_run_r1 : List Cond := [Cond.fieldLink RX4 37 "Reconcile" "latest" "LReconcile$Listing;", Cond.fieldLink RX4 15 "Reconcile" "nameCount" "I", Cond.methodLink RX4 71 yX2_begin, Cond.instanceMethod yX2_begin, Cond.selects RX2 yX2_begin yX2_begin, Cond.initialized RX2, Cond.code yX2_begin cX2_begin 2 none, Cond.fieldLink RX2 9 "Reconcile$Listing" "begun" "Z", Cond.fieldLink RX2 15 "Reconcile$Listing" "count" "I", Cond.fieldLink RX2 39 "Reconcile$Listing" "paired" "[Z", Cond.methodLink RX4 55 yX4_find, Cond.instanceMethod yX4_find, Cond.selects RX4 yX4_find yX4_find, Cond.initialized RX4, Cond.code yX4_find cX4_find 2 (some (.object "Reconcile$Name")), Cond.fieldLink RX4 11 "Reconcile" "names" "[LReconcile$Name;", Cond.methodLink RX4 74 yX3_mayPair, Cond.instanceMethod yX3_mayPair, Cond.selects RX3 yX3_mayPair yX3_mayPair, Cond.initialized RX3, Cond.code yX3_mayPair cX3_mayPair 2 (some .boolean), Cond.fieldLink RX3 36 "Reconcile$Name" "side" "I", Cond.fieldLink RX3 22 "Reconcile$Name" "tokenCount" "I", Cond.fieldLink RX3 9 "Reconcile$Name" "joined" "Z"]
def wsX4_run_r2 : List Cond := [Cond.methodLink RX4 77 yX4_listPairsOf, Cond.instanceMethod yX4_listPairsOf, Cond.selects RX4 yX4_listPairsOf yX4_listPairsOf, Cond.code yX4_listPairsOf cX4_listPairsOf 5 none, Cond.fieldLink RX4 44 "Reconcile" "measured" "LReconcile$Fraction;", Cond.fieldLink RX4 21 "Reconcile" "weights" "[J", Cond.methodLink RX4 97 yX0_measure, Cond.instanceMethod yX0_measure, Cond.selects RX0 yX0_measure yX0_measure, Cond.initialized RX0, Cond.code yX0_measure cX0_measure 6 none, Cond.fieldLink RX0 9 "Reconcile$Fraction" "above" "J", Cond.fieldLink RX0 15 "Reconcile$Fraction" "below" "J", Cond.methodLink RX0 18 yX3_weightOfShared, Cond.instanceMethod yX3_weightOfShared, Cond.selects RX3 yX3_weightOfShared yX3_weightOfShared, Cond.code yX3_weightOfShared cX3_weightOfShared 6 (some .long), Cond.fieldLink RX3 15 "Reconcile$Name" "tokens" "[I", Cond.fieldLink RX3 19 "Reconcile$Name" "kinds" "[I", Cond.methodLink RX3 39 yX3_hasToken, Cond.instanceMethod yX3_hasToken, Cond.selects RX3 yX3_hasToken yX3_hasToken, Cond.code yX3_hasToken cX3_hasToken 4 (some .boolean), Cond.methodLink RX0 24 yX3_weightOfAll]
def wsX4_run_r3 : List Cond := [Cond.instanceMethod yX3_weightOfAll, Cond.selects RX3 yX3_weightOfAll yX3_weightOfAll, Cond.code yX3_weightOfAll cX3_weightOfAll 5 (some .long), Cond.methodLink RX0 28 yX3_bothDated, Cond.instanceMethod yX3_bothDated, Cond.selects RX3 yX3_bothDated yX3_bothDated, Cond.code yX3_bothDated cX3_bothDated 2 (some .boolean), Cond.fieldLink RX3 26 "Reconcile$Name" "dated" "Z", Cond.methodLink RX0 32 yX3_sharesDay, Cond.instanceMethod yX3_sharesDay, Cond.selects RX3 yX3_sharesDay yX3_sharesDay, Cond.code yX3_sharesDay cX3_sharesDay 2 (some .boolean), Cond.fieldLink RX3 29 "Reconcile$Name" "firstDay" "J", Cond.fieldLink RX3 33 "Reconcile$Name" "lastDay" "J", Cond.methodLink RX3 43 yX3_bothDated, Cond.methodLink RX4 101 yX0_exists, Cond.instanceMethod yX0_exists, Cond.selects RX0 yX0_exists yX0_exists, Cond.code yX0_exists cX0_exists 1 (some .boolean), Cond.methodLink RX4 163 yX0_isHalfAtLeast, Cond.instanceMethod yX0_isHalfAtLeast, Cond.selects RX0 yX0_isHalfAtLeast yX0_isHalfAtLeast, Cond.code yX0_isHalfAtLeast cX0_isHalfAtLeast 1 (some .boolean), Cond.constantLong RX0 35 (2)]
def wsX4_run_r4 : List Cond := [Cond.methodLink RX4 166 yX2_add, Cond.instanceMethod yX2_add, Cond.selects RX2 yX2_add yX2_add, Cond.code yX2_add cX2_add 4 none, Cond.fieldLink RX2 19 "Reconcile$Listing" "zeros" "[I", Cond.fieldLink RX2 23 "Reconcile$Listing" "ones" "[I", Cond.fieldLink RX2 26 "Reconcile$Listing" "aboves" "[J", Cond.fieldLink RX2 43 "Reconcile$Fraction" "above" "J", Cond.fieldLink RX2 30 "Reconcile$Listing" "belows" "[J", Cond.fieldLink RX2 49 "Reconcile$Fraction" "below" "J", Cond.fieldLink RX2 33 "Reconcile$Listing" "order" "[I", Cond.methodLink RX4 81 yX2_sort, Cond.instanceMethod yX2_sort, Cond.selects RX2 yX2_sort yX2_sort, Cond.code yX2_sort cX2_sort 3 none, Cond.methodLink RX2 52 Lib.Math.min.name, Cond.static Lib.Math.min.name, Cond.initialized "java/lang/Math", Cond.code Lib.Math.min.name Lib.Math.min.code 2 (some .int), Cond.fieldLink RX2 36 "Reconcile$Listing" "spare" "[I", Cond.methodLink RX2 62 arraycopyName, Cond.native arraycopyName, Cond.static arraycopyName, Cond.initialized "java/lang/System"]
def wsX4_run_r5 : List Cond := [Cond.methodLink RX2 58 yX2_merge, Cond.instanceMethod yX2_merge, Cond.selects RX2 yX2_merge yX2_merge, Cond.code yX2_merge cX2_merge 7 none, Cond.methodLink RX2 68 yX2_isGreater, Cond.instanceMethod yX2_isGreater, Cond.selects RX2 yX2_isGreater yX2_isGreater, Cond.code yX2_isGreater cX2_isGreater 3 (some .boolean), Cond.methodLink RX4 84 yX2_size, Cond.instanceMethod yX2_size, Cond.selects RX2 yX2_size yX2_size, Cond.code yX2_size cX2_size 1 (some .int)]
def wsX4_run : List Cond := .code yX4_run cX4_run 3 (some .int) :: ((wsX4_run_r1 ++ (wsX4_run_r2 ++ (wsX4_run_r3 ++ (wsX4_run_r4 ++ wsX4_run_r5)))) ++ wsX40 ++ wsX20 ++ wsX30 ++ wsX00 ++ (vx_atM "java/lang/ArrayIndexOutOfBoundsException" ["java/lang/IndexOutOfBoundsException", "java/lang/RuntimeException", "java/lang/Exception"]).filter goodWord)
def wsX4_pair : List Cond := .code yX4_pair cX4_pair 3 (some .int) :: ([.fieldLink RX4 37 "Reconcile" "latest" "LReconcile$Listing;", .methodLink RX4 88 yX2_holds, .instanceMethod yX2_holds, .selects RX2 yX2_holds yX2_holds, .initialized RX2, .code yX2_holds cX2_holds 2 (some .boolean), .fieldLink RX2 15 "Reconcile$Listing" "count" "I", .methodLink RX4 48 yX4_isSide, .static yX4_isSide, .initialized RX4, .code yX4_isSide cX4_isSide 1 (some .boolean), .methodLink RX4 91 yX2_nameAt, .instanceMethod yX2_nameAt, .selects RX2 yX2_nameAt yX2_nameAt, .code yX2_nameAt cX2_nameAt 4 (some .int), .fieldLink RX2 33 "Reconcile$Listing" "order" "[I", .fieldLink RX2 23 "Reconcile$Listing" "ones" "[I", .fieldLink RX2 19 "Reconcile$Listing" "zeros" "[I"] ++ wsX40 ++ wsX20 ++ (vx_atM "java/lang/ArrayIndexOutOfBoundsException" ["java/lang/IndexOutOfBoundsException", "java/lang/RuntimeException", "java/lang/Exception"]).filter goodWord)
def wsX4_score_r1 : List Cond := [Cond.classLink RX4 105 "java/lang/ArithmeticException", Cond.initialized "java/lang/ArithmeticException", Cond.fieldLink RX4 37 "Reconcile" "latest" "LReconcile$Listing;", Cond.constantLong RX4 95 (-1), Cond.fieldLink RX4 44 "Reconcile" "measured" "LReconcile$Fraction;", Cond.fieldLink RX4 21 "Reconcile" "weights" "[J", Cond.fieldLink RX4 115 "Reconcile$Fraction" "above" "J", Cond.fieldLink RX4 119 "Reconcile$Fraction" "below" "J", Cond.methodLink RX4 88 yX2_holds, Cond.instanceMethod yX2_holds, Cond.selects RX2 yX2_holds yX2_holds, Cond.initialized RX2, Cond.code yX2_holds cX2_holds 2 (some .boolean), Cond.fieldLink RX2 15 "Reconcile$Listing" "count" "I", Cond.methodLink RX4 91 yX2_nameAt, Cond.instanceMethod yX2_nameAt, Cond.selects RX2 yX2_nameAt yX2_nameAt, Cond.code yX2_nameAt cX2_nameAt 4 (some .int), Cond.fieldLink RX2 33 "Reconcile$Listing" "order" "[I", Cond.fieldLink RX2 23 "Reconcile$Listing" "ones" "[I", Cond.fieldLink RX2 19 "Reconcile$Listing" "zeros" "[I", Cond.methodLink RX4 55 yX4_find, Cond.instanceMethod yX4_find, Cond.selects RX4 yX4_find yX4_find]
def wsX4_score_r2 : List Cond := [Cond.initialized RX4, Cond.code yX4_find cX4_find 2 (some (.object "Reconcile$Name")), Cond.fieldLink RX4 15 "Reconcile" "nameCount" "I", Cond.fieldLink RX4 11 "Reconcile" "names" "[LReconcile$Name;", Cond.methodLink RX4 97 yX0_measure, Cond.instanceMethod yX0_measure, Cond.selects RX0 yX0_measure yX0_measure, Cond.initialized RX0, Cond.code yX0_measure cX0_measure 6 none, Cond.fieldLink RX0 9 "Reconcile$Fraction" "above" "J", Cond.fieldLink RX0 15 "Reconcile$Fraction" "below" "J", Cond.methodLink RX0 18 yX3_weightOfShared, Cond.instanceMethod yX3_weightOfShared, Cond.selects RX3 yX3_weightOfShared yX3_weightOfShared, Cond.initialized RX3, Cond.code yX3_weightOfShared cX3_weightOfShared 6 (some .long), Cond.fieldLink RX3 22 "Reconcile$Name" "tokenCount" "I", Cond.fieldLink RX3 15 "Reconcile$Name" "tokens" "[I", Cond.fieldLink RX3 19 "Reconcile$Name" "kinds" "[I", Cond.methodLink RX3 39 yX3_hasToken, Cond.instanceMethod yX3_hasToken, Cond.selects RX3 yX3_hasToken yX3_hasToken, Cond.code yX3_hasToken cX3_hasToken 4 (some .boolean), Cond.methodLink RX0 24 yX3_weightOfAll]
def wsX4_score_r3 : List Cond := [Cond.instanceMethod yX3_weightOfAll, Cond.selects RX3 yX3_weightOfAll yX3_weightOfAll, Cond.code yX3_weightOfAll cX3_weightOfAll 5 (some .long), Cond.methodLink RX0 28 yX3_bothDated, Cond.instanceMethod yX3_bothDated, Cond.selects RX3 yX3_bothDated yX3_bothDated, Cond.code yX3_bothDated cX3_bothDated 2 (some .boolean), Cond.fieldLink RX3 26 "Reconcile$Name" "dated" "Z", Cond.methodLink RX0 32 yX3_sharesDay, Cond.instanceMethod yX3_sharesDay, Cond.selects RX3 yX3_sharesDay yX3_sharesDay, Cond.code yX3_sharesDay cX3_sharesDay 2 (some .boolean), Cond.fieldLink RX3 29 "Reconcile$Name" "firstDay" "J", Cond.fieldLink RX3 33 "Reconcile$Name" "lastDay" "J", Cond.methodLink RX3 43 yX3_bothDated, Cond.methodLink RX4 101 yX0_exists, Cond.instanceMethod yX0_exists, Cond.selects RX0 yX0_exists yX0_exists, Cond.code yX0_exists cX0_exists 1 (some .boolean), Cond.methodLink RX4 112 yX0_reduce, Cond.instanceMethod yX0_reduce, Cond.selects RX0 yX0_reduce yX0_reduce, Cond.code yX0_reduce cX0_reduce 3 none, Cond.methodLink RX0 37 yX0_greatestDivisor]
def wsX4_score_r4 : List Cond := [Cond.static yX0_greatestDivisor, Cond.code yX0_greatestDivisor cX0_greatestDivisor 11 (some .long)]
def wsX4_score : List Cond := .code yX4_score cX4_score 5 (some .long) :: ((wsX4_score_r1 ++ (wsX4_score_r2 ++ (wsX4_score_r3 ++ wsX4_score_r4))) ++ wsX40 ++ wsX00 ++ wsX20 ++ wsX30 ++ (vx_atS RX4 109 "java/lang/ArithmeticException" ["java/lang/RuntimeException", "java/lang/Exception"]).filter goodWord ++ (vx_atM "java/lang/ArrayIndexOutOfBoundsException" ["java/lang/IndexOutOfBoundsException", "java/lang/RuntimeException", "java/lang/Exception"]).filter goodWord ++ (vx_atM "java/lang/ArithmeticException" ["java/lang/RuntimeException", "java/lang/Exception"]).filter goodWord)
def wsX4_mutual : List Cond := .code yX4_mutual cX4_mutual 2 (some .int) :: ([.fieldLink RX4 37 "Reconcile" "latest" "LReconcile$Listing;", .methodLink RX4 88 yX2_holds, .instanceMethod yX2_holds, .selects RX2 yX2_holds yX2_holds, .initialized RX2, .code yX2_holds cX2_holds 2 (some .boolean), .fieldLink RX2 15 "Reconcile$Listing" "count" "I", .methodLink RX4 122 yX2_isBestOfBoth, .instanceMethod yX2_isBestOfBoth, .selects RX2 yX2_isBestOfBoth yX2_isBestOfBoth, .code yX2_isBestOfBoth cX2_isBestOfBoth 6 (some .boolean), .fieldLink RX2 33 "Reconcile$Listing" "order" "[I", .fieldLink RX2 19 "Reconcile$Listing" "zeros" "[I", .fieldLink RX2 23 "Reconcile$Listing" "ones" "[I", .methodLink RX2 68 yX2_isGreater, .instanceMethod yX2_isGreater, .selects RX2 yX2_isGreater yX2_isGreater, .code yX2_isGreater cX2_isGreater 3 (some .boolean), .fieldLink RX2 26 "Reconcile$Listing" "aboves" "[J", .fieldLink RX2 30 "Reconcile$Listing" "belows" "[J"] ++ wsX40 ++ wsX20 ++ (vx_atM "java/lang/ArrayIndexOutOfBoundsException" ["java/lang/IndexOutOfBoundsException", "java/lang/RuntimeException", "java/lang/Exception"]).filter goodWord)
def wsX4_join_r1 : List Cond := [Cond.fieldLink RX4 31 "Reconcile" "joinCount" "I", Cond.fieldLink RX4 27 "Reconcile" "joins" "[LReconcile$Join;", Cond.classLink RX4 25 RX1, Cond.instantiable RX1 3, Cond.initialized RX1, Cond.fieldLink RX4 131 "Reconcile$Name" "joined" "Z", Cond.methodLink RX4 55 yX4_find, Cond.instanceMethod yX4_find, Cond.selects RX4 yX4_find yX4_find, Cond.initialized RX4, Cond.code yX4_find cX4_find 2 (some (.object "Reconcile$Name")), Cond.fieldLink RX4 15 "Reconcile" "nameCount" "I", Cond.fieldLink RX4 11 "Reconcile" "names" "[LReconcile$Name;", Cond.methodLink RX4 125 yX3_mayJoin, Cond.instanceMethod yX3_mayJoin, Cond.selects RX3 yX3_mayJoin yX3_mayJoin, Cond.initialized RX3, Cond.code yX3_mayJoin cX3_mayJoin 2 (some .boolean), Cond.fieldLink RX3 36 "Reconcile$Name" "side" "I", Cond.fieldLink RX3 9 "Reconcile$Name" "joined" "Z", Cond.methodLink RX4 128 yX1_init, Cond.instanceMethod yX1_init, Cond.code yX1_init cX1_init 3 none, Cond.methodLink RX1 1 objectInit]
def wsX4_join_r2 : List Cond := [Cond.instanceMethod objectInit, Cond.code objectInit ⟨#[0xb1]⟩ 1 none, Cond.fieldLink RX1 7 "Reconcile$Join" "undone" "Z", Cond.fieldLink RX1 13 "Reconcile$Join" "zero" "LReconcile$Name;", Cond.fieldLink RX1 17 "Reconcile$Join" "one" "LReconcile$Name;"]
def wsX4_join : List Cond := .code yX4_join cX4_join 5 (some .int) :: ((wsX4_join_r1 ++ wsX4_join_r2) ++ wsX40 ++ wsX10 ++ wsX30)
def wsX4_undo : List Cond := .code yX4_undo cX4_undo 3 (some .int) :: ([.fieldLink RX4 31 "Reconcile" "joinCount" "I", .fieldLink RX4 27 "Reconcile" "joins" "[LReconcile$Join;", .fieldLink RX4 135 "Reconcile$Join" "undone" "Z", .methodLink RX4 138 yX1_takeBack, .instanceMethod yX1_takeBack, .selects RX1 yX1_takeBack yX1_takeBack, .initialized RX1, .code yX1_takeBack cX1_takeBack 1 none, .fieldLink RX1 7 "Reconcile$Join" "undone" "Z", .fieldLink RX1 13 "Reconcile$Join" "zero" "LReconcile$Name;", .fieldLink RX1 20 "Reconcile$Name" "joined" "Z", .fieldLink RX1 17 "Reconcile$Join" "one" "LReconcile$Name;"] ++ wsX40 ++ wsX10 ++ wsX30)
def wsX4_sample : List Cond := .code yX4_sample cX4_sample 4 (some .int) :: ([.fieldLink RX4 37 "Reconcile" "latest" "LReconcile$Listing;", .methodLink RX4 88 yX2_holds, .instanceMethod yX2_holds, .selects RX2 yX2_holds yX2_holds, .initialized RX2, .code yX2_holds cX2_holds 2 (some .boolean), .fieldLink RX2 15 "Reconcile$Listing" "count" "I", .methodLink RX4 141 yX2_placeAfterMixing, .instanceMethod yX2_placeAfterMixing, .selects RX2 yX2_placeAfterMixing yX2_placeAfterMixing, .code yX2_placeAfterMixing cX2_placeAfterMixing 9 (some .int), .fieldLink RX2 36 "Reconcile$Listing" "spare" "[I", .constantLong RX2 72 (6364136223846793005), .constantLong RX2 74 (1442695040888963407)] ++ wsX40 ++ wsX20 ++ (vx_atM "java/lang/ArrayIndexOutOfBoundsException" ["java/lang/IndexOutOfBoundsException", "java/lang/RuntimeException", "java/lang/Exception"]).filter goodWord ++ (vx_atM "java/lang/ArithmeticException" ["java/lang/RuntimeException", "java/lang/Exception"]).filter goodWord)
def wsX4_none : List Cond := .code yX4_none cX4_none 5 (some .int) :: ([.fieldLink RX4 37 "Reconcile" "latest" "LReconcile$Listing;", .fieldLink RX4 145 "Reconcile$Listing" "begun" "Z", .fieldLink RX4 15 "Reconcile" "nameCount" "I", .fieldLink RX4 148 "Reconcile$Name" "side" "I", .methodLink RX4 55 yX4_find, .instanceMethod yX4_find, .selects RX4 yX4_find yX4_find, .initialized RX4, .code yX4_find cX4_find 2 (some (.object "Reconcile$Name")), .fieldLink RX4 11 "Reconcile" "names" "[LReconcile$Name;", .methodLink RX4 151 yX2_hasName, .instanceMethod yX2_hasName, .selects RX2 yX2_hasName yX2_hasName, .initialized RX2, .code yX2_hasName cX2_hasName 2 (some .boolean), .fieldLink RX2 39 "Reconcile$Listing" "paired" "[Z"] ++ wsX40 ++ wsX20 ++ wsX30 ++ (vx_atM "java/lang/ArrayIndexOutOfBoundsException" ["java/lang/IndexOutOfBoundsException", "java/lang/RuntimeException", "java/lang/Exception"]).filter goodWord)
def wsX4_index : List Cond := .code yX4_index cX4_index 3 (some .int) :: ([.fieldLink RX4 37 "Reconcile" "latest" "LReconcile$Listing;", .classLink RX4 154 RJx00060, .instantiable RJx00060 6, .initialized RJx00060, .methodLink RX4 88 yX2_holds, .instanceMethod yX2_holds, .selects RX2 yX2_holds yX2_holds, .initialized RX2, .code yX2_holds cX2_holds 2 (some .boolean), .fieldLink RX2 15 "Reconcile$Listing" "count" "I", .methodLink RX4 91 yX2_nameAt, .instanceMethod yX2_nameAt, .selects RX2 yX2_nameAt yX2_nameAt, .code yX2_nameAt cX2_nameAt 4 (some .int), .fieldLink RX2 33 "Reconcile$Listing" "order" "[I", .fieldLink RX2 23 "Reconcile$Listing" "ones" "[I", .fieldLink RX2 19 "Reconcile$Listing" "zeros" "[I"] ++ wsX40 ++ wsJx000600 ++ wsX20 ++ (vx_atM "java/lang/ArrayIndexOutOfBoundsException" ["java/lang/IndexOutOfBoundsException", "java/lang/RuntimeException", "java/lang/Exception"]).filter goodWord)
def wsX4_best : List Cond := .code yX4_best cX4_best 4 (some .int) :: ([.fieldLink RX4 37 "Reconcile" "latest" "LReconcile$Listing;", .methodLink RX4 48 yX4_isSide, .static yX4_isSide, .initialized RX4, .code yX4_isSide cX4_isSide 1 (some .boolean), .methodLink RX4 159 yX2_partner, .instanceMethod yX2_partner, .selects RX2 yX2_partner yX2_partner, .initialized RX2, .code yX2_partner cX2_partner 6 (some .int), .fieldLink RX2 15 "Reconcile$Listing" "count" "I", .methodLink RX2 76 yX2_nameAt, .instanceMethod yX2_nameAt, .selects RX2 yX2_nameAt yX2_nameAt, .code yX2_nameAt cX2_nameAt 4 (some .int), .fieldLink RX2 33 "Reconcile$Listing" "order" "[I", .fieldLink RX2 23 "Reconcile$Listing" "ones" "[I", .fieldLink RX2 19 "Reconcile$Listing" "zeros" "[I"] ++ wsX40 ++ wsX20 ++ (vx_atM "java/lang/ArrayIndexOutOfBoundsException" ["java/lang/IndexOutOfBoundsException", "java/lang/RuntimeException", "java/lang/Exception"]).filter goodWord)
def wsX5_init : List Cond := .code yX5_init cX5_init 1 none :: ([.methodLink RX5 1 objectInit, .instanceMethod objectInit, .code objectInit ⟨#[0xb1]⟩ 1 none, .arrayClass .int, .fieldLink RX5 7 "ReconcileModel" "sides" "[I", .fieldLink RX5 13 "ReconcileModel" "tokens" "[I", .fieldLink RX5 16 "ReconcileModel" "tokenKinds" "[I", .fieldLink RX5 19 "ReconcileModel" "counts" "[I", .arrayClass .boolean, .fieldLink RX5 22 "ReconcileModel" "dated" "[Z", .arrayClass .long, .fieldLink RX5 26 "ReconcileModel" "froms" "[J", .fieldLink RX5 30 "ReconcileModel" "tos" "[J", .fieldLink RX5 33 "ReconcileModel" "partners" "[I", .constantLong RX5 36 (2520), .fieldLink RX5 38 "ReconcileModel" "weights" "[J", .fieldLink RX5 41 "ReconcileModel" "ones" "[I", .fieldLink RX5 44 "ReconcileModel" "twos" "[I", .fieldLink RX5 47 "ReconcileModel" "ups" "[J", .fieldLink RX5 50 "ReconcileModel" "downs" "[J", .fieldLink RX5 53 "ReconcileModel" "joinA" "[I", .fieldLink RX5 56 "ReconcileModel" "joinB" "[I", .fieldLink RX5 59 "ReconcileModel" "mixed" "[I"] ++ wsX50 ++ (vx_atM "java/lang/ArrayIndexOutOfBoundsException" ["java/lang/IndexOutOfBoundsException", "java/lang/RuntimeException", "java/lang/Exception"]).filter goodWord)
def wsX5_thrown : List Cond := .code yX5_thrown cX5_thrown 1 (some .int) :: ([.fieldLink RX5 62 "ReconcileModel" "thrown" "I"] ++ wsX50)
def wsX5_isName : List Cond := .code yX5_isName cX5_isName 2 (some .boolean) :: ([.fieldLink RX5 66 "ReconcileModel" "names" "I"] ++ wsX50)
def wsX5_name : List Cond := .code yX5_name cX5_name 2 (some .int) :: ([.fieldLink RX5 62 "ReconcileModel" "thrown" "I", .fieldLink RX5 66 "ReconcileModel" "names" "I", .fieldLink RX5 7 "ReconcileModel" "sides" "[I"] ++ wsX50 ++ (vx_atM "java/lang/ArrayIndexOutOfBoundsException" ["java/lang/IndexOutOfBoundsException", "java/lang/RuntimeException", "java/lang/Exception"]).filter goodWord)
def wsX5_has : List Cond := .code yX5_has cX5_has 6 (some .boolean) :: ([.fieldLink RX5 19 "ReconcileModel" "counts" "[I", .fieldLink RX5 13 "ReconcileModel" "tokens" "[I", .fieldLink RX5 16 "ReconcileModel" "tokenKinds" "[I"] ++ wsX50 ++ (vx_atM "java/lang/ArrayIndexOutOfBoundsException" ["java/lang/IndexOutOfBoundsException", "java/lang/RuntimeException", "java/lang/Exception"]).filter goodWord)
def wsX5_token : List Cond := .code yX5_token cX5_token 4 none :: ([.fieldLink RX5 62 "ReconcileModel" "thrown" "I", .fieldLink RX5 19 "ReconcileModel" "counts" "[I", .fieldLink RX5 13 "ReconcileModel" "tokens" "[I", .fieldLink RX5 16 "ReconcileModel" "tokenKinds" "[I", .methodLink RX5 69 yX5_isName, .instanceMethod yX5_isName, .selects RX5 yX5_isName yX5_isName, .initialized RX5, .code yX5_isName cX5_isName 2 (some .boolean), .fieldLink RX5 66 "ReconcileModel" "names" "I", .methodLink RX5 73 yX5_has, .instanceMethod yX5_has, .selects RX5 yX5_has yX5_has, .code yX5_has cX5_has 6 (some .boolean)] ++ wsX50 ++ (vx_atM "java/lang/ArrayIndexOutOfBoundsException" ["java/lang/IndexOutOfBoundsException", "java/lang/RuntimeException", "java/lang/Exception"]).filter goodWord)
def wsX5_date : List Cond := .code yX5_date cX5_date 6 none :: ([.fieldLink RX5 62 "ReconcileModel" "thrown" "I", .fieldLink RX5 22 "ReconcileModel" "dated" "[Z", .fieldLink RX5 26 "ReconcileModel" "froms" "[J", .fieldLink RX5 30 "ReconcileModel" "tos" "[J", .methodLink RX5 69 yX5_isName, .instanceMethod yX5_isName, .selects RX5 yX5_isName yX5_isName, .initialized RX5, .code yX5_isName cX5_isName 2 (some .boolean), .fieldLink RX5 66 "ReconcileModel" "names" "I"] ++ wsX50 ++ (vx_atM "java/lang/ArrayIndexOutOfBoundsException" ["java/lang/IndexOutOfBoundsException", "java/lang/RuntimeException", "java/lang/Exception"]).filter goodWord)
def wsX5_weight : List Cond := .code yX5_weight cX5_weight 6 (some .int) :: ([.fieldLink RX5 62 "ReconcileModel" "thrown" "I", .constantLong RX5 77 (100), .constantLong RX5 79 (10), .fieldLink RX5 38 "ReconcileModel" "weights" "[J", .constantLong RX5 36 (2520)] ++ wsX50 ++ (vx_atM "java/lang/ArithmeticException" ["java/lang/RuntimeException", "java/lang/Exception"]).filter goodWord ++ (vx_atM "java/lang/ArrayIndexOutOfBoundsException" ["java/lang/IndexOutOfBoundsException", "java/lang/RuntimeException", "java/lang/Exception"]).filter goodWord)
def wsX5_reckon : List Cond := .code yX5_reckon cX5_reckon 6 none :: ([.fieldLink RX5 81 "ReconcileModel" "up" "J", .fieldLink RX5 85 "ReconcileModel" "down" "J", .fieldLink RX5 19 "ReconcileModel" "counts" "[I", .fieldLink RX5 38 "ReconcileModel" "weights" "[J", .fieldLink RX5 16 "ReconcileModel" "tokenKinds" "[I", .fieldLink RX5 13 "ReconcileModel" "tokens" "[I", .fieldLink RX5 22 "ReconcileModel" "dated" "[Z", .fieldLink RX5 26 "ReconcileModel" "froms" "[J", .fieldLink RX5 30 "ReconcileModel" "tos" "[J", .methodLink RX5 73 yX5_has, .instanceMethod yX5_has, .selects RX5 yX5_has yX5_has, .initialized RX5, .code yX5_has cX5_has 6 (some .boolean)] ++ wsX50 ++ (vx_atM "java/lang/ArrayIndexOutOfBoundsException" ["java/lang/IndexOutOfBoundsException", "java/lang/RuntimeException", "java/lang/Exception"]).filter goodWord)
def wsX5_run_r1 : List Cond := [Cond.fieldLink RX5 62 "ReconcileModel" "thrown" "I", Cond.fieldLink RX5 88 "ReconcileModel" "ran" "Z", Cond.fieldLink RX5 92 "ReconcileModel" "pairs" "I", Cond.fieldLink RX5 66 "ReconcileModel" "names" "I", Cond.fieldLink RX5 7 "ReconcileModel" "sides" "[I", Cond.fieldLink RX5 19 "ReconcileModel" "counts" "[I", Cond.fieldLink RX5 33 "ReconcileModel" "partners" "[I", Cond.fieldLink RX5 85 "ReconcileModel" "down" "J", Cond.constantLong RX5 99 (2), Cond.fieldLink RX5 81 "ReconcileModel" "up" "J", Cond.fieldLink RX5 50 "ReconcileModel" "downs" "[J", Cond.fieldLink RX5 47 "ReconcileModel" "ups" "[J", Cond.fieldLink RX5 41 "ReconcileModel" "ones" "[I", Cond.fieldLink RX5 44 "ReconcileModel" "twos" "[I", Cond.methodLink RX5 95 yX5_reckon, Cond.instanceMethod yX5_reckon, Cond.selects RX5 yX5_reckon yX5_reckon, Cond.initialized RX5, Cond.code yX5_reckon cX5_reckon 6 none, Cond.fieldLink RX5 38 "ReconcileModel" "weights" "[J", Cond.fieldLink RX5 16 "ReconcileModel" "tokenKinds" "[I", Cond.fieldLink RX5 13 "ReconcileModel" "tokens" "[I", Cond.fieldLink RX5 22 "ReconcileModel" "dated" "[Z", Cond.fieldLink RX5 26 "ReconcileModel" "froms" "[J"]
def wsX5_run_r2 : List Cond := [Cond.fieldLink RX5 30 "ReconcileModel" "tos" "[J", Cond.methodLink RX5 73 yX5_has, Cond.instanceMethod yX5_has, Cond.selects RX5 yX5_has yX5_has, Cond.code yX5_has cX5_has 6 (some .boolean)]
def wsX5_run : List Cond := .code yX5_run cX5_run 4 (some .int) :: ((wsX5_run_r1 ++ wsX5_run_r2) ++ wsX50 ++ (vx_atM "java/lang/ArrayIndexOutOfBoundsException" ["java/lang/IndexOutOfBoundsException", "java/lang/RuntimeException", "java/lang/Exception"]).filter goodWord)
def wsX5_isPair : List Cond := .code yX5_isPair cX5_isPair 2 (some .boolean) :: ([.fieldLink RX5 92 "ReconcileModel" "pairs" "I"] ++ wsX50)
def wsX5_pair : List Cond := .code yX5_pair cX5_pair 3 (some .int) :: ([.fieldLink RX5 62 "ReconcileModel" "thrown" "I", .fieldLink RX5 41 "ReconcileModel" "ones" "[I", .fieldLink RX5 44 "ReconcileModel" "twos" "[I", .methodLink RX5 101 yX5_isPair, .instanceMethod yX5_isPair, .selects RX5 yX5_isPair yX5_isPair, .initialized RX5, .code yX5_isPair cX5_isPair 2 (some .boolean), .fieldLink RX5 92 "ReconcileModel" "pairs" "I"] ++ wsX50 ++ (vx_atM "java/lang/ArrayIndexOutOfBoundsException" ["java/lang/IndexOutOfBoundsException", "java/lang/RuntimeException", "java/lang/Exception"]).filter goodWord)
def wsX5_index : List Cond := .code yX5_index cX5_index 3 (some .int) :: ([.fieldLink RX5 62 "ReconcileModel" "thrown" "I", .fieldLink RX5 44 "ReconcileModel" "twos" "[I", .fieldLink RX5 41 "ReconcileModel" "ones" "[I", .methodLink RX5 101 yX5_isPair, .instanceMethod yX5_isPair, .selects RX5 yX5_isPair yX5_isPair, .initialized RX5, .code yX5_isPair cX5_isPair 2 (some .boolean), .fieldLink RX5 92 "ReconcileModel" "pairs" "I"] ++ wsX50 ++ (vx_atM "java/lang/ArrayIndexOutOfBoundsException" ["java/lang/IndexOutOfBoundsException", "java/lang/RuntimeException", "java/lang/Exception"]).filter goodWord)
def wsX5_score_r1 : List Cond := [Cond.fieldLink RX5 62 "ReconcileModel" "thrown" "I", Cond.constantLong RX5 104 (-1), Cond.fieldLink RX5 41 "ReconcileModel" "ones" "[I", Cond.fieldLink RX5 44 "ReconcileModel" "twos" "[I", Cond.fieldLink RX5 85 "ReconcileModel" "down" "J", Cond.fieldLink RX5 81 "ReconcileModel" "up" "J", Cond.methodLink RX5 101 yX5_isPair, Cond.instanceMethod yX5_isPair, Cond.selects RX5 yX5_isPair yX5_isPair, Cond.initialized RX5, Cond.code yX5_isPair cX5_isPair 2 (some .boolean), Cond.fieldLink RX5 92 "ReconcileModel" "pairs" "I", Cond.methodLink RX5 95 yX5_reckon, Cond.instanceMethod yX5_reckon, Cond.selects RX5 yX5_reckon yX5_reckon, Cond.code yX5_reckon cX5_reckon 6 none, Cond.fieldLink RX5 19 "ReconcileModel" "counts" "[I", Cond.fieldLink RX5 38 "ReconcileModel" "weights" "[J", Cond.fieldLink RX5 16 "ReconcileModel" "tokenKinds" "[I", Cond.fieldLink RX5 13 "ReconcileModel" "tokens" "[I", Cond.fieldLink RX5 22 "ReconcileModel" "dated" "[Z", Cond.fieldLink RX5 26 "ReconcileModel" "froms" "[J", Cond.fieldLink RX5 30 "ReconcileModel" "tos" "[J", Cond.methodLink RX5 73 yX5_has]
def wsX5_score_r2 : List Cond := [Cond.instanceMethod yX5_has, Cond.selects RX5 yX5_has yX5_has, Cond.code yX5_has cX5_has 6 (some .boolean)]
def wsX5_score : List Cond := .code yX5_score cX5_score 9 (some .long) :: ((wsX5_score_r1 ++ wsX5_score_r2) ++ wsX50 ++ (vx_atM "java/lang/ArrayIndexOutOfBoundsException" ["java/lang/IndexOutOfBoundsException", "java/lang/RuntimeException", "java/lang/Exception"]).filter goodWord ++ (vx_atM "java/lang/ArithmeticException" ["java/lang/RuntimeException", "java/lang/Exception"]).filter goodWord)
def wsX5_mutual : List Cond := .code yX5_mutual cX5_mutual 3 (some .int) :: ([.fieldLink RX5 62 "ReconcileModel" "thrown" "I", .fieldLink RX5 92 "ReconcileModel" "pairs" "I", .fieldLink RX5 41 "ReconcileModel" "ones" "[I", .fieldLink RX5 44 "ReconcileModel" "twos" "[I", .fieldLink RX5 47 "ReconcileModel" "ups" "[J", .fieldLink RX5 50 "ReconcileModel" "downs" "[J", .methodLink RX5 101 yX5_isPair, .instanceMethod yX5_isPair, .selects RX5 yX5_isPair yX5_isPair, .initialized RX5, .code yX5_isPair cX5_isPair 2 (some .boolean)] ++ wsX50 ++ (vx_atM "java/lang/ArrayIndexOutOfBoundsException" ["java/lang/IndexOutOfBoundsException", "java/lang/RuntimeException", "java/lang/Exception"]).filter goodWord)
def wsX5_join : List Cond := .code yX5_join cX5_join 3 (some .int) :: ([.fieldLink RX5 62 "ReconcileModel" "thrown" "I", .fieldLink RX5 7 "ReconcileModel" "sides" "[I", .fieldLink RX5 33 "ReconcileModel" "partners" "[I", .fieldLink RX5 106 "ReconcileModel" "joins" "I", .fieldLink RX5 53 "ReconcileModel" "joinA" "[I", .fieldLink RX5 56 "ReconcileModel" "joinB" "[I", .methodLink RX5 69 yX5_isName, .instanceMethod yX5_isName, .selects RX5 yX5_isName yX5_isName, .initialized RX5, .code yX5_isName cX5_isName 2 (some .boolean), .fieldLink RX5 66 "ReconcileModel" "names" "I"] ++ wsX50 ++ (vx_atM "java/lang/ArrayIndexOutOfBoundsException" ["java/lang/IndexOutOfBoundsException", "java/lang/RuntimeException", "java/lang/Exception"]).filter goodWord)
def wsX5_undo : List Cond := .code yX5_undo cX5_undo 2 (some .int) :: ([.fieldLink RX5 62 "ReconcileModel" "thrown" "I", .fieldLink RX5 106 "ReconcileModel" "joins" "I", .fieldLink RX5 33 "ReconcileModel" "partners" "[I", .fieldLink RX5 53 "ReconcileModel" "joinA" "[I", .fieldLink RX5 56 "ReconcileModel" "joinB" "[I"] ++ wsX50 ++ (vx_atM "java/lang/ArrayIndexOutOfBoundsException" ["java/lang/IndexOutOfBoundsException", "java/lang/RuntimeException", "java/lang/Exception"]).filter goodWord)
def wsX5_sample : List Cond := .code yX5_sample cX5_sample 9 (some .int) :: ([.fieldLink RX5 62 "ReconcileModel" "thrown" "I", .fieldLink RX5 92 "ReconcileModel" "pairs" "I", .fieldLink RX5 59 "ReconcileModel" "mixed" "[I", .constantLong RX5 109 (6364136223846793005), .constantLong RX5 111 (1442695040888963407), .methodLink RX5 101 yX5_isPair, .instanceMethod yX5_isPair, .selects RX5 yX5_isPair yX5_isPair, .initialized RX5, .code yX5_isPair cX5_isPair 2 (some .boolean)] ++ wsX50 ++ (vx_atM "java/lang/ArrayIndexOutOfBoundsException" ["java/lang/IndexOutOfBoundsException", "java/lang/RuntimeException", "java/lang/Exception"]).filter goodWord ++ (vx_atM "java/lang/ArithmeticException" ["java/lang/RuntimeException", "java/lang/Exception"]).filter goodWord)
def wsX5_none : List Cond := .code yX5_none cX5_none 6 (some .int) :: ([.fieldLink RX5 62 "ReconcileModel" "thrown" "I", .fieldLink RX5 66 "ReconcileModel" "names" "I", .fieldLink RX5 88 "ReconcileModel" "ran" "Z", .fieldLink RX5 7 "ReconcileModel" "sides" "[I", .fieldLink RX5 92 "ReconcileModel" "pairs" "I", .fieldLink RX5 41 "ReconcileModel" "ones" "[I"] ++ wsX50 ++ (vx_atM "java/lang/ArrayIndexOutOfBoundsException" ["java/lang/IndexOutOfBoundsException", "java/lang/RuntimeException", "java/lang/Exception"]).filter goodWord)
def wsX5_best : List Cond := .code yX5_best cX5_best 6 (some .int) :: ([.fieldLink RX5 62 "ReconcileModel" "thrown" "I", .fieldLink RX5 92 "ReconcileModel" "pairs" "I", .fieldLink RX5 41 "ReconcileModel" "ones" "[I", .fieldLink RX5 44 "ReconcileModel" "twos" "[I"] ++ wsX50 ++ (vx_atM "java/lang/ArrayIndexOutOfBoundsException" ["java/lang/IndexOutOfBoundsException", "java/lang/RuntimeException", "java/lang/Exception"]).filter goodWord)
def wsJx00060_init_a7421 : List Cond := .code yJx00060_init_a7421 cJx00060_init_a7421 2 none :: ([])
def wsJ9_min_7cf53 : List Cond := .code yJ9_min_7cf53 cJ9_min_7cf53 2 (some .int) :: ([])
def wsL_score_r1 : List Cond := [Cond.classLink RL 13 "java/lang/ArithmeticException", Cond.methodLink RL 7 yX4_score, Cond.instanceMethod yX4_score, Cond.selects RX4 yX4_score yX4_score, Cond.initialized RX4, Cond.code yX4_score cX4_score 5 (some .long), Cond.classLink RX4 105 "java/lang/ArithmeticException", Cond.initialized "java/lang/ArithmeticException", Cond.fieldLink RX4 37 "Reconcile" "latest" "LReconcile$Listing;", Cond.constantLong RX4 95 (-1), Cond.fieldLink RX4 44 "Reconcile" "measured" "LReconcile$Fraction;", Cond.fieldLink RX4 21 "Reconcile" "weights" "[J", Cond.fieldLink RX4 115 "Reconcile$Fraction" "above" "J", Cond.fieldLink RX4 119 "Reconcile$Fraction" "below" "J", Cond.methodLink RX4 88 yX2_holds, Cond.instanceMethod yX2_holds, Cond.selects RX2 yX2_holds yX2_holds, Cond.initialized RX2, Cond.code yX2_holds cX2_holds 2 (some .boolean), Cond.fieldLink RX2 15 "Reconcile$Listing" "count" "I", Cond.methodLink RX4 91 yX2_nameAt, Cond.instanceMethod yX2_nameAt, Cond.selects RX2 yX2_nameAt yX2_nameAt, Cond.code yX2_nameAt cX2_nameAt 4 (some .int)]
def wsL_score_r2 : List Cond := [Cond.fieldLink RX2 33 "Reconcile$Listing" "order" "[I", Cond.fieldLink RX2 23 "Reconcile$Listing" "ones" "[I", Cond.fieldLink RX2 19 "Reconcile$Listing" "zeros" "[I", Cond.methodLink RX4 55 yX4_find, Cond.instanceMethod yX4_find, Cond.selects RX4 yX4_find yX4_find, Cond.code yX4_find cX4_find 2 (some (.object "Reconcile$Name")), Cond.fieldLink RX4 15 "Reconcile" "nameCount" "I", Cond.fieldLink RX4 11 "Reconcile" "names" "[LReconcile$Name;", Cond.methodLink RX4 97 yX0_measure, Cond.instanceMethod yX0_measure, Cond.selects RX0 yX0_measure yX0_measure, Cond.initialized RX0, Cond.code yX0_measure cX0_measure 6 none, Cond.fieldLink RX0 9 "Reconcile$Fraction" "above" "J", Cond.fieldLink RX0 15 "Reconcile$Fraction" "below" "J", Cond.methodLink RX0 18 yX3_weightOfShared, Cond.instanceMethod yX3_weightOfShared, Cond.selects RX3 yX3_weightOfShared yX3_weightOfShared, Cond.initialized RX3, Cond.code yX3_weightOfShared cX3_weightOfShared 6 (some .long), Cond.fieldLink RX3 22 "Reconcile$Name" "tokenCount" "I", Cond.fieldLink RX3 15 "Reconcile$Name" "tokens" "[I", Cond.fieldLink RX3 19 "Reconcile$Name" "kinds" "[I"]
def wsL_score_r3 : List Cond := [Cond.methodLink RX3 39 yX3_hasToken, Cond.instanceMethod yX3_hasToken, Cond.selects RX3 yX3_hasToken yX3_hasToken, Cond.code yX3_hasToken cX3_hasToken 4 (some .boolean), Cond.methodLink RX0 24 yX3_weightOfAll, Cond.instanceMethod yX3_weightOfAll, Cond.selects RX3 yX3_weightOfAll yX3_weightOfAll, Cond.code yX3_weightOfAll cX3_weightOfAll 5 (some .long), Cond.methodLink RX0 28 yX3_bothDated, Cond.instanceMethod yX3_bothDated, Cond.selects RX3 yX3_bothDated yX3_bothDated, Cond.code yX3_bothDated cX3_bothDated 2 (some .boolean), Cond.fieldLink RX3 26 "Reconcile$Name" "dated" "Z", Cond.methodLink RX0 32 yX3_sharesDay, Cond.instanceMethod yX3_sharesDay, Cond.selects RX3 yX3_sharesDay yX3_sharesDay, Cond.code yX3_sharesDay cX3_sharesDay 2 (some .boolean), Cond.fieldLink RX3 29 "Reconcile$Name" "firstDay" "J", Cond.fieldLink RX3 33 "Reconcile$Name" "lastDay" "J", Cond.methodLink RX3 43 yX3_bothDated, Cond.methodLink RX4 101 yX0_exists, Cond.instanceMethod yX0_exists, Cond.selects RX0 yX0_exists yX0_exists, Cond.code yX0_exists cX0_exists 1 (some .boolean)]
def wsL_score_r4 : List Cond := [Cond.methodLink RX4 112 yX0_reduce, Cond.instanceMethod yX0_reduce, Cond.selects RX0 yX0_reduce yX0_reduce, Cond.code yX0_reduce cX0_reduce 3 none, Cond.methodLink RX0 37 yX0_greatestDivisor, Cond.static yX0_greatestDivisor, Cond.code yX0_greatestDivisor cX0_greatestDivisor 11 (some .long)]
def wsL_score : List Cond := .codeWith yL_score cL_score 5 (some .int) [(0, 9, 12, 13)] :: ((wsL_score_r1 ++ (wsL_score_r2 ++ (wsL_score_r3 ++ wsL_score_r4))) ++ wsX40 ++ wsX00 ++ wsX20 ++ wsX30 ++ (vx_atM "java/lang/ArrayIndexOutOfBoundsException" ["java/lang/IndexOutOfBoundsException", "java/lang/RuntimeException", "java/lang/Exception"]).filter goodWord ++ (vx_atS RX4 109 "java/lang/ArithmeticException" ["java/lang/RuntimeException", "java/lang/Exception"]).filter goodWord ++ (vx_atM "java/lang/ArithmeticException" ["java/lang/RuntimeException", "java/lang/Exception"]).filter goodWord)
def wsL_index : List Cond := .codeWith yL_index cL_index 5 (some .int) [(0, 10, 13, 19)] :: ([.classLink RL 19 "java/lang/ArrayIndexOutOfBoundsException", .methodLink RL 15 yX4_index, .instanceMethod yX4_index, .selects RX4 yX4_index yX4_index, .initialized RX4, .code yX4_index cX4_index 3 (some .int), .fieldLink RX4 37 "Reconcile" "latest" "LReconcile$Listing;", .classLink RX4 154 RJx00060, .instantiable RJx00060 6, .initialized RJx00060, .methodLink RX4 88 yX2_holds, .instanceMethod yX2_holds, .selects RX2 yX2_holds yX2_holds, .initialized RX2, .code yX2_holds cX2_holds 2 (some .boolean), .fieldLink RX2 15 "Reconcile$Listing" "count" "I", .methodLink RX4 91 yX2_nameAt, .instanceMethod yX2_nameAt, .selects RX2 yX2_nameAt yX2_nameAt, .code yX2_nameAt cX2_nameAt 4 (some .int), .fieldLink RX2 33 "Reconcile$Listing" "order" "[I", .fieldLink RX2 23 "Reconcile$Listing" "ones" "[I", .fieldLink RX2 19 "Reconcile$Listing" "zeros" "[I"] ++ wsX40 ++ wsJx000600 ++ wsX20 ++ (vx_atM "java/lang/ArrayIndexOutOfBoundsException" ["java/lang/IndexOutOfBoundsException", "java/lang/RuntimeException", "java/lang/Exception"]).filter goodWord)
def wsL_law0_r1 : List Cond := [Cond.classLink RL 8 RX4, Cond.instantiable RX4 7, Cond.initialized RX4, Cond.classLink RL 22 RX5, Cond.instantiable RX5 23, Cond.initialized RX5, Cond.arrayClass .long, Cond.constantLong RL 35 (4294967295), Cond.methodLink RL 21 yX4_init, Cond.instanceMethod yX4_init, Cond.code yX4_init cX4_init 1 none, Cond.methodLink RX4 1 objectInit, Cond.instanceMethod objectInit, Cond.code objectInit ⟨#[0xb1]⟩ 1 none, Cond.classLink RX4 9 RX3, Cond.fieldLink RX4 11 "Reconcile" "names" "[LReconcile$Name;", Cond.fieldLink RX4 15 "Reconcile" "nameCount" "I", Cond.constantLong RX4 19 (2520), Cond.fieldLink RX4 21 "Reconcile" "weights" "[J", Cond.classLink RX4 25 RX1, Cond.fieldLink RX4 27 "Reconcile" "joins" "[LReconcile$Join;", Cond.fieldLink RX4 31 "Reconcile" "joinCount" "I", Cond.classLink RX4 34 RX2, Cond.instantiable RX2 9]
def wsL_law0_r2 : List Cond := [Cond.initialized RX2, Cond.fieldLink RX4 37 "Reconcile" "latest" "LReconcile$Listing;", Cond.classLink RX4 41 RX0, Cond.instantiable RX0 2, Cond.initialized RX0, Cond.fieldLink RX4 44 "Reconcile" "measured" "LReconcile$Fraction;", Cond.instanceMethod yX2_init, Cond.code yX2_init cX2_init 1 none, Cond.methodLink RX2 3 objectInit, Cond.fieldLink RX2 9 "Reconcile$Listing" "begun" "Z", Cond.fieldLink RX2 15 "Reconcile$Listing" "count" "I", Cond.arrayClass .int, Cond.fieldLink RX2 19 "Reconcile$Listing" "zeros" "[I", Cond.fieldLink RX2 23 "Reconcile$Listing" "ones" "[I", Cond.fieldLink RX2 26 "Reconcile$Listing" "aboves" "[J", Cond.fieldLink RX2 30 "Reconcile$Listing" "belows" "[J", Cond.fieldLink RX2 33 "Reconcile$Listing" "order" "[I", Cond.fieldLink RX2 36 "Reconcile$Listing" "spare" "[I", Cond.arrayClass .boolean, Cond.fieldLink RX2 39 "Reconcile$Listing" "paired" "[Z", Cond.instanceMethod yX0_init, Cond.code yX0_init cX0_init 1 none, Cond.methodLink RX0 3 objectInit, Cond.fieldLink RX0 9 "Reconcile$Fraction" "above" "J"]
def wsL_law0_r3 : List Cond := [Cond.fieldLink RX0 15 "Reconcile$Fraction" "below" "J", Cond.methodLink RL 24 yX5_init, Cond.instanceMethod yX5_init, Cond.code yX5_init cX5_init 1 none, Cond.methodLink RX5 1 objectInit, Cond.fieldLink RX5 7 "ReconcileModel" "sides" "[I", Cond.fieldLink RX5 13 "ReconcileModel" "tokens" "[I", Cond.fieldLink RX5 16 "ReconcileModel" "tokenKinds" "[I", Cond.fieldLink RX5 19 "ReconcileModel" "counts" "[I", Cond.fieldLink RX5 22 "ReconcileModel" "dated" "[Z", Cond.fieldLink RX5 26 "ReconcileModel" "froms" "[J", Cond.fieldLink RX5 30 "ReconcileModel" "tos" "[J", Cond.fieldLink RX5 33 "ReconcileModel" "partners" "[I", Cond.constantLong RX5 36 (2520), Cond.fieldLink RX5 38 "ReconcileModel" "weights" "[J", Cond.fieldLink RX5 41 "ReconcileModel" "ones" "[I", Cond.fieldLink RX5 44 "ReconcileModel" "twos" "[I", Cond.fieldLink RX5 47 "ReconcileModel" "ups" "[J", Cond.fieldLink RX5 50 "ReconcileModel" "downs" "[J", Cond.fieldLink RX5 53 "ReconcileModel" "joinA" "[I", Cond.fieldLink RX5 56 "ReconcileModel" "joinB" "[I", Cond.fieldLink RX5 59 "ReconcileModel" "mixed" "[I", Cond.methodLink RL 25 yX4_name, Cond.instanceMethod yX4_name]
def wsL_law0_r4 : List Cond := [Cond.selects RX4 yX4_name yX4_name, Cond.code yX4_name cX4_name 2 (some .int), Cond.instantiable RX3 8, Cond.initialized RX3, Cond.methodLink RX4 48 yX4_isSide, Cond.static yX4_isSide, Cond.code yX4_isSide cX4_isSide 1 (some .boolean), Cond.methodLink RX4 52 yX3_init, Cond.instanceMethod yX3_init, Cond.code yX3_init cX3_init 2 none, Cond.methodLink RX3 3 objectInit, Cond.fieldLink RX3 9 "Reconcile$Name" "joined" "Z", Cond.fieldLink RX3 15 "Reconcile$Name" "tokens" "[I", Cond.fieldLink RX3 19 "Reconcile$Name" "kinds" "[I", Cond.fieldLink RX3 22 "Reconcile$Name" "tokenCount" "I", Cond.fieldLink RX3 26 "Reconcile$Name" "dated" "Z", Cond.fieldLink RX3 29 "Reconcile$Name" "firstDay" "J", Cond.fieldLink RX3 33 "Reconcile$Name" "lastDay" "J", Cond.fieldLink RX3 36 "Reconcile$Name" "side" "I", Cond.methodLink RL 29 yX5_name, Cond.instanceMethod yX5_name, Cond.selects RX5 yX5_name yX5_name, Cond.code yX5_name cX5_name 2 (some .int), Cond.fieldLink RX5 62 "ReconcileModel" "thrown" "I"]
def wsL_law0_r5 : List Cond := [Cond.fieldLink RX5 66 "ReconcileModel" "names" "I", Cond.methodLink RL 30 yX4_token, Cond.instanceMethod yX4_token, Cond.selects RX4 yX4_token yX4_token, Cond.code yX4_token cX4_token 5 none, Cond.methodLink RX4 55 yX4_find, Cond.instanceMethod yX4_find, Cond.selects RX4 yX4_find yX4_find, Cond.code yX4_find cX4_find 2 (some (.object "Reconcile$Name")), Cond.methodLink RX4 59 yX3_addToken, Cond.instanceMethod yX3_addToken, Cond.selects RX3 yX3_addToken yX3_addToken, Cond.code yX3_addToken cX3_addToken 3 none, Cond.methodLink RX3 39 yX3_hasToken, Cond.instanceMethod yX3_hasToken, Cond.selects RX3 yX3_hasToken yX3_hasToken, Cond.code yX3_hasToken cX3_hasToken 4 (some .boolean), Cond.methodLink RL 34 yX5_token, Cond.instanceMethod yX5_token, Cond.selects RX5 yX5_token yX5_token, Cond.code yX5_token cX5_token 4 none, Cond.methodLink RX5 69 yX5_isName, Cond.instanceMethod yX5_isName, Cond.selects RX5 yX5_isName yX5_isName]
def wsL_law0_r6 : List Cond := [Cond.code yX5_isName cX5_isName 2 (some .boolean), Cond.methodLink RX5 73 yX5_has, Cond.instanceMethod yX5_has, Cond.selects RX5 yX5_has yX5_has, Cond.code yX5_has cX5_has 6 (some .boolean), Cond.methodLink RL 37 yX4_date, Cond.instanceMethod yX4_date, Cond.selects RX4 yX4_date yX4_date, Cond.code yX4_date cX4_date 7 none, Cond.methodLink RX4 63 yX3_setDates, Cond.instanceMethod yX3_setDates, Cond.selects RX3 yX3_setDates yX3_setDates, Cond.code yX3_setDates cX3_setDates 5 none, Cond.methodLink RL 41 yX5_date, Cond.instanceMethod yX5_date, Cond.selects RX5 yX5_date yX5_date, Cond.code yX5_date cX5_date 6 none, Cond.methodLink RL 42 yX4_weight, Cond.instanceMethod yX4_weight, Cond.selects RX4 yX4_weight yX4_weight, Cond.code yX4_weight cX4_weight 6 (some .int), Cond.constantLong RX4 67 (100), Cond.constantLong RX4 69 (10), Cond.methodLink RL 46 yX5_weight]
def wsL_law0_r7 : List Cond := [Cond.instanceMethod yX5_weight, Cond.selects RX5 yX5_weight yX5_weight, Cond.code yX5_weight cX5_weight 6 (some .int), Cond.constantLong RX5 77 (100), Cond.constantLong RX5 79 (10), Cond.methodLink RL 47 yX4_run, Cond.instanceMethod yX4_run, Cond.selects RX4 yX4_run yX4_run, Cond.code yX4_run cX4_run 3 (some .int), Cond.methodLink RX4 71 yX2_begin, Cond.instanceMethod yX2_begin, Cond.selects RX2 yX2_begin yX2_begin, Cond.code yX2_begin cX2_begin 2 none, Cond.methodLink RX4 74 yX3_mayPair, Cond.instanceMethod yX3_mayPair, Cond.selects RX3 yX3_mayPair yX3_mayPair, Cond.code yX3_mayPair cX3_mayPair 2 (some .boolean), Cond.methodLink RX4 77 yX4_listPairsOf, Cond.instanceMethod yX4_listPairsOf, Cond.selects RX4 yX4_listPairsOf yX4_listPairsOf, Cond.code yX4_listPairsOf cX4_listPairsOf 5 none, Cond.methodLink RX4 97 yX0_measure, Cond.instanceMethod yX0_measure, Cond.selects RX0 yX0_measure yX0_measure]
def wsL_law0_r8 : List Cond := [Cond.code yX0_measure cX0_measure 6 none, Cond.methodLink RX0 18 yX3_weightOfShared, Cond.instanceMethod yX3_weightOfShared, Cond.selects RX3 yX3_weightOfShared yX3_weightOfShared, Cond.code yX3_weightOfShared cX3_weightOfShared 6 (some .long), Cond.methodLink RX0 24 yX3_weightOfAll, Cond.instanceMethod yX3_weightOfAll, Cond.selects RX3 yX3_weightOfAll yX3_weightOfAll, Cond.code yX3_weightOfAll cX3_weightOfAll 5 (some .long), Cond.methodLink RX0 28 yX3_bothDated, Cond.instanceMethod yX3_bothDated, Cond.selects RX3 yX3_bothDated yX3_bothDated, Cond.code yX3_bothDated cX3_bothDated 2 (some .boolean), Cond.methodLink RX0 32 yX3_sharesDay, Cond.instanceMethod yX3_sharesDay, Cond.selects RX3 yX3_sharesDay yX3_sharesDay, Cond.code yX3_sharesDay cX3_sharesDay 2 (some .boolean), Cond.methodLink RX3 43 yX3_bothDated, Cond.methodLink RX4 101 yX0_exists, Cond.instanceMethod yX0_exists, Cond.selects RX0 yX0_exists yX0_exists, Cond.code yX0_exists cX0_exists 1 (some .boolean), Cond.methodLink RX4 163 yX0_isHalfAtLeast, Cond.instanceMethod yX0_isHalfAtLeast]
def wsL_law0_r9 : List Cond := [Cond.selects RX0 yX0_isHalfAtLeast yX0_isHalfAtLeast, Cond.code yX0_isHalfAtLeast cX0_isHalfAtLeast 1 (some .boolean), Cond.constantLong RX0 35 (2), Cond.methodLink RX4 166 yX2_add, Cond.instanceMethod yX2_add, Cond.selects RX2 yX2_add yX2_add, Cond.code yX2_add cX2_add 4 none, Cond.fieldLink RX2 43 "Reconcile$Fraction" "above" "J", Cond.fieldLink RX2 49 "Reconcile$Fraction" "below" "J", Cond.methodLink RX4 81 yX2_sort, Cond.instanceMethod yX2_sort, Cond.selects RX2 yX2_sort yX2_sort, Cond.code yX2_sort cX2_sort 3 none, Cond.methodLink RX2 52 Lib.Math.min.name, Cond.static Lib.Math.min.name, Cond.initialized "java/lang/Math", Cond.code Lib.Math.min.name Lib.Math.min.code 2 (some .int), Cond.methodLink RX2 62 arraycopyName, Cond.native arraycopyName, Cond.static arraycopyName, Cond.initialized "java/lang/System", Cond.methodLink RX2 58 yX2_merge, Cond.instanceMethod yX2_merge, Cond.selects RX2 yX2_merge yX2_merge]
def wsL_law0_r10 : List Cond := [Cond.code yX2_merge cX2_merge 7 none, Cond.methodLink RX2 68 yX2_isGreater, Cond.instanceMethod yX2_isGreater, Cond.selects RX2 yX2_isGreater yX2_isGreater, Cond.code yX2_isGreater cX2_isGreater 3 (some .boolean), Cond.methodLink RX4 84 yX2_size, Cond.instanceMethod yX2_size, Cond.selects RX2 yX2_size yX2_size, Cond.code yX2_size cX2_size 1 (some .int), Cond.methodLink RL 51 yX5_run, Cond.instanceMethod yX5_run, Cond.selects RX5 yX5_run yX5_run, Cond.code yX5_run cX5_run 4 (some .int), Cond.fieldLink RX5 88 "ReconcileModel" "ran" "Z", Cond.fieldLink RX5 92 "ReconcileModel" "pairs" "I", Cond.fieldLink RX5 85 "ReconcileModel" "down" "J", Cond.constantLong RX5 99 (2), Cond.fieldLink RX5 81 "ReconcileModel" "up" "J", Cond.methodLink RX5 95 yX5_reckon, Cond.instanceMethod yX5_reckon, Cond.selects RX5 yX5_reckon yX5_reckon, Cond.code yX5_reckon cX5_reckon 6 none, Cond.methodLink RL 52 yX4_pair, Cond.instanceMethod yX4_pair]
def wsL_law0_r11 : List Cond := [Cond.selects RX4 yX4_pair yX4_pair, Cond.code yX4_pair cX4_pair 3 (some .int), Cond.methodLink RX4 88 yX2_holds, Cond.instanceMethod yX2_holds, Cond.selects RX2 yX2_holds yX2_holds, Cond.code yX2_holds cX2_holds 2 (some .boolean), Cond.methodLink RX4 91 yX2_nameAt, Cond.instanceMethod yX2_nameAt, Cond.selects RX2 yX2_nameAt yX2_nameAt, Cond.code yX2_nameAt cX2_nameAt 4 (some .int), Cond.methodLink RL 55 yX5_pair, Cond.instanceMethod yX5_pair, Cond.selects RX5 yX5_pair yX5_pair, Cond.code yX5_pair cX5_pair 3 (some .int), Cond.methodLink RX5 101 yX5_isPair, Cond.instanceMethod yX5_isPair, Cond.selects RX5 yX5_isPair yX5_isPair, Cond.code yX5_isPair cX5_isPair 2 (some .boolean), Cond.methodLink RL 56 yL_score, Cond.static yL_score, Cond.initialized RL, Cond.codeWith yL_score cL_score 5 (some .int) [(0, 9, 12, 13)], Cond.classLink RL 13 "java/lang/ArithmeticException", Cond.methodLink RL 7 yX4_score]
def wsL_law0_r12 : List Cond := [Cond.instanceMethod yX4_score, Cond.selects RX4 yX4_score yX4_score, Cond.code yX4_score cX4_score 5 (some .long), Cond.classLink RX4 105 "java/lang/ArithmeticException", Cond.initialized "java/lang/ArithmeticException", Cond.constantLong RX4 95 (-1), Cond.fieldLink RX4 115 "Reconcile$Fraction" "above" "J", Cond.fieldLink RX4 119 "Reconcile$Fraction" "below" "J", Cond.methodLink RX4 112 yX0_reduce, Cond.instanceMethod yX0_reduce, Cond.selects RX0 yX0_reduce yX0_reduce, Cond.code yX0_reduce cX0_reduce 3 none, Cond.methodLink RX0 37 yX0_greatestDivisor, Cond.static yX0_greatestDivisor, Cond.code yX0_greatestDivisor cX0_greatestDivisor 11 (some .long), Cond.methodLink RL 61 yX5_score, Cond.instanceMethod yX5_score, Cond.selects RX5 yX5_score yX5_score, Cond.code yX5_score cX5_score 9 (some .long), Cond.constantLong RX5 104 (-1), Cond.methodLink RL 62 yX5_thrown, Cond.instanceMethod yX5_thrown, Cond.selects RX5 yX5_thrown yX5_thrown, Cond.code yX5_thrown cX5_thrown 1 (some .int)]
def wsL_law0_r13 : List Cond := [Cond.methodLink RL 65 yX4_mutual, Cond.instanceMethod yX4_mutual, Cond.selects RX4 yX4_mutual yX4_mutual, Cond.code yX4_mutual cX4_mutual 2 (some .int), Cond.methodLink RX4 122 yX2_isBestOfBoth, Cond.instanceMethod yX2_isBestOfBoth, Cond.selects RX2 yX2_isBestOfBoth yX2_isBestOfBoth, Cond.code yX2_isBestOfBoth cX2_isBestOfBoth 6 (some .boolean), Cond.methodLink RL 68 yX5_mutual, Cond.instanceMethod yX5_mutual, Cond.selects RX5 yX5_mutual yX5_mutual, Cond.code yX5_mutual cX5_mutual 3 (some .int), Cond.methodLink RL 69 yX4_join, Cond.instanceMethod yX4_join, Cond.selects RX4 yX4_join yX4_join, Cond.code yX4_join cX4_join 5 (some .int), Cond.instantiable RX1 3, Cond.initialized RX1, Cond.fieldLink RX4 131 "Reconcile$Name" "joined" "Z", Cond.methodLink RX4 125 yX3_mayJoin, Cond.instanceMethod yX3_mayJoin, Cond.selects RX3 yX3_mayJoin yX3_mayJoin, Cond.code yX3_mayJoin cX3_mayJoin 2 (some .boolean), Cond.methodLink RX4 128 yX1_init]
def wsL_law0_r14 : List Cond := [Cond.instanceMethod yX1_init, Cond.code yX1_init cX1_init 3 none, Cond.methodLink RX1 1 objectInit, Cond.fieldLink RX1 7 "Reconcile$Join" "undone" "Z", Cond.fieldLink RX1 13 "Reconcile$Join" "zero" "LReconcile$Name;", Cond.fieldLink RX1 17 "Reconcile$Join" "one" "LReconcile$Name;", Cond.methodLink RL 72 yX5_join, Cond.instanceMethod yX5_join, Cond.selects RX5 yX5_join yX5_join, Cond.code yX5_join cX5_join 3 (some .int), Cond.fieldLink RX5 106 "ReconcileModel" "joins" "I", Cond.methodLink RL 73 yX4_undo, Cond.instanceMethod yX4_undo, Cond.selects RX4 yX4_undo yX4_undo, Cond.code yX4_undo cX4_undo 3 (some .int), Cond.fieldLink RX4 135 "Reconcile$Join" "undone" "Z", Cond.methodLink RX4 138 yX1_takeBack, Cond.instanceMethod yX1_takeBack, Cond.selects RX1 yX1_takeBack yX1_takeBack, Cond.code yX1_takeBack cX1_takeBack 1 none, Cond.fieldLink RX1 20 "Reconcile$Name" "joined" "Z", Cond.methodLink RL 76 yX5_undo, Cond.instanceMethod yX5_undo, Cond.selects RX5 yX5_undo yX5_undo]
def wsL_law0_r15 : List Cond := [Cond.code yX5_undo cX5_undo 2 (some .int), Cond.methodLink RL 77 yX4_sample, Cond.instanceMethod yX4_sample, Cond.selects RX4 yX4_sample yX4_sample, Cond.code yX4_sample cX4_sample 4 (some .int), Cond.methodLink RX4 141 yX2_placeAfterMixing, Cond.instanceMethod yX2_placeAfterMixing, Cond.selects RX2 yX2_placeAfterMixing yX2_placeAfterMixing, Cond.code yX2_placeAfterMixing cX2_placeAfterMixing 9 (some .int), Cond.constantLong RX2 72 (6364136223846793005), Cond.constantLong RX2 74 (1442695040888963407), Cond.methodLink RL 81 yX5_sample, Cond.instanceMethod yX5_sample, Cond.selects RX5 yX5_sample yX5_sample, Cond.code yX5_sample cX5_sample 9 (some .int), Cond.constantLong RX5 109 (6364136223846793005), Cond.constantLong RX5 111 (1442695040888963407), Cond.methodLink RL 82 yX4_none, Cond.instanceMethod yX4_none, Cond.selects RX4 yX4_none yX4_none, Cond.code yX4_none cX4_none 5 (some .int), Cond.fieldLink RX4 145 "Reconcile$Listing" "begun" "Z", Cond.fieldLink RX4 148 "Reconcile$Name" "side" "I", Cond.methodLink RX4 151 yX2_hasName]
def wsL_law0_r16 : List Cond := [Cond.instanceMethod yX2_hasName, Cond.selects RX2 yX2_hasName yX2_hasName, Cond.code yX2_hasName cX2_hasName 2 (some .boolean), Cond.methodLink RL 85 yX5_none, Cond.instanceMethod yX5_none, Cond.selects RX5 yX5_none yX5_none, Cond.code yX5_none cX5_none 6 (some .int), Cond.methodLink RL 86 yL_index, Cond.static yL_index, Cond.codeWith yL_index cL_index 5 (some .int) [(0, 10, 13, 19)], Cond.classLink RL 19 "java/lang/ArrayIndexOutOfBoundsException", Cond.methodLink RL 15 yX4_index, Cond.instanceMethod yX4_index, Cond.selects RX4 yX4_index yX4_index, Cond.code yX4_index cX4_index 3 (some .int), Cond.classLink RX4 154 RJx00060, Cond.instantiable RJx00060 6, Cond.initialized RJx00060, Cond.methodLink RL 88 yX5_index, Cond.instanceMethod yX5_index, Cond.selects RX5 yX5_index yX5_index, Cond.code yX5_index cX5_index 3 (some .int), Cond.methodLink RL 89 yX4_best, Cond.instanceMethod yX4_best]
def wsL_law0_r17 : List Cond := [Cond.selects RX4 yX4_best yX4_best, Cond.code yX4_best cX4_best 4 (some .int), Cond.methodLink RX4 159 yX2_partner, Cond.instanceMethod yX2_partner, Cond.selects RX2 yX2_partner yX2_partner, Cond.code yX2_partner cX2_partner 6 (some .int), Cond.methodLink RX2 76 yX2_nameAt, Cond.methodLink RL 93 yX5_best, Cond.instanceMethod yX5_best, Cond.selects RX5 yX5_best yX5_best, Cond.code yX5_best cX5_best 6 (some .int)]
def wsL_law0 : List Cond := (wsL_law0_r1 ++ (wsL_law0_r2 ++ (wsL_law0_r3 ++ (wsL_law0_r4 ++ (wsL_law0_r5 ++ (wsL_law0_r6 ++ (wsL_law0_r7 ++ (wsL_law0_r8 ++ (wsL_law0_r9 ++ (wsL_law0_r10 ++ (wsL_law0_r11 ++ (wsL_law0_r12 ++ (wsL_law0_r13 ++ (wsL_law0_r14 ++ (wsL_law0_r15 ++ (wsL_law0_r16 ++ wsL_law0_r17)))))))))))))))) ++ wsX40 ++ wsX50 ++ wsX20 ++ wsX00 ++ wsX30 ++ wsX10 ++ wsJx000600 ++ ([] : List Cond)
def wsL_law : List Cond := wsL_law0 ++ (vx_atM "java/lang/ArrayIndexOutOfBoundsException" ["java/lang/IndexOutOfBoundsException", "java/lang/RuntimeException", "java/lang/Exception"]).filter goodWord ++ (vx_atM "java/lang/ArithmeticException" ["java/lang/RuntimeException", "java/lang/Exception"]).filter goodWord ++ (vx_atS RX4 109 "java/lang/ArithmeticException" ["java/lang/RuntimeException", "java/lang/Exception"]).filter goodWord
abbrev vwCl : List vw_C := [(RJ0, TJ0, 2), (RJx00060, TJx00060, 6), (RX0, TX0, 2), (RX1, TX1, 3), (RX2, TX2, 9), (RX3, TX3, 8), (RX4, TX4, 7), (RX5, TX5, 23)]
end
section
theorem dX0_init_0 : decode cX0_init 0 = .ok (.aload_n 0, 1) := by decide +kernel
theorem dX0_init_1 : decode cX0_init 1 = .ok (.invokespecial 3, 3) := by decide +kernel
theorem dX0_init_4 : decode cX0_init 4 = .ok (.aload_n 0, 1) := by decide +kernel
theorem dX0_init_5 : decode cX0_init 5 = .ok (.lconst 0, 1) := by decide +kernel
theorem dX0_init_6 : decode cX0_init 6 = .ok (.putfield 9, 3) := by decide +kernel
theorem dX0_init_9 : decode cX0_init 9 = .ok (.aload_n 0, 1) := by decide +kernel
theorem dX0_init_10 : decode cX0_init 10 = .ok (.lconst 0, 1) := by decide +kernel
theorem dX0_init_11 : decode cX0_init 11 = .ok (.putfield 15, 3) := by decide +kernel
theorem dX0_init_14 : decode cX0_init 14 = .ok (.return_, 1) := by decide +kernel
set_option maxRecDepth 20000 in
theorem ggX0_measure_X3_weightOfShared : GoodIn wsX0_measure wsX3_weightOfShared := goodIn_ca (goodIn_r _ [7, 8, 9, 10, 11, 12, 13, 6, 14, 33, 34, 35, 36, 37, 38, 39, 40] (by decide +kernel) (by decide +kernel)) (goodIn_sub (fun _ h => List.mem_cons_of_mem _ (List.mem_append_right _ h)) (by decide +kernel))
set_option maxRecDepth 20000 in
theorem gX0_measure_X3_weightOfShared : GoodIn wsX0_measure (wsV RX0 18 RX3 yX3_weightOfShared wsX3_weightOfShared) := goodIn_app (goodIn_of _ (by decide +kernel)) ggX0_measure_X3_weightOfShared
set_option maxRecDepth 20000 in
theorem ggX0_measure_X3_weightOfAll : GoodIn wsX0_measure wsX3_weightOfAll := goodIn_ca (goodIn_r _ [18, 8, 10, 33, 34, 35, 36, 37, 38, 39, 40] (by decide +kernel) (by decide +kernel)) (goodIn_sub (fun _ h => List.mem_cons_of_mem _ (List.mem_append_right _ h)) (by decide +kernel))
set_option maxRecDepth 20000 in
theorem gX0_measure_X3_weightOfAll : GoodIn wsX0_measure (wsV RX0 24 RX3 yX3_weightOfAll wsX3_weightOfAll) := goodIn_app (goodIn_of _ (by decide +kernel)) ggX0_measure_X3_weightOfAll
set_option maxRecDepth 20000 in
theorem ggX0_measure_X3_bothDated : GoodIn wsX0_measure wsX3_bothDated := goodIn_r _ [22, 23, 33, 34, 35, 36, 37, 38, 39, 40] (by decide +kernel) (by decide +kernel)
set_option maxRecDepth 20000 in
theorem gX0_measure_X3_bothDated : GoodIn wsX0_measure (wsV RX0 28 RX3 yX3_bothDated wsX3_bothDated) := goodIn_app (goodIn_of _ (by decide +kernel)) ggX0_measure_X3_bothDated
set_option maxRecDepth 20000 in
theorem ggX0_measure_X3_sharesDay : GoodIn wsX0_measure wsX3_sharesDay := goodIn_r _ [27, 28, 29, 30, 20, 21, 6, 22, 23, 33, 34, 35, 36, 37, 38, 39, 40] (by decide +kernel) (by decide +kernel)
set_option maxRecDepth 20000 in
theorem gX0_measure_X3_sharesDay : GoodIn wsX0_measure (wsV RX0 32 RX3 yX3_sharesDay wsX3_sharesDay) := goodIn_app (goodIn_of _ (by decide +kernel)) ggX0_measure_X3_sharesDay
theorem dX0_measure_0 : decode cX0_measure 0 = .ok (.aload_n 1, 1) := by decide +kernel
theorem dX0_measure_1 : decode cX0_measure 1 = .ok (.aload_n 2, 1) := by decide +kernel
theorem dX0_measure_2 : decode cX0_measure 2 = .ok (.aload_n 3, 1) := by decide +kernel
theorem dX0_measure_3 : decode cX0_measure 3 = .ok (.invokevirtual 18, 3) := by decide +kernel
theorem dX0_measure_6 : decode cX0_measure 6 = .ok (.lstore 4, 2) := by decide +kernel
theorem dX0_measure_8 : decode cX0_measure 8 = .ok (.aload_n 0, 1) := by decide +kernel
theorem dX0_measure_9 : decode cX0_measure 9 = .ok (.lload 4, 2) := by decide +kernel
theorem dX0_measure_11 : decode cX0_measure 11 = .ok (.putfield 9, 3) := by decide +kernel
theorem dX0_measure_14 : decode cX0_measure 14 = .ok (.aload_n 0, 1) := by decide +kernel
theorem dX0_measure_15 : decode cX0_measure 15 = .ok (.aload_n 1, 1) := by decide +kernel
theorem dX0_measure_16 : decode cX0_measure 16 = .ok (.aload_n 3, 1) := by decide +kernel
theorem dX0_measure_17 : decode cX0_measure 17 = .ok (.invokevirtual 24, 3) := by decide +kernel
theorem dX0_measure_20 : decode cX0_measure 20 = .ok (.aload_n 2, 1) := by decide +kernel
theorem dX0_measure_21 : decode cX0_measure 21 = .ok (.aload_n 3, 1) := by decide +kernel
theorem dX0_measure_22 : decode cX0_measure 22 = .ok (.invokevirtual 24, 3) := by decide +kernel
theorem dX0_measure_25 : decode cX0_measure 25 = .ok (.ladd, 1) := by decide +kernel
theorem dX0_measure_26 : decode cX0_measure 26 = .ok (.lload 4, 2) := by decide +kernel
theorem dX0_measure_28 : decode cX0_measure 28 = .ok (.lsub, 1) := by decide +kernel
theorem dX0_measure_29 : decode cX0_measure 29 = .ok (.putfield 15, 3) := by decide +kernel
theorem dX0_measure_32 : decode cX0_measure 32 = .ok (.aload_n 1, 1) := by decide +kernel
theorem dX0_measure_33 : decode cX0_measure 33 = .ok (.aload_n 2, 1) := by decide +kernel
theorem dX0_measure_34 : decode cX0_measure 34 = .ok (.invokevirtual 28, 3) := by decide +kernel
theorem dX0_measure_37 : decode cX0_measure 37 = .ok (.ifCond .eq 15, 3) := by decide +kernel
theorem dX0_measure_40 : decode cX0_measure 40 = .ok (.aload_n 0, 1) := by decide +kernel
theorem dX0_measure_41 : decode cX0_measure 41 = .ok (.dup, 1) := by decide +kernel
theorem dX0_measure_42 : decode cX0_measure 42 = .ok (.getfield 15, 3) := by decide +kernel
theorem dX0_measure_45 : decode cX0_measure 45 = .ok (.aload_n 3, 1) := by decide +kernel
theorem dX0_measure_46 : decode cX0_measure 46 = .ok (.iconst 3, 1) := by decide +kernel
theorem dX0_measure_47 : decode cX0_measure 47 = .ok (.laload, 1) := by decide +kernel
theorem dX0_measure_48 : decode cX0_measure 48 = .ok (.ladd, 1) := by decide +kernel
theorem dX0_measure_49 : decode cX0_measure 49 = .ok (.putfield 15, 3) := by decide +kernel
theorem dX0_measure_52 : decode cX0_measure 52 = .ok (.aload_n 1, 1) := by decide +kernel
theorem dX0_measure_53 : decode cX0_measure 53 = .ok (.aload_n 2, 1) := by decide +kernel
theorem dX0_measure_54 : decode cX0_measure 54 = .ok (.invokevirtual 32, 3) := by decide +kernel
theorem dX0_measure_57 : decode cX0_measure 57 = .ok (.ifCond .eq 15, 3) := by decide +kernel
theorem dX0_measure_60 : decode cX0_measure 60 = .ok (.aload_n 0, 1) := by decide +kernel
theorem dX0_measure_61 : decode cX0_measure 61 = .ok (.dup, 1) := by decide +kernel
theorem dX0_measure_62 : decode cX0_measure 62 = .ok (.getfield 9, 3) := by decide +kernel
theorem dX0_measure_65 : decode cX0_measure 65 = .ok (.aload_n 3, 1) := by decide +kernel
theorem dX0_measure_66 : decode cX0_measure 66 = .ok (.iconst 3, 1) := by decide +kernel
theorem dX0_measure_67 : decode cX0_measure 67 = .ok (.laload, 1) := by decide +kernel
theorem dX0_measure_68 : decode cX0_measure 68 = .ok (.ladd, 1) := by decide +kernel
theorem dX0_measure_69 : decode cX0_measure 69 = .ok (.putfield 9, 3) := by decide +kernel
theorem dX0_measure_72 : decode cX0_measure 72 = .ok (.return_, 1) := by decide +kernel
theorem dX0_exists_0 : decode cX0_exists 0 = .ok (.aload_n 0, 1) := by decide +kernel
theorem dX0_exists_1 : decode cX0_exists 1 = .ok (.getfield 15, 3) := by decide +kernel
theorem dX0_exists_4 : decode cX0_exists 4 = .ok (.lconst 0, 1) := by decide +kernel
theorem dX0_exists_5 : decode cX0_exists 5 = .ok (.lcmp, 1) := by decide +kernel
theorem dX0_exists_6 : decode cX0_exists 6 = .ok (.ifCond .le 7, 3) := by decide +kernel
theorem dX0_exists_9 : decode cX0_exists 9 = .ok (.iconst 1, 1) := by decide +kernel
theorem dX0_exists_10 : decode cX0_exists 10 = .ok (.goto 4, 3) := by decide +kernel
theorem dX0_exists_13 : decode cX0_exists 13 = .ok (.iconst 0, 1) := by decide +kernel
theorem dX0_exists_14 : decode cX0_exists 14 = .ok (.ireturn, 1) := by decide +kernel
theorem dX0_isHalfAtLeast_0 : decode cX0_isHalfAtLeast 0 = .ok (.ldc2_w 35, 3) := by decide +kernel
theorem dX0_isHalfAtLeast_3 : decode cX0_isHalfAtLeast 3 = .ok (.aload_n 0, 1) := by decide +kernel
theorem dX0_isHalfAtLeast_4 : decode cX0_isHalfAtLeast 4 = .ok (.getfield 9, 3) := by decide +kernel
theorem dX0_isHalfAtLeast_7 : decode cX0_isHalfAtLeast 7 = .ok (.lmul, 1) := by decide +kernel
theorem dX0_isHalfAtLeast_8 : decode cX0_isHalfAtLeast 8 = .ok (.aload_n 0, 1) := by decide +kernel
theorem dX0_isHalfAtLeast_9 : decode cX0_isHalfAtLeast 9 = .ok (.getfield 15, 3) := by decide +kernel
theorem dX0_isHalfAtLeast_12 : decode cX0_isHalfAtLeast 12 = .ok (.lcmp, 1) := by decide +kernel
theorem dX0_isHalfAtLeast_13 : decode cX0_isHalfAtLeast 13 = .ok (.ifCond .lt 7, 3) := by decide +kernel
theorem dX0_isHalfAtLeast_16 : decode cX0_isHalfAtLeast 16 = .ok (.iconst 1, 1) := by decide +kernel
theorem dX0_isHalfAtLeast_17 : decode cX0_isHalfAtLeast 17 = .ok (.goto 4, 3) := by decide +kernel
theorem dX0_isHalfAtLeast_20 : decode cX0_isHalfAtLeast 20 = .ok (.iconst 0, 1) := by decide +kernel
theorem dX0_isHalfAtLeast_21 : decode cX0_isHalfAtLeast 21 = .ok (.ireturn, 1) := by decide +kernel
set_option maxRecDepth 20000 in
theorem ggX0_reduce_X0_greatestDivisor : GoodIn wsX0_reduce wsX0_greatestDivisor := goodIn_ca (goodIn_r _ [6] (by decide +kernel) (by decide +kernel)) (goodIn_sub (fun _ h => List.mem_cons_of_mem _ (List.mem_append_right _ h)) (by decide +kernel))
set_option maxRecDepth 20000 in
theorem gX0_reduce_X0_greatestDivisor : GoodIn wsX0_reduce (va_wsS RX0 37 yX0_greatestDivisor wsX0_greatestDivisor) := goodIn_app (goodIn_of _ (by decide +kernel)) ggX0_reduce_X0_greatestDivisor
theorem dX0_reduce_0 : decode cX0_reduce 0 = .ok (.aload_n 0, 1) := by decide +kernel
theorem dX0_reduce_1 : decode cX0_reduce 1 = .ok (.getfield 9, 3) := by decide +kernel
theorem dX0_reduce_4 : decode cX0_reduce 4 = .ok (.aload_n 0, 1) := by decide +kernel
theorem dX0_reduce_5 : decode cX0_reduce 5 = .ok (.getfield 15, 3) := by decide +kernel
theorem dX0_reduce_8 : decode cX0_reduce 8 = .ok (.invokestatic 37, 3) := by decide +kernel
theorem dX0_reduce_11 : decode cX0_reduce 11 = .ok (.lstore_n 1, 1) := by decide +kernel
theorem dX0_reduce_12 : decode cX0_reduce 12 = .ok (.lload_n 1, 1) := by decide +kernel
theorem dX0_reduce_13 : decode cX0_reduce 13 = .ok (.lconst 0, 1) := by decide +kernel
theorem dX0_reduce_14 : decode cX0_reduce 14 = .ok (.lcmp, 1) := by decide +kernel
theorem dX0_reduce_15 : decode cX0_reduce 15 = .ok (.ifCond .le 23, 3) := by decide +kernel
theorem dX0_reduce_18 : decode cX0_reduce 18 = .ok (.aload_n 0, 1) := by decide +kernel
theorem dX0_reduce_19 : decode cX0_reduce 19 = .ok (.dup, 1) := by decide +kernel
theorem dX0_reduce_20 : decode cX0_reduce 20 = .ok (.getfield 9, 3) := by decide +kernel
theorem dX0_reduce_23 : decode cX0_reduce 23 = .ok (.lload_n 1, 1) := by decide +kernel
theorem dX0_reduce_24 : decode cX0_reduce 24 = .ok (.ldiv, 1) := by decide +kernel
theorem dX0_reduce_25 : decode cX0_reduce 25 = .ok (.putfield 9, 3) := by decide +kernel
theorem dX0_reduce_28 : decode cX0_reduce 28 = .ok (.aload_n 0, 1) := by decide +kernel
theorem dX0_reduce_29 : decode cX0_reduce 29 = .ok (.dup, 1) := by decide +kernel
theorem dX0_reduce_30 : decode cX0_reduce 30 = .ok (.getfield 15, 3) := by decide +kernel
theorem dX0_reduce_33 : decode cX0_reduce 33 = .ok (.lload_n 1, 1) := by decide +kernel
theorem dX0_reduce_34 : decode cX0_reduce 34 = .ok (.ldiv, 1) := by decide +kernel
theorem dX0_reduce_35 : decode cX0_reduce 35 = .ok (.putfield 15, 3) := by decide +kernel
theorem dX0_reduce_38 : decode cX0_reduce 38 = .ok (.return_, 1) := by decide +kernel
theorem dX0_greatestDivisor_0 : decode cX0_greatestDivisor 0 = .ok (.lload_n 0, 1) := by decide +kernel
theorem dX0_greatestDivisor_1 : decode cX0_greatestDivisor 1 = .ok (.lstore 4, 2) := by decide +kernel
theorem dX0_greatestDivisor_3 : decode cX0_greatestDivisor 3 = .ok (.lload_n 2, 1) := by decide +kernel
theorem dX0_greatestDivisor_4 : decode cX0_greatestDivisor 4 = .ok (.lstore 6, 2) := by decide +kernel
theorem dX0_greatestDivisor_6 : decode cX0_greatestDivisor 6 = .ok (.iconst 0, 1) := by decide +kernel
theorem dX0_greatestDivisor_7 : decode cX0_greatestDivisor 7 = .ok (.istore 8, 2) := by decide +kernel
theorem dX0_greatestDivisor_9 : decode cX0_greatestDivisor 9 = .ok (.iload 8, 2) := by decide +kernel
theorem dX0_greatestDivisor_11 : decode cX0_greatestDivisor 11 = .ok (.sipush 200, 3) := by decide +kernel
theorem dX0_greatestDivisor_14 : decode cX0_greatestDivisor 14 = .ok (.if_icmp .ge 31, 3) := by decide +kernel
theorem dX0_greatestDivisor_17 : decode cX0_greatestDivisor 17 = .ok (.lload 6, 2) := by decide +kernel
theorem dX0_greatestDivisor_19 : decode cX0_greatestDivisor 19 = .ok (.lconst 0, 1) := by decide +kernel
theorem dX0_greatestDivisor_20 : decode cX0_greatestDivisor 20 = .ok (.lcmp, 1) := by decide +kernel
theorem dX0_greatestDivisor_21 : decode cX0_greatestDivisor 21 = .ok (.ifCond .eq 24, 3) := by decide +kernel
theorem dX0_greatestDivisor_24 : decode cX0_greatestDivisor 24 = .ok (.lload 4, 2) := by decide +kernel
theorem dX0_greatestDivisor_26 : decode cX0_greatestDivisor 26 = .ok (.lload 6, 2) := by decide +kernel
theorem dX0_greatestDivisor_28 : decode cX0_greatestDivisor 28 = .ok (.lrem, 1) := by decide +kernel
theorem dX0_greatestDivisor_29 : decode cX0_greatestDivisor 29 = .ok (.lstore 9, 2) := by decide +kernel
theorem dX0_greatestDivisor_31 : decode cX0_greatestDivisor 31 = .ok (.lload 6, 2) := by decide +kernel
theorem dX0_greatestDivisor_33 : decode cX0_greatestDivisor 33 = .ok (.lstore 4, 2) := by decide +kernel
theorem dX0_greatestDivisor_35 : decode cX0_greatestDivisor 35 = .ok (.lload 9, 2) := by decide +kernel
theorem dX0_greatestDivisor_37 : decode cX0_greatestDivisor 37 = .ok (.lstore 6, 2) := by decide +kernel
theorem dX0_greatestDivisor_39 : decode cX0_greatestDivisor 39 = .ok (.iinc 8 1, 3) := by decide +kernel
theorem dX0_greatestDivisor_42 : decode cX0_greatestDivisor 42 = .ok (.goto (-33), 3) := by decide +kernel
theorem dX0_greatestDivisor_45 : decode cX0_greatestDivisor 45 = .ok (.lload 4, 2) := by decide +kernel
theorem dX0_greatestDivisor_47 : decode cX0_greatestDivisor 47 = .ok (.lreturn, 1) := by decide +kernel
end
section
theorem dX1_init_0 : decode cX1_init 0 = .ok (.aload_n 0, 1) := by decide +kernel
theorem dX1_init_1 : decode cX1_init 1 = .ok (.invokespecial 1, 3) := by decide +kernel
theorem dX1_init_4 : decode cX1_init 4 = .ok (.aload_n 0, 1) := by decide +kernel
theorem dX1_init_5 : decode cX1_init 5 = .ok (.iconst 0, 1) := by decide +kernel
theorem dX1_init_6 : decode cX1_init 6 = .ok (.putfield 7, 3) := by decide +kernel
theorem dX1_init_9 : decode cX1_init 9 = .ok (.aload_n 0, 1) := by decide +kernel
theorem dX1_init_10 : decode cX1_init 10 = .ok (.aload_n 1, 1) := by decide +kernel
theorem dX1_init_11 : decode cX1_init 11 = .ok (.putfield 13, 3) := by decide +kernel
theorem dX1_init_14 : decode cX1_init 14 = .ok (.aload_n 0, 1) := by decide +kernel
theorem dX1_init_15 : decode cX1_init 15 = .ok (.aload_n 2, 1) := by decide +kernel
theorem dX1_init_16 : decode cX1_init 16 = .ok (.putfield 17, 3) := by decide +kernel
theorem dX1_init_19 : decode cX1_init 19 = .ok (.return_, 1) := by decide +kernel
theorem dX1_takeBack_0 : decode cX1_takeBack 0 = .ok (.aload_n 0, 1) := by decide +kernel
theorem dX1_takeBack_1 : decode cX1_takeBack 1 = .ok (.iconst 1, 1) := by decide +kernel
theorem dX1_takeBack_2 : decode cX1_takeBack 2 = .ok (.putfield 7, 3) := by decide +kernel
theorem dX1_takeBack_5 : decode cX1_takeBack 5 = .ok (.aload_n 0, 1) := by decide +kernel
theorem dX1_takeBack_6 : decode cX1_takeBack 6 = .ok (.getfield 13, 3) := by decide +kernel
theorem dX1_takeBack_9 : decode cX1_takeBack 9 = .ok (.iconst 0, 1) := by decide +kernel
theorem dX1_takeBack_10 : decode cX1_takeBack 10 = .ok (.putfield 20, 3) := by decide +kernel
theorem dX1_takeBack_13 : decode cX1_takeBack 13 = .ok (.aload_n 0, 1) := by decide +kernel
theorem dX1_takeBack_14 : decode cX1_takeBack 14 = .ok (.getfield 17, 3) := by decide +kernel
theorem dX1_takeBack_17 : decode cX1_takeBack 17 = .ok (.iconst 0, 1) := by decide +kernel
theorem dX1_takeBack_18 : decode cX1_takeBack 18 = .ok (.putfield 20, 3) := by decide +kernel
theorem dX1_takeBack_21 : decode cX1_takeBack 21 = .ok (.return_, 1) := by decide +kernel
end
section
theorem dX2_init_0 : decode cX2_init 0 = .ok (.aload_n 0, 1) := by decide +kernel
theorem dX2_init_1 : decode cX2_init 1 = .ok (.invokespecial 3, 3) := by decide +kernel
theorem dX2_init_4 : decode cX2_init 4 = .ok (.aload_n 0, 1) := by decide +kernel
theorem dX2_init_5 : decode cX2_init 5 = .ok (.iconst 0, 1) := by decide +kernel
theorem dX2_init_6 : decode cX2_init 6 = .ok (.putfield 9, 3) := by decide +kernel
theorem dX2_init_9 : decode cX2_init 9 = .ok (.aload_n 0, 1) := by decide +kernel
theorem dX2_init_10 : decode cX2_init 10 = .ok (.iconst 0, 1) := by decide +kernel
theorem dX2_init_11 : decode cX2_init 11 = .ok (.putfield 15, 3) := by decide +kernel
theorem dX2_init_14 : decode cX2_init 14 = .ok (.aload_n 0, 1) := by decide +kernel
theorem dX2_init_15 : decode cX2_init 15 = .ok (.sipush 625, 3) := by decide +kernel
theorem dX2_init_18 : decode cX2_init 18 = .ok (.newarray .int, 2) := by decide +kernel
theorem dX2_init_20 : decode cX2_init 20 = .ok (.putfield 19, 3) := by decide +kernel
theorem dX2_init_23 : decode cX2_init 23 = .ok (.aload_n 0, 1) := by decide +kernel
theorem dX2_init_24 : decode cX2_init 24 = .ok (.sipush 625, 3) := by decide +kernel
theorem dX2_init_27 : decode cX2_init 27 = .ok (.newarray .int, 2) := by decide +kernel
theorem dX2_init_29 : decode cX2_init 29 = .ok (.putfield 23, 3) := by decide +kernel
theorem dX2_init_32 : decode cX2_init 32 = .ok (.aload_n 0, 1) := by decide +kernel
theorem dX2_init_33 : decode cX2_init 33 = .ok (.sipush 625, 3) := by decide +kernel
theorem dX2_init_36 : decode cX2_init 36 = .ok (.newarray .long, 2) := by decide +kernel
theorem dX2_init_38 : decode cX2_init 38 = .ok (.putfield 26, 3) := by decide +kernel
theorem dX2_init_41 : decode cX2_init 41 = .ok (.aload_n 0, 1) := by decide +kernel
theorem dX2_init_42 : decode cX2_init 42 = .ok (.sipush 625, 3) := by decide +kernel
theorem dX2_init_45 : decode cX2_init 45 = .ok (.newarray .long, 2) := by decide +kernel
theorem dX2_init_47 : decode cX2_init 47 = .ok (.putfield 30, 3) := by decide +kernel
theorem dX2_init_50 : decode cX2_init 50 = .ok (.aload_n 0, 1) := by decide +kernel
theorem dX2_init_51 : decode cX2_init 51 = .ok (.sipush 625, 3) := by decide +kernel
theorem dX2_init_54 : decode cX2_init 54 = .ok (.newarray .int, 2) := by decide +kernel
theorem dX2_init_56 : decode cX2_init 56 = .ok (.putfield 33, 3) := by decide +kernel
theorem dX2_init_59 : decode cX2_init 59 = .ok (.aload_n 0, 1) := by decide +kernel
theorem dX2_init_60 : decode cX2_init 60 = .ok (.sipush 625, 3) := by decide +kernel
theorem dX2_init_63 : decode cX2_init 63 = .ok (.newarray .int, 2) := by decide +kernel
theorem dX2_init_65 : decode cX2_init 65 = .ok (.putfield 36, 3) := by decide +kernel
theorem dX2_init_68 : decode cX2_init 68 = .ok (.aload_n 0, 1) := by decide +kernel
theorem dX2_init_69 : decode cX2_init 69 = .ok (.bipush 51, 2) := by decide +kernel
theorem dX2_init_71 : decode cX2_init 71 = .ok (.newarray .boolean, 2) := by decide +kernel
theorem dX2_init_73 : decode cX2_init 73 = .ok (.putfield 39, 3) := by decide +kernel
theorem dX2_init_76 : decode cX2_init 76 = .ok (.return_, 1) := by decide +kernel
theorem dX2_begin_0 : decode cX2_begin 0 = .ok (.aload_n 0, 1) := by decide +kernel
theorem dX2_begin_1 : decode cX2_begin 1 = .ok (.iconst 1, 1) := by decide +kernel
theorem dX2_begin_2 : decode cX2_begin 2 = .ok (.putfield 9, 3) := by decide +kernel
theorem dX2_begin_5 : decode cX2_begin 5 = .ok (.aload_n 0, 1) := by decide +kernel
theorem dX2_begin_6 : decode cX2_begin 6 = .ok (.iconst 0, 1) := by decide +kernel
theorem dX2_begin_7 : decode cX2_begin 7 = .ok (.putfield 15, 3) := by decide +kernel
theorem dX2_begin_10 : decode cX2_begin 10 = .ok (.iconst 0, 1) := by decide +kernel
theorem dX2_begin_11 : decode cX2_begin 11 = .ok (.istore_n 1, 1) := by decide +kernel
theorem dX2_begin_12 : decode cX2_begin 12 = .ok (.iload_n 1, 1) := by decide +kernel
theorem dX2_begin_13 : decode cX2_begin 13 = .ok (.bipush 50, 2) := by decide +kernel
theorem dX2_begin_15 : decode cX2_begin 15 = .ok (.if_icmp .gt 16, 3) := by decide +kernel
theorem dX2_begin_18 : decode cX2_begin 18 = .ok (.aload_n 0, 1) := by decide +kernel
theorem dX2_begin_19 : decode cX2_begin 19 = .ok (.getfield 39, 3) := by decide +kernel
theorem dX2_begin_22 : decode cX2_begin 22 = .ok (.iload_n 1, 1) := by decide +kernel
theorem dX2_begin_23 : decode cX2_begin 23 = .ok (.iconst 0, 1) := by decide +kernel
theorem dX2_begin_24 : decode cX2_begin 24 = .ok (.bastore, 1) := by decide +kernel
theorem dX2_begin_25 : decode cX2_begin 25 = .ok (.iinc 1 1, 3) := by decide +kernel
theorem dX2_begin_28 : decode cX2_begin 28 = .ok (.goto (-16), 3) := by decide +kernel
theorem dX2_begin_31 : decode cX2_begin 31 = .ok (.return_, 1) := by decide +kernel
theorem dX2_add_0 : decode cX2_add 0 = .ok (.aload_n 0, 1) := by decide +kernel
theorem dX2_add_1 : decode cX2_add 1 = .ok (.getfield 15, 3) := by decide +kernel
theorem dX2_add_4 : decode cX2_add 4 = .ok (.sipush 625, 3) := by decide +kernel
theorem dX2_add_7 : decode cX2_add 7 = .ok (.if_icmp .lt 4, 3) := by decide +kernel
theorem dX2_add_10 : decode cX2_add 10 = .ok (.return_, 1) := by decide +kernel
theorem dX2_add_11 : decode cX2_add 11 = .ok (.aload_n 0, 1) := by decide +kernel
theorem dX2_add_12 : decode cX2_add 12 = .ok (.getfield 19, 3) := by decide +kernel
theorem dX2_add_15 : decode cX2_add 15 = .ok (.aload_n 0, 1) := by decide +kernel
theorem dX2_add_16 : decode cX2_add 16 = .ok (.getfield 15, 3) := by decide +kernel
theorem dX2_add_19 : decode cX2_add 19 = .ok (.iload_n 1, 1) := by decide +kernel
theorem dX2_add_20 : decode cX2_add 20 = .ok (.iastore, 1) := by decide +kernel
theorem dX2_add_21 : decode cX2_add 21 = .ok (.aload_n 0, 1) := by decide +kernel
theorem dX2_add_22 : decode cX2_add 22 = .ok (.getfield 23, 3) := by decide +kernel
theorem dX2_add_25 : decode cX2_add 25 = .ok (.aload_n 0, 1) := by decide +kernel
theorem dX2_add_26 : decode cX2_add 26 = .ok (.getfield 15, 3) := by decide +kernel
theorem dX2_add_29 : decode cX2_add 29 = .ok (.iload_n 2, 1) := by decide +kernel
theorem dX2_add_30 : decode cX2_add 30 = .ok (.iastore, 1) := by decide +kernel
theorem dX2_add_31 : decode cX2_add 31 = .ok (.aload_n 0, 1) := by decide +kernel
theorem dX2_add_32 : decode cX2_add 32 = .ok (.getfield 26, 3) := by decide +kernel
theorem dX2_add_35 : decode cX2_add 35 = .ok (.aload_n 0, 1) := by decide +kernel
theorem dX2_add_36 : decode cX2_add 36 = .ok (.getfield 15, 3) := by decide +kernel
theorem dX2_add_39 : decode cX2_add 39 = .ok (.aload_n 3, 1) := by decide +kernel
theorem dX2_add_40 : decode cX2_add 40 = .ok (.getfield 43, 3) := by decide +kernel
theorem dX2_add_43 : decode cX2_add 43 = .ok (.lastore, 1) := by decide +kernel
theorem dX2_add_44 : decode cX2_add 44 = .ok (.aload_n 0, 1) := by decide +kernel
theorem dX2_add_45 : decode cX2_add 45 = .ok (.getfield 30, 3) := by decide +kernel
theorem dX2_add_48 : decode cX2_add 48 = .ok (.aload_n 0, 1) := by decide +kernel
theorem dX2_add_49 : decode cX2_add 49 = .ok (.getfield 15, 3) := by decide +kernel
theorem dX2_add_52 : decode cX2_add 52 = .ok (.aload_n 3, 1) := by decide +kernel
theorem dX2_add_53 : decode cX2_add 53 = .ok (.getfield 49, 3) := by decide +kernel
theorem dX2_add_56 : decode cX2_add 56 = .ok (.lastore, 1) := by decide +kernel
theorem dX2_add_57 : decode cX2_add 57 = .ok (.aload_n 0, 1) := by decide +kernel
theorem dX2_add_58 : decode cX2_add 58 = .ok (.getfield 33, 3) := by decide +kernel
theorem dX2_add_61 : decode cX2_add 61 = .ok (.aload_n 0, 1) := by decide +kernel
theorem dX2_add_62 : decode cX2_add 62 = .ok (.getfield 15, 3) := by decide +kernel
theorem dX2_add_65 : decode cX2_add 65 = .ok (.aload_n 0, 1) := by decide +kernel
theorem dX2_add_66 : decode cX2_add 66 = .ok (.getfield 15, 3) := by decide +kernel
theorem dX2_add_69 : decode cX2_add 69 = .ok (.iastore, 1) := by decide +kernel
theorem dX2_add_70 : decode cX2_add 70 = .ok (.aload_n 0, 1) := by decide +kernel
theorem dX2_add_71 : decode cX2_add 71 = .ok (.getfield 39, 3) := by decide +kernel
theorem dX2_add_74 : decode cX2_add 74 = .ok (.iload_n 1, 1) := by decide +kernel
theorem dX2_add_75 : decode cX2_add 75 = .ok (.iconst 1, 1) := by decide +kernel
theorem dX2_add_76 : decode cX2_add 76 = .ok (.bastore, 1) := by decide +kernel
theorem dX2_add_77 : decode cX2_add 77 = .ok (.aload_n 0, 1) := by decide +kernel
theorem dX2_add_78 : decode cX2_add 78 = .ok (.getfield 39, 3) := by decide +kernel
theorem dX2_add_81 : decode cX2_add 81 = .ok (.iload_n 2, 1) := by decide +kernel
theorem dX2_add_82 : decode cX2_add 82 = .ok (.iconst 1, 1) := by decide +kernel
theorem dX2_add_83 : decode cX2_add 83 = .ok (.bastore, 1) := by decide +kernel
theorem dX2_add_84 : decode cX2_add 84 = .ok (.aload_n 0, 1) := by decide +kernel
theorem dX2_add_85 : decode cX2_add 85 = .ok (.dup, 1) := by decide +kernel
theorem dX2_add_86 : decode cX2_add 86 = .ok (.getfield 15, 3) := by decide +kernel
theorem dX2_add_89 : decode cX2_add 89 = .ok (.iconst 1, 1) := by decide +kernel
theorem dX2_add_90 : decode cX2_add 90 = .ok (.iadd, 1) := by decide +kernel
theorem dX2_add_91 : decode cX2_add 91 = .ok (.putfield 15, 3) := by decide +kernel
theorem dX2_add_94 : decode cX2_add 94 = .ok (.return_, 1) := by decide +kernel
theorem dX2_size_0 : decode cX2_size 0 = .ok (.aload_n 0, 1) := by decide +kernel
theorem dX2_size_1 : decode cX2_size 1 = .ok (.getfield 15, 3) := by decide +kernel
theorem dX2_size_4 : decode cX2_size 4 = .ok (.ireturn, 1) := by decide +kernel
theorem dX2_holds_0 : decode cX2_holds 0 = .ok (.iload_n 1, 1) := by decide +kernel
theorem dX2_holds_1 : decode cX2_holds 1 = .ok (.ifCond .lt 15, 3) := by decide +kernel
theorem dX2_holds_4 : decode cX2_holds 4 = .ok (.iload_n 1, 1) := by decide +kernel
theorem dX2_holds_5 : decode cX2_holds 5 = .ok (.aload_n 0, 1) := by decide +kernel
theorem dX2_holds_6 : decode cX2_holds 6 = .ok (.getfield 15, 3) := by decide +kernel
theorem dX2_holds_9 : decode cX2_holds 9 = .ok (.if_icmp .ge 7, 3) := by decide +kernel
theorem dX2_holds_12 : decode cX2_holds 12 = .ok (.iconst 1, 1) := by decide +kernel
theorem dX2_holds_13 : decode cX2_holds 13 = .ok (.goto 4, 3) := by decide +kernel
theorem dX2_holds_16 : decode cX2_holds 16 = .ok (.iconst 0, 1) := by decide +kernel
theorem dX2_holds_17 : decode cX2_holds 17 = .ok (.ireturn, 1) := by decide +kernel
theorem dX2_hasName_0 : decode cX2_hasName 0 = .ok (.iload_n 1, 1) := by decide +kernel
theorem dX2_hasName_1 : decode cX2_hasName 1 = .ok (.ifCond .lt 22, 3) := by decide +kernel
theorem dX2_hasName_4 : decode cX2_hasName 4 = .ok (.iload_n 1, 1) := by decide +kernel
theorem dX2_hasName_5 : decode cX2_hasName 5 = .ok (.bipush 50, 2) := by decide +kernel
theorem dX2_hasName_7 : decode cX2_hasName 7 = .ok (.if_icmp .gt 16, 3) := by decide +kernel
theorem dX2_hasName_10 : decode cX2_hasName 10 = .ok (.aload_n 0, 1) := by decide +kernel
theorem dX2_hasName_11 : decode cX2_hasName 11 = .ok (.getfield 39, 3) := by decide +kernel
theorem dX2_hasName_14 : decode cX2_hasName 14 = .ok (.iload_n 1, 1) := by decide +kernel
theorem dX2_hasName_15 : decode cX2_hasName 15 = .ok (.baload, 1) := by decide +kernel
theorem dX2_hasName_16 : decode cX2_hasName 16 = .ok (.ifCond .eq 7, 3) := by decide +kernel
theorem dX2_hasName_19 : decode cX2_hasName 19 = .ok (.iconst 1, 1) := by decide +kernel
theorem dX2_hasName_20 : decode cX2_hasName 20 = .ok (.goto 4, 3) := by decide +kernel
theorem dX2_hasName_23 : decode cX2_hasName 23 = .ok (.iconst 0, 1) := by decide +kernel
theorem dX2_hasName_24 : decode cX2_hasName 24 = .ok (.ireturn, 1) := by decide +kernel
theorem dX2_nameAt_0 : decode cX2_nameAt 0 = .ok (.aload_n 0, 1) := by decide +kernel
theorem dX2_nameAt_1 : decode cX2_nameAt 1 = .ok (.getfield 33, 3) := by decide +kernel
theorem dX2_nameAt_4 : decode cX2_nameAt 4 = .ok (.iload_n 1, 1) := by decide +kernel
theorem dX2_nameAt_5 : decode cX2_nameAt 5 = .ok (.iaload, 1) := by decide +kernel
theorem dX2_nameAt_6 : decode cX2_nameAt 6 = .ok (.istore_n 3, 1) := by decide +kernel
theorem dX2_nameAt_7 : decode cX2_nameAt 7 = .ok (.iload_n 2, 1) := by decide +kernel
theorem dX2_nameAt_8 : decode cX2_nameAt 8 = .ok (.iconst 1, 1) := by decide +kernel
theorem dX2_nameAt_9 : decode cX2_nameAt 9 = .ok (.if_icmp .ne 12, 3) := by decide +kernel
theorem dX2_nameAt_12 : decode cX2_nameAt 12 = .ok (.aload_n 0, 1) := by decide +kernel
theorem dX2_nameAt_13 : decode cX2_nameAt 13 = .ok (.getfield 23, 3) := by decide +kernel
theorem dX2_nameAt_16 : decode cX2_nameAt 16 = .ok (.iload_n 3, 1) := by decide +kernel
theorem dX2_nameAt_17 : decode cX2_nameAt 17 = .ok (.iaload, 1) := by decide +kernel
theorem dX2_nameAt_18 : decode cX2_nameAt 18 = .ok (.goto 9, 3) := by decide +kernel
theorem dX2_nameAt_21 : decode cX2_nameAt 21 = .ok (.aload_n 0, 1) := by decide +kernel
theorem dX2_nameAt_22 : decode cX2_nameAt 22 = .ok (.getfield 19, 3) := by decide +kernel
theorem dX2_nameAt_25 : decode cX2_nameAt 25 = .ok (.iload_n 3, 1) := by decide +kernel
theorem dX2_nameAt_26 : decode cX2_nameAt 26 = .ok (.iaload, 1) := by decide +kernel
theorem dX2_nameAt_27 : decode cX2_nameAt 27 = .ok (.ireturn, 1) := by decide +kernel
set_option maxRecDepth 20000 in
theorem ggX2_sort_X2_merge : GoodIn wsX2_sort wsX2_merge := goodIn_ca (goodIn_r _ [16, 7, 6, 17, 18, 19, 15, 20, 21, 22, 23, 24, 25, 26, 27, 28, 29, 30, 31] (by decide +kernel) (by decide +kernel)) (goodIn_sub (fun _ h => List.mem_cons_of_mem _ (List.mem_append_right _ h)) (by decide +kernel))
set_option maxRecDepth 20000 in
theorem gX2_sort_X2_merge : GoodIn wsX2_sort (wsV RX2 58 RX2 yX2_merge wsX2_merge) := goodIn_app (goodIn_of _ (by decide +kernel)) ggX2_sort_X2_merge
theorem dX2_sort_0 : decode cX2_sort 0 = .ok (.iconst 1, 1) := by decide +kernel
theorem dX2_sort_1 : decode cX2_sort 1 = .ok (.istore_n 1, 1) := by decide +kernel
theorem dX2_sort_2 : decode cX2_sort 2 = .ok (.iload_n 1, 1) := by decide +kernel
theorem dX2_sort_3 : decode cX2_sort 3 = .ok (.aload_n 0, 1) := by decide +kernel
theorem dX2_sort_4 : decode cX2_sort 4 = .ok (.getfield 15, 3) := by decide +kernel
theorem dX2_sort_7 : decode cX2_sort 7 = .ok (.if_icmp .ge 73, 3) := by decide +kernel
theorem dX2_sort_10 : decode cX2_sort 10 = .ok (.iconst 0, 1) := by decide +kernel
theorem dX2_sort_11 : decode cX2_sort 11 = .ok (.istore_n 2, 1) := by decide +kernel
theorem dX2_sort_12 : decode cX2_sort 12 = .ok (.iload_n 2, 1) := by decide +kernel
theorem dX2_sort_13 : decode cX2_sort 13 = .ok (.aload_n 0, 1) := by decide +kernel
theorem dX2_sort_14 : decode cX2_sort 14 = .ok (.getfield 15, 3) := by decide +kernel
theorem dX2_sort_17 : decode cX2_sort 17 = .ok (.if_icmp .ge 39, 3) := by decide +kernel
theorem dX2_sort_20 : decode cX2_sort 20 = .ok (.aload_n 0, 1) := by decide +kernel
theorem dX2_sort_21 : decode cX2_sort 21 = .ok (.iload_n 2, 1) := by decide +kernel
theorem dX2_sort_22 : decode cX2_sort 22 = .ok (.iload_n 2, 1) := by decide +kernel
theorem dX2_sort_23 : decode cX2_sort 23 = .ok (.iload_n 1, 1) := by decide +kernel
theorem dX2_sort_24 : decode cX2_sort 24 = .ok (.iadd, 1) := by decide +kernel
theorem dX2_sort_25 : decode cX2_sort 25 = .ok (.aload_n 0, 1) := by decide +kernel
theorem dX2_sort_26 : decode cX2_sort 26 = .ok (.getfield 15, 3) := by decide +kernel
theorem dX2_sort_29 : decode cX2_sort 29 = .ok (.invokestatic 52, 3) := by decide +kernel
theorem dX2_sort_32 : decode cX2_sort 32 = .ok (.iload_n 2, 1) := by decide +kernel
theorem dX2_sort_33 : decode cX2_sort 33 = .ok (.iconst 2, 1) := by decide +kernel
theorem dX2_sort_34 : decode cX2_sort 34 = .ok (.iload_n 1, 1) := by decide +kernel
theorem dX2_sort_35 : decode cX2_sort 35 = .ok (.imul, 1) := by decide +kernel
theorem dX2_sort_36 : decode cX2_sort 36 = .ok (.iadd, 1) := by decide +kernel
theorem dX2_sort_37 : decode cX2_sort 37 = .ok (.aload_n 0, 1) := by decide +kernel
theorem dX2_sort_38 : decode cX2_sort 38 = .ok (.getfield 15, 3) := by decide +kernel
theorem dX2_sort_41 : decode cX2_sort 41 = .ok (.invokestatic 52, 3) := by decide +kernel
theorem dX2_sort_44 : decode cX2_sort 44 = .ok (.invokevirtual 58, 3) := by decide +kernel
theorem dX2_sort_47 : decode cX2_sort 47 = .ok (.iload_n 2, 1) := by decide +kernel
theorem dX2_sort_48 : decode cX2_sort 48 = .ok (.iconst 2, 1) := by decide +kernel
theorem dX2_sort_49 : decode cX2_sort 49 = .ok (.iload_n 1, 1) := by decide +kernel
theorem dX2_sort_50 : decode cX2_sort 50 = .ok (.imul, 1) := by decide +kernel
theorem dX2_sort_51 : decode cX2_sort 51 = .ok (.iadd, 1) := by decide +kernel
theorem dX2_sort_52 : decode cX2_sort 52 = .ok (.istore_n 2, 1) := by decide +kernel
theorem dX2_sort_53 : decode cX2_sort 53 = .ok (.goto (-41), 3) := by decide +kernel
theorem dX2_sort_56 : decode cX2_sort 56 = .ok (.aload_n 0, 1) := by decide +kernel
theorem dX2_sort_57 : decode cX2_sort 57 = .ok (.getfield 36, 3) := by decide +kernel
theorem dX2_sort_60 : decode cX2_sort 60 = .ok (.iconst 0, 1) := by decide +kernel
theorem dX2_sort_61 : decode cX2_sort 61 = .ok (.aload_n 0, 1) := by decide +kernel
theorem dX2_sort_62 : decode cX2_sort 62 = .ok (.getfield 33, 3) := by decide +kernel
theorem dX2_sort_65 : decode cX2_sort 65 = .ok (.iconst 0, 1) := by decide +kernel
theorem dX2_sort_66 : decode cX2_sort 66 = .ok (.aload_n 0, 1) := by decide +kernel
theorem dX2_sort_67 : decode cX2_sort 67 = .ok (.getfield 15, 3) := by decide +kernel
theorem dX2_sort_70 : decode cX2_sort 70 = .ok (.invokestatic 62, 3) := by decide +kernel
theorem dX2_sort_73 : decode cX2_sort 73 = .ok (.iload_n 1, 1) := by decide +kernel
theorem dX2_sort_74 : decode cX2_sort 74 = .ok (.iconst 2, 1) := by decide +kernel
theorem dX2_sort_75 : decode cX2_sort 75 = .ok (.imul, 1) := by decide +kernel
theorem dX2_sort_76 : decode cX2_sort 76 = .ok (.istore_n 1, 1) := by decide +kernel
theorem dX2_sort_77 : decode cX2_sort 77 = .ok (.goto (-75), 3) := by decide +kernel
theorem dX2_sort_80 : decode cX2_sort 80 = .ok (.return_, 1) := by decide +kernel
set_option maxRecDepth 20000 in
theorem ggX2_merge_X2_isGreater : GoodIn wsX2_merge wsX2_isGreater := goodIn_ca (goodIn_r _ [7, 8, 9, 10, 11, 12, 13, 14, 15, 16, 17, 18] (by decide +kernel) (by decide +kernel)) (goodIn_sub (fun _ h => List.mem_cons_of_mem _ (List.mem_append_right _ h)) (by decide +kernel))
set_option maxRecDepth 20000 in
theorem gX2_merge_X2_isGreater : GoodIn wsX2_merge (wsV RX2 68 RX2 yX2_isGreater wsX2_isGreater) := goodIn_app (goodIn_of _ (by decide +kernel)) ggX2_merge_X2_isGreater
theorem dX2_merge_0 : decode cX2_merge 0 = .ok (.iload_n 1, 1) := by decide +kernel
theorem dX2_merge_1 : decode cX2_merge 1 = .ok (.istore 4, 2) := by decide +kernel
theorem dX2_merge_3 : decode cX2_merge 3 = .ok (.iload_n 2, 1) := by decide +kernel
theorem dX2_merge_4 : decode cX2_merge 4 = .ok (.istore 5, 2) := by decide +kernel
theorem dX2_merge_6 : decode cX2_merge 6 = .ok (.iload_n 1, 1) := by decide +kernel
theorem dX2_merge_7 : decode cX2_merge 7 = .ok (.istore 6, 2) := by decide +kernel
theorem dX2_merge_9 : decode cX2_merge 9 = .ok (.iload 6, 2) := by decide +kernel
theorem dX2_merge_11 : decode cX2_merge 11 = .ok (.iload_n 3, 1) := by decide +kernel
theorem dX2_merge_12 : decode cX2_merge 12 = .ok (.if_icmp .ge 79, 3) := by decide +kernel
theorem dX2_merge_15 : decode cX2_merge 15 = .ok (.iload 5, 2) := by decide +kernel
theorem dX2_merge_17 : decode cX2_merge 17 = .ok (.iload_n 3, 1) := by decide +kernel
theorem dX2_merge_18 : decode cX2_merge 18 = .ok (.if_icmp .ge 30, 3) := by decide +kernel
theorem dX2_merge_21 : decode cX2_merge 21 = .ok (.iload 4, 2) := by decide +kernel
theorem dX2_merge_23 : decode cX2_merge 23 = .ok (.iload_n 2, 1) := by decide +kernel
theorem dX2_merge_24 : decode cX2_merge 24 = .ok (.if_icmp .ge 44, 3) := by decide +kernel
theorem dX2_merge_27 : decode cX2_merge 27 = .ok (.aload_n 0, 1) := by decide +kernel
theorem dX2_merge_28 : decode cX2_merge 28 = .ok (.aload_n 0, 1) := by decide +kernel
theorem dX2_merge_29 : decode cX2_merge 29 = .ok (.getfield 33, 3) := by decide +kernel
theorem dX2_merge_32 : decode cX2_merge 32 = .ok (.iload 5, 2) := by decide +kernel
theorem dX2_merge_34 : decode cX2_merge 34 = .ok (.iaload, 1) := by decide +kernel
theorem dX2_merge_35 : decode cX2_merge 35 = .ok (.aload_n 0, 1) := by decide +kernel
theorem dX2_merge_36 : decode cX2_merge 36 = .ok (.getfield 33, 3) := by decide +kernel
theorem dX2_merge_39 : decode cX2_merge 39 = .ok (.iload 4, 2) := by decide +kernel
theorem dX2_merge_41 : decode cX2_merge 41 = .ok (.iaload, 1) := by decide +kernel
theorem dX2_merge_42 : decode cX2_merge 42 = .ok (.invokevirtual 68, 3) := by decide +kernel
theorem dX2_merge_45 : decode cX2_merge 45 = .ok (.ifCond .ne 23, 3) := by decide +kernel
theorem dX2_merge_48 : decode cX2_merge 48 = .ok (.aload_n 0, 1) := by decide +kernel
theorem dX2_merge_49 : decode cX2_merge 49 = .ok (.getfield 36, 3) := by decide +kernel
theorem dX2_merge_52 : decode cX2_merge 52 = .ok (.iload 6, 2) := by decide +kernel
theorem dX2_merge_54 : decode cX2_merge 54 = .ok (.aload_n 0, 1) := by decide +kernel
theorem dX2_merge_55 : decode cX2_merge 55 = .ok (.getfield 33, 3) := by decide +kernel
theorem dX2_merge_58 : decode cX2_merge 58 = .ok (.iload 4, 2) := by decide +kernel
theorem dX2_merge_60 : decode cX2_merge 60 = .ok (.iaload, 1) := by decide +kernel
theorem dX2_merge_61 : decode cX2_merge 61 = .ok (.iastore, 1) := by decide +kernel
theorem dX2_merge_62 : decode cX2_merge 62 = .ok (.iinc 4 1, 3) := by decide +kernel
theorem dX2_merge_65 : decode cX2_merge 65 = .ok (.goto 20, 3) := by decide +kernel
theorem dX2_merge_68 : decode cX2_merge 68 = .ok (.aload_n 0, 1) := by decide +kernel
theorem dX2_merge_69 : decode cX2_merge 69 = .ok (.getfield 36, 3) := by decide +kernel
theorem dX2_merge_72 : decode cX2_merge 72 = .ok (.iload 6, 2) := by decide +kernel
theorem dX2_merge_74 : decode cX2_merge 74 = .ok (.aload_n 0, 1) := by decide +kernel
theorem dX2_merge_75 : decode cX2_merge 75 = .ok (.getfield 33, 3) := by decide +kernel
theorem dX2_merge_78 : decode cX2_merge 78 = .ok (.iload 5, 2) := by decide +kernel
theorem dX2_merge_80 : decode cX2_merge 80 = .ok (.iaload, 1) := by decide +kernel
theorem dX2_merge_81 : decode cX2_merge 81 = .ok (.iastore, 1) := by decide +kernel
theorem dX2_merge_82 : decode cX2_merge 82 = .ok (.iinc 5 1, 3) := by decide +kernel
theorem dX2_merge_85 : decode cX2_merge 85 = .ok (.iinc 6 1, 3) := by decide +kernel
theorem dX2_merge_88 : decode cX2_merge 88 = .ok (.goto (-79), 3) := by decide +kernel
theorem dX2_merge_91 : decode cX2_merge 91 = .ok (.return_, 1) := by decide +kernel
theorem dX2_isGreater_0 : decode cX2_isGreater 0 = .ok (.aload_n 0, 1) := by decide +kernel
theorem dX2_isGreater_1 : decode cX2_isGreater 1 = .ok (.getfield 26, 3) := by decide +kernel
theorem dX2_isGreater_4 : decode cX2_isGreater 4 = .ok (.iload_n 1, 1) := by decide +kernel
theorem dX2_isGreater_5 : decode cX2_isGreater 5 = .ok (.laload, 1) := by decide +kernel
theorem dX2_isGreater_6 : decode cX2_isGreater 6 = .ok (.aload_n 0, 1) := by decide +kernel
theorem dX2_isGreater_7 : decode cX2_isGreater 7 = .ok (.getfield 30, 3) := by decide +kernel
theorem dX2_isGreater_10 : decode cX2_isGreater 10 = .ok (.iload_n 2, 1) := by decide +kernel
theorem dX2_isGreater_11 : decode cX2_isGreater 11 = .ok (.laload, 1) := by decide +kernel
theorem dX2_isGreater_12 : decode cX2_isGreater 12 = .ok (.lmul, 1) := by decide +kernel
theorem dX2_isGreater_13 : decode cX2_isGreater 13 = .ok (.aload_n 0, 1) := by decide +kernel
theorem dX2_isGreater_14 : decode cX2_isGreater 14 = .ok (.getfield 26, 3) := by decide +kernel
theorem dX2_isGreater_17 : decode cX2_isGreater 17 = .ok (.iload_n 2, 1) := by decide +kernel
theorem dX2_isGreater_18 : decode cX2_isGreater 18 = .ok (.laload, 1) := by decide +kernel
theorem dX2_isGreater_19 : decode cX2_isGreater 19 = .ok (.aload_n 0, 1) := by decide +kernel
theorem dX2_isGreater_20 : decode cX2_isGreater 20 = .ok (.getfield 30, 3) := by decide +kernel
theorem dX2_isGreater_23 : decode cX2_isGreater 23 = .ok (.iload_n 1, 1) := by decide +kernel
theorem dX2_isGreater_24 : decode cX2_isGreater 24 = .ok (.laload, 1) := by decide +kernel
theorem dX2_isGreater_25 : decode cX2_isGreater 25 = .ok (.lmul, 1) := by decide +kernel
theorem dX2_isGreater_26 : decode cX2_isGreater 26 = .ok (.lcmp, 1) := by decide +kernel
theorem dX2_isGreater_27 : decode cX2_isGreater 27 = .ok (.ifCond .le 7, 3) := by decide +kernel
theorem dX2_isGreater_30 : decode cX2_isGreater 30 = .ok (.iconst 1, 1) := by decide +kernel
theorem dX2_isGreater_31 : decode cX2_isGreater 31 = .ok (.goto 4, 3) := by decide +kernel
theorem dX2_isGreater_34 : decode cX2_isGreater 34 = .ok (.iconst 0, 1) := by decide +kernel
theorem dX2_isGreater_35 : decode cX2_isGreater 35 = .ok (.ireturn, 1) := by decide +kernel
set_option maxRecDepth 20000 in
theorem ggX2_isBestOfBoth_X2_isGreater : GoodIn wsX2_isBestOfBoth wsX2_isGreater := goodIn_ca (goodIn_r _ [8, 9, 10, 11, 12, 13, 14, 15, 16, 17, 18, 19] (by decide +kernel) (by decide +kernel)) (goodIn_sub (fun _ h => List.mem_cons_of_mem _ (List.mem_append_right _ h)) (by decide +kernel))
set_option maxRecDepth 20000 in
theorem gX2_isBestOfBoth_X2_isGreater : GoodIn wsX2_isBestOfBoth (wsV RX2 68 RX2 yX2_isGreater wsX2_isGreater) := goodIn_app (goodIn_of _ (by decide +kernel)) ggX2_isBestOfBoth_X2_isGreater
theorem dX2_isBestOfBoth_0 : decode cX2_isBestOfBoth 0 = .ok (.aload_n 0, 1) := by decide +kernel
theorem dX2_isBestOfBoth_1 : decode cX2_isBestOfBoth 1 = .ok (.getfield 33, 3) := by decide +kernel
theorem dX2_isBestOfBoth_4 : decode cX2_isBestOfBoth 4 = .ok (.iload_n 1, 1) := by decide +kernel
theorem dX2_isBestOfBoth_5 : decode cX2_isBestOfBoth 5 = .ok (.iaload, 1) := by decide +kernel
theorem dX2_isBestOfBoth_6 : decode cX2_isBestOfBoth 6 = .ok (.istore_n 2, 1) := by decide +kernel
theorem dX2_isBestOfBoth_7 : decode cX2_isBestOfBoth 7 = .ok (.iconst 0, 1) := by decide +kernel
theorem dX2_isBestOfBoth_8 : decode cX2_isBestOfBoth 8 = .ok (.istore_n 3, 1) := by decide +kernel
theorem dX2_isBestOfBoth_9 : decode cX2_isBestOfBoth 9 = .ok (.iload_n 3, 1) := by decide +kernel
theorem dX2_isBestOfBoth_10 : decode cX2_isBestOfBoth 10 = .ok (.iload_n 1, 1) := by decide +kernel
theorem dX2_isBestOfBoth_11 : decode cX2_isBestOfBoth 11 = .ok (.if_icmp .ge 73, 3) := by decide +kernel
theorem dX2_isBestOfBoth_14 : decode cX2_isBestOfBoth 14 = .ok (.aload_n 0, 1) := by decide +kernel
theorem dX2_isBestOfBoth_15 : decode cX2_isBestOfBoth 15 = .ok (.getfield 33, 3) := by decide +kernel
theorem dX2_isBestOfBoth_18 : decode cX2_isBestOfBoth 18 = .ok (.iload_n 3, 1) := by decide +kernel
theorem dX2_isBestOfBoth_19 : decode cX2_isBestOfBoth 19 = .ok (.iaload, 1) := by decide +kernel
theorem dX2_isBestOfBoth_20 : decode cX2_isBestOfBoth 20 = .ok (.istore 4, 2) := by decide +kernel
theorem dX2_isBestOfBoth_22 : decode cX2_isBestOfBoth 22 = .ok (.aload_n 0, 1) := by decide +kernel
theorem dX2_isBestOfBoth_23 : decode cX2_isBestOfBoth 23 = .ok (.getfield 19, 3) := by decide +kernel
theorem dX2_isBestOfBoth_26 : decode cX2_isBestOfBoth 26 = .ok (.iload 4, 2) := by decide +kernel
theorem dX2_isBestOfBoth_28 : decode cX2_isBestOfBoth 28 = .ok (.iaload, 1) := by decide +kernel
theorem dX2_isBestOfBoth_29 : decode cX2_isBestOfBoth 29 = .ok (.aload_n 0, 1) := by decide +kernel
theorem dX2_isBestOfBoth_30 : decode cX2_isBestOfBoth 30 = .ok (.getfield 19, 3) := by decide +kernel
theorem dX2_isBestOfBoth_33 : decode cX2_isBestOfBoth 33 = .ok (.iload_n 2, 1) := by decide +kernel
theorem dX2_isBestOfBoth_34 : decode cX2_isBestOfBoth 34 = .ok (.iaload, 1) := by decide +kernel
theorem dX2_isBestOfBoth_35 : decode cX2_isBestOfBoth 35 = .ok (.if_icmp .eq 19, 3) := by decide +kernel
theorem dX2_isBestOfBoth_38 : decode cX2_isBestOfBoth 38 = .ok (.aload_n 0, 1) := by decide +kernel
theorem dX2_isBestOfBoth_39 : decode cX2_isBestOfBoth 39 = .ok (.getfield 23, 3) := by decide +kernel
theorem dX2_isBestOfBoth_42 : decode cX2_isBestOfBoth 42 = .ok (.iload 4, 2) := by decide +kernel
theorem dX2_isBestOfBoth_44 : decode cX2_isBestOfBoth 44 = .ok (.iaload, 1) := by decide +kernel
theorem dX2_isBestOfBoth_45 : decode cX2_isBestOfBoth 45 = .ok (.aload_n 0, 1) := by decide +kernel
theorem dX2_isBestOfBoth_46 : decode cX2_isBestOfBoth 46 = .ok (.getfield 23, 3) := by decide +kernel
theorem dX2_isBestOfBoth_49 : decode cX2_isBestOfBoth 49 = .ok (.iload_n 2, 1) := by decide +kernel
theorem dX2_isBestOfBoth_50 : decode cX2_isBestOfBoth 50 = .ok (.iaload, 1) := by decide +kernel
theorem dX2_isBestOfBoth_51 : decode cX2_isBestOfBoth 51 = .ok (.if_icmp .ne 7, 3) := by decide +kernel
theorem dX2_isBestOfBoth_54 : decode cX2_isBestOfBoth 54 = .ok (.iconst 1, 1) := by decide +kernel
theorem dX2_isBestOfBoth_55 : decode cX2_isBestOfBoth 55 = .ok (.goto 4, 3) := by decide +kernel
theorem dX2_isBestOfBoth_58 : decode cX2_isBestOfBoth 58 = .ok (.iconst 0, 1) := by decide +kernel
theorem dX2_isBestOfBoth_59 : decode cX2_isBestOfBoth 59 = .ok (.istore 5, 2) := by decide +kernel
theorem dX2_isBestOfBoth_61 : decode cX2_isBestOfBoth 61 = .ok (.iload 5, 2) := by decide +kernel
theorem dX2_isBestOfBoth_63 : decode cX2_isBestOfBoth 63 = .ok (.ifCond .eq 15, 3) := by decide +kernel
theorem dX2_isBestOfBoth_66 : decode cX2_isBestOfBoth 66 = .ok (.aload_n 0, 1) := by decide +kernel
theorem dX2_isBestOfBoth_67 : decode cX2_isBestOfBoth 67 = .ok (.iload 4, 2) := by decide +kernel
theorem dX2_isBestOfBoth_69 : decode cX2_isBestOfBoth 69 = .ok (.iload_n 2, 1) := by decide +kernel
theorem dX2_isBestOfBoth_70 : decode cX2_isBestOfBoth 70 = .ok (.invokevirtual 68, 3) := by decide +kernel
theorem dX2_isBestOfBoth_73 : decode cX2_isBestOfBoth 73 = .ok (.ifCond .eq 5, 3) := by decide +kernel
theorem dX2_isBestOfBoth_76 : decode cX2_isBestOfBoth 76 = .ok (.iconst 0, 1) := by decide +kernel
theorem dX2_isBestOfBoth_77 : decode cX2_isBestOfBoth 77 = .ok (.ireturn, 1) := by decide +kernel
theorem dX2_isBestOfBoth_78 : decode cX2_isBestOfBoth 78 = .ok (.iinc 3 1, 3) := by decide +kernel
theorem dX2_isBestOfBoth_81 : decode cX2_isBestOfBoth 81 = .ok (.goto (-72), 3) := by decide +kernel
theorem dX2_isBestOfBoth_84 : decode cX2_isBestOfBoth 84 = .ok (.iconst 1, 1) := by decide +kernel
theorem dX2_isBestOfBoth_85 : decode cX2_isBestOfBoth 85 = .ok (.ireturn, 1) := by decide +kernel
theorem dX2_placeAfterMixing_0 : decode cX2_placeAfterMixing 0 = .ok (.iconst 0, 1) := by decide +kernel
theorem dX2_placeAfterMixing_1 : decode cX2_placeAfterMixing 1 = .ok (.istore 4, 2) := by decide +kernel
theorem dX2_placeAfterMixing_3 : decode cX2_placeAfterMixing 3 = .ok (.iload 4, 2) := by decide +kernel
theorem dX2_placeAfterMixing_5 : decode cX2_placeAfterMixing 5 = .ok (.aload_n 0, 1) := by decide +kernel
theorem dX2_placeAfterMixing_6 : decode cX2_placeAfterMixing 6 = .ok (.getfield 15, 3) := by decide +kernel
theorem dX2_placeAfterMixing_9 : decode cX2_placeAfterMixing 9 = .ok (.if_icmp .ge 18, 3) := by decide +kernel
theorem dX2_placeAfterMixing_12 : decode cX2_placeAfterMixing 12 = .ok (.aload_n 0, 1) := by decide +kernel
theorem dX2_placeAfterMixing_13 : decode cX2_placeAfterMixing 13 = .ok (.getfield 36, 3) := by decide +kernel
theorem dX2_placeAfterMixing_16 : decode cX2_placeAfterMixing 16 = .ok (.iload 4, 2) := by decide +kernel
theorem dX2_placeAfterMixing_18 : decode cX2_placeAfterMixing 18 = .ok (.iload 4, 2) := by decide +kernel
theorem dX2_placeAfterMixing_20 : decode cX2_placeAfterMixing 20 = .ok (.iastore, 1) := by decide +kernel
theorem dX2_placeAfterMixing_21 : decode cX2_placeAfterMixing 21 = .ok (.iinc 4 1, 3) := by decide +kernel
theorem dX2_placeAfterMixing_24 : decode cX2_placeAfterMixing 24 = .ok (.goto (-21), 3) := by decide +kernel
theorem dX2_placeAfterMixing_27 : decode cX2_placeAfterMixing 27 = .ok (.lload_n 1, 1) := by decide +kernel
theorem dX2_placeAfterMixing_28 : decode cX2_placeAfterMixing 28 = .ok (.lstore 4, 2) := by decide +kernel
theorem dX2_placeAfterMixing_30 : decode cX2_placeAfterMixing 30 = .ok (.aload_n 0, 1) := by decide +kernel
theorem dX2_placeAfterMixing_31 : decode cX2_placeAfterMixing 31 = .ok (.getfield 15, 3) := by decide +kernel
theorem dX2_placeAfterMixing_34 : decode cX2_placeAfterMixing 34 = .ok (.iconst 1, 1) := by decide +kernel
theorem dX2_placeAfterMixing_35 : decode cX2_placeAfterMixing 35 = .ok (.isub, 1) := by decide +kernel
theorem dX2_placeAfterMixing_36 : decode cX2_placeAfterMixing 36 = .ok (.istore 6, 2) := by decide +kernel
theorem dX2_placeAfterMixing_38 : decode cX2_placeAfterMixing 38 = .ok (.iload 6, 2) := by decide +kernel
theorem dX2_placeAfterMixing_40 : decode cX2_placeAfterMixing 40 = .ok (.iconst 1, 1) := by decide +kernel
theorem dX2_placeAfterMixing_41 : decode cX2_placeAfterMixing 41 = .ok (.if_icmp .lt 67, 3) := by decide +kernel
theorem dX2_placeAfterMixing_44 : decode cX2_placeAfterMixing 44 = .ok (.lload 4, 2) := by decide +kernel
theorem dX2_placeAfterMixing_46 : decode cX2_placeAfterMixing 46 = .ok (.ldc2_w 72, 3) := by decide +kernel
theorem dX2_placeAfterMixing_49 : decode cX2_placeAfterMixing 49 = .ok (.lmul, 1) := by decide +kernel
theorem dX2_placeAfterMixing_50 : decode cX2_placeAfterMixing 50 = .ok (.ldc2_w 74, 3) := by decide +kernel
theorem dX2_placeAfterMixing_53 : decode cX2_placeAfterMixing 53 = .ok (.ladd, 1) := by decide +kernel
theorem dX2_placeAfterMixing_54 : decode cX2_placeAfterMixing 54 = .ok (.lstore 4, 2) := by decide +kernel
theorem dX2_placeAfterMixing_56 : decode cX2_placeAfterMixing 56 = .ok (.lload 4, 2) := by decide +kernel
theorem dX2_placeAfterMixing_58 : decode cX2_placeAfterMixing 58 = .ok (.bipush 33, 2) := by decide +kernel
theorem dX2_placeAfterMixing_60 : decode cX2_placeAfterMixing 60 = .ok (.lushr, 1) := by decide +kernel
theorem dX2_placeAfterMixing_61 : decode cX2_placeAfterMixing 61 = .ok (.iload 6, 2) := by decide +kernel
theorem dX2_placeAfterMixing_63 : decode cX2_placeAfterMixing 63 = .ok (.iconst 1, 1) := by decide +kernel
theorem dX2_placeAfterMixing_64 : decode cX2_placeAfterMixing 64 = .ok (.iadd, 1) := by decide +kernel
theorem dX2_placeAfterMixing_65 : decode cX2_placeAfterMixing 65 = .ok (.i2l, 1) := by decide +kernel
theorem dX2_placeAfterMixing_66 : decode cX2_placeAfterMixing 66 = .ok (.lrem, 1) := by decide +kernel
theorem dX2_placeAfterMixing_67 : decode cX2_placeAfterMixing 67 = .ok (.l2i, 1) := by decide +kernel
theorem dX2_placeAfterMixing_68 : decode cX2_placeAfterMixing 68 = .ok (.istore 7, 2) := by decide +kernel
theorem dX2_placeAfterMixing_70 : decode cX2_placeAfterMixing 70 = .ok (.aload_n 0, 1) := by decide +kernel
theorem dX2_placeAfterMixing_71 : decode cX2_placeAfterMixing 71 = .ok (.getfield 36, 3) := by decide +kernel
theorem dX2_placeAfterMixing_74 : decode cX2_placeAfterMixing 74 = .ok (.iload 6, 2) := by decide +kernel
theorem dX2_placeAfterMixing_76 : decode cX2_placeAfterMixing 76 = .ok (.iaload, 1) := by decide +kernel
theorem dX2_placeAfterMixing_77 : decode cX2_placeAfterMixing 77 = .ok (.istore 8, 2) := by decide +kernel
theorem dX2_placeAfterMixing_79 : decode cX2_placeAfterMixing 79 = .ok (.aload_n 0, 1) := by decide +kernel
theorem dX2_placeAfterMixing_80 : decode cX2_placeAfterMixing 80 = .ok (.getfield 36, 3) := by decide +kernel
theorem dX2_placeAfterMixing_83 : decode cX2_placeAfterMixing 83 = .ok (.iload 6, 2) := by decide +kernel
theorem dX2_placeAfterMixing_85 : decode cX2_placeAfterMixing 85 = .ok (.aload_n 0, 1) := by decide +kernel
theorem dX2_placeAfterMixing_86 : decode cX2_placeAfterMixing 86 = .ok (.getfield 36, 3) := by decide +kernel
theorem dX2_placeAfterMixing_89 : decode cX2_placeAfterMixing 89 = .ok (.iload 7, 2) := by decide +kernel
theorem dX2_placeAfterMixing_91 : decode cX2_placeAfterMixing 91 = .ok (.iaload, 1) := by decide +kernel
theorem dX2_placeAfterMixing_92 : decode cX2_placeAfterMixing 92 = .ok (.iastore, 1) := by decide +kernel
theorem dX2_placeAfterMixing_93 : decode cX2_placeAfterMixing 93 = .ok (.aload_n 0, 1) := by decide +kernel
theorem dX2_placeAfterMixing_94 : decode cX2_placeAfterMixing 94 = .ok (.getfield 36, 3) := by decide +kernel
theorem dX2_placeAfterMixing_97 : decode cX2_placeAfterMixing 97 = .ok (.iload 7, 2) := by decide +kernel
theorem dX2_placeAfterMixing_99 : decode cX2_placeAfterMixing 99 = .ok (.iload 8, 2) := by decide +kernel
theorem dX2_placeAfterMixing_101 : decode cX2_placeAfterMixing 101 = .ok (.iastore, 1) := by decide +kernel
theorem dX2_placeAfterMixing_102 : decode cX2_placeAfterMixing 102 = .ok (.iinc 6 (-1), 3) := by decide +kernel
theorem dX2_placeAfterMixing_105 : decode cX2_placeAfterMixing 105 = .ok (.goto (-67), 3) := by decide +kernel
theorem dX2_placeAfterMixing_108 : decode cX2_placeAfterMixing 108 = .ok (.aload_n 0, 1) := by decide +kernel
theorem dX2_placeAfterMixing_109 : decode cX2_placeAfterMixing 109 = .ok (.getfield 36, 3) := by decide +kernel
theorem dX2_placeAfterMixing_112 : decode cX2_placeAfterMixing 112 = .ok (.iload_n 3, 1) := by decide +kernel
theorem dX2_placeAfterMixing_113 : decode cX2_placeAfterMixing 113 = .ok (.iaload, 1) := by decide +kernel
theorem dX2_placeAfterMixing_114 : decode cX2_placeAfterMixing 114 = .ok (.ireturn, 1) := by decide +kernel
set_option maxRecDepth 20000 in
theorem ggX2_partner_X2_nameAt : GoodIn wsX2_partner wsX2_nameAt := goodIn_ca (goodIn_r _ [6, 7, 8, 9, 10, 11, 12, 13, 14, 15, 16, 17, 18] (by decide +kernel) (by decide +kernel)) (goodIn_sub (fun _ h => List.mem_cons_of_mem _ (List.mem_append_right _ h)) (by decide +kernel))
set_option maxRecDepth 20000 in
theorem gX2_partner_X2_nameAt : GoodIn wsX2_partner (wsV RX2 76 RX2 yX2_nameAt wsX2_nameAt) := goodIn_app (goodIn_of _ (by decide +kernel)) ggX2_partner_X2_nameAt
theorem dX2_partner_0 : decode cX2_partner 0 = .ok (.iconst 0, 1) := by decide +kernel
theorem dX2_partner_1 : decode cX2_partner 1 = .ok (.istore 4, 2) := by decide +kernel
theorem dX2_partner_3 : decode cX2_partner 3 = .ok (.iconst 0, 1) := by decide +kernel
theorem dX2_partner_4 : decode cX2_partner 4 = .ok (.istore 5, 2) := by decide +kernel
theorem dX2_partner_6 : decode cX2_partner 6 = .ok (.iload 5, 2) := by decide +kernel
theorem dX2_partner_8 : decode cX2_partner 8 = .ok (.aload_n 0, 1) := by decide +kernel
theorem dX2_partner_9 : decode cX2_partner 9 = .ok (.getfield 15, 3) := by decide +kernel
theorem dX2_partner_12 : decode cX2_partner 12 = .ok (.if_icmp .ge 39, 3) := by decide +kernel
theorem dX2_partner_15 : decode cX2_partner 15 = .ok (.aload_n 0, 1) := by decide +kernel
theorem dX2_partner_16 : decode cX2_partner 16 = .ok (.iload 5, 2) := by decide +kernel
theorem dX2_partner_18 : decode cX2_partner 18 = .ok (.iload_n 1, 1) := by decide +kernel
theorem dX2_partner_19 : decode cX2_partner 19 = .ok (.invokevirtual 76, 3) := by decide +kernel
theorem dX2_partner_22 : decode cX2_partner 22 = .ok (.iload_n 2, 1) := by decide +kernel
theorem dX2_partner_23 : decode cX2_partner 23 = .ok (.if_icmp .ne 22, 3) := by decide +kernel
theorem dX2_partner_26 : decode cX2_partner 26 = .ok (.iload 4, 2) := by decide +kernel
theorem dX2_partner_28 : decode cX2_partner 28 = .ok (.iload_n 3, 1) := by decide +kernel
theorem dX2_partner_29 : decode cX2_partner 29 = .ok (.if_icmp .ne 13, 3) := by decide +kernel
theorem dX2_partner_32 : decode cX2_partner 32 = .ok (.aload_n 0, 1) := by decide +kernel
theorem dX2_partner_33 : decode cX2_partner 33 = .ok (.iload 5, 2) := by decide +kernel
theorem dX2_partner_35 : decode cX2_partner 35 = .ok (.iconst 1, 1) := by decide +kernel
theorem dX2_partner_36 : decode cX2_partner 36 = .ok (.iload_n 1, 1) := by decide +kernel
theorem dX2_partner_37 : decode cX2_partner 37 = .ok (.isub, 1) := by decide +kernel
theorem dX2_partner_38 : decode cX2_partner 38 = .ok (.invokevirtual 76, 3) := by decide +kernel
theorem dX2_partner_41 : decode cX2_partner 41 = .ok (.ireturn, 1) := by decide +kernel
theorem dX2_partner_42 : decode cX2_partner 42 = .ok (.iinc 4 1, 3) := by decide +kernel
theorem dX2_partner_45 : decode cX2_partner 45 = .ok (.iinc 5 1, 3) := by decide +kernel
theorem dX2_partner_48 : decode cX2_partner 48 = .ok (.goto (-42), 3) := by decide +kernel
theorem dX2_partner_51 : decode cX2_partner 51 = .ok (.iconst 0, 1) := by decide +kernel
theorem dX2_partner_52 : decode cX2_partner 52 = .ok (.ireturn, 1) := by decide +kernel
end
section
theorem dX3_init_0 : decode cX3_init 0 = .ok (.aload_n 0, 1) := by decide +kernel
theorem dX3_init_1 : decode cX3_init 1 = .ok (.invokespecial 3, 3) := by decide +kernel
theorem dX3_init_4 : decode cX3_init 4 = .ok (.aload_n 0, 1) := by decide +kernel
theorem dX3_init_5 : decode cX3_init 5 = .ok (.iconst 0, 1) := by decide +kernel
theorem dX3_init_6 : decode cX3_init 6 = .ok (.putfield 9, 3) := by decide +kernel
theorem dX3_init_9 : decode cX3_init 9 = .ok (.aload_n 0, 1) := by decide +kernel
theorem dX3_init_10 : decode cX3_init 10 = .ok (.bipush 8, 2) := by decide +kernel
theorem dX3_init_12 : decode cX3_init 12 = .ok (.newarray .int, 2) := by decide +kernel
theorem dX3_init_14 : decode cX3_init 14 = .ok (.putfield 15, 3) := by decide +kernel
theorem dX3_init_17 : decode cX3_init 17 = .ok (.aload_n 0, 1) := by decide +kernel
theorem dX3_init_18 : decode cX3_init 18 = .ok (.bipush 8, 2) := by decide +kernel
theorem dX3_init_20 : decode cX3_init 20 = .ok (.newarray .int, 2) := by decide +kernel
theorem dX3_init_22 : decode cX3_init 22 = .ok (.putfield 19, 3) := by decide +kernel
theorem dX3_init_25 : decode cX3_init 25 = .ok (.aload_n 0, 1) := by decide +kernel
theorem dX3_init_26 : decode cX3_init 26 = .ok (.iconst 0, 1) := by decide +kernel
theorem dX3_init_27 : decode cX3_init 27 = .ok (.putfield 22, 3) := by decide +kernel
theorem dX3_init_30 : decode cX3_init 30 = .ok (.aload_n 0, 1) := by decide +kernel
theorem dX3_init_31 : decode cX3_init 31 = .ok (.iconst 0, 1) := by decide +kernel
theorem dX3_init_32 : decode cX3_init 32 = .ok (.putfield 26, 3) := by decide +kernel
theorem dX3_init_35 : decode cX3_init 35 = .ok (.aload_n 0, 1) := by decide +kernel
theorem dX3_init_36 : decode cX3_init 36 = .ok (.lconst 0, 1) := by decide +kernel
theorem dX3_init_37 : decode cX3_init 37 = .ok (.putfield 29, 3) := by decide +kernel
theorem dX3_init_40 : decode cX3_init 40 = .ok (.aload_n 0, 1) := by decide +kernel
theorem dX3_init_41 : decode cX3_init 41 = .ok (.lconst 0, 1) := by decide +kernel
theorem dX3_init_42 : decode cX3_init 42 = .ok (.putfield 33, 3) := by decide +kernel
theorem dX3_init_45 : decode cX3_init 45 = .ok (.aload_n 0, 1) := by decide +kernel
theorem dX3_init_46 : decode cX3_init 46 = .ok (.iload_n 1, 1) := by decide +kernel
theorem dX3_init_47 : decode cX3_init 47 = .ok (.putfield 36, 3) := by decide +kernel
theorem dX3_init_50 : decode cX3_init 50 = .ok (.return_, 1) := by decide +kernel
set_option maxRecDepth 20000 in
theorem ggX3_addToken_X3_hasToken : GoodIn wsX3_addToken wsX3_hasToken := goodIn_ca (goodIn_r _ [8, 1, 2, 3, 9, 10, 11, 12, 13, 14, 15, 16] (by decide +kernel) (by decide +kernel)) (goodIn_sub (fun _ h => List.mem_cons_of_mem _ (List.mem_append_right _ h)) (by decide +kernel))
set_option maxRecDepth 20000 in
theorem gX3_addToken_X3_hasToken : GoodIn wsX3_addToken (wsV RX3 39 RX3 yX3_hasToken wsX3_hasToken) := goodIn_app (goodIn_of _ (by decide +kernel)) ggX3_addToken_X3_hasToken
theorem dX3_addToken_0 : decode cX3_addToken 0 = .ok (.aload_n 0, 1) := by decide +kernel
theorem dX3_addToken_1 : decode cX3_addToken 1 = .ok (.getfield 22, 3) := by decide +kernel
theorem dX3_addToken_4 : decode cX3_addToken 4 = .ok (.bipush 8, 2) := by decide +kernel
theorem dX3_addToken_6 : decode cX3_addToken 6 = .ok (.if_icmp .ge 12, 3) := by decide +kernel
theorem dX3_addToken_9 : decode cX3_addToken 9 = .ok (.aload_n 0, 1) := by decide +kernel
theorem dX3_addToken_10 : decode cX3_addToken 10 = .ok (.iload_n 1, 1) := by decide +kernel
theorem dX3_addToken_11 : decode cX3_addToken 11 = .ok (.iload_n 2, 1) := by decide +kernel
theorem dX3_addToken_12 : decode cX3_addToken 12 = .ok (.invokevirtual 39, 3) := by decide +kernel
theorem dX3_addToken_15 : decode cX3_addToken 15 = .ok (.ifCond .eq 4, 3) := by decide +kernel
theorem dX3_addToken_18 : decode cX3_addToken 18 = .ok (.return_, 1) := by decide +kernel
theorem dX3_addToken_19 : decode cX3_addToken 19 = .ok (.aload_n 0, 1) := by decide +kernel
theorem dX3_addToken_20 : decode cX3_addToken 20 = .ok (.getfield 15, 3) := by decide +kernel
theorem dX3_addToken_23 : decode cX3_addToken 23 = .ok (.aload_n 0, 1) := by decide +kernel
theorem dX3_addToken_24 : decode cX3_addToken 24 = .ok (.getfield 22, 3) := by decide +kernel
theorem dX3_addToken_27 : decode cX3_addToken 27 = .ok (.iload_n 1, 1) := by decide +kernel
theorem dX3_addToken_28 : decode cX3_addToken 28 = .ok (.iastore, 1) := by decide +kernel
theorem dX3_addToken_29 : decode cX3_addToken 29 = .ok (.aload_n 0, 1) := by decide +kernel
theorem dX3_addToken_30 : decode cX3_addToken 30 = .ok (.getfield 19, 3) := by decide +kernel
theorem dX3_addToken_33 : decode cX3_addToken 33 = .ok (.aload_n 0, 1) := by decide +kernel
theorem dX3_addToken_34 : decode cX3_addToken 34 = .ok (.getfield 22, 3) := by decide +kernel
theorem dX3_addToken_37 : decode cX3_addToken 37 = .ok (.iload_n 2, 1) := by decide +kernel
theorem dX3_addToken_38 : decode cX3_addToken 38 = .ok (.iastore, 1) := by decide +kernel
theorem dX3_addToken_39 : decode cX3_addToken 39 = .ok (.aload_n 0, 1) := by decide +kernel
theorem dX3_addToken_40 : decode cX3_addToken 40 = .ok (.dup, 1) := by decide +kernel
theorem dX3_addToken_41 : decode cX3_addToken 41 = .ok (.getfield 22, 3) := by decide +kernel
theorem dX3_addToken_44 : decode cX3_addToken 44 = .ok (.iconst 1, 1) := by decide +kernel
theorem dX3_addToken_45 : decode cX3_addToken 45 = .ok (.iadd, 1) := by decide +kernel
theorem dX3_addToken_46 : decode cX3_addToken 46 = .ok (.putfield 22, 3) := by decide +kernel
theorem dX3_addToken_49 : decode cX3_addToken 49 = .ok (.return_, 1) := by decide +kernel
theorem dX3_hasToken_0 : decode cX3_hasToken 0 = .ok (.iconst 0, 1) := by decide +kernel
theorem dX3_hasToken_1 : decode cX3_hasToken 1 = .ok (.istore_n 3, 1) := by decide +kernel
theorem dX3_hasToken_2 : decode cX3_hasToken 2 = .ok (.iload_n 3, 1) := by decide +kernel
theorem dX3_hasToken_3 : decode cX3_hasToken 3 = .ok (.aload_n 0, 1) := by decide +kernel
theorem dX3_hasToken_4 : decode cX3_hasToken 4 = .ok (.getfield 22, 3) := by decide +kernel
theorem dX3_hasToken_7 : decode cX3_hasToken 7 = .ok (.if_icmp .ge 31, 3) := by decide +kernel
theorem dX3_hasToken_10 : decode cX3_hasToken 10 = .ok (.aload_n 0, 1) := by decide +kernel
theorem dX3_hasToken_11 : decode cX3_hasToken 11 = .ok (.getfield 15, 3) := by decide +kernel
theorem dX3_hasToken_14 : decode cX3_hasToken 14 = .ok (.iload_n 3, 1) := by decide +kernel
theorem dX3_hasToken_15 : decode cX3_hasToken 15 = .ok (.iaload, 1) := by decide +kernel
theorem dX3_hasToken_16 : decode cX3_hasToken 16 = .ok (.iload_n 1, 1) := by decide +kernel
theorem dX3_hasToken_17 : decode cX3_hasToken 17 = .ok (.if_icmp .ne 15, 3) := by decide +kernel
theorem dX3_hasToken_20 : decode cX3_hasToken 20 = .ok (.aload_n 0, 1) := by decide +kernel
theorem dX3_hasToken_21 : decode cX3_hasToken 21 = .ok (.getfield 19, 3) := by decide +kernel
theorem dX3_hasToken_24 : decode cX3_hasToken 24 = .ok (.iload_n 3, 1) := by decide +kernel
theorem dX3_hasToken_25 : decode cX3_hasToken 25 = .ok (.iaload, 1) := by decide +kernel
theorem dX3_hasToken_26 : decode cX3_hasToken 26 = .ok (.iload_n 2, 1) := by decide +kernel
theorem dX3_hasToken_27 : decode cX3_hasToken 27 = .ok (.if_icmp .ne 5, 3) := by decide +kernel
theorem dX3_hasToken_30 : decode cX3_hasToken 30 = .ok (.iconst 1, 1) := by decide +kernel
theorem dX3_hasToken_31 : decode cX3_hasToken 31 = .ok (.ireturn, 1) := by decide +kernel
theorem dX3_hasToken_32 : decode cX3_hasToken 32 = .ok (.iinc 3 1, 3) := by decide +kernel
theorem dX3_hasToken_35 : decode cX3_hasToken 35 = .ok (.goto (-33), 3) := by decide +kernel
theorem dX3_hasToken_38 : decode cX3_hasToken 38 = .ok (.iconst 0, 1) := by decide +kernel
theorem dX3_hasToken_39 : decode cX3_hasToken 39 = .ok (.ireturn, 1) := by decide +kernel
theorem dX3_setDates_0 : decode cX3_setDates 0 = .ok (.aload_n 0, 1) := by decide +kernel
theorem dX3_setDates_1 : decode cX3_setDates 1 = .ok (.iconst 1, 1) := by decide +kernel
theorem dX3_setDates_2 : decode cX3_setDates 2 = .ok (.putfield 26, 3) := by decide +kernel
theorem dX3_setDates_5 : decode cX3_setDates 5 = .ok (.aload_n 0, 1) := by decide +kernel
theorem dX3_setDates_6 : decode cX3_setDates 6 = .ok (.lload_n 1, 1) := by decide +kernel
theorem dX3_setDates_7 : decode cX3_setDates 7 = .ok (.putfield 29, 3) := by decide +kernel
theorem dX3_setDates_10 : decode cX3_setDates 10 = .ok (.aload_n 0, 1) := by decide +kernel
theorem dX3_setDates_11 : decode cX3_setDates 11 = .ok (.lload_n 3, 1) := by decide +kernel
theorem dX3_setDates_12 : decode cX3_setDates 12 = .ok (.putfield 33, 3) := by decide +kernel
theorem dX3_setDates_15 : decode cX3_setDates 15 = .ok (.return_, 1) := by decide +kernel
theorem dX3_mayPair_0 : decode cX3_mayPair 0 = .ok (.aload_n 0, 1) := by decide +kernel
theorem dX3_mayPair_1 : decode cX3_mayPair 1 = .ok (.getfield 36, 3) := by decide +kernel
theorem dX3_mayPair_4 : decode cX3_mayPair 4 = .ok (.iload_n 1, 1) := by decide +kernel
theorem dX3_mayPair_5 : decode cX3_mayPair 5 = .ok (.if_icmp .ne 21, 3) := by decide +kernel
theorem dX3_mayPair_8 : decode cX3_mayPair 8 = .ok (.aload_n 0, 1) := by decide +kernel
theorem dX3_mayPair_9 : decode cX3_mayPair 9 = .ok (.getfield 22, 3) := by decide +kernel
theorem dX3_mayPair_12 : decode cX3_mayPair 12 = .ok (.ifCond .le 14, 3) := by decide +kernel
theorem dX3_mayPair_15 : decode cX3_mayPair 15 = .ok (.aload_n 0, 1) := by decide +kernel
theorem dX3_mayPair_16 : decode cX3_mayPair 16 = .ok (.getfield 9, 3) := by decide +kernel
theorem dX3_mayPair_19 : decode cX3_mayPair 19 = .ok (.ifCond .ne 7, 3) := by decide +kernel
theorem dX3_mayPair_22 : decode cX3_mayPair 22 = .ok (.iconst 1, 1) := by decide +kernel
theorem dX3_mayPair_23 : decode cX3_mayPair 23 = .ok (.goto 4, 3) := by decide +kernel
theorem dX3_mayPair_26 : decode cX3_mayPair 26 = .ok (.iconst 0, 1) := by decide +kernel
theorem dX3_mayPair_27 : decode cX3_mayPair 27 = .ok (.ireturn, 1) := by decide +kernel
theorem dX3_mayJoin_0 : decode cX3_mayJoin 0 = .ok (.aload_n 0, 1) := by decide +kernel
theorem dX3_mayJoin_1 : decode cX3_mayJoin 1 = .ok (.getfield 36, 3) := by decide +kernel
theorem dX3_mayJoin_4 : decode cX3_mayJoin 4 = .ok (.iload_n 1, 1) := by decide +kernel
theorem dX3_mayJoin_5 : decode cX3_mayJoin 5 = .ok (.if_icmp .ne 14, 3) := by decide +kernel
theorem dX3_mayJoin_8 : decode cX3_mayJoin 8 = .ok (.aload_n 0, 1) := by decide +kernel
theorem dX3_mayJoin_9 : decode cX3_mayJoin 9 = .ok (.getfield 9, 3) := by decide +kernel
theorem dX3_mayJoin_12 : decode cX3_mayJoin 12 = .ok (.ifCond .ne 7, 3) := by decide +kernel
theorem dX3_mayJoin_15 : decode cX3_mayJoin 15 = .ok (.iconst 1, 1) := by decide +kernel
theorem dX3_mayJoin_16 : decode cX3_mayJoin 16 = .ok (.goto 4, 3) := by decide +kernel
theorem dX3_mayJoin_19 : decode cX3_mayJoin 19 = .ok (.iconst 0, 1) := by decide +kernel
theorem dX3_mayJoin_20 : decode cX3_mayJoin 20 = .ok (.ireturn, 1) := by decide +kernel
theorem dX3_weightOfAll_0 : decode cX3_weightOfAll 0 = .ok (.lconst 0, 1) := by decide +kernel
theorem dX3_weightOfAll_1 : decode cX3_weightOfAll 1 = .ok (.lstore_n 2, 1) := by decide +kernel
theorem dX3_weightOfAll_2 : decode cX3_weightOfAll 2 = .ok (.iconst 0, 1) := by decide +kernel
theorem dX3_weightOfAll_3 : decode cX3_weightOfAll 3 = .ok (.istore 4, 2) := by decide +kernel
theorem dX3_weightOfAll_5 : decode cX3_weightOfAll 5 = .ok (.iload 4, 2) := by decide +kernel
theorem dX3_weightOfAll_7 : decode cX3_weightOfAll 7 = .ok (.aload_n 0, 1) := by decide +kernel
theorem dX3_weightOfAll_8 : decode cX3_weightOfAll 8 = .ok (.getfield 22, 3) := by decide +kernel
theorem dX3_weightOfAll_11 : decode cX3_weightOfAll 11 = .ok (.if_icmp .ge 21, 3) := by decide +kernel
theorem dX3_weightOfAll_14 : decode cX3_weightOfAll 14 = .ok (.lload_n 2, 1) := by decide +kernel
theorem dX3_weightOfAll_15 : decode cX3_weightOfAll 15 = .ok (.aload_n 1, 1) := by decide +kernel
theorem dX3_weightOfAll_16 : decode cX3_weightOfAll 16 = .ok (.aload_n 0, 1) := by decide +kernel
theorem dX3_weightOfAll_17 : decode cX3_weightOfAll 17 = .ok (.getfield 19, 3) := by decide +kernel
theorem dX3_weightOfAll_20 : decode cX3_weightOfAll 20 = .ok (.iload 4, 2) := by decide +kernel
theorem dX3_weightOfAll_22 : decode cX3_weightOfAll 22 = .ok (.iaload, 1) := by decide +kernel
theorem dX3_weightOfAll_23 : decode cX3_weightOfAll 23 = .ok (.laload, 1) := by decide +kernel
theorem dX3_weightOfAll_24 : decode cX3_weightOfAll 24 = .ok (.ladd, 1) := by decide +kernel
theorem dX3_weightOfAll_25 : decode cX3_weightOfAll 25 = .ok (.lstore_n 2, 1) := by decide +kernel
theorem dX3_weightOfAll_26 : decode cX3_weightOfAll 26 = .ok (.iinc 4 1, 3) := by decide +kernel
theorem dX3_weightOfAll_29 : decode cX3_weightOfAll 29 = .ok (.goto (-24), 3) := by decide +kernel
theorem dX3_weightOfAll_32 : decode cX3_weightOfAll 32 = .ok (.lload_n 2, 1) := by decide +kernel
theorem dX3_weightOfAll_33 : decode cX3_weightOfAll 33 = .ok (.lreturn, 1) := by decide +kernel
set_option maxRecDepth 20000 in
theorem ggX3_weightOfShared_X3_hasToken : GoodIn wsX3_weightOfShared wsX3_hasToken := goodIn_ca (goodIn_r _ [8, 1, 2, 3, 9, 10, 11, 12, 13, 14, 15, 16] (by decide +kernel) (by decide +kernel)) (goodIn_sub (fun _ h => List.mem_cons_of_mem _ (List.mem_append_right _ h)) (by decide +kernel))
set_option maxRecDepth 20000 in
theorem gX3_weightOfShared_X3_hasToken : GoodIn wsX3_weightOfShared (wsV RX3 39 RX3 yX3_hasToken wsX3_hasToken) := goodIn_app (goodIn_of _ (by decide +kernel)) ggX3_weightOfShared_X3_hasToken
theorem dX3_weightOfShared_0 : decode cX3_weightOfShared 0 = .ok (.lconst 0, 1) := by decide +kernel
theorem dX3_weightOfShared_1 : decode cX3_weightOfShared 1 = .ok (.lstore_n 3, 1) := by decide +kernel
theorem dX3_weightOfShared_2 : decode cX3_weightOfShared 2 = .ok (.iconst 0, 1) := by decide +kernel
theorem dX3_weightOfShared_3 : decode cX3_weightOfShared 3 = .ok (.istore 5, 2) := by decide +kernel
theorem dX3_weightOfShared_5 : decode cX3_weightOfShared 5 = .ok (.iload 5, 2) := by decide +kernel
theorem dX3_weightOfShared_7 : decode cX3_weightOfShared 7 = .ok (.aload_n 0, 1) := by decide +kernel
theorem dX3_weightOfShared_8 : decode cX3_weightOfShared 8 = .ok (.getfield 22, 3) := by decide +kernel
theorem dX3_weightOfShared_11 : decode cX3_weightOfShared 11 = .ok (.if_icmp .ge 42, 3) := by decide +kernel
theorem dX3_weightOfShared_14 : decode cX3_weightOfShared 14 = .ok (.aload_n 1, 1) := by decide +kernel
theorem dX3_weightOfShared_15 : decode cX3_weightOfShared 15 = .ok (.aload_n 0, 1) := by decide +kernel
theorem dX3_weightOfShared_16 : decode cX3_weightOfShared 16 = .ok (.getfield 15, 3) := by decide +kernel
theorem dX3_weightOfShared_19 : decode cX3_weightOfShared 19 = .ok (.iload 5, 2) := by decide +kernel
theorem dX3_weightOfShared_21 : decode cX3_weightOfShared 21 = .ok (.iaload, 1) := by decide +kernel
theorem dX3_weightOfShared_22 : decode cX3_weightOfShared 22 = .ok (.aload_n 0, 1) := by decide +kernel
theorem dX3_weightOfShared_23 : decode cX3_weightOfShared 23 = .ok (.getfield 19, 3) := by decide +kernel
theorem dX3_weightOfShared_26 : decode cX3_weightOfShared 26 = .ok (.iload 5, 2) := by decide +kernel
theorem dX3_weightOfShared_28 : decode cX3_weightOfShared 28 = .ok (.iaload, 1) := by decide +kernel
theorem dX3_weightOfShared_29 : decode cX3_weightOfShared 29 = .ok (.invokevirtual 39, 3) := by decide +kernel
theorem dX3_weightOfShared_32 : decode cX3_weightOfShared 32 = .ok (.ifCond .eq 15, 3) := by decide +kernel
theorem dX3_weightOfShared_35 : decode cX3_weightOfShared 35 = .ok (.lload_n 3, 1) := by decide +kernel
theorem dX3_weightOfShared_36 : decode cX3_weightOfShared 36 = .ok (.aload_n 2, 1) := by decide +kernel
theorem dX3_weightOfShared_37 : decode cX3_weightOfShared 37 = .ok (.aload_n 0, 1) := by decide +kernel
theorem dX3_weightOfShared_38 : decode cX3_weightOfShared 38 = .ok (.getfield 19, 3) := by decide +kernel
theorem dX3_weightOfShared_41 : decode cX3_weightOfShared 41 = .ok (.iload 5, 2) := by decide +kernel
theorem dX3_weightOfShared_43 : decode cX3_weightOfShared 43 = .ok (.iaload, 1) := by decide +kernel
theorem dX3_weightOfShared_44 : decode cX3_weightOfShared 44 = .ok (.laload, 1) := by decide +kernel
theorem dX3_weightOfShared_45 : decode cX3_weightOfShared 45 = .ok (.ladd, 1) := by decide +kernel
theorem dX3_weightOfShared_46 : decode cX3_weightOfShared 46 = .ok (.lstore_n 3, 1) := by decide +kernel
theorem dX3_weightOfShared_47 : decode cX3_weightOfShared 47 = .ok (.iinc 5 1, 3) := by decide +kernel
theorem dX3_weightOfShared_50 : decode cX3_weightOfShared 50 = .ok (.goto (-45), 3) := by decide +kernel
theorem dX3_weightOfShared_53 : decode cX3_weightOfShared 53 = .ok (.lload_n 3, 1) := by decide +kernel
theorem dX3_weightOfShared_54 : decode cX3_weightOfShared 54 = .ok (.lreturn, 1) := by decide +kernel
theorem dX3_bothDated_0 : decode cX3_bothDated 0 = .ok (.aload_n 0, 1) := by decide +kernel
theorem dX3_bothDated_1 : decode cX3_bothDated 1 = .ok (.getfield 26, 3) := by decide +kernel
theorem dX3_bothDated_4 : decode cX3_bothDated 4 = .ok (.ifCond .eq 14, 3) := by decide +kernel
theorem dX3_bothDated_7 : decode cX3_bothDated 7 = .ok (.aload_n 1, 1) := by decide +kernel
theorem dX3_bothDated_8 : decode cX3_bothDated 8 = .ok (.getfield 26, 3) := by decide +kernel
theorem dX3_bothDated_11 : decode cX3_bothDated 11 = .ok (.ifCond .eq 7, 3) := by decide +kernel
theorem dX3_bothDated_14 : decode cX3_bothDated 14 = .ok (.iconst 1, 1) := by decide +kernel
theorem dX3_bothDated_15 : decode cX3_bothDated 15 = .ok (.goto 4, 3) := by decide +kernel
theorem dX3_bothDated_18 : decode cX3_bothDated 18 = .ok (.iconst 0, 1) := by decide +kernel
theorem dX3_bothDated_19 : decode cX3_bothDated 19 = .ok (.ireturn, 1) := by decide +kernel
set_option maxRecDepth 20000 in
theorem ggX3_sharesDay_X3_bothDated : GoodIn wsX3_sharesDay wsX3_bothDated := goodIn_r _ [7, 8, 9, 10, 11, 12, 13, 14, 15, 16] (by decide +kernel) (by decide +kernel)
set_option maxRecDepth 20000 in
theorem gX3_sharesDay_X3_bothDated : GoodIn wsX3_sharesDay (wsV RX3 43 RX3 yX3_bothDated wsX3_bothDated) := goodIn_app (goodIn_of _ (by decide +kernel)) ggX3_sharesDay_X3_bothDated
theorem dX3_sharesDay_0 : decode cX3_sharesDay 0 = .ok (.aload_n 0, 1) := by decide +kernel
theorem dX3_sharesDay_1 : decode cX3_sharesDay 1 = .ok (.aload_n 1, 1) := by decide +kernel
theorem dX3_sharesDay_2 : decode cX3_sharesDay 2 = .ok (.invokevirtual 43, 3) := by decide +kernel
theorem dX3_sharesDay_5 : decode cX3_sharesDay 5 = .ok (.ifCond .eq 31, 3) := by decide +kernel
theorem dX3_sharesDay_8 : decode cX3_sharesDay 8 = .ok (.aload_n 0, 1) := by decide +kernel
theorem dX3_sharesDay_9 : decode cX3_sharesDay 9 = .ok (.getfield 29, 3) := by decide +kernel
theorem dX3_sharesDay_12 : decode cX3_sharesDay 12 = .ok (.aload_n 1, 1) := by decide +kernel
theorem dX3_sharesDay_13 : decode cX3_sharesDay 13 = .ok (.getfield 33, 3) := by decide +kernel
theorem dX3_sharesDay_16 : decode cX3_sharesDay 16 = .ok (.lcmp, 1) := by decide +kernel
theorem dX3_sharesDay_17 : decode cX3_sharesDay 17 = .ok (.ifCond .gt 19, 3) := by decide +kernel
theorem dX3_sharesDay_20 : decode cX3_sharesDay 20 = .ok (.aload_n 1, 1) := by decide +kernel
theorem dX3_sharesDay_21 : decode cX3_sharesDay 21 = .ok (.getfield 29, 3) := by decide +kernel
theorem dX3_sharesDay_24 : decode cX3_sharesDay 24 = .ok (.aload_n 0, 1) := by decide +kernel
theorem dX3_sharesDay_25 : decode cX3_sharesDay 25 = .ok (.getfield 33, 3) := by decide +kernel
theorem dX3_sharesDay_28 : decode cX3_sharesDay 28 = .ok (.lcmp, 1) := by decide +kernel
theorem dX3_sharesDay_29 : decode cX3_sharesDay 29 = .ok (.ifCond .gt 7, 3) := by decide +kernel
theorem dX3_sharesDay_32 : decode cX3_sharesDay 32 = .ok (.iconst 1, 1) := by decide +kernel
theorem dX3_sharesDay_33 : decode cX3_sharesDay 33 = .ok (.goto 4, 3) := by decide +kernel
theorem dX3_sharesDay_36 : decode cX3_sharesDay 36 = .ok (.iconst 0, 1) := by decide +kernel
theorem dX3_sharesDay_37 : decode cX3_sharesDay 37 = .ok (.ireturn, 1) := by decide +kernel
end
section
set_option maxRecDepth 20000 in
theorem ggX4_init_X2_init : GoodIn wsX4_init wsX2_init := goodIn_r _ [22, 23, 2, 3, 24, 25, 26, 27, 28, 7, 29, 30, 31, 32, 33, 34, 47, 48, 49, 50, 51, 52, 53, 54, 55] (by decide +kernel) (by decide +kernel)
set_option maxRecDepth 20000 in
theorem gX4_init_X2_init_n36 : GoodIn wsX4_init (wsX2_init) := ggX4_init_X2_init
set_option maxRecDepth 20000 in
theorem ggX4_init_X0_init : GoodIn wsX4_init wsX0_init := goodIn_r _ [36, 37, 2, 3, 38, 39, 56, 57] (by decide +kernel) (by decide +kernel)
set_option maxRecDepth 20000 in
theorem gX4_init_X0_init_n43 : GoodIn wsX4_init (wsX0_init) := ggX4_init_X0_init
theorem dX4_init_0 : decode cX4_init 0 = .ok (.aload_n 0, 1) := by decide +kernel
theorem dX4_init_1 : decode cX4_init 1 = .ok (.invokespecial 1, 3) := by decide +kernel
theorem dX4_init_4 : decode cX4_init 4 = .ok (.aload_n 0, 1) := by decide +kernel
theorem dX4_init_5 : decode cX4_init 5 = .ok (.bipush 50, 2) := by decide +kernel
theorem dX4_init_7 : decode cX4_init 7 = .ok (.anewarray 9, 3) := by decide +kernel
theorem dX4_init_10 : decode cX4_init 10 = .ok (.putfield 11, 3) := by decide +kernel
theorem dX4_init_13 : decode cX4_init 13 = .ok (.aload_n 0, 1) := by decide +kernel
theorem dX4_init_14 : decode cX4_init 14 = .ok (.iconst 0, 1) := by decide +kernel
theorem dX4_init_15 : decode cX4_init 15 = .ok (.putfield 15, 3) := by decide +kernel
theorem dX4_init_18 : decode cX4_init 18 = .ok (.aload_n 0, 1) := by decide +kernel
theorem dX4_init_19 : decode cX4_init 19 = .ok (.iconst 4, 1) := by decide +kernel
theorem dX4_init_20 : decode cX4_init 20 = .ok (.newarray .long, 2) := by decide +kernel
theorem dX4_init_22 : decode cX4_init 22 = .ok (.dup, 1) := by decide +kernel
theorem dX4_init_23 : decode cX4_init 23 = .ok (.iconst 0, 1) := by decide +kernel
theorem dX4_init_24 : decode cX4_init 24 = .ok (.ldc2_w 19, 3) := by decide +kernel
theorem dX4_init_27 : decode cX4_init 27 = .ok (.lastore, 1) := by decide +kernel
theorem dX4_init_28 : decode cX4_init 28 = .ok (.dup, 1) := by decide +kernel
theorem dX4_init_29 : decode cX4_init 29 = .ok (.iconst 1, 1) := by decide +kernel
theorem dX4_init_30 : decode cX4_init 30 = .ok (.ldc2_w 19, 3) := by decide +kernel
theorem dX4_init_33 : decode cX4_init 33 = .ok (.lastore, 1) := by decide +kernel
theorem dX4_init_34 : decode cX4_init 34 = .ok (.dup, 1) := by decide +kernel
theorem dX4_init_35 : decode cX4_init 35 = .ok (.iconst 2, 1) := by decide +kernel
theorem dX4_init_36 : decode cX4_init 36 = .ok (.ldc2_w 19, 3) := by decide +kernel
theorem dX4_init_39 : decode cX4_init 39 = .ok (.lastore, 1) := by decide +kernel
theorem dX4_init_40 : decode cX4_init 40 = .ok (.dup, 1) := by decide +kernel
theorem dX4_init_41 : decode cX4_init 41 = .ok (.iconst 3, 1) := by decide +kernel
theorem dX4_init_42 : decode cX4_init 42 = .ok (.ldc2_w 19, 3) := by decide +kernel
theorem dX4_init_45 : decode cX4_init 45 = .ok (.lastore, 1) := by decide +kernel
theorem dX4_init_46 : decode cX4_init 46 = .ok (.putfield 21, 3) := by decide +kernel
theorem dX4_init_49 : decode cX4_init 49 = .ok (.aload_n 0, 1) := by decide +kernel
theorem dX4_init_50 : decode cX4_init 50 = .ok (.bipush 100, 2) := by decide +kernel
theorem dX4_init_52 : decode cX4_init 52 = .ok (.anewarray 25, 3) := by decide +kernel
theorem dX4_init_55 : decode cX4_init 55 = .ok (.putfield 27, 3) := by decide +kernel
theorem dX4_init_58 : decode cX4_init 58 = .ok (.aload_n 0, 1) := by decide +kernel
theorem dX4_init_59 : decode cX4_init 59 = .ok (.iconst 0, 1) := by decide +kernel
theorem dX4_init_60 : decode cX4_init 60 = .ok (.putfield 31, 3) := by decide +kernel
theorem dX4_init_63 : decode cX4_init 63 = .ok (.aload_n 0, 1) := by decide +kernel
theorem dX4_init_64 : decode cX4_init 64 = .ok (.new 34, 3) := by decide +kernel
theorem dX4_init_67 : decode cX4_init 67 = .ok (.dup, 1) := by decide +kernel
theorem dX4_init_68 : decode cX4_init 68 = .ok (.invokespecial 36, 3) := by decide +kernel
theorem dX4_init_71 : decode cX4_init 71 = .ok (.putfield 37, 3) := by decide +kernel
theorem dX4_init_74 : decode cX4_init 74 = .ok (.aload_n 0, 1) := by decide +kernel
theorem dX4_init_75 : decode cX4_init 75 = .ok (.new 41, 3) := by decide +kernel
theorem dX4_init_78 : decode cX4_init 78 = .ok (.dup, 1) := by decide +kernel
theorem dX4_init_79 : decode cX4_init 79 = .ok (.invokespecial 43, 3) := by decide +kernel
theorem dX4_init_82 : decode cX4_init 82 = .ok (.putfield 44, 3) := by decide +kernel
theorem dX4_init_85 : decode cX4_init 85 = .ok (.return_, 1) := by decide +kernel
set_option maxRecDepth 20000 in
theorem ggX4_name_X4_isSide : GoodIn wsX4_name wsX4_isSide := goodIn_r _ [9] (by decide +kernel) (by decide +kernel)
set_option maxRecDepth 20000 in
theorem gX4_name_X4_isSide : GoodIn wsX4_name (va_wsS RX4 48 yX4_isSide wsX4_isSide) := goodIn_app (goodIn_of _ (by decide +kernel)) ggX4_name_X4_isSide
set_option maxRecDepth 20000 in
theorem ggX4_name_X3_init : GoodIn wsX4_name wsX3_init := goodIn_r _ [12, 13, 14, 15, 16, 17, 18, 19, 20, 21, 22, 23, 24, 32, 33, 34, 35, 36, 37, 38, 39] (by decide +kernel) (by decide +kernel)
set_option maxRecDepth 20000 in
theorem gX4_name_X3_init : GoodIn wsX4_name (wsX3_init) := ggX4_name_X3_init
theorem dX4_name_0 : decode cX4_name 0 = .ok (.iload_n 1, 1) := by decide +kernel
theorem dX4_name_1 : decode cX4_name 1 = .ok (.invokestatic 48, 3) := by decide +kernel
theorem dX4_name_4 : decode cX4_name 4 = .ok (.ifCond .eq 12, 3) := by decide +kernel
theorem dX4_name_7 : decode cX4_name 7 = .ok (.aload_n 0, 1) := by decide +kernel
theorem dX4_name_8 : decode cX4_name 8 = .ok (.getfield 15, 3) := by decide +kernel
theorem dX4_name_11 : decode cX4_name 11 = .ok (.bipush 50, 2) := by decide +kernel
theorem dX4_name_13 : decode cX4_name 13 = .ok (.if_icmp .lt 5, 3) := by decide +kernel
theorem dX4_name_16 : decode cX4_name 16 = .ok (.iconst 0, 1) := by decide +kernel
theorem dX4_name_17 : decode cX4_name 17 = .ok (.ireturn, 1) := by decide +kernel
theorem dX4_name_18 : decode cX4_name 18 = .ok (.aload_n 0, 1) := by decide +kernel
theorem dX4_name_19 : decode cX4_name 19 = .ok (.getfield 11, 3) := by decide +kernel
theorem dX4_name_22 : decode cX4_name 22 = .ok (.aload_n 0, 1) := by decide +kernel
theorem dX4_name_23 : decode cX4_name 23 = .ok (.getfield 15, 3) := by decide +kernel
theorem dX4_name_26 : decode cX4_name 26 = .ok (.new 9, 3) := by decide +kernel
theorem dX4_name_29 : decode cX4_name 29 = .ok (.dup, 1) := by decide +kernel
theorem dX4_name_30 : decode cX4_name 30 = .ok (.iload_n 1, 1) := by decide +kernel
theorem dX4_name_31 : decode cX4_name 31 = .ok (.invokespecial 52, 3) := by decide +kernel
theorem dX4_name_34 : decode cX4_name 34 = .ok (.aastore, 1) := by decide +kernel
theorem dX4_name_35 : decode cX4_name 35 = .ok (.aload_n 0, 1) := by decide +kernel
theorem dX4_name_36 : decode cX4_name 36 = .ok (.dup, 1) := by decide +kernel
theorem dX4_name_37 : decode cX4_name 37 = .ok (.getfield 15, 3) := by decide +kernel
theorem dX4_name_40 : decode cX4_name 40 = .ok (.iconst 1, 1) := by decide +kernel
theorem dX4_name_41 : decode cX4_name 41 = .ok (.iadd, 1) := by decide +kernel
theorem dX4_name_42 : decode cX4_name 42 = .ok (.putfield 15, 3) := by decide +kernel
theorem dX4_name_45 : decode cX4_name 45 = .ok (.aload_n 0, 1) := by decide +kernel
theorem dX4_name_46 : decode cX4_name 46 = .ok (.getfield 15, 3) := by decide +kernel
theorem dX4_name_49 : decode cX4_name 49 = .ok (.ireturn, 1) := by decide +kernel
set_option maxRecDepth 20000 in
theorem ggX4_token_X4_find : GoodIn wsX4_token wsX4_find := goodIn_r _ [5, 6, 7, 20, 21, 22, 23, 24, 25, 26] (by decide +kernel) (by decide +kernel)
set_option maxRecDepth 20000 in
theorem gX4_token_X4_find : GoodIn wsX4_token (wsV RX4 55 RX4 yX4_find wsX4_find) := goodIn_app (goodIn_of _ (by decide +kernel)) ggX4_token_X4_find
set_option maxRecDepth 20000 in
theorem ggX4_token_X3_addToken : GoodIn wsX4_token wsX3_addToken := goodIn_ca (goodIn_r _ [12, 13, 14, 15, 16, 17, 18, 11, 19, 27, 28, 29, 30, 31, 32, 33, 34] (by decide +kernel) (by decide +kernel)) (goodIn_sub (fun _ h => List.mem_cons_of_mem _ (List.mem_append_right _ h)) (by decide +kernel))
set_option maxRecDepth 20000 in
theorem gX4_token_X3_addToken : GoodIn wsX4_token (wsV RX4 59 RX3 yX3_addToken wsX3_addToken) := goodIn_app (goodIn_of _ (by decide +kernel)) ggX4_token_X3_addToken
theorem dX4_token_0 : decode cX4_token 0 = .ok (.aload_n 0, 1) := by decide +kernel
theorem dX4_token_1 : decode cX4_token 1 = .ok (.iload_n 1, 1) := by decide +kernel
theorem dX4_token_2 : decode cX4_token 2 = .ok (.invokevirtual 55, 3) := by decide +kernel
theorem dX4_token_5 : decode cX4_token 5 = .ok (.astore 4, 2) := by decide +kernel
theorem dX4_token_7 : decode cX4_token 7 = .ok (.aload 4, 2) := by decide +kernel
theorem dX4_token_9 : decode cX4_token 9 = .ok (.ifnull 12, 3) := by decide +kernel
theorem dX4_token_12 : decode cX4_token 12 = .ok (.iload_n 3, 1) := by decide +kernel
theorem dX4_token_13 : decode cX4_token 13 = .ok (.ifCond .lt 8, 3) := by decide +kernel
theorem dX4_token_16 : decode cX4_token 16 = .ok (.iload_n 3, 1) := by decide +kernel
theorem dX4_token_17 : decode cX4_token 17 = .ok (.iconst 3, 1) := by decide +kernel
theorem dX4_token_18 : decode cX4_token 18 = .ok (.if_icmp .lt 4, 3) := by decide +kernel
theorem dX4_token_21 : decode cX4_token 21 = .ok (.return_, 1) := by decide +kernel
theorem dX4_token_22 : decode cX4_token 22 = .ok (.aload 4, 2) := by decide +kernel
theorem dX4_token_24 : decode cX4_token 24 = .ok (.iload_n 2, 1) := by decide +kernel
theorem dX4_token_25 : decode cX4_token 25 = .ok (.iload_n 3, 1) := by decide +kernel
theorem dX4_token_26 : decode cX4_token 26 = .ok (.invokevirtual 59, 3) := by decide +kernel
theorem dX4_token_29 : decode cX4_token 29 = .ok (.return_, 1) := by decide +kernel
set_option maxRecDepth 20000 in
theorem ggX4_date_X4_find : GoodIn wsX4_date wsX4_find := goodIn_r _ [5, 6, 7, 16, 17, 18, 19, 20, 21, 22] (by decide +kernel) (by decide +kernel)
set_option maxRecDepth 20000 in
theorem gX4_date_X4_find : GoodIn wsX4_date (wsV RX4 55 RX4 yX4_find wsX4_find) := goodIn_app (goodIn_of _ (by decide +kernel)) ggX4_date_X4_find
set_option maxRecDepth 20000 in
theorem ggX4_date_X3_setDates : GoodIn wsX4_date wsX3_setDates := goodIn_r _ [12, 13, 14, 15, 23, 24, 25, 26, 27, 28, 29, 30] (by decide +kernel) (by decide +kernel)
set_option maxRecDepth 20000 in
theorem gX4_date_X3_setDates : GoodIn wsX4_date (wsV RX4 63 RX3 yX3_setDates wsX3_setDates) := goodIn_app (goodIn_of _ (by decide +kernel)) ggX4_date_X3_setDates
theorem dX4_date_0 : decode cX4_date 0 = .ok (.aload_n 0, 1) := by decide +kernel
theorem dX4_date_1 : decode cX4_date 1 = .ok (.iload_n 1, 1) := by decide +kernel
theorem dX4_date_2 : decode cX4_date 2 = .ok (.invokevirtual 55, 3) := by decide +kernel
theorem dX4_date_5 : decode cX4_date 5 = .ok (.astore 6, 2) := by decide +kernel
theorem dX4_date_7 : decode cX4_date 7 = .ok (.aload 6, 2) := by decide +kernel
theorem dX4_date_9 : decode cX4_date 9 = .ok (.ifnull 10, 3) := by decide +kernel
theorem dX4_date_12 : decode cX4_date 12 = .ok (.lload 4, 2) := by decide +kernel
theorem dX4_date_14 : decode cX4_date 14 = .ok (.lload_n 2, 1) := by decide +kernel
theorem dX4_date_15 : decode cX4_date 15 = .ok (.lcmp, 1) := by decide +kernel
theorem dX4_date_16 : decode cX4_date 16 = .ok (.ifCond .ge 4, 3) := by decide +kernel
theorem dX4_date_19 : decode cX4_date 19 = .ok (.return_, 1) := by decide +kernel
theorem dX4_date_20 : decode cX4_date 20 = .ok (.aload 6, 2) := by decide +kernel
theorem dX4_date_22 : decode cX4_date 22 = .ok (.lload_n 2, 1) := by decide +kernel
theorem dX4_date_23 : decode cX4_date 23 = .ok (.lload 4, 2) := by decide +kernel
theorem dX4_date_25 : decode cX4_date 25 = .ok (.invokevirtual 63, 3) := by decide +kernel
theorem dX4_date_28 : decode cX4_date 28 = .ok (.return_, 1) := by decide +kernel
theorem dX4_weight_0 : decode cX4_weight 0 = .ok (.iload_n 1, 1) := by decide +kernel
theorem dX4_weight_1 : decode cX4_weight 1 = .ok (.ifCond .lt 38, 3) := by decide +kernel
theorem dX4_weight_4 : decode cX4_weight 4 = .ok (.iload_n 1, 1) := by decide +kernel
theorem dX4_weight_5 : decode cX4_weight 5 = .ok (.iconst 4, 1) := by decide +kernel
theorem dX4_weight_6 : decode cX4_weight 6 = .ok (.if_icmp .ge 33, 3) := by decide +kernel
theorem dX4_weight_9 : decode cX4_weight 9 = .ok (.lload_n 2, 1) := by decide +kernel
theorem dX4_weight_10 : decode cX4_weight 10 = .ok (.lconst 0, 1) := by decide +kernel
theorem dX4_weight_11 : decode cX4_weight 11 = .ok (.lcmp, 1) := by decide +kernel
theorem dX4_weight_12 : decode cX4_weight 12 = .ok (.ifCond .lt 27, 3) := by decide +kernel
theorem dX4_weight_15 : decode cX4_weight 15 = .ok (.lload_n 2, 1) := by decide +kernel
theorem dX4_weight_16 : decode cX4_weight 16 = .ok (.ldc2_w 67, 3) := by decide +kernel
theorem dX4_weight_19 : decode cX4_weight 19 = .ok (.lcmp, 1) := by decide +kernel
theorem dX4_weight_20 : decode cX4_weight 20 = .ok (.ifCond .gt 19, 3) := by decide +kernel
theorem dX4_weight_23 : decode cX4_weight 23 = .ok (.lload 4, 2) := by decide +kernel
theorem dX4_weight_25 : decode cX4_weight 25 = .ok (.lconst 1, 1) := by decide +kernel
theorem dX4_weight_26 : decode cX4_weight 26 = .ok (.lcmp, 1) := by decide +kernel
theorem dX4_weight_27 : decode cX4_weight 27 = .ok (.ifCond .lt 12, 3) := by decide +kernel
theorem dX4_weight_30 : decode cX4_weight 30 = .ok (.lload 4, 2) := by decide +kernel
theorem dX4_weight_32 : decode cX4_weight 32 = .ok (.ldc2_w 69, 3) := by decide +kernel
theorem dX4_weight_35 : decode cX4_weight 35 = .ok (.lcmp, 1) := by decide +kernel
theorem dX4_weight_36 : decode cX4_weight 36 = .ok (.ifCond .le 5, 3) := by decide +kernel
theorem dX4_weight_39 : decode cX4_weight 39 = .ok (.iconst 0, 1) := by decide +kernel
theorem dX4_weight_40 : decode cX4_weight 40 = .ok (.ireturn, 1) := by decide +kernel
theorem dX4_weight_41 : decode cX4_weight 41 = .ok (.aload_n 0, 1) := by decide +kernel
theorem dX4_weight_42 : decode cX4_weight 42 = .ok (.getfield 21, 3) := by decide +kernel
theorem dX4_weight_45 : decode cX4_weight 45 = .ok (.iload_n 1, 1) := by decide +kernel
theorem dX4_weight_46 : decode cX4_weight 46 = .ok (.lload_n 2, 1) := by decide +kernel
theorem dX4_weight_47 : decode cX4_weight 47 = .ok (.ldc2_w 19, 3) := by decide +kernel
theorem dX4_weight_50 : decode cX4_weight 50 = .ok (.lload 4, 2) := by decide +kernel
theorem dX4_weight_52 : decode cX4_weight 52 = .ok (.ldiv, 1) := by decide +kernel
theorem dX4_weight_53 : decode cX4_weight 53 = .ok (.lmul, 1) := by decide +kernel
theorem dX4_weight_54 : decode cX4_weight 54 = .ok (.lastore, 1) := by decide +kernel
theorem dX4_weight_55 : decode cX4_weight 55 = .ok (.iconst 1, 1) := by decide +kernel
theorem dX4_weight_56 : decode cX4_weight 56 = .ok (.ireturn, 1) := by decide +kernel
set_option maxRecDepth 20000 in
theorem ggX4_run_X2_begin : GoodIn wsX4_run wsX2_begin := goodIn_ca (goodIn_r _ [7, 8, 9, 10, 116, 117, 118, 119, 120, 121, 122, 123, 124] (by decide +kernel) (by decide +kernel)) (goodIn_sub (fun _ h => List.mem_cons_of_mem _ (List.mem_append_right _ h)) (by decide +kernel))
set_option maxRecDepth 20000 in
theorem gX4_run_X2_begin : GoodIn wsX4_run (wsV RX4 71 RX2 yX2_begin wsX2_begin) := goodIn_app (goodIn_of _ (by decide +kernel)) ggX4_run_X2_begin
set_option maxRecDepth 20000 in
theorem ggX4_run_X4_find : GoodIn wsX4_run wsX4_find := goodIn_r _ [15, 2, 16, 109, 110, 111, 112, 113, 114, 115] (by decide +kernel) (by decide +kernel)
set_option maxRecDepth 20000 in
theorem gX4_run_X4_find : GoodIn wsX4_run (wsV RX4 55 RX4 yX4_find wsX4_find) := goodIn_app (goodIn_of _ (by decide +kernel)) ggX4_run_X4_find
set_option maxRecDepth 20000 in
theorem ggX4_run_X3_mayPair : GoodIn wsX4_run wsX3_mayPair := goodIn_r _ [21, 22, 23, 24, 125, 126, 127, 128, 129, 130, 131, 132] (by decide +kernel) (by decide +kernel)
set_option maxRecDepth 20000 in
theorem gX4_run_X3_mayPair : GoodIn wsX4_run (wsV RX4 74 RX3 yX3_mayPair wsX3_mayPair) := goodIn_app (goodIn_of _ (by decide +kernel)) ggX4_run_X3_mayPair
set_option maxRecDepth 20000 in
theorem ggX4_run_X4_listPairsOf : GoodIn wsX4_run wsX4_listPairsOf := goodIn_ca (goodIn_r _ [28, 2, 29, 30, 1, 11, 12, 13, 14, 15, 16, 17, 18, 19, 20, 21, 22, 23, 24, 31, 32, 33, 34, 35, 36, 37, 38, 39, 40, 41, 42, 43, 44, 45, 46, 47, 48, 49, 50, 51, 52, 53, 54, 55, 56, 57, 58, 59, 60, 61, 62, 63, 64, 65, 66, 67, 68, 69, 70, 71, 72, 73, 74, 75, 6, 76, 9, 77, 78, 79, 80, 81, 82, 83, 10, 109, 110, 111, 112, 113, 114, 115, 125, 126, 127, 128, 129, 130, 131, 132, 133, 134, 116, 117, 118, 119, 120, 121, 122, 123, 124] (by decide +kernel) (by decide +kernel)) (goodIn_sub (fun _ h => List.mem_cons_of_mem _ (List.mem_append_right _ h)) (by decide +kernel))
set_option maxRecDepth 20000 in
theorem gX4_run_X4_listPairsOf : GoodIn wsX4_run (wsV RX4 77 RX4 yX4_listPairsOf wsX4_listPairsOf) := goodIn_app (goodIn_of _ (by decide +kernel)) ggX4_run_X4_listPairsOf
set_option maxRecDepth 20000 in
theorem ggX4_run_X2_sort : GoodIn wsX4_run wsX2_sort := goodIn_ca (goodIn_r _ [87, 9, 88, 89, 90, 91, 92, 83, 93, 94, 95, 96, 97, 98, 99, 6, 100, 101, 102, 103, 104, 79, 81, 116, 117, 118, 119, 120, 121, 122, 123, 124] (by decide +kernel) (by decide +kernel)) (goodIn_sub (fun _ h => List.mem_cons_of_mem _ (List.mem_append_right _ h)) (by decide +kernel))
set_option maxRecDepth 20000 in
theorem gX4_run_X2_sort : GoodIn wsX4_run (wsV RX4 81 RX2 yX2_sort wsX2_sort) := goodIn_app (goodIn_of _ (by decide +kernel)) ggX4_run_X2_sort
set_option maxRecDepth 20000 in
theorem ggX4_run_X2_size : GoodIn wsX4_run wsX2_size := goodIn_r _ [108, 9, 116, 117, 118, 119, 120, 121, 122, 123, 124] (by decide +kernel) (by decide +kernel)
set_option maxRecDepth 20000 in
theorem gX4_run_X2_size : GoodIn wsX4_run (wsV RX4 84 RX2 yX2_size wsX2_size) := goodIn_app (goodIn_of _ (by decide +kernel)) ggX4_run_X2_size
theorem dX4_run_0 : decode cX4_run 0 = .ok (.aload_n 0, 1) := by decide +kernel
theorem dX4_run_1 : decode cX4_run 1 = .ok (.getfield 37, 3) := by decide +kernel
theorem dX4_run_4 : decode cX4_run 4 = .ok (.invokevirtual 71, 3) := by decide +kernel
theorem dX4_run_7 : decode cX4_run 7 = .ok (.iconst 1, 1) := by decide +kernel
theorem dX4_run_8 : decode cX4_run 8 = .ok (.istore_n 1, 1) := by decide +kernel
theorem dX4_run_9 : decode cX4_run 9 = .ok (.iload_n 1, 1) := by decide +kernel
theorem dX4_run_10 : decode cX4_run 10 = .ok (.aload_n 0, 1) := by decide +kernel
theorem dX4_run_11 : decode cX4_run 11 = .ok (.getfield 15, 3) := by decide +kernel
theorem dX4_run_14 : decode cX4_run 14 = .ok (.if_icmp .gt 33, 3) := by decide +kernel
theorem dX4_run_17 : decode cX4_run 17 = .ok (.aload_n 0, 1) := by decide +kernel
theorem dX4_run_18 : decode cX4_run 18 = .ok (.iload_n 1, 1) := by decide +kernel
theorem dX4_run_19 : decode cX4_run 19 = .ok (.invokevirtual 55, 3) := by decide +kernel
theorem dX4_run_22 : decode cX4_run 22 = .ok (.astore_n 2, 1) := by decide +kernel
theorem dX4_run_23 : decode cX4_run 23 = .ok (.aload_n 2, 1) := by decide +kernel
theorem dX4_run_24 : decode cX4_run 24 = .ok (.ifnull 17, 3) := by decide +kernel
theorem dX4_run_27 : decode cX4_run 27 = .ok (.aload_n 2, 1) := by decide +kernel
theorem dX4_run_28 : decode cX4_run 28 = .ok (.iconst 0, 1) := by decide +kernel
theorem dX4_run_29 : decode cX4_run 29 = .ok (.invokevirtual 74, 3) := by decide +kernel
theorem dX4_run_32 : decode cX4_run 32 = .ok (.ifCond .eq 9, 3) := by decide +kernel
theorem dX4_run_35 : decode cX4_run 35 = .ok (.aload_n 0, 1) := by decide +kernel
theorem dX4_run_36 : decode cX4_run 36 = .ok (.iload_n 1, 1) := by decide +kernel
theorem dX4_run_37 : decode cX4_run 37 = .ok (.aload_n 2, 1) := by decide +kernel
theorem dX4_run_38 : decode cX4_run 38 = .ok (.invokevirtual 77, 3) := by decide +kernel
theorem dX4_run_41 : decode cX4_run 41 = .ok (.iinc 1 1, 3) := by decide +kernel
theorem dX4_run_44 : decode cX4_run 44 = .ok (.goto (-35), 3) := by decide +kernel
theorem dX4_run_47 : decode cX4_run 47 = .ok (.aload_n 0, 1) := by decide +kernel
theorem dX4_run_48 : decode cX4_run 48 = .ok (.getfield 37, 3) := by decide +kernel
theorem dX4_run_51 : decode cX4_run 51 = .ok (.invokevirtual 81, 3) := by decide +kernel
theorem dX4_run_54 : decode cX4_run 54 = .ok (.aload_n 0, 1) := by decide +kernel
theorem dX4_run_55 : decode cX4_run 55 = .ok (.getfield 37, 3) := by decide +kernel
theorem dX4_run_58 : decode cX4_run 58 = .ok (.invokevirtual 84, 3) := by decide +kernel
theorem dX4_run_61 : decode cX4_run 61 = .ok (.ireturn, 1) := by decide +kernel
set_option maxRecDepth 20000 in
theorem ggX4_pair_X2_holds : GoodIn wsX4_pair wsX2_holds := goodIn_r _ [6, 7, 26, 27, 28, 29, 30, 31, 32, 33, 34] (by decide +kernel) (by decide +kernel)
set_option maxRecDepth 20000 in
theorem gX4_pair_X2_holds : GoodIn wsX4_pair (wsV RX4 88 RX2 yX2_holds wsX2_holds) := goodIn_app (goodIn_of _ (by decide +kernel)) ggX4_pair_X2_holds
set_option maxRecDepth 20000 in
theorem ggX4_pair_X4_isSide : GoodIn wsX4_pair wsX4_isSide := goodIn_r _ [11] (by decide +kernel) (by decide +kernel)
set_option maxRecDepth 20000 in
theorem gX4_pair_X4_isSide : GoodIn wsX4_pair (va_wsS RX4 48 yX4_isSide wsX4_isSide) := goodIn_app (goodIn_of _ (by decide +kernel)) ggX4_pair_X4_isSide
set_option maxRecDepth 20000 in
theorem ggX4_pair_X2_nameAt : GoodIn wsX4_pair wsX2_nameAt := goodIn_ca (goodIn_r _ [15, 16, 17, 18, 26, 27, 28, 29, 30, 31, 32, 33, 34] (by decide +kernel) (by decide +kernel)) (goodIn_sub (fun _ h => List.mem_cons_of_mem _ (List.mem_append_right _ h)) (by decide +kernel))
set_option maxRecDepth 20000 in
theorem gX4_pair_X2_nameAt : GoodIn wsX4_pair (wsV RX4 91 RX2 yX2_nameAt wsX2_nameAt) := goodIn_app (goodIn_of _ (by decide +kernel)) ggX4_pair_X2_nameAt
theorem dX4_pair_0 : decode cX4_pair 0 = .ok (.aload_n 0, 1) := by decide +kernel
theorem dX4_pair_1 : decode cX4_pair 1 = .ok (.getfield 37, 3) := by decide +kernel
theorem dX4_pair_4 : decode cX4_pair 4 = .ok (.iload_n 1, 1) := by decide +kernel
theorem dX4_pair_5 : decode cX4_pair 5 = .ok (.invokevirtual 88, 3) := by decide +kernel
theorem dX4_pair_8 : decode cX4_pair 8 = .ok (.ifCond .eq 10, 3) := by decide +kernel
theorem dX4_pair_11 : decode cX4_pair 11 = .ok (.iload_n 2, 1) := by decide +kernel
theorem dX4_pair_12 : decode cX4_pair 12 = .ok (.invokestatic 48, 3) := by decide +kernel
theorem dX4_pair_15 : decode cX4_pair 15 = .ok (.ifCond .ne 5, 3) := by decide +kernel
theorem dX4_pair_18 : decode cX4_pair 18 = .ok (.iconst 0, 1) := by decide +kernel
theorem dX4_pair_19 : decode cX4_pair 19 = .ok (.ireturn, 1) := by decide +kernel
theorem dX4_pair_20 : decode cX4_pair 20 = .ok (.aload_n 0, 1) := by decide +kernel
theorem dX4_pair_21 : decode cX4_pair 21 = .ok (.getfield 37, 3) := by decide +kernel
theorem dX4_pair_24 : decode cX4_pair 24 = .ok (.iload_n 1, 1) := by decide +kernel
theorem dX4_pair_25 : decode cX4_pair 25 = .ok (.iload_n 2, 1) := by decide +kernel
theorem dX4_pair_26 : decode cX4_pair 26 = .ok (.invokevirtual 91, 3) := by decide +kernel
theorem dX4_pair_29 : decode cX4_pair 29 = .ok (.ireturn, 1) := by decide +kernel
set_option maxRecDepth 20000 in
theorem ggX4_score_X2_holds : GoodIn wsX4_score wsX2_holds := goodIn_r _ [13, 14, 84, 85, 86, 87, 88, 89, 90, 91, 92] (by decide +kernel) (by decide +kernel)
set_option maxRecDepth 20000 in
theorem gX4_score_X2_holds : GoodIn wsX4_score (wsV RX4 88 RX2 yX2_holds wsX2_holds) := goodIn_app (goodIn_of _ (by decide +kernel)) ggX4_score_X2_holds
set_option maxRecDepth 20000 in
theorem ggX4_score_X2_nameAt : GoodIn wsX4_score wsX2_nameAt := goodIn_ca (goodIn_r _ [18, 19, 20, 21, 84, 85, 86, 87, 88, 89, 90, 91, 92] (by decide +kernel) (by decide +kernel)) (goodIn_sub (fun _ h => List.mem_cons_of_mem _ (List.mem_append_left _ (List.mem_append_right _ h))) (by decide +kernel))
set_option maxRecDepth 20000 in
theorem gX4_score_X2_nameAt : GoodIn wsX4_score (wsV RX4 91 RX2 yX2_nameAt wsX2_nameAt) := goodIn_app (goodIn_of _ (by decide +kernel)) ggX4_score_X2_nameAt
set_option maxRecDepth 20000 in
theorem ggX4_score_X4_find : GoodIn wsX4_score wsX4_find := goodIn_r _ [26, 27, 28, 75, 76, 77, 78, 79, 80, 81] (by decide +kernel) (by decide +kernel)
set_option maxRecDepth 20000 in
theorem gX4_score_X4_find : GoodIn wsX4_score (wsV RX4 55 RX4 yX4_find wsX4_find) := goodIn_app (goodIn_of _ (by decide +kernel)) ggX4_score_X4_find
set_option maxRecDepth 20000 in
theorem ggX4_score_X0_measure : GoodIn wsX4_score wsX0_measure := goodIn_ca (goodIn_r _ [33, 34, 35, 36, 37, 38, 39, 40, 41, 42, 43, 44, 45, 46, 47, 48, 49, 50, 51, 52, 53, 54, 55, 56, 57, 58, 59, 60, 61, 62, 63, 82, 83, 93, 94, 95, 96, 97, 98, 99, 100] (by decide +kernel) (by decide +kernel)) (goodIn_sub (fun _ h => List.mem_cons_of_mem _ (List.mem_append_left _ (List.mem_append_right _ h))) (by decide +kernel))
set_option maxRecDepth 20000 in
theorem gX4_score_X0_measure : GoodIn wsX4_score (wsV RX4 97 RX0 yX0_measure wsX0_measure) := goodIn_app (goodIn_of _ (by decide +kernel)) ggX4_score_X0_measure
set_option maxRecDepth 20000 in
theorem ggX4_score_X0_exists : GoodIn wsX4_score wsX0_exists := goodIn_r _ [67, 35, 82, 83] (by decide +kernel) (by decide +kernel)
set_option maxRecDepth 20000 in
theorem gX4_score_X0_exists : GoodIn wsX4_score (wsV RX4 101 RX0 yX0_exists wsX0_exists) := goodIn_app (goodIn_of _ (by decide +kernel)) ggX4_score_X0_exists
set_option maxRecDepth 20000 in
theorem ggX4_score_X0_reduce : GoodIn wsX4_score wsX0_reduce := goodIn_ca (goodIn_r _ [71, 34, 35, 72, 73, 32, 74, 82, 83] (by decide +kernel) (by decide +kernel)) (goodIn_sub (fun _ h => List.mem_cons_of_mem _ (List.mem_append_right _ h)) (by decide +kernel))
set_option maxRecDepth 20000 in
theorem gX4_score_X0_reduce : GoodIn wsX4_score (wsV RX4 112 RX0 yX0_reduce wsX0_reduce) := goodIn_app (goodIn_of _ (by decide +kernel)) ggX4_score_X0_reduce
theorem dX4_score_0 : decode cX4_score 0 = .ok (.aload_n 0, 1) := by decide +kernel
theorem dX4_score_1 : decode cX4_score 1 = .ok (.getfield 37, 3) := by decide +kernel
theorem dX4_score_4 : decode cX4_score 4 = .ok (.iload_n 1, 1) := by decide +kernel
theorem dX4_score_5 : decode cX4_score 5 = .ok (.invokevirtual 88, 3) := by decide +kernel
theorem dX4_score_8 : decode cX4_score 8 = .ok (.ifCond .ne 7, 3) := by decide +kernel
theorem dX4_score_11 : decode cX4_score 11 = .ok (.ldc2_w 95, 3) := by decide +kernel
theorem dX4_score_14 : decode cX4_score 14 = .ok (.lreturn, 1) := by decide +kernel
theorem dX4_score_15 : decode cX4_score 15 = .ok (.aload_n 0, 1) := by decide +kernel
theorem dX4_score_16 : decode cX4_score 16 = .ok (.aload_n 0, 1) := by decide +kernel
theorem dX4_score_17 : decode cX4_score 17 = .ok (.getfield 37, 3) := by decide +kernel
theorem dX4_score_20 : decode cX4_score 20 = .ok (.iload_n 1, 1) := by decide +kernel
theorem dX4_score_21 : decode cX4_score 21 = .ok (.iconst 0, 1) := by decide +kernel
theorem dX4_score_22 : decode cX4_score 22 = .ok (.invokevirtual 91, 3) := by decide +kernel
theorem dX4_score_25 : decode cX4_score 25 = .ok (.invokevirtual 55, 3) := by decide +kernel
theorem dX4_score_28 : decode cX4_score 28 = .ok (.astore_n 3, 1) := by decide +kernel
theorem dX4_score_29 : decode cX4_score 29 = .ok (.aload_n 0, 1) := by decide +kernel
theorem dX4_score_30 : decode cX4_score 30 = .ok (.aload_n 0, 1) := by decide +kernel
theorem dX4_score_31 : decode cX4_score 31 = .ok (.getfield 37, 3) := by decide +kernel
theorem dX4_score_34 : decode cX4_score 34 = .ok (.iload_n 1, 1) := by decide +kernel
theorem dX4_score_35 : decode cX4_score 35 = .ok (.iconst 1, 1) := by decide +kernel
theorem dX4_score_36 : decode cX4_score 36 = .ok (.invokevirtual 91, 3) := by decide +kernel
theorem dX4_score_39 : decode cX4_score 39 = .ok (.invokevirtual 55, 3) := by decide +kernel
theorem dX4_score_42 : decode cX4_score 42 = .ok (.astore 4, 2) := by decide +kernel
theorem dX4_score_44 : decode cX4_score 44 = .ok (.aload_n 3, 1) := by decide +kernel
theorem dX4_score_45 : decode cX4_score 45 = .ok (.ifnull 8, 3) := by decide +kernel
theorem dX4_score_48 : decode cX4_score 48 = .ok (.aload 4, 2) := by decide +kernel
theorem dX4_score_50 : decode cX4_score 50 = .ok (.ifnonnull 7, 3) := by decide +kernel
theorem dX4_score_53 : decode cX4_score 53 = .ok (.ldc2_w 95, 3) := by decide +kernel
theorem dX4_score_56 : decode cX4_score 56 = .ok (.lreturn, 1) := by decide +kernel
theorem dX4_score_57 : decode cX4_score 57 = .ok (.aload_n 0, 1) := by decide +kernel
theorem dX4_score_58 : decode cX4_score 58 = .ok (.getfield 44, 3) := by decide +kernel
theorem dX4_score_61 : decode cX4_score 61 = .ok (.aload_n 3, 1) := by decide +kernel
theorem dX4_score_62 : decode cX4_score 62 = .ok (.aload 4, 2) := by decide +kernel
theorem dX4_score_64 : decode cX4_score 64 = .ok (.aload_n 0, 1) := by decide +kernel
theorem dX4_score_65 : decode cX4_score 65 = .ok (.getfield 21, 3) := by decide +kernel
theorem dX4_score_68 : decode cX4_score 68 = .ok (.invokevirtual 97, 3) := by decide +kernel
theorem dX4_score_71 : decode cX4_score 71 = .ok (.aload_n 0, 1) := by decide +kernel
theorem dX4_score_72 : decode cX4_score 72 = .ok (.getfield 44, 3) := by decide +kernel
theorem dX4_score_75 : decode cX4_score 75 = .ok (.invokevirtual 101, 3) := by decide +kernel
theorem dX4_score_78 : decode cX4_score 78 = .ok (.ifCond .ne 13, 3) := by decide +kernel
theorem dX4_score_81 : decode cX4_score 81 = .ok (.new 105, 3) := by decide +kernel
theorem dX4_score_84 : decode cX4_score 84 = .ok (.dup, 1) := by decide +kernel
theorem dX4_score_85 : decode cX4_score 85 = .ok (.ldc 107, 2) := by decide +kernel
theorem dX4_score_87 : decode cX4_score 87 = .ok (.invokespecial 109, 3) := by decide +kernel
theorem dX4_score_90 : decode cX4_score 90 = .ok (.athrow, 1) := by decide +kernel
theorem dX4_score_91 : decode cX4_score 91 = .ok (.aload_n 0, 1) := by decide +kernel
theorem dX4_score_92 : decode cX4_score 92 = .ok (.getfield 44, 3) := by decide +kernel
theorem dX4_score_95 : decode cX4_score 95 = .ok (.invokevirtual 112, 3) := by decide +kernel
theorem dX4_score_98 : decode cX4_score 98 = .ok (.iload_n 2, 1) := by decide +kernel
theorem dX4_score_99 : decode cX4_score 99 = .ok (.ifCond .ne 13, 3) := by decide +kernel
theorem dX4_score_102 : decode cX4_score 102 = .ok (.aload_n 0, 1) := by decide +kernel
theorem dX4_score_103 : decode cX4_score 103 = .ok (.getfield 44, 3) := by decide +kernel
theorem dX4_score_106 : decode cX4_score 106 = .ok (.getfield 115, 3) := by decide +kernel
theorem dX4_score_109 : decode cX4_score 109 = .ok (.goto 10, 3) := by decide +kernel
theorem dX4_score_112 : decode cX4_score 112 = .ok (.aload_n 0, 1) := by decide +kernel
theorem dX4_score_113 : decode cX4_score 113 = .ok (.getfield 44, 3) := by decide +kernel
theorem dX4_score_116 : decode cX4_score 116 = .ok (.getfield 119, 3) := by decide +kernel
theorem dX4_score_119 : decode cX4_score 119 = .ok (.lreturn, 1) := by decide +kernel
set_option maxRecDepth 20000 in
theorem ggX4_mutual_X2_holds : GoodIn wsX4_mutual wsX2_holds := goodIn_r _ [6, 7, 28, 29, 30, 31, 32, 33, 34, 35, 36] (by decide +kernel) (by decide +kernel)
set_option maxRecDepth 20000 in
theorem gX4_mutual_X2_holds : GoodIn wsX4_mutual (wsV RX4 88 RX2 yX2_holds wsX2_holds) := goodIn_app (goodIn_of _ (by decide +kernel)) ggX4_mutual_X2_holds
set_option maxRecDepth 20000 in
theorem ggX4_mutual_X2_isBestOfBoth : GoodIn wsX4_mutual wsX2_isBestOfBoth := goodIn_ca (goodIn_r _ [11, 12, 13, 14, 15, 16, 17, 5, 18, 19, 20, 28, 29, 30, 31, 32, 33, 34, 35, 36] (by decide +kernel) (by decide +kernel)) (goodIn_sub (fun _ h => List.mem_cons_of_mem _ (List.mem_append_right _ h)) (by decide +kernel))
set_option maxRecDepth 20000 in
theorem gX4_mutual_X2_isBestOfBoth : GoodIn wsX4_mutual (wsV RX4 122 RX2 yX2_isBestOfBoth wsX2_isBestOfBoth) := goodIn_app (goodIn_of _ (by decide +kernel)) ggX4_mutual_X2_isBestOfBoth
theorem dX4_mutual_0 : decode cX4_mutual 0 = .ok (.aload_n 0, 1) := by decide +kernel
theorem dX4_mutual_1 : decode cX4_mutual 1 = .ok (.getfield 37, 3) := by decide +kernel
theorem dX4_mutual_4 : decode cX4_mutual 4 = .ok (.iload_n 1, 1) := by decide +kernel
theorem dX4_mutual_5 : decode cX4_mutual 5 = .ok (.invokevirtual 88, 3) := by decide +kernel
theorem dX4_mutual_8 : decode cX4_mutual 8 = .ok (.ifCond .ne 5, 3) := by decide +kernel
theorem dX4_mutual_11 : decode cX4_mutual 11 = .ok (.iconst (-1), 1) := by decide +kernel
theorem dX4_mutual_12 : decode cX4_mutual 12 = .ok (.ireturn, 1) := by decide +kernel
theorem dX4_mutual_13 : decode cX4_mutual 13 = .ok (.aload_n 0, 1) := by decide +kernel
theorem dX4_mutual_14 : decode cX4_mutual 14 = .ok (.getfield 37, 3) := by decide +kernel
theorem dX4_mutual_17 : decode cX4_mutual 17 = .ok (.iload_n 1, 1) := by decide +kernel
theorem dX4_mutual_18 : decode cX4_mutual 18 = .ok (.invokevirtual 122, 3) := by decide +kernel
theorem dX4_mutual_21 : decode cX4_mutual 21 = .ok (.ifCond .eq 7, 3) := by decide +kernel
theorem dX4_mutual_24 : decode cX4_mutual 24 = .ok (.iconst 1, 1) := by decide +kernel
theorem dX4_mutual_25 : decode cX4_mutual 25 = .ok (.goto 4, 3) := by decide +kernel
theorem dX4_mutual_28 : decode cX4_mutual 28 = .ok (.iconst 0, 1) := by decide +kernel
theorem dX4_mutual_29 : decode cX4_mutual 29 = .ok (.ireturn, 1) := by decide +kernel
set_option maxRecDepth 20000 in
theorem ggX4_join_X4_find : GoodIn wsX4_join wsX4_find := goodIn_r _ [11, 12, 13, 30, 31, 32, 33, 34, 35, 36] (by decide +kernel) (by decide +kernel)
set_option maxRecDepth 20000 in
theorem gX4_join_X4_find : GoodIn wsX4_join (wsV RX4 55 RX4 yX4_find wsX4_find) := goodIn_app (goodIn_of _ (by decide +kernel)) ggX4_join_X4_find
set_option maxRecDepth 20000 in
theorem ggX4_join_X3_mayJoin : GoodIn wsX4_join wsX3_mayJoin := goodIn_r _ [18, 19, 20, 40, 41, 42, 43, 44, 45, 46, 47] (by decide +kernel) (by decide +kernel)
set_option maxRecDepth 20000 in
theorem gX4_join_X3_mayJoin : GoodIn wsX4_join (wsV RX4 125 RX3 yX3_mayJoin wsX3_mayJoin) := goodIn_app (goodIn_of _ (by decide +kernel)) ggX4_join_X3_mayJoin
set_option maxRecDepth 20000 in
theorem ggX4_join_X1_init : GoodIn wsX4_join wsX1_init := goodIn_r _ [23, 24, 25, 26, 27, 28, 29, 37, 38, 39] (by decide +kernel) (by decide +kernel)
set_option maxRecDepth 20000 in
theorem gX4_join_X1_init : GoodIn wsX4_join (wsX1_init) := ggX4_join_X1_init
theorem dX4_join_0 : decode cX4_join 0 = .ok (.aload_n 0, 1) := by decide +kernel
theorem dX4_join_1 : decode cX4_join 1 = .ok (.iload_n 1, 1) := by decide +kernel
theorem dX4_join_2 : decode cX4_join 2 = .ok (.invokevirtual 55, 3) := by decide +kernel
theorem dX4_join_5 : decode cX4_join 5 = .ok (.astore_n 3, 1) := by decide +kernel
theorem dX4_join_6 : decode cX4_join 6 = .ok (.aload_n 0, 1) := by decide +kernel
theorem dX4_join_7 : decode cX4_join 7 = .ok (.iload_n 2, 1) := by decide +kernel
theorem dX4_join_8 : decode cX4_join 8 = .ok (.invokevirtual 55, 3) := by decide +kernel
theorem dX4_join_11 : decode cX4_join 11 = .ok (.astore 4, 2) := by decide +kernel
theorem dX4_join_13 : decode cX4_join 13 = .ok (.aload_n 3, 1) := by decide +kernel
theorem dX4_join_14 : decode cX4_join 14 = .ok (.ifnull 17, 3) := by decide +kernel
theorem dX4_join_17 : decode cX4_join 17 = .ok (.aload 4, 2) := by decide +kernel
theorem dX4_join_19 : decode cX4_join 19 = .ok (.ifnull 12, 3) := by decide +kernel
theorem dX4_join_22 : decode cX4_join 22 = .ok (.aload_n 0, 1) := by decide +kernel
theorem dX4_join_23 : decode cX4_join 23 = .ok (.getfield 31, 3) := by decide +kernel
theorem dX4_join_26 : decode cX4_join 26 = .ok (.bipush 100, 2) := by decide +kernel
theorem dX4_join_28 : decode cX4_join 28 = .ok (.if_icmp .lt 5, 3) := by decide +kernel
theorem dX4_join_31 : decode cX4_join 31 = .ok (.iconst 0, 1) := by decide +kernel
theorem dX4_join_32 : decode cX4_join 32 = .ok (.ireturn, 1) := by decide +kernel
theorem dX4_join_33 : decode cX4_join 33 = .ok (.aload_n 3, 1) := by decide +kernel
theorem dX4_join_34 : decode cX4_join 34 = .ok (.iconst 0, 1) := by decide +kernel
theorem dX4_join_35 : decode cX4_join 35 = .ok (.invokevirtual 125, 3) := by decide +kernel
theorem dX4_join_38 : decode cX4_join 38 = .ok (.ifCond .eq 12, 3) := by decide +kernel
theorem dX4_join_41 : decode cX4_join 41 = .ok (.aload 4, 2) := by decide +kernel
theorem dX4_join_43 : decode cX4_join 43 = .ok (.iconst 1, 1) := by decide +kernel
theorem dX4_join_44 : decode cX4_join 44 = .ok (.invokevirtual 125, 3) := by decide +kernel
theorem dX4_join_47 : decode cX4_join 47 = .ok (.ifCond .ne 5, 3) := by decide +kernel
theorem dX4_join_50 : decode cX4_join 50 = .ok (.iconst 0, 1) := by decide +kernel
theorem dX4_join_51 : decode cX4_join 51 = .ok (.ireturn, 1) := by decide +kernel
theorem dX4_join_52 : decode cX4_join 52 = .ok (.aload_n 0, 1) := by decide +kernel
theorem dX4_join_53 : decode cX4_join 53 = .ok (.getfield 27, 3) := by decide +kernel
theorem dX4_join_56 : decode cX4_join 56 = .ok (.aload_n 0, 1) := by decide +kernel
theorem dX4_join_57 : decode cX4_join 57 = .ok (.getfield 31, 3) := by decide +kernel
theorem dX4_join_60 : decode cX4_join 60 = .ok (.new 25, 3) := by decide +kernel
theorem dX4_join_63 : decode cX4_join 63 = .ok (.dup, 1) := by decide +kernel
theorem dX4_join_64 : decode cX4_join 64 = .ok (.aload_n 3, 1) := by decide +kernel
theorem dX4_join_65 : decode cX4_join 65 = .ok (.aload 4, 2) := by decide +kernel
theorem dX4_join_67 : decode cX4_join 67 = .ok (.invokespecial 128, 3) := by decide +kernel
theorem dX4_join_70 : decode cX4_join 70 = .ok (.aastore, 1) := by decide +kernel
theorem dX4_join_71 : decode cX4_join 71 = .ok (.aload_n 0, 1) := by decide +kernel
theorem dX4_join_72 : decode cX4_join 72 = .ok (.dup, 1) := by decide +kernel
theorem dX4_join_73 : decode cX4_join 73 = .ok (.getfield 31, 3) := by decide +kernel
theorem dX4_join_76 : decode cX4_join 76 = .ok (.iconst 1, 1) := by decide +kernel
theorem dX4_join_77 : decode cX4_join 77 = .ok (.iadd, 1) := by decide +kernel
theorem dX4_join_78 : decode cX4_join 78 = .ok (.putfield 31, 3) := by decide +kernel
theorem dX4_join_81 : decode cX4_join 81 = .ok (.aload_n 3, 1) := by decide +kernel
theorem dX4_join_82 : decode cX4_join 82 = .ok (.iconst 1, 1) := by decide +kernel
theorem dX4_join_83 : decode cX4_join 83 = .ok (.putfield 131, 3) := by decide +kernel
theorem dX4_join_86 : decode cX4_join 86 = .ok (.aload 4, 2) := by decide +kernel
theorem dX4_join_88 : decode cX4_join 88 = .ok (.iconst 1, 1) := by decide +kernel
theorem dX4_join_89 : decode cX4_join 89 = .ok (.putfield 131, 3) := by decide +kernel
theorem dX4_join_92 : decode cX4_join 92 = .ok (.aload_n 0, 1) := by decide +kernel
theorem dX4_join_93 : decode cX4_join 93 = .ok (.getfield 31, 3) := by decide +kernel
theorem dX4_join_96 : decode cX4_join 96 = .ok (.ireturn, 1) := by decide +kernel
set_option maxRecDepth 20000 in
theorem ggX4_undo_X1_takeBack : GoodIn wsX4_undo wsX1_takeBack := goodIn_r _ [8, 9, 10, 11, 12, 20, 21, 22, 23, 24, 25, 26, 27, 28, 29, 30] (by decide +kernel) (by decide +kernel)
set_option maxRecDepth 20000 in
theorem gX4_undo_X1_takeBack : GoodIn wsX4_undo (wsV RX4 138 RX1 yX1_takeBack wsX1_takeBack) := goodIn_app (goodIn_of _ (by decide +kernel)) ggX4_undo_X1_takeBack
theorem dX4_undo_0 : decode cX4_undo 0 = .ok (.iload_n 1, 1) := by decide +kernel
theorem dX4_undo_1 : decode cX4_undo 1 = .ok (.iconst 1, 1) := by decide +kernel
theorem dX4_undo_2 : decode cX4_undo 2 = .ok (.if_icmp .lt 11, 3) := by decide +kernel
theorem dX4_undo_5 : decode cX4_undo 5 = .ok (.iload_n 1, 1) := by decide +kernel
theorem dX4_undo_6 : decode cX4_undo 6 = .ok (.aload_n 0, 1) := by decide +kernel
theorem dX4_undo_7 : decode cX4_undo 7 = .ok (.getfield 31, 3) := by decide +kernel
theorem dX4_undo_10 : decode cX4_undo 10 = .ok (.if_icmp .le 5, 3) := by decide +kernel
theorem dX4_undo_13 : decode cX4_undo 13 = .ok (.iconst 0, 1) := by decide +kernel
theorem dX4_undo_14 : decode cX4_undo 14 = .ok (.ireturn, 1) := by decide +kernel
theorem dX4_undo_15 : decode cX4_undo 15 = .ok (.aload_n 0, 1) := by decide +kernel
theorem dX4_undo_16 : decode cX4_undo 16 = .ok (.getfield 27, 3) := by decide +kernel
theorem dX4_undo_19 : decode cX4_undo 19 = .ok (.iload_n 1, 1) := by decide +kernel
theorem dX4_undo_20 : decode cX4_undo 20 = .ok (.iconst 1, 1) := by decide +kernel
theorem dX4_undo_21 : decode cX4_undo 21 = .ok (.isub, 1) := by decide +kernel
theorem dX4_undo_22 : decode cX4_undo 22 = .ok (.aaload, 1) := by decide +kernel
theorem dX4_undo_23 : decode cX4_undo 23 = .ok (.astore_n 2, 1) := by decide +kernel
theorem dX4_undo_24 : decode cX4_undo 24 = .ok (.aload_n 2, 1) := by decide +kernel
theorem dX4_undo_25 : decode cX4_undo 25 = .ok (.ifnull 10, 3) := by decide +kernel
theorem dX4_undo_28 : decode cX4_undo 28 = .ok (.aload_n 2, 1) := by decide +kernel
theorem dX4_undo_29 : decode cX4_undo 29 = .ok (.getfield 135, 3) := by decide +kernel
theorem dX4_undo_32 : decode cX4_undo 32 = .ok (.ifCond .eq 5, 3) := by decide +kernel
theorem dX4_undo_35 : decode cX4_undo 35 = .ok (.iconst 0, 1) := by decide +kernel
theorem dX4_undo_36 : decode cX4_undo 36 = .ok (.ireturn, 1) := by decide +kernel
theorem dX4_undo_37 : decode cX4_undo 37 = .ok (.aload_n 2, 1) := by decide +kernel
theorem dX4_undo_38 : decode cX4_undo 38 = .ok (.invokevirtual 138, 3) := by decide +kernel
theorem dX4_undo_41 : decode cX4_undo 41 = .ok (.iconst 1, 1) := by decide +kernel
theorem dX4_undo_42 : decode cX4_undo 42 = .ok (.ireturn, 1) := by decide +kernel
set_option maxRecDepth 20000 in
theorem ggX4_sample_X2_holds : GoodIn wsX4_sample wsX2_holds := goodIn_r _ [6, 7, 22, 23, 24, 25, 26, 27, 28, 29, 30] (by decide +kernel) (by decide +kernel)
set_option maxRecDepth 20000 in
theorem gX4_sample_X2_holds : GoodIn wsX4_sample (wsV RX4 88 RX2 yX2_holds wsX2_holds) := goodIn_app (goodIn_of _ (by decide +kernel)) ggX4_sample_X2_holds
set_option maxRecDepth 20000 in
theorem ggX4_sample_X2_placeAfterMixing : GoodIn wsX4_sample wsX2_placeAfterMixing := goodIn_ca (goodIn_ca (goodIn_r _ [11, 7, 12, 13, 14, 22, 23, 24, 25, 26, 27, 28, 29, 30] (by decide +kernel) (by decide +kernel)) (goodIn_sub (fun _ h => List.mem_cons_of_mem _ (List.mem_append_left _ (List.mem_append_right _ h))) (by decide +kernel))) (goodIn_sub (fun _ h => List.mem_cons_of_mem _ (List.mem_append_right _ h)) (by decide +kernel))
set_option maxRecDepth 20000 in
theorem gX4_sample_X2_placeAfterMixing : GoodIn wsX4_sample (wsV RX4 141 RX2 yX2_placeAfterMixing wsX2_placeAfterMixing) := goodIn_app (goodIn_of _ (by decide +kernel)) ggX4_sample_X2_placeAfterMixing
theorem dX4_sample_0 : decode cX4_sample 0 = .ok (.aload_n 0, 1) := by decide +kernel
theorem dX4_sample_1 : decode cX4_sample 1 = .ok (.getfield 37, 3) := by decide +kernel
theorem dX4_sample_4 : decode cX4_sample 4 = .ok (.iload_n 3, 1) := by decide +kernel
theorem dX4_sample_5 : decode cX4_sample 5 = .ok (.invokevirtual 88, 3) := by decide +kernel
theorem dX4_sample_8 : decode cX4_sample 8 = .ok (.ifCond .ne 5, 3) := by decide +kernel
theorem dX4_sample_11 : decode cX4_sample 11 = .ok (.iconst (-1), 1) := by decide +kernel
theorem dX4_sample_12 : decode cX4_sample 12 = .ok (.ireturn, 1) := by decide +kernel
theorem dX4_sample_13 : decode cX4_sample 13 = .ok (.aload_n 0, 1) := by decide +kernel
theorem dX4_sample_14 : decode cX4_sample 14 = .ok (.getfield 37, 3) := by decide +kernel
theorem dX4_sample_17 : decode cX4_sample 17 = .ok (.lload_n 1, 1) := by decide +kernel
theorem dX4_sample_18 : decode cX4_sample 18 = .ok (.iload_n 3, 1) := by decide +kernel
theorem dX4_sample_19 : decode cX4_sample 19 = .ok (.invokevirtual 141, 3) := by decide +kernel
theorem dX4_sample_22 : decode cX4_sample 22 = .ok (.ireturn, 1) := by decide +kernel
set_option maxRecDepth 20000 in
theorem ggX4_none_X4_find : GoodIn wsX4_none wsX4_find := goodIn_r _ [9, 3, 10, 17, 18, 19, 20, 21, 22, 23] (by decide +kernel) (by decide +kernel)
set_option maxRecDepth 20000 in
theorem gX4_none_X4_find : GoodIn wsX4_none (wsV RX4 55 RX4 yX4_find wsX4_find) := goodIn_app (goodIn_of _ (by decide +kernel)) ggX4_none_X4_find
set_option maxRecDepth 20000 in
theorem ggX4_none_X2_hasName : GoodIn wsX4_none wsX2_hasName := goodIn_ca (goodIn_r _ [15, 16, 24, 25, 26, 27, 28, 29, 30, 31, 32] (by decide +kernel) (by decide +kernel)) (goodIn_sub (fun _ h => List.mem_cons_of_mem _ (List.mem_append_right _ h)) (by decide +kernel))
set_option maxRecDepth 20000 in
theorem gX4_none_X2_hasName : GoodIn wsX4_none (wsV RX4 151 RX2 yX2_hasName wsX2_hasName) := goodIn_app (goodIn_of _ (by decide +kernel)) ggX4_none_X2_hasName
theorem dX4_none_0 : decode cX4_none 0 = .ok (.iload_n 1, 1) := by decide +kernel
theorem dX4_none_1 : decode cX4_none 1 = .ok (.ifCond .lt 13, 3) := by decide +kernel
theorem dX4_none_4 : decode cX4_none 4 = .ok (.aload_n 0, 1) := by decide +kernel
theorem dX4_none_5 : decode cX4_none 5 = .ok (.getfield 37, 3) := by decide +kernel
theorem dX4_none_8 : decode cX4_none 8 = .ok (.getfield 145, 3) := by decide +kernel
theorem dX4_none_11 : decode cX4_none 11 = .ok (.ifCond .ne 5, 3) := by decide +kernel
theorem dX4_none_14 : decode cX4_none 14 = .ok (.iconst 0, 1) := by decide +kernel
theorem dX4_none_15 : decode cX4_none 15 = .ok (.ireturn, 1) := by decide +kernel
theorem dX4_none_16 : decode cX4_none 16 = .ok (.iconst 0, 1) := by decide +kernel
theorem dX4_none_17 : decode cX4_none 17 = .ok (.istore_n 2, 1) := by decide +kernel
theorem dX4_none_18 : decode cX4_none 18 = .ok (.iconst 1, 1) := by decide +kernel
theorem dX4_none_19 : decode cX4_none 19 = .ok (.istore_n 3, 1) := by decide +kernel
theorem dX4_none_20 : decode cX4_none 20 = .ok (.iload_n 3, 1) := by decide +kernel
theorem dX4_none_21 : decode cX4_none 21 = .ok (.aload_n 0, 1) := by decide +kernel
theorem dX4_none_22 : decode cX4_none 22 = .ok (.getfield 15, 3) := by decide +kernel
theorem dX4_none_25 : decode cX4_none 25 = .ok (.if_icmp .gt 50, 3) := by decide +kernel
theorem dX4_none_28 : decode cX4_none 28 = .ok (.aload_n 0, 1) := by decide +kernel
theorem dX4_none_29 : decode cX4_none 29 = .ok (.iload_n 3, 1) := by decide +kernel
theorem dX4_none_30 : decode cX4_none 30 = .ok (.invokevirtual 55, 3) := by decide +kernel
theorem dX4_none_33 : decode cX4_none 33 = .ok (.astore 4, 2) := by decide +kernel
theorem dX4_none_35 : decode cX4_none 35 = .ok (.aload 4, 2) := by decide +kernel
theorem dX4_none_37 : decode cX4_none 37 = .ok (.ifnull 32, 3) := by decide +kernel
theorem dX4_none_40 : decode cX4_none 40 = .ok (.aload 4, 2) := by decide +kernel
theorem dX4_none_42 : decode cX4_none 42 = .ok (.getfield 148, 3) := by decide +kernel
theorem dX4_none_45 : decode cX4_none 45 = .ok (.ifCond .ne 24, 3) := by decide +kernel
theorem dX4_none_48 : decode cX4_none 48 = .ok (.aload_n 0, 1) := by decide +kernel
theorem dX4_none_49 : decode cX4_none 49 = .ok (.getfield 37, 3) := by decide +kernel
theorem dX4_none_52 : decode cX4_none 52 = .ok (.iload_n 3, 1) := by decide +kernel
theorem dX4_none_53 : decode cX4_none 53 = .ok (.invokevirtual 151, 3) := by decide +kernel
theorem dX4_none_56 : decode cX4_none 56 = .ok (.ifCond .ne 13, 3) := by decide +kernel
theorem dX4_none_59 : decode cX4_none 59 = .ok (.iload_n 2, 1) := by decide +kernel
theorem dX4_none_60 : decode cX4_none 60 = .ok (.iload_n 1, 1) := by decide +kernel
theorem dX4_none_61 : decode cX4_none 61 = .ok (.if_icmp .ne 5, 3) := by decide +kernel
theorem dX4_none_64 : decode cX4_none 64 = .ok (.iload_n 3, 1) := by decide +kernel
theorem dX4_none_65 : decode cX4_none 65 = .ok (.ireturn, 1) := by decide +kernel
theorem dX4_none_66 : decode cX4_none 66 = .ok (.iinc 2 1, 3) := by decide +kernel
theorem dX4_none_69 : decode cX4_none 69 = .ok (.iinc 3 1, 3) := by decide +kernel
theorem dX4_none_72 : decode cX4_none 72 = .ok (.goto (-52), 3) := by decide +kernel
theorem dX4_none_75 : decode cX4_none 75 = .ok (.iconst 0, 1) := by decide +kernel
theorem dX4_none_76 : decode cX4_none 76 = .ok (.ireturn, 1) := by decide +kernel
set_option maxRecDepth 20000 in
theorem ggX4_index_X2_holds : GoodIn wsX4_index wsX2_holds := goodIn_r _ [9, 10, 31, 32, 33, 34, 35, 36, 37, 38, 39] (by decide +kernel) (by decide +kernel)
set_option maxRecDepth 20000 in
theorem gX4_index_X2_holds : GoodIn wsX4_index (wsV RX4 88 RX2 yX2_holds wsX2_holds) := goodIn_app (goodIn_of _ (by decide +kernel)) ggX4_index_X2_holds
set_option maxRecDepth 20000 in
theorem ggX4_index_X2_nameAt : GoodIn wsX4_index wsX2_nameAt := goodIn_ca (goodIn_r _ [14, 15, 16, 17, 31, 32, 33, 34, 35, 36, 37, 38, 39] (by decide +kernel) (by decide +kernel)) (goodIn_sub (fun _ h => List.mem_cons_of_mem _ (List.mem_append_right _ h)) (by decide +kernel))
set_option maxRecDepth 20000 in
theorem gX4_index_X2_nameAt : GoodIn wsX4_index (wsV RX4 91 RX2 yX2_nameAt wsX2_nameAt) := goodIn_app (goodIn_of _ (by decide +kernel)) ggX4_index_X2_nameAt
theorem dX4_index_0 : decode cX4_index 0 = .ok (.aload_n 0, 1) := by decide +kernel
theorem dX4_index_1 : decode cX4_index 1 = .ok (.getfield 37, 3) := by decide +kernel
theorem dX4_index_4 : decode cX4_index 4 = .ok (.iload_n 1, 1) := by decide +kernel
theorem dX4_index_5 : decode cX4_index 5 = .ok (.invokevirtual 88, 3) := by decide +kernel
theorem dX4_index_8 : decode cX4_index 8 = .ok (.ifCond .ne 13, 3) := by decide +kernel
theorem dX4_index_11 : decode cX4_index 11 = .ok (.new 154, 3) := by decide +kernel
theorem dX4_index_14 : decode cX4_index 14 = .ok (.dup, 1) := by decide +kernel
theorem dX4_index_15 : decode cX4_index 15 = .ok (.ldc 156, 2) := by decide +kernel
theorem dX4_index_17 : decode cX4_index 17 = .ok (.invokespecial 158, 3) := by decide +kernel
theorem dX4_index_20 : decode cX4_index 20 = .ok (.athrow, 1) := by decide +kernel
theorem dX4_index_21 : decode cX4_index 21 = .ok (.aload_n 0, 1) := by decide +kernel
theorem dX4_index_22 : decode cX4_index 22 = .ok (.getfield 37, 3) := by decide +kernel
theorem dX4_index_25 : decode cX4_index 25 = .ok (.iload_n 1, 1) := by decide +kernel
theorem dX4_index_26 : decode cX4_index 26 = .ok (.iload_n 2, 1) := by decide +kernel
theorem dX4_index_27 : decode cX4_index 27 = .ok (.invokevirtual 91, 3) := by decide +kernel
theorem dX4_index_30 : decode cX4_index 30 = .ok (.ireturn, 1) := by decide +kernel
set_option maxRecDepth 20000 in
theorem ggX4_best_X4_isSide : GoodIn wsX4_best wsX4_isSide := goodIn_r _ [5] (by decide +kernel) (by decide +kernel)
set_option maxRecDepth 20000 in
theorem gX4_best_X4_isSide : GoodIn wsX4_best (va_wsS RX4 48 yX4_isSide wsX4_isSide) := goodIn_app (goodIn_of _ (by decide +kernel)) ggX4_best_X4_isSide
set_option maxRecDepth 20000 in
theorem ggX4_best_X2_partner : GoodIn wsX4_best wsX2_partner := goodIn_ca (goodIn_r _ [10, 11, 12, 13, 14, 9, 15, 16, 17, 18, 26, 27, 28, 29, 30, 31, 32, 33, 34] (by decide +kernel) (by decide +kernel)) (goodIn_sub (fun _ h => List.mem_cons_of_mem _ (List.mem_append_right _ h)) (by decide +kernel))
set_option maxRecDepth 20000 in
theorem gX4_best_X2_partner : GoodIn wsX4_best (wsV RX4 159 RX2 yX2_partner wsX2_partner) := goodIn_app (goodIn_of _ (by decide +kernel)) ggX4_best_X2_partner
theorem dX4_best_0 : decode cX4_best 0 = .ok (.iload_n 1, 1) := by decide +kernel
theorem dX4_best_1 : decode cX4_best 1 = .ok (.invokestatic 48, 3) := by decide +kernel
theorem dX4_best_4 : decode cX4_best 4 = .ok (.ifCond .eq 7, 3) := by decide +kernel
theorem dX4_best_7 : decode cX4_best 7 = .ok (.iload_n 3, 1) := by decide +kernel
theorem dX4_best_8 : decode cX4_best 8 = .ok (.ifCond .ge 5, 3) := by decide +kernel
theorem dX4_best_11 : decode cX4_best 11 = .ok (.iconst 0, 1) := by decide +kernel
theorem dX4_best_12 : decode cX4_best 12 = .ok (.ireturn, 1) := by decide +kernel
theorem dX4_best_13 : decode cX4_best 13 = .ok (.aload_n 0, 1) := by decide +kernel
theorem dX4_best_14 : decode cX4_best 14 = .ok (.getfield 37, 3) := by decide +kernel
theorem dX4_best_17 : decode cX4_best 17 = .ok (.iload_n 1, 1) := by decide +kernel
theorem dX4_best_18 : decode cX4_best 18 = .ok (.iload_n 2, 1) := by decide +kernel
theorem dX4_best_19 : decode cX4_best 19 = .ok (.iload_n 3, 1) := by decide +kernel
theorem dX4_best_20 : decode cX4_best 20 = .ok (.invokevirtual 159, 3) := by decide +kernel
theorem dX4_best_23 : decode cX4_best 23 = .ok (.ireturn, 1) := by decide +kernel
theorem dX4_isSide_0 : decode cX4_isSide 0 = .ok (.iload_n 0, 1) := by decide +kernel
theorem dX4_isSide_1 : decode cX4_isSide 1 = .ok (.ifCond .eq 8, 3) := by decide +kernel
theorem dX4_isSide_4 : decode cX4_isSide 4 = .ok (.iload_n 0, 1) := by decide +kernel
theorem dX4_isSide_5 : decode cX4_isSide 5 = .ok (.iconst 1, 1) := by decide +kernel
theorem dX4_isSide_6 : decode cX4_isSide 6 = .ok (.if_icmp .ne 7, 3) := by decide +kernel
theorem dX4_isSide_9 : decode cX4_isSide 9 = .ok (.iconst 1, 1) := by decide +kernel
theorem dX4_isSide_10 : decode cX4_isSide 10 = .ok (.goto 4, 3) := by decide +kernel
theorem dX4_isSide_13 : decode cX4_isSide 13 = .ok (.iconst 0, 1) := by decide +kernel
theorem dX4_isSide_14 : decode cX4_isSide 14 = .ok (.ireturn, 1) := by decide +kernel
theorem dX4_find_0 : decode cX4_find 0 = .ok (.iload_n 1, 1) := by decide +kernel
theorem dX4_find_1 : decode cX4_find 1 = .ok (.iconst 1, 1) := by decide +kernel
theorem dX4_find_2 : decode cX4_find 2 = .ok (.if_icmp .lt 11, 3) := by decide +kernel
theorem dX4_find_5 : decode cX4_find 5 = .ok (.iload_n 1, 1) := by decide +kernel
theorem dX4_find_6 : decode cX4_find 6 = .ok (.aload_n 0, 1) := by decide +kernel
theorem dX4_find_7 : decode cX4_find 7 = .ok (.getfield 15, 3) := by decide +kernel
theorem dX4_find_10 : decode cX4_find 10 = .ok (.if_icmp .le 5, 3) := by decide +kernel
theorem dX4_find_13 : decode cX4_find 13 = .ok (.aconst_null, 1) := by decide +kernel
theorem dX4_find_14 : decode cX4_find 14 = .ok (.areturn, 1) := by decide +kernel
theorem dX4_find_15 : decode cX4_find 15 = .ok (.aload_n 0, 1) := by decide +kernel
theorem dX4_find_16 : decode cX4_find 16 = .ok (.getfield 11, 3) := by decide +kernel
theorem dX4_find_19 : decode cX4_find 19 = .ok (.iload_n 1, 1) := by decide +kernel
theorem dX4_find_20 : decode cX4_find 20 = .ok (.iconst 1, 1) := by decide +kernel
theorem dX4_find_21 : decode cX4_find 21 = .ok (.isub, 1) := by decide +kernel
theorem dX4_find_22 : decode cX4_find 22 = .ok (.aaload, 1) := by decide +kernel
theorem dX4_find_23 : decode cX4_find 23 = .ok (.areturn, 1) := by decide +kernel
set_option maxRecDepth 20000 in
theorem ggX4_listPairsOf_X4_find : GoodIn wsX4_listPairsOf wsX4_find := goodIn_r _ [9, 1, 10, 75, 76, 77, 78, 79, 80, 81] (by decide +kernel) (by decide +kernel)
set_option maxRecDepth 20000 in
theorem gX4_listPairsOf_X4_find : GoodIn wsX4_listPairsOf (wsV RX4 55 RX4 yX4_find wsX4_find) := goodIn_app (goodIn_of _ (by decide +kernel)) ggX4_listPairsOf_X4_find
set_option maxRecDepth 20000 in
theorem ggX4_listPairsOf_X3_mayPair : GoodIn wsX4_listPairsOf wsX3_mayPair := goodIn_r _ [15, 16, 17, 18, 82, 83, 84, 85, 86, 87, 88, 89] (by decide +kernel) (by decide +kernel)
set_option maxRecDepth 20000 in
theorem gX4_listPairsOf_X3_mayPair : GoodIn wsX4_listPairsOf (wsV RX4 74 RX3 yX3_mayPair wsX3_mayPair) := goodIn_app (goodIn_of _ (by decide +kernel)) ggX4_listPairsOf_X3_mayPair
set_option maxRecDepth 20000 in
theorem ggX4_listPairsOf_X0_measure : GoodIn wsX4_listPairsOf wsX0_measure := goodIn_ca (goodIn_r _ [23, 24, 25, 26, 27, 28, 14, 29, 17, 30, 31, 32, 33, 34, 35, 36, 37, 38, 39, 40, 41, 42, 43, 44, 45, 46, 47, 48, 49, 50, 51, 90, 91, 82, 83, 84, 85, 86, 87, 88, 89] (by decide +kernel) (by decide +kernel)) (goodIn_sub (fun _ h => List.mem_cons_of_mem _ (List.mem_append_right _ h)) (by decide +kernel))
set_option maxRecDepth 20000 in
theorem gX4_listPairsOf_X0_measure : GoodIn wsX4_listPairsOf (wsV RX4 97 RX0 yX0_measure wsX0_measure) := goodIn_app (goodIn_of _ (by decide +kernel)) ggX4_listPairsOf_X0_measure
set_option maxRecDepth 20000 in
theorem ggX4_listPairsOf_X0_exists : GoodIn wsX4_listPairsOf wsX0_exists := goodIn_r _ [55, 25, 90, 91] (by decide +kernel) (by decide +kernel)
set_option maxRecDepth 20000 in
theorem gX4_listPairsOf_X0_exists : GoodIn wsX4_listPairsOf (wsV RX4 101 RX0 yX0_exists wsX0_exists) := goodIn_app (goodIn_of _ (by decide +kernel)) ggX4_listPairsOf_X0_exists
set_option maxRecDepth 20000 in
theorem ggX4_listPairsOf_X0_isHalfAtLeast : GoodIn wsX4_listPairsOf wsX0_isHalfAtLeast := goodIn_r _ [59, 60, 24, 25, 90, 91] (by decide +kernel) (by decide +kernel)
set_option maxRecDepth 20000 in
theorem gX4_listPairsOf_X0_isHalfAtLeast : GoodIn wsX4_listPairsOf (wsV RX4 163 RX0 yX0_isHalfAtLeast wsX0_isHalfAtLeast) := goodIn_app (goodIn_of _ (by decide +kernel)) ggX4_listPairsOf_X0_isHalfAtLeast
set_option maxRecDepth 20000 in
theorem ggX4_listPairsOf_X2_add : GoodIn wsX4_listPairsOf wsX2_add := goodIn_ca (goodIn_r _ [65, 66, 67, 68, 69, 70, 71, 72, 73, 74, 92, 93, 94, 95, 96, 97, 98, 99, 100, 90, 91] (by decide +kernel) (by decide +kernel)) (goodIn_sub (fun _ h => List.mem_cons_of_mem _ (List.mem_append_right _ h)) (by decide +kernel))
set_option maxRecDepth 20000 in
theorem gX4_listPairsOf_X2_add : GoodIn wsX4_listPairsOf (wsV RX4 166 RX2 yX2_add wsX2_add) := goodIn_app (goodIn_of _ (by decide +kernel)) ggX4_listPairsOf_X2_add
theorem dX4_listPairsOf_0 : decode cX4_listPairsOf 0 = .ok (.iconst 1, 1) := by decide +kernel
theorem dX4_listPairsOf_1 : decode cX4_listPairsOf 1 = .ok (.istore_n 3, 1) := by decide +kernel
theorem dX4_listPairsOf_2 : decode cX4_listPairsOf 2 = .ok (.iload_n 3, 1) := by decide +kernel
theorem dX4_listPairsOf_3 : decode cX4_listPairsOf 3 = .ok (.aload_n 0, 1) := by decide +kernel
theorem dX4_listPairsOf_4 : decode cX4_listPairsOf 4 = .ok (.getfield 15, 3) := by decide +kernel
theorem dX4_listPairsOf_7 : decode cX4_listPairsOf 7 = .ok (.if_icmp .gt 77, 3) := by decide +kernel
theorem dX4_listPairsOf_10 : decode cX4_listPairsOf 10 = .ok (.aload_n 0, 1) := by decide +kernel
theorem dX4_listPairsOf_11 : decode cX4_listPairsOf 11 = .ok (.iload_n 3, 1) := by decide +kernel
theorem dX4_listPairsOf_12 : decode cX4_listPairsOf 12 = .ok (.invokevirtual 55, 3) := by decide +kernel
theorem dX4_listPairsOf_15 : decode cX4_listPairsOf 15 = .ok (.astore 4, 2) := by decide +kernel
theorem dX4_listPairsOf_17 : decode cX4_listPairsOf 17 = .ok (.aload 4, 2) := by decide +kernel
theorem dX4_listPairsOf_19 : decode cX4_listPairsOf 19 = .ok (.ifnull 59, 3) := by decide +kernel
theorem dX4_listPairsOf_22 : decode cX4_listPairsOf 22 = .ok (.aload 4, 2) := by decide +kernel
theorem dX4_listPairsOf_24 : decode cX4_listPairsOf 24 = .ok (.iconst 1, 1) := by decide +kernel
theorem dX4_listPairsOf_25 : decode cX4_listPairsOf 25 = .ok (.invokevirtual 74, 3) := by decide +kernel
theorem dX4_listPairsOf_28 : decode cX4_listPairsOf 28 = .ok (.ifCond .eq 50, 3) := by decide +kernel
theorem dX4_listPairsOf_31 : decode cX4_listPairsOf 31 = .ok (.aload_n 0, 1) := by decide +kernel
theorem dX4_listPairsOf_32 : decode cX4_listPairsOf 32 = .ok (.getfield 44, 3) := by decide +kernel
theorem dX4_listPairsOf_35 : decode cX4_listPairsOf 35 = .ok (.aload_n 2, 1) := by decide +kernel
theorem dX4_listPairsOf_36 : decode cX4_listPairsOf 36 = .ok (.aload 4, 2) := by decide +kernel
theorem dX4_listPairsOf_38 : decode cX4_listPairsOf 38 = .ok (.aload_n 0, 1) := by decide +kernel
theorem dX4_listPairsOf_39 : decode cX4_listPairsOf 39 = .ok (.getfield 21, 3) := by decide +kernel
theorem dX4_listPairsOf_42 : decode cX4_listPairsOf 42 = .ok (.invokevirtual 97, 3) := by decide +kernel
theorem dX4_listPairsOf_45 : decode cX4_listPairsOf 45 = .ok (.aload_n 0, 1) := by decide +kernel
theorem dX4_listPairsOf_46 : decode cX4_listPairsOf 46 = .ok (.getfield 44, 3) := by decide +kernel
theorem dX4_listPairsOf_49 : decode cX4_listPairsOf 49 = .ok (.invokevirtual 101, 3) := by decide +kernel
theorem dX4_listPairsOf_52 : decode cX4_listPairsOf 52 = .ok (.ifCond .eq 26, 3) := by decide +kernel
theorem dX4_listPairsOf_55 : decode cX4_listPairsOf 55 = .ok (.aload_n 0, 1) := by decide +kernel
theorem dX4_listPairsOf_56 : decode cX4_listPairsOf 56 = .ok (.getfield 44, 3) := by decide +kernel
theorem dX4_listPairsOf_59 : decode cX4_listPairsOf 59 = .ok (.invokevirtual 163, 3) := by decide +kernel
theorem dX4_listPairsOf_62 : decode cX4_listPairsOf 62 = .ok (.ifCond .eq 16, 3) := by decide +kernel
theorem dX4_listPairsOf_65 : decode cX4_listPairsOf 65 = .ok (.aload_n 0, 1) := by decide +kernel
theorem dX4_listPairsOf_66 : decode cX4_listPairsOf 66 = .ok (.getfield 37, 3) := by decide +kernel
theorem dX4_listPairsOf_69 : decode cX4_listPairsOf 69 = .ok (.iload_n 1, 1) := by decide +kernel
theorem dX4_listPairsOf_70 : decode cX4_listPairsOf 70 = .ok (.iload_n 3, 1) := by decide +kernel
theorem dX4_listPairsOf_71 : decode cX4_listPairsOf 71 = .ok (.aload_n 0, 1) := by decide +kernel
theorem dX4_listPairsOf_72 : decode cX4_listPairsOf 72 = .ok (.getfield 44, 3) := by decide +kernel
theorem dX4_listPairsOf_75 : decode cX4_listPairsOf 75 = .ok (.invokevirtual 166, 3) := by decide +kernel
theorem dX4_listPairsOf_78 : decode cX4_listPairsOf 78 = .ok (.iinc 3 1, 3) := by decide +kernel
theorem dX4_listPairsOf_81 : decode cX4_listPairsOf 81 = .ok (.goto (-79), 3) := by decide +kernel
theorem dX4_listPairsOf_84 : decode cX4_listPairsOf 84 = .ok (.return_, 1) := by decide +kernel
end
section
theorem dX5_init_0 : decode cX5_init 0 = .ok (.aload_n 0, 1) := by decide +kernel
theorem dX5_init_1 : decode cX5_init 1 = .ok (.invokespecial 1, 3) := by decide +kernel
theorem dX5_init_4 : decode cX5_init 4 = .ok (.aload_n 0, 1) := by decide +kernel
theorem dX5_init_5 : decode cX5_init 5 = .ok (.bipush 51, 2) := by decide +kernel
theorem dX5_init_7 : decode cX5_init 7 = .ok (.newarray .int, 2) := by decide +kernel
theorem dX5_init_9 : decode cX5_init 9 = .ok (.putfield 7, 3) := by decide +kernel
theorem dX5_init_12 : decode cX5_init 12 = .ok (.aload_n 0, 1) := by decide +kernel
theorem dX5_init_13 : decode cX5_init 13 = .ok (.sipush 408, 3) := by decide +kernel
theorem dX5_init_16 : decode cX5_init 16 = .ok (.newarray .int, 2) := by decide +kernel
theorem dX5_init_18 : decode cX5_init 18 = .ok (.putfield 13, 3) := by decide +kernel
theorem dX5_init_21 : decode cX5_init 21 = .ok (.aload_n 0, 1) := by decide +kernel
theorem dX5_init_22 : decode cX5_init 22 = .ok (.sipush 408, 3) := by decide +kernel
theorem dX5_init_25 : decode cX5_init 25 = .ok (.newarray .int, 2) := by decide +kernel
theorem dX5_init_27 : decode cX5_init 27 = .ok (.putfield 16, 3) := by decide +kernel
theorem dX5_init_30 : decode cX5_init 30 = .ok (.aload_n 0, 1) := by decide +kernel
theorem dX5_init_31 : decode cX5_init 31 = .ok (.bipush 51, 2) := by decide +kernel
theorem dX5_init_33 : decode cX5_init 33 = .ok (.newarray .int, 2) := by decide +kernel
theorem dX5_init_35 : decode cX5_init 35 = .ok (.putfield 19, 3) := by decide +kernel
theorem dX5_init_38 : decode cX5_init 38 = .ok (.aload_n 0, 1) := by decide +kernel
theorem dX5_init_39 : decode cX5_init 39 = .ok (.bipush 51, 2) := by decide +kernel
theorem dX5_init_41 : decode cX5_init 41 = .ok (.newarray .boolean, 2) := by decide +kernel
theorem dX5_init_43 : decode cX5_init 43 = .ok (.putfield 22, 3) := by decide +kernel
theorem dX5_init_46 : decode cX5_init 46 = .ok (.aload_n 0, 1) := by decide +kernel
theorem dX5_init_47 : decode cX5_init 47 = .ok (.bipush 51, 2) := by decide +kernel
theorem dX5_init_49 : decode cX5_init 49 = .ok (.newarray .long, 2) := by decide +kernel
theorem dX5_init_51 : decode cX5_init 51 = .ok (.putfield 26, 3) := by decide +kernel
theorem dX5_init_54 : decode cX5_init 54 = .ok (.aload_n 0, 1) := by decide +kernel
theorem dX5_init_55 : decode cX5_init 55 = .ok (.bipush 51, 2) := by decide +kernel
theorem dX5_init_57 : decode cX5_init 57 = .ok (.newarray .long, 2) := by decide +kernel
theorem dX5_init_59 : decode cX5_init 59 = .ok (.putfield 30, 3) := by decide +kernel
theorem dX5_init_62 : decode cX5_init 62 = .ok (.aload_n 0, 1) := by decide +kernel
theorem dX5_init_63 : decode cX5_init 63 = .ok (.bipush 51, 2) := by decide +kernel
theorem dX5_init_65 : decode cX5_init 65 = .ok (.newarray .int, 2) := by decide +kernel
theorem dX5_init_67 : decode cX5_init 67 = .ok (.putfield 33, 3) := by decide +kernel
theorem dX5_init_70 : decode cX5_init 70 = .ok (.aload_n 0, 1) := by decide +kernel
theorem dX5_init_71 : decode cX5_init 71 = .ok (.iconst 4, 1) := by decide +kernel
theorem dX5_init_72 : decode cX5_init 72 = .ok (.newarray .long, 2) := by decide +kernel
theorem dX5_init_74 : decode cX5_init 74 = .ok (.dup, 1) := by decide +kernel
theorem dX5_init_75 : decode cX5_init 75 = .ok (.iconst 0, 1) := by decide +kernel
theorem dX5_init_76 : decode cX5_init 76 = .ok (.ldc2_w 36, 3) := by decide +kernel
theorem dX5_init_79 : decode cX5_init 79 = .ok (.lastore, 1) := by decide +kernel
theorem dX5_init_80 : decode cX5_init 80 = .ok (.dup, 1) := by decide +kernel
theorem dX5_init_81 : decode cX5_init 81 = .ok (.iconst 1, 1) := by decide +kernel
theorem dX5_init_82 : decode cX5_init 82 = .ok (.ldc2_w 36, 3) := by decide +kernel
theorem dX5_init_85 : decode cX5_init 85 = .ok (.lastore, 1) := by decide +kernel
theorem dX5_init_86 : decode cX5_init 86 = .ok (.dup, 1) := by decide +kernel
theorem dX5_init_87 : decode cX5_init 87 = .ok (.iconst 2, 1) := by decide +kernel
theorem dX5_init_88 : decode cX5_init 88 = .ok (.ldc2_w 36, 3) := by decide +kernel
theorem dX5_init_91 : decode cX5_init 91 = .ok (.lastore, 1) := by decide +kernel
theorem dX5_init_92 : decode cX5_init 92 = .ok (.dup, 1) := by decide +kernel
theorem dX5_init_93 : decode cX5_init 93 = .ok (.iconst 3, 1) := by decide +kernel
theorem dX5_init_94 : decode cX5_init 94 = .ok (.ldc2_w 36, 3) := by decide +kernel
theorem dX5_init_97 : decode cX5_init 97 = .ok (.lastore, 1) := by decide +kernel
theorem dX5_init_98 : decode cX5_init 98 = .ok (.putfield 38, 3) := by decide +kernel
theorem dX5_init_101 : decode cX5_init 101 = .ok (.aload_n 0, 1) := by decide +kernel
theorem dX5_init_102 : decode cX5_init 102 = .ok (.sipush 700, 3) := by decide +kernel
theorem dX5_init_105 : decode cX5_init 105 = .ok (.newarray .int, 2) := by decide +kernel
theorem dX5_init_107 : decode cX5_init 107 = .ok (.putfield 41, 3) := by decide +kernel
theorem dX5_init_110 : decode cX5_init 110 = .ok (.aload_n 0, 1) := by decide +kernel
theorem dX5_init_111 : decode cX5_init 111 = .ok (.sipush 700, 3) := by decide +kernel
theorem dX5_init_114 : decode cX5_init 114 = .ok (.newarray .int, 2) := by decide +kernel
theorem dX5_init_116 : decode cX5_init 116 = .ok (.putfield 44, 3) := by decide +kernel
theorem dX5_init_119 : decode cX5_init 119 = .ok (.aload_n 0, 1) := by decide +kernel
theorem dX5_init_120 : decode cX5_init 120 = .ok (.sipush 700, 3) := by decide +kernel
theorem dX5_init_123 : decode cX5_init 123 = .ok (.newarray .long, 2) := by decide +kernel
theorem dX5_init_125 : decode cX5_init 125 = .ok (.putfield 47, 3) := by decide +kernel
theorem dX5_init_128 : decode cX5_init 128 = .ok (.aload_n 0, 1) := by decide +kernel
theorem dX5_init_129 : decode cX5_init 129 = .ok (.sipush 700, 3) := by decide +kernel
theorem dX5_init_132 : decode cX5_init 132 = .ok (.newarray .long, 2) := by decide +kernel
theorem dX5_init_134 : decode cX5_init 134 = .ok (.putfield 50, 3) := by decide +kernel
theorem dX5_init_137 : decode cX5_init 137 = .ok (.aload_n 0, 1) := by decide +kernel
theorem dX5_init_138 : decode cX5_init 138 = .ok (.bipush 101, 2) := by decide +kernel
theorem dX5_init_140 : decode cX5_init 140 = .ok (.newarray .int, 2) := by decide +kernel
theorem dX5_init_142 : decode cX5_init 142 = .ok (.putfield 53, 3) := by decide +kernel
theorem dX5_init_145 : decode cX5_init 145 = .ok (.aload_n 0, 1) := by decide +kernel
theorem dX5_init_146 : decode cX5_init 146 = .ok (.bipush 101, 2) := by decide +kernel
theorem dX5_init_148 : decode cX5_init 148 = .ok (.newarray .int, 2) := by decide +kernel
theorem dX5_init_150 : decode cX5_init 150 = .ok (.putfield 56, 3) := by decide +kernel
theorem dX5_init_153 : decode cX5_init 153 = .ok (.aload_n 0, 1) := by decide +kernel
theorem dX5_init_154 : decode cX5_init 154 = .ok (.sipush 700, 3) := by decide +kernel
theorem dX5_init_157 : decode cX5_init 157 = .ok (.newarray .int, 2) := by decide +kernel
theorem dX5_init_159 : decode cX5_init 159 = .ok (.putfield 59, 3) := by decide +kernel
theorem dX5_init_162 : decode cX5_init 162 = .ok (.return_, 1) := by decide +kernel
theorem dX5_thrown_0 : decode cX5_thrown 0 = .ok (.aload_n 0, 1) := by decide +kernel
theorem dX5_thrown_1 : decode cX5_thrown 1 = .ok (.getfield 62, 3) := by decide +kernel
theorem dX5_thrown_4 : decode cX5_thrown 4 = .ok (.ireturn, 1) := by decide +kernel
theorem dX5_isName_0 : decode cX5_isName 0 = .ok (.iload_n 1, 1) := by decide +kernel
theorem dX5_isName_1 : decode cX5_isName 1 = .ok (.ifCond .le 15, 3) := by decide +kernel
theorem dX5_isName_4 : decode cX5_isName 4 = .ok (.iload_n 1, 1) := by decide +kernel
theorem dX5_isName_5 : decode cX5_isName 5 = .ok (.aload_n 0, 1) := by decide +kernel
theorem dX5_isName_6 : decode cX5_isName 6 = .ok (.getfield 66, 3) := by decide +kernel
theorem dX5_isName_9 : decode cX5_isName 9 = .ok (.if_icmp .gt 7, 3) := by decide +kernel
theorem dX5_isName_12 : decode cX5_isName 12 = .ok (.iconst 1, 1) := by decide +kernel
theorem dX5_isName_13 : decode cX5_isName 13 = .ok (.goto 4, 3) := by decide +kernel
theorem dX5_isName_16 : decode cX5_isName 16 = .ok (.iconst 0, 1) := by decide +kernel
theorem dX5_isName_17 : decode cX5_isName 17 = .ok (.ireturn, 1) := by decide +kernel
theorem dX5_name_0 : decode cX5_name 0 = .ok (.aload_n 0, 1) := by decide +kernel
theorem dX5_name_1 : decode cX5_name 1 = .ok (.iconst 0, 1) := by decide +kernel
theorem dX5_name_2 : decode cX5_name 2 = .ok (.putfield 62, 3) := by decide +kernel
theorem dX5_name_5 : decode cX5_name 5 = .ok (.iload_n 1, 1) := by decide +kernel
theorem dX5_name_6 : decode cX5_name 6 = .ok (.ifCond .lt 17, 3) := by decide +kernel
theorem dX5_name_9 : decode cX5_name 9 = .ok (.iload_n 1, 1) := by decide +kernel
theorem dX5_name_10 : decode cX5_name 10 = .ok (.iconst 1, 1) := by decide +kernel
theorem dX5_name_11 : decode cX5_name 11 = .ok (.if_icmp .gt 12, 3) := by decide +kernel
theorem dX5_name_14 : decode cX5_name 14 = .ok (.aload_n 0, 1) := by decide +kernel
theorem dX5_name_15 : decode cX5_name 15 = .ok (.getfield 66, 3) := by decide +kernel
theorem dX5_name_18 : decode cX5_name 18 = .ok (.bipush 50, 2) := by decide +kernel
theorem dX5_name_20 : decode cX5_name 20 = .ok (.if_icmp .ne 5, 3) := by decide +kernel
theorem dX5_name_23 : decode cX5_name 23 = .ok (.iconst 0, 1) := by decide +kernel
theorem dX5_name_24 : decode cX5_name 24 = .ok (.ireturn, 1) := by decide +kernel
theorem dX5_name_25 : decode cX5_name 25 = .ok (.aload_n 0, 1) := by decide +kernel
theorem dX5_name_26 : decode cX5_name 26 = .ok (.dup, 1) := by decide +kernel
theorem dX5_name_27 : decode cX5_name 27 = .ok (.getfield 66, 3) := by decide +kernel
theorem dX5_name_30 : decode cX5_name 30 = .ok (.iconst 1, 1) := by decide +kernel
theorem dX5_name_31 : decode cX5_name 31 = .ok (.iadd, 1) := by decide +kernel
theorem dX5_name_32 : decode cX5_name 32 = .ok (.putfield 66, 3) := by decide +kernel
theorem dX5_name_35 : decode cX5_name 35 = .ok (.aload_n 0, 1) := by decide +kernel
theorem dX5_name_36 : decode cX5_name 36 = .ok (.getfield 7, 3) := by decide +kernel
theorem dX5_name_39 : decode cX5_name 39 = .ok (.aload_n 0, 1) := by decide +kernel
theorem dX5_name_40 : decode cX5_name 40 = .ok (.getfield 66, 3) := by decide +kernel
theorem dX5_name_43 : decode cX5_name 43 = .ok (.iload_n 1, 1) := by decide +kernel
theorem dX5_name_44 : decode cX5_name 44 = .ok (.iastore, 1) := by decide +kernel
theorem dX5_name_45 : decode cX5_name 45 = .ok (.aload_n 0, 1) := by decide +kernel
theorem dX5_name_46 : decode cX5_name 46 = .ok (.getfield 66, 3) := by decide +kernel
theorem dX5_name_49 : decode cX5_name 49 = .ok (.ireturn, 1) := by decide +kernel
theorem dX5_has_0 : decode cX5_has 0 = .ok (.iconst 0, 1) := by decide +kernel
theorem dX5_has_1 : decode cX5_has 1 = .ok (.istore 4, 2) := by decide +kernel
theorem dX5_has_3 : decode cX5_has 3 = .ok (.iconst 0, 1) := by decide +kernel
theorem dX5_has_4 : decode cX5_has 4 = .ok (.istore 5, 2) := by decide +kernel
theorem dX5_has_6 : decode cX5_has 6 = .ok (.iload 5, 2) := by decide +kernel
theorem dX5_has_8 : decode cX5_has 8 = .ok (.aload_n 0, 1) := by decide +kernel
theorem dX5_has_9 : decode cX5_has 9 = .ok (.getfield 19, 3) := by decide +kernel
theorem dX5_has_12 : decode cX5_has 12 = .ok (.iload_n 1, 1) := by decide +kernel
theorem dX5_has_13 : decode cX5_has 13 = .ok (.iaload, 1) := by decide +kernel
theorem dX5_has_14 : decode cX5_has 14 = .ok (.if_icmp .ge 53, 3) := by decide +kernel
theorem dX5_has_17 : decode cX5_has 17 = .ok (.iload 4, 2) := by decide +kernel
theorem dX5_has_19 : decode cX5_has 19 = .ok (.ifCond .ne 35, 3) := by decide +kernel
theorem dX5_has_22 : decode cX5_has 22 = .ok (.aload_n 0, 1) := by decide +kernel
theorem dX5_has_23 : decode cX5_has 23 = .ok (.getfield 13, 3) := by decide +kernel
theorem dX5_has_26 : decode cX5_has 26 = .ok (.bipush 8, 2) := by decide +kernel
theorem dX5_has_28 : decode cX5_has 28 = .ok (.iload_n 1, 1) := by decide +kernel
theorem dX5_has_29 : decode cX5_has 29 = .ok (.imul, 1) := by decide +kernel
theorem dX5_has_30 : decode cX5_has 30 = .ok (.iload 5, 2) := by decide +kernel
theorem dX5_has_32 : decode cX5_has 32 = .ok (.iadd, 1) := by decide +kernel
theorem dX5_has_33 : decode cX5_has 33 = .ok (.iaload, 1) := by decide +kernel
theorem dX5_has_34 : decode cX5_has 34 = .ok (.iload_n 2, 1) := by decide +kernel
theorem dX5_has_35 : decode cX5_has 35 = .ok (.if_icmp .ne 23, 3) := by decide +kernel
theorem dX5_has_38 : decode cX5_has 38 = .ok (.aload_n 0, 1) := by decide +kernel
theorem dX5_has_39 : decode cX5_has 39 = .ok (.getfield 16, 3) := by decide +kernel
theorem dX5_has_42 : decode cX5_has 42 = .ok (.bipush 8, 2) := by decide +kernel
theorem dX5_has_44 : decode cX5_has 44 = .ok (.iload_n 1, 1) := by decide +kernel
theorem dX5_has_45 : decode cX5_has 45 = .ok (.imul, 1) := by decide +kernel
theorem dX5_has_46 : decode cX5_has 46 = .ok (.iload 5, 2) := by decide +kernel
theorem dX5_has_48 : decode cX5_has 48 = .ok (.iadd, 1) := by decide +kernel
theorem dX5_has_49 : decode cX5_has 49 = .ok (.iaload, 1) := by decide +kernel
theorem dX5_has_50 : decode cX5_has 50 = .ok (.iload_n 3, 1) := by decide +kernel
theorem dX5_has_51 : decode cX5_has 51 = .ok (.if_icmp .ne 7, 3) := by decide +kernel
theorem dX5_has_54 : decode cX5_has 54 = .ok (.iconst 1, 1) := by decide +kernel
theorem dX5_has_55 : decode cX5_has 55 = .ok (.goto 4, 3) := by decide +kernel
theorem dX5_has_58 : decode cX5_has 58 = .ok (.iconst 0, 1) := by decide +kernel
theorem dX5_has_59 : decode cX5_has 59 = .ok (.istore 4, 2) := by decide +kernel
theorem dX5_has_61 : decode cX5_has 61 = .ok (.iinc 5 1, 3) := by decide +kernel
theorem dX5_has_64 : decode cX5_has 64 = .ok (.goto (-58), 3) := by decide +kernel
theorem dX5_has_67 : decode cX5_has 67 = .ok (.iload 4, 2) := by decide +kernel
theorem dX5_has_69 : decode cX5_has 69 = .ok (.ireturn, 1) := by decide +kernel
set_option maxRecDepth 20000 in
theorem ggX5_token_X5_isName : GoodIn wsX5_token wsX5_isName := goodIn_r _ [9, 10, 15, 16, 17, 18, 19, 20, 21, 22, 23, 24, 25, 26, 27, 28, 29, 30, 31, 32, 33, 34, 35, 36, 37] (by decide +kernel) (by decide +kernel)
set_option maxRecDepth 20000 in
theorem gX5_token_X5_isName : GoodIn wsX5_token (wsV RX5 69 RX5 yX5_isName wsX5_isName) := goodIn_app (goodIn_of _ (by decide +kernel)) ggX5_token_X5_isName
set_option maxRecDepth 20000 in
theorem ggX5_token_X5_has : GoodIn wsX5_token wsX5_has := goodIn_ca (goodIn_r _ [14, 2, 3, 4, 15, 16, 17, 18, 19, 20, 21, 22, 23, 24, 25, 26, 27, 28, 29, 30, 31, 32, 33, 34, 35, 36, 37] (by decide +kernel) (by decide +kernel)) (goodIn_sub (fun _ h => List.mem_cons_of_mem _ (List.mem_append_right _ h)) (by decide +kernel))
set_option maxRecDepth 20000 in
theorem gX5_token_X5_has : GoodIn wsX5_token (wsV RX5 73 RX5 yX5_has wsX5_has) := goodIn_app (goodIn_of _ (by decide +kernel)) ggX5_token_X5_has
theorem dX5_token_0 : decode cX5_token 0 = .ok (.aload_n 0, 1) := by decide +kernel
theorem dX5_token_1 : decode cX5_token 1 = .ok (.iconst 0, 1) := by decide +kernel
theorem dX5_token_2 : decode cX5_token 2 = .ok (.putfield 62, 3) := by decide +kernel
theorem dX5_token_5 : decode cX5_token 5 = .ok (.aload_n 0, 1) := by decide +kernel
theorem dX5_token_6 : decode cX5_token 6 = .ok (.iload_n 1, 1) := by decide +kernel
theorem dX5_token_7 : decode cX5_token 7 = .ok (.invokevirtual 69, 3) := by decide +kernel
theorem dX5_token_10 : decode cX5_token 10 = .ok (.ifCond .eq 77, 3) := by decide +kernel
theorem dX5_token_13 : decode cX5_token 13 = .ok (.iload_n 3, 1) := by decide +kernel
theorem dX5_token_14 : decode cX5_token 14 = .ok (.ifCond .lt 73, 3) := by decide +kernel
theorem dX5_token_17 : decode cX5_token 17 = .ok (.iload_n 3, 1) := by decide +kernel
theorem dX5_token_18 : decode cX5_token 18 = .ok (.iconst 3, 1) := by decide +kernel
theorem dX5_token_19 : decode cX5_token 19 = .ok (.if_icmp .ge 68, 3) := by decide +kernel
theorem dX5_token_22 : decode cX5_token 22 = .ok (.aload_n 0, 1) := by decide +kernel
theorem dX5_token_23 : decode cX5_token 23 = .ok (.getfield 19, 3) := by decide +kernel
theorem dX5_token_26 : decode cX5_token 26 = .ok (.iload_n 1, 1) := by decide +kernel
theorem dX5_token_27 : decode cX5_token 27 = .ok (.iaload, 1) := by decide +kernel
theorem dX5_token_28 : decode cX5_token 28 = .ok (.bipush 8, 2) := by decide +kernel
theorem dX5_token_30 : decode cX5_token 30 = .ok (.if_icmp .ge 57, 3) := by decide +kernel
theorem dX5_token_33 : decode cX5_token 33 = .ok (.aload_n 0, 1) := by decide +kernel
theorem dX5_token_34 : decode cX5_token 34 = .ok (.iload_n 1, 1) := by decide +kernel
theorem dX5_token_35 : decode cX5_token 35 = .ok (.iload_n 2, 1) := by decide +kernel
theorem dX5_token_36 : decode cX5_token 36 = .ok (.iload_n 3, 1) := by decide +kernel
theorem dX5_token_37 : decode cX5_token 37 = .ok (.invokevirtual 73, 3) := by decide +kernel
theorem dX5_token_40 : decode cX5_token 40 = .ok (.ifCond .ne 47, 3) := by decide +kernel
theorem dX5_token_43 : decode cX5_token 43 = .ok (.aload_n 0, 1) := by decide +kernel
theorem dX5_token_44 : decode cX5_token 44 = .ok (.getfield 13, 3) := by decide +kernel
theorem dX5_token_47 : decode cX5_token 47 = .ok (.bipush 8, 2) := by decide +kernel
theorem dX5_token_49 : decode cX5_token 49 = .ok (.iload_n 1, 1) := by decide +kernel
theorem dX5_token_50 : decode cX5_token 50 = .ok (.imul, 1) := by decide +kernel
theorem dX5_token_51 : decode cX5_token 51 = .ok (.aload_n 0, 1) := by decide +kernel
theorem dX5_token_52 : decode cX5_token 52 = .ok (.getfield 19, 3) := by decide +kernel
theorem dX5_token_55 : decode cX5_token 55 = .ok (.iload_n 1, 1) := by decide +kernel
theorem dX5_token_56 : decode cX5_token 56 = .ok (.iaload, 1) := by decide +kernel
theorem dX5_token_57 : decode cX5_token 57 = .ok (.iadd, 1) := by decide +kernel
theorem dX5_token_58 : decode cX5_token 58 = .ok (.iload_n 2, 1) := by decide +kernel
theorem dX5_token_59 : decode cX5_token 59 = .ok (.iastore, 1) := by decide +kernel
theorem dX5_token_60 : decode cX5_token 60 = .ok (.aload_n 0, 1) := by decide +kernel
theorem dX5_token_61 : decode cX5_token 61 = .ok (.getfield 16, 3) := by decide +kernel
theorem dX5_token_64 : decode cX5_token 64 = .ok (.bipush 8, 2) := by decide +kernel
theorem dX5_token_66 : decode cX5_token 66 = .ok (.iload_n 1, 1) := by decide +kernel
theorem dX5_token_67 : decode cX5_token 67 = .ok (.imul, 1) := by decide +kernel
theorem dX5_token_68 : decode cX5_token 68 = .ok (.aload_n 0, 1) := by decide +kernel
theorem dX5_token_69 : decode cX5_token 69 = .ok (.getfield 19, 3) := by decide +kernel
theorem dX5_token_72 : decode cX5_token 72 = .ok (.iload_n 1, 1) := by decide +kernel
theorem dX5_token_73 : decode cX5_token 73 = .ok (.iaload, 1) := by decide +kernel
theorem dX5_token_74 : decode cX5_token 74 = .ok (.iadd, 1) := by decide +kernel
theorem dX5_token_75 : decode cX5_token 75 = .ok (.iload_n 3, 1) := by decide +kernel
theorem dX5_token_76 : decode cX5_token 76 = .ok (.iastore, 1) := by decide +kernel
theorem dX5_token_77 : decode cX5_token 77 = .ok (.aload_n 0, 1) := by decide +kernel
theorem dX5_token_78 : decode cX5_token 78 = .ok (.getfield 19, 3) := by decide +kernel
theorem dX5_token_81 : decode cX5_token 81 = .ok (.iload_n 1, 1) := by decide +kernel
theorem dX5_token_82 : decode cX5_token 82 = .ok (.dup2, 1) := by decide +kernel
theorem dX5_token_83 : decode cX5_token 83 = .ok (.iaload, 1) := by decide +kernel
theorem dX5_token_84 : decode cX5_token 84 = .ok (.iconst 1, 1) := by decide +kernel
theorem dX5_token_85 : decode cX5_token 85 = .ok (.iadd, 1) := by decide +kernel
theorem dX5_token_86 : decode cX5_token 86 = .ok (.iastore, 1) := by decide +kernel
theorem dX5_token_87 : decode cX5_token 87 = .ok (.return_, 1) := by decide +kernel
set_option maxRecDepth 20000 in
theorem ggX5_date_X5_isName : GoodIn wsX5_date wsX5_isName := goodIn_r _ [9, 10, 11, 12, 13, 14, 15, 16, 17, 18, 19, 20, 21, 22, 23, 24, 25, 26, 27, 28, 29, 30, 31, 32, 33] (by decide +kernel) (by decide +kernel)
set_option maxRecDepth 20000 in
theorem gX5_date_X5_isName : GoodIn wsX5_date (wsV RX5 69 RX5 yX5_isName wsX5_isName) := goodIn_app (goodIn_of _ (by decide +kernel)) ggX5_date_X5_isName
theorem dX5_date_0 : decode cX5_date 0 = .ok (.aload_n 0, 1) := by decide +kernel
theorem dX5_date_1 : decode cX5_date 1 = .ok (.iconst 0, 1) := by decide +kernel
theorem dX5_date_2 : decode cX5_date 2 = .ok (.putfield 62, 3) := by decide +kernel
theorem dX5_date_5 : decode cX5_date 5 = .ok (.aload_n 0, 1) := by decide +kernel
theorem dX5_date_6 : decode cX5_date 6 = .ok (.iload_n 1, 1) := by decide +kernel
theorem dX5_date_7 : decode cX5_date 7 = .ok (.invokevirtual 69, 3) := by decide +kernel
theorem dX5_date_10 : decode cX5_date 10 = .ok (.ifCond .eq 32, 3) := by decide +kernel
theorem dX5_date_13 : decode cX5_date 13 = .ok (.lload_n 2, 1) := by decide +kernel
theorem dX5_date_14 : decode cX5_date 14 = .ok (.lload 4, 2) := by decide +kernel
theorem dX5_date_16 : decode cX5_date 16 = .ok (.lcmp, 1) := by decide +kernel
theorem dX5_date_17 : decode cX5_date 17 = .ok (.ifCond .gt 25, 3) := by decide +kernel
theorem dX5_date_20 : decode cX5_date 20 = .ok (.aload_n 0, 1) := by decide +kernel
theorem dX5_date_21 : decode cX5_date 21 = .ok (.getfield 22, 3) := by decide +kernel
theorem dX5_date_24 : decode cX5_date 24 = .ok (.iload_n 1, 1) := by decide +kernel
theorem dX5_date_25 : decode cX5_date 25 = .ok (.iconst 1, 1) := by decide +kernel
theorem dX5_date_26 : decode cX5_date 26 = .ok (.bastore, 1) := by decide +kernel
theorem dX5_date_27 : decode cX5_date 27 = .ok (.aload_n 0, 1) := by decide +kernel
theorem dX5_date_28 : decode cX5_date 28 = .ok (.getfield 26, 3) := by decide +kernel
theorem dX5_date_31 : decode cX5_date 31 = .ok (.iload_n 1, 1) := by decide +kernel
theorem dX5_date_32 : decode cX5_date 32 = .ok (.lload_n 2, 1) := by decide +kernel
theorem dX5_date_33 : decode cX5_date 33 = .ok (.lastore, 1) := by decide +kernel
theorem dX5_date_34 : decode cX5_date 34 = .ok (.aload_n 0, 1) := by decide +kernel
theorem dX5_date_35 : decode cX5_date 35 = .ok (.getfield 30, 3) := by decide +kernel
theorem dX5_date_38 : decode cX5_date 38 = .ok (.iload_n 1, 1) := by decide +kernel
theorem dX5_date_39 : decode cX5_date 39 = .ok (.lload 4, 2) := by decide +kernel
theorem dX5_date_41 : decode cX5_date 41 = .ok (.lastore, 1) := by decide +kernel
theorem dX5_date_42 : decode cX5_date 42 = .ok (.return_, 1) := by decide +kernel
theorem dX5_weight_0 : decode cX5_weight 0 = .ok (.aload_n 0, 1) := by decide +kernel
theorem dX5_weight_1 : decode cX5_weight 1 = .ok (.iconst 0, 1) := by decide +kernel
theorem dX5_weight_2 : decode cX5_weight 2 = .ok (.putfield 62, 3) := by decide +kernel
theorem dX5_weight_5 : decode cX5_weight 5 = .ok (.iload_n 1, 1) := by decide +kernel
theorem dX5_weight_6 : decode cX5_weight 6 = .ok (.ifCond .lt 38, 3) := by decide +kernel
theorem dX5_weight_9 : decode cX5_weight 9 = .ok (.iload_n 1, 1) := by decide +kernel
theorem dX5_weight_10 : decode cX5_weight 10 = .ok (.iconst 3, 1) := by decide +kernel
theorem dX5_weight_11 : decode cX5_weight 11 = .ok (.if_icmp .gt 33, 3) := by decide +kernel
theorem dX5_weight_14 : decode cX5_weight 14 = .ok (.lload_n 2, 1) := by decide +kernel
theorem dX5_weight_15 : decode cX5_weight 15 = .ok (.lconst 0, 1) := by decide +kernel
theorem dX5_weight_16 : decode cX5_weight 16 = .ok (.lcmp, 1) := by decide +kernel
theorem dX5_weight_17 : decode cX5_weight 17 = .ok (.ifCond .lt 27, 3) := by decide +kernel
theorem dX5_weight_20 : decode cX5_weight 20 = .ok (.lload_n 2, 1) := by decide +kernel
theorem dX5_weight_21 : decode cX5_weight 21 = .ok (.ldc2_w 77, 3) := by decide +kernel
theorem dX5_weight_24 : decode cX5_weight 24 = .ok (.lcmp, 1) := by decide +kernel
theorem dX5_weight_25 : decode cX5_weight 25 = .ok (.ifCond .gt 19, 3) := by decide +kernel
theorem dX5_weight_28 : decode cX5_weight 28 = .ok (.lload 4, 2) := by decide +kernel
theorem dX5_weight_30 : decode cX5_weight 30 = .ok (.lconst 1, 1) := by decide +kernel
theorem dX5_weight_31 : decode cX5_weight 31 = .ok (.lcmp, 1) := by decide +kernel
theorem dX5_weight_32 : decode cX5_weight 32 = .ok (.ifCond .lt 12, 3) := by decide +kernel
theorem dX5_weight_35 : decode cX5_weight 35 = .ok (.lload 4, 2) := by decide +kernel
theorem dX5_weight_37 : decode cX5_weight 37 = .ok (.ldc2_w 79, 3) := by decide +kernel
theorem dX5_weight_40 : decode cX5_weight 40 = .ok (.lcmp, 1) := by decide +kernel
theorem dX5_weight_41 : decode cX5_weight 41 = .ok (.ifCond .le 5, 3) := by decide +kernel
theorem dX5_weight_44 : decode cX5_weight 44 = .ok (.iconst 0, 1) := by decide +kernel
theorem dX5_weight_45 : decode cX5_weight 45 = .ok (.ireturn, 1) := by decide +kernel
theorem dX5_weight_46 : decode cX5_weight 46 = .ok (.aload_n 0, 1) := by decide +kernel
theorem dX5_weight_47 : decode cX5_weight 47 = .ok (.getfield 38, 3) := by decide +kernel
theorem dX5_weight_50 : decode cX5_weight 50 = .ok (.iload_n 1, 1) := by decide +kernel
theorem dX5_weight_51 : decode cX5_weight 51 = .ok (.ldc2_w 36, 3) := by decide +kernel
theorem dX5_weight_54 : decode cX5_weight 54 = .ok (.lload 4, 2) := by decide +kernel
theorem dX5_weight_56 : decode cX5_weight 56 = .ok (.ldiv, 1) := by decide +kernel
theorem dX5_weight_57 : decode cX5_weight 57 = .ok (.lload_n 2, 1) := by decide +kernel
theorem dX5_weight_58 : decode cX5_weight 58 = .ok (.lmul, 1) := by decide +kernel
theorem dX5_weight_59 : decode cX5_weight 59 = .ok (.lastore, 1) := by decide +kernel
theorem dX5_weight_60 : decode cX5_weight 60 = .ok (.iconst 1, 1) := by decide +kernel
theorem dX5_weight_61 : decode cX5_weight 61 = .ok (.ireturn, 1) := by decide +kernel
set_option maxRecDepth 20000 in
theorem ggX5_reckon_X5_has : GoodIn wsX5_reckon wsX5_has := goodIn_ca (goodIn_r _ [14, 3, 6, 5, 15, 16, 17, 18, 19, 20, 21, 22, 23, 24, 25, 26, 27, 28, 29, 30, 31, 32, 33, 34, 35, 36, 37] (by decide +kernel) (by decide +kernel)) (goodIn_sub (fun _ h => List.mem_cons_of_mem _ (List.mem_append_right _ h)) (by decide +kernel))
set_option maxRecDepth 20000 in
theorem gX5_reckon_X5_has : GoodIn wsX5_reckon (wsV RX5 73 RX5 yX5_has wsX5_has) := goodIn_app (goodIn_of _ (by decide +kernel)) ggX5_reckon_X5_has
theorem dX5_reckon_0 : decode cX5_reckon 0 = .ok (.aload_n 0, 1) := by decide +kernel
theorem dX5_reckon_1 : decode cX5_reckon 1 = .ok (.lconst 0, 1) := by decide +kernel
theorem dX5_reckon_2 : decode cX5_reckon 2 = .ok (.putfield 81, 3) := by decide +kernel
theorem dX5_reckon_5 : decode cX5_reckon 5 = .ok (.aload_n 0, 1) := by decide +kernel
theorem dX5_reckon_6 : decode cX5_reckon 6 = .ok (.lconst 0, 1) := by decide +kernel
theorem dX5_reckon_7 : decode cX5_reckon 7 = .ok (.putfield 85, 3) := by decide +kernel
theorem dX5_reckon_10 : decode cX5_reckon 10 = .ok (.iconst 0, 1) := by decide +kernel
theorem dX5_reckon_11 : decode cX5_reckon 11 = .ok (.istore_n 3, 1) := by decide +kernel
theorem dX5_reckon_12 : decode cX5_reckon 12 = .ok (.iload_n 3, 1) := by decide +kernel
theorem dX5_reckon_13 : decode cX5_reckon 13 = .ok (.aload_n 0, 1) := by decide +kernel
theorem dX5_reckon_14 : decode cX5_reckon 14 = .ok (.getfield 19, 3) := by decide +kernel
theorem dX5_reckon_17 : decode cX5_reckon 17 = .ok (.iload_n 1, 1) := by decide +kernel
theorem dX5_reckon_18 : decode cX5_reckon 18 = .ok (.iaload, 1) := by decide +kernel
theorem dX5_reckon_19 : decode cX5_reckon 19 = .ok (.if_icmp .ge 83, 3) := by decide +kernel
theorem dX5_reckon_22 : decode cX5_reckon 22 = .ok (.aload_n 0, 1) := by decide +kernel
theorem dX5_reckon_23 : decode cX5_reckon 23 = .ok (.getfield 38, 3) := by decide +kernel
theorem dX5_reckon_26 : decode cX5_reckon 26 = .ok (.aload_n 0, 1) := by decide +kernel
theorem dX5_reckon_27 : decode cX5_reckon 27 = .ok (.getfield 16, 3) := by decide +kernel
theorem dX5_reckon_30 : decode cX5_reckon 30 = .ok (.bipush 8, 2) := by decide +kernel
theorem dX5_reckon_32 : decode cX5_reckon 32 = .ok (.iload_n 1, 1) := by decide +kernel
theorem dX5_reckon_33 : decode cX5_reckon 33 = .ok (.imul, 1) := by decide +kernel
theorem dX5_reckon_34 : decode cX5_reckon 34 = .ok (.iload_n 3, 1) := by decide +kernel
theorem dX5_reckon_35 : decode cX5_reckon 35 = .ok (.iadd, 1) := by decide +kernel
theorem dX5_reckon_36 : decode cX5_reckon 36 = .ok (.iaload, 1) := by decide +kernel
theorem dX5_reckon_37 : decode cX5_reckon 37 = .ok (.laload, 1) := by decide +kernel
theorem dX5_reckon_38 : decode cX5_reckon 38 = .ok (.lstore 4, 2) := by decide +kernel
theorem dX5_reckon_40 : decode cX5_reckon 40 = .ok (.aload_n 0, 1) := by decide +kernel
theorem dX5_reckon_41 : decode cX5_reckon 41 = .ok (.dup, 1) := by decide +kernel
theorem dX5_reckon_42 : decode cX5_reckon 42 = .ok (.getfield 85, 3) := by decide +kernel
theorem dX5_reckon_45 : decode cX5_reckon 45 = .ok (.lload 4, 2) := by decide +kernel
theorem dX5_reckon_47 : decode cX5_reckon 47 = .ok (.ladd, 1) := by decide +kernel
theorem dX5_reckon_48 : decode cX5_reckon 48 = .ok (.putfield 85, 3) := by decide +kernel
theorem dX5_reckon_51 : decode cX5_reckon 51 = .ok (.aload_n 0, 1) := by decide +kernel
theorem dX5_reckon_52 : decode cX5_reckon 52 = .ok (.dup, 1) := by decide +kernel
theorem dX5_reckon_53 : decode cX5_reckon 53 = .ok (.getfield 81, 3) := by decide +kernel
theorem dX5_reckon_56 : decode cX5_reckon 56 = .ok (.aload_n 0, 1) := by decide +kernel
theorem dX5_reckon_57 : decode cX5_reckon 57 = .ok (.iload_n 2, 1) := by decide +kernel
theorem dX5_reckon_58 : decode cX5_reckon 58 = .ok (.aload_n 0, 1) := by decide +kernel
theorem dX5_reckon_59 : decode cX5_reckon 59 = .ok (.getfield 13, 3) := by decide +kernel
theorem dX5_reckon_62 : decode cX5_reckon 62 = .ok (.bipush 8, 2) := by decide +kernel
theorem dX5_reckon_64 : decode cX5_reckon 64 = .ok (.iload_n 1, 1) := by decide +kernel
theorem dX5_reckon_65 : decode cX5_reckon 65 = .ok (.imul, 1) := by decide +kernel
theorem dX5_reckon_66 : decode cX5_reckon 66 = .ok (.iload_n 3, 1) := by decide +kernel
theorem dX5_reckon_67 : decode cX5_reckon 67 = .ok (.iadd, 1) := by decide +kernel
theorem dX5_reckon_68 : decode cX5_reckon 68 = .ok (.iaload, 1) := by decide +kernel
theorem dX5_reckon_69 : decode cX5_reckon 69 = .ok (.aload_n 0, 1) := by decide +kernel
theorem dX5_reckon_70 : decode cX5_reckon 70 = .ok (.getfield 16, 3) := by decide +kernel
theorem dX5_reckon_73 : decode cX5_reckon 73 = .ok (.bipush 8, 2) := by decide +kernel
theorem dX5_reckon_75 : decode cX5_reckon 75 = .ok (.iload_n 1, 1) := by decide +kernel
theorem dX5_reckon_76 : decode cX5_reckon 76 = .ok (.imul, 1) := by decide +kernel
theorem dX5_reckon_77 : decode cX5_reckon 77 = .ok (.iload_n 3, 1) := by decide +kernel
theorem dX5_reckon_78 : decode cX5_reckon 78 = .ok (.iadd, 1) := by decide +kernel
theorem dX5_reckon_79 : decode cX5_reckon 79 = .ok (.iaload, 1) := by decide +kernel
theorem dX5_reckon_80 : decode cX5_reckon 80 = .ok (.invokevirtual 73, 3) := by decide +kernel
theorem dX5_reckon_83 : decode cX5_reckon 83 = .ok (.ifCond .eq 8, 3) := by decide +kernel
theorem dX5_reckon_86 : decode cX5_reckon 86 = .ok (.lload 4, 2) := by decide +kernel
theorem dX5_reckon_88 : decode cX5_reckon 88 = .ok (.goto 4, 3) := by decide +kernel
theorem dX5_reckon_91 : decode cX5_reckon 91 = .ok (.lconst 0, 1) := by decide +kernel
theorem dX5_reckon_92 : decode cX5_reckon 92 = .ok (.ladd, 1) := by decide +kernel
theorem dX5_reckon_93 : decode cX5_reckon 93 = .ok (.putfield 81, 3) := by decide +kernel
theorem dX5_reckon_96 : decode cX5_reckon 96 = .ok (.iinc 3 1, 3) := by decide +kernel
theorem dX5_reckon_99 : decode cX5_reckon 99 = .ok (.goto (-87), 3) := by decide +kernel
theorem dX5_reckon_102 : decode cX5_reckon 102 = .ok (.iconst 0, 1) := by decide +kernel
theorem dX5_reckon_103 : decode cX5_reckon 103 = .ok (.istore_n 3, 1) := by decide +kernel
theorem dX5_reckon_104 : decode cX5_reckon 104 = .ok (.iload_n 3, 1) := by decide +kernel
theorem dX5_reckon_105 : decode cX5_reckon 105 = .ok (.aload_n 0, 1) := by decide +kernel
theorem dX5_reckon_106 : decode cX5_reckon 106 = .ok (.getfield 19, 3) := by decide +kernel
theorem dX5_reckon_109 : decode cX5_reckon 109 = .ok (.iload_n 2, 1) := by decide +kernel
theorem dX5_reckon_110 : decode cX5_reckon 110 = .ok (.iaload, 1) := by decide +kernel
theorem dX5_reckon_111 : decode cX5_reckon 111 = .ok (.if_icmp .ge 68, 3) := by decide +kernel
theorem dX5_reckon_114 : decode cX5_reckon 114 = .ok (.aload_n 0, 1) := by decide +kernel
theorem dX5_reckon_115 : decode cX5_reckon 115 = .ok (.dup, 1) := by decide +kernel
theorem dX5_reckon_116 : decode cX5_reckon 116 = .ok (.getfield 85, 3) := by decide +kernel
theorem dX5_reckon_119 : decode cX5_reckon 119 = .ok (.aload_n 0, 1) := by decide +kernel
theorem dX5_reckon_120 : decode cX5_reckon 120 = .ok (.iload_n 1, 1) := by decide +kernel
theorem dX5_reckon_121 : decode cX5_reckon 121 = .ok (.aload_n 0, 1) := by decide +kernel
theorem dX5_reckon_122 : decode cX5_reckon 122 = .ok (.getfield 13, 3) := by decide +kernel
theorem dX5_reckon_125 : decode cX5_reckon 125 = .ok (.bipush 8, 2) := by decide +kernel
theorem dX5_reckon_127 : decode cX5_reckon 127 = .ok (.iload_n 2, 1) := by decide +kernel
theorem dX5_reckon_128 : decode cX5_reckon 128 = .ok (.imul, 1) := by decide +kernel
theorem dX5_reckon_129 : decode cX5_reckon 129 = .ok (.iload_n 3, 1) := by decide +kernel
theorem dX5_reckon_130 : decode cX5_reckon 130 = .ok (.iadd, 1) := by decide +kernel
theorem dX5_reckon_131 : decode cX5_reckon 131 = .ok (.iaload, 1) := by decide +kernel
theorem dX5_reckon_132 : decode cX5_reckon 132 = .ok (.aload_n 0, 1) := by decide +kernel
theorem dX5_reckon_133 : decode cX5_reckon 133 = .ok (.getfield 16, 3) := by decide +kernel
theorem dX5_reckon_136 : decode cX5_reckon 136 = .ok (.bipush 8, 2) := by decide +kernel
theorem dX5_reckon_138 : decode cX5_reckon 138 = .ok (.iload_n 2, 1) := by decide +kernel
theorem dX5_reckon_139 : decode cX5_reckon 139 = .ok (.imul, 1) := by decide +kernel
theorem dX5_reckon_140 : decode cX5_reckon 140 = .ok (.iload_n 3, 1) := by decide +kernel
theorem dX5_reckon_141 : decode cX5_reckon 141 = .ok (.iadd, 1) := by decide +kernel
theorem dX5_reckon_142 : decode cX5_reckon 142 = .ok (.iaload, 1) := by decide +kernel
theorem dX5_reckon_143 : decode cX5_reckon 143 = .ok (.invokevirtual 73, 3) := by decide +kernel
theorem dX5_reckon_146 : decode cX5_reckon 146 = .ok (.ifCond .eq 7, 3) := by decide +kernel
theorem dX5_reckon_149 : decode cX5_reckon 149 = .ok (.lconst 0, 1) := by decide +kernel
theorem dX5_reckon_150 : decode cX5_reckon 150 = .ok (.goto 19, 3) := by decide +kernel
theorem dX5_reckon_153 : decode cX5_reckon 153 = .ok (.aload_n 0, 1) := by decide +kernel
theorem dX5_reckon_154 : decode cX5_reckon 154 = .ok (.getfield 38, 3) := by decide +kernel
theorem dX5_reckon_157 : decode cX5_reckon 157 = .ok (.aload_n 0, 1) := by decide +kernel
theorem dX5_reckon_158 : decode cX5_reckon 158 = .ok (.getfield 16, 3) := by decide +kernel
theorem dX5_reckon_161 : decode cX5_reckon 161 = .ok (.bipush 8, 2) := by decide +kernel
theorem dX5_reckon_163 : decode cX5_reckon 163 = .ok (.iload_n 2, 1) := by decide +kernel
theorem dX5_reckon_164 : decode cX5_reckon 164 = .ok (.imul, 1) := by decide +kernel
theorem dX5_reckon_165 : decode cX5_reckon 165 = .ok (.iload_n 3, 1) := by decide +kernel
theorem dX5_reckon_166 : decode cX5_reckon 166 = .ok (.iadd, 1) := by decide +kernel
theorem dX5_reckon_167 : decode cX5_reckon 167 = .ok (.iaload, 1) := by decide +kernel
theorem dX5_reckon_168 : decode cX5_reckon 168 = .ok (.laload, 1) := by decide +kernel
theorem dX5_reckon_169 : decode cX5_reckon 169 = .ok (.ladd, 1) := by decide +kernel
theorem dX5_reckon_170 : decode cX5_reckon 170 = .ok (.putfield 85, 3) := by decide +kernel
theorem dX5_reckon_173 : decode cX5_reckon 173 = .ok (.iinc 3 1, 3) := by decide +kernel
theorem dX5_reckon_176 : decode cX5_reckon 176 = .ok (.goto (-72), 3) := by decide +kernel
theorem dX5_reckon_179 : decode cX5_reckon 179 = .ok (.aload_n 0, 1) := by decide +kernel
theorem dX5_reckon_180 : decode cX5_reckon 180 = .ok (.getfield 22, 3) := by decide +kernel
theorem dX5_reckon_183 : decode cX5_reckon 183 = .ok (.iload_n 1, 1) := by decide +kernel
theorem dX5_reckon_184 : decode cX5_reckon 184 = .ok (.baload, 1) := by decide +kernel
theorem dX5_reckon_185 : decode cX5_reckon 185 = .ok (.ifCond .eq 78, 3) := by decide +kernel
theorem dX5_reckon_188 : decode cX5_reckon 188 = .ok (.aload_n 0, 1) := by decide +kernel
theorem dX5_reckon_189 : decode cX5_reckon 189 = .ok (.getfield 22, 3) := by decide +kernel
theorem dX5_reckon_192 : decode cX5_reckon 192 = .ok (.iload_n 2, 1) := by decide +kernel
theorem dX5_reckon_193 : decode cX5_reckon 193 = .ok (.baload, 1) := by decide +kernel
theorem dX5_reckon_194 : decode cX5_reckon 194 = .ok (.ifCond .eq 69, 3) := by decide +kernel
theorem dX5_reckon_197 : decode cX5_reckon 197 = .ok (.aload_n 0, 1) := by decide +kernel
theorem dX5_reckon_198 : decode cX5_reckon 198 = .ok (.dup, 1) := by decide +kernel
theorem dX5_reckon_199 : decode cX5_reckon 199 = .ok (.getfield 85, 3) := by decide +kernel
theorem dX5_reckon_202 : decode cX5_reckon 202 = .ok (.aload_n 0, 1) := by decide +kernel
theorem dX5_reckon_203 : decode cX5_reckon 203 = .ok (.getfield 38, 3) := by decide +kernel
theorem dX5_reckon_206 : decode cX5_reckon 206 = .ok (.iconst 3, 1) := by decide +kernel
theorem dX5_reckon_207 : decode cX5_reckon 207 = .ok (.laload, 1) := by decide +kernel
theorem dX5_reckon_208 : decode cX5_reckon 208 = .ok (.ladd, 1) := by decide +kernel
theorem dX5_reckon_209 : decode cX5_reckon 209 = .ok (.putfield 85, 3) := by decide +kernel
theorem dX5_reckon_212 : decode cX5_reckon 212 = .ok (.aload_n 0, 1) := by decide +kernel
theorem dX5_reckon_213 : decode cX5_reckon 213 = .ok (.dup, 1) := by decide +kernel
theorem dX5_reckon_214 : decode cX5_reckon 214 = .ok (.getfield 81, 3) := by decide +kernel
theorem dX5_reckon_217 : decode cX5_reckon 217 = .ok (.aload_n 0, 1) := by decide +kernel
theorem dX5_reckon_218 : decode cX5_reckon 218 = .ok (.getfield 26, 3) := by decide +kernel
theorem dX5_reckon_221 : decode cX5_reckon 221 = .ok (.iload_n 1, 1) := by decide +kernel
theorem dX5_reckon_222 : decode cX5_reckon 222 = .ok (.laload, 1) := by decide +kernel
theorem dX5_reckon_223 : decode cX5_reckon 223 = .ok (.aload_n 0, 1) := by decide +kernel
theorem dX5_reckon_224 : decode cX5_reckon 224 = .ok (.getfield 30, 3) := by decide +kernel
theorem dX5_reckon_227 : decode cX5_reckon 227 = .ok (.iload_n 2, 1) := by decide +kernel
theorem dX5_reckon_228 : decode cX5_reckon 228 = .ok (.laload, 1) := by decide +kernel
theorem dX5_reckon_229 : decode cX5_reckon 229 = .ok (.lcmp, 1) := by decide +kernel
theorem dX5_reckon_230 : decode cX5_reckon 230 = .ok (.ifCond .gt 28, 3) := by decide +kernel
theorem dX5_reckon_233 : decode cX5_reckon 233 = .ok (.aload_n 0, 1) := by decide +kernel
theorem dX5_reckon_234 : decode cX5_reckon 234 = .ok (.getfield 26, 3) := by decide +kernel
theorem dX5_reckon_237 : decode cX5_reckon 237 = .ok (.iload_n 2, 1) := by decide +kernel
theorem dX5_reckon_238 : decode cX5_reckon 238 = .ok (.laload, 1) := by decide +kernel
theorem dX5_reckon_239 : decode cX5_reckon 239 = .ok (.aload_n 0, 1) := by decide +kernel
theorem dX5_reckon_240 : decode cX5_reckon 240 = .ok (.getfield 30, 3) := by decide +kernel
theorem dX5_reckon_243 : decode cX5_reckon 243 = .ok (.iload_n 1, 1) := by decide +kernel
theorem dX5_reckon_244 : decode cX5_reckon 244 = .ok (.laload, 1) := by decide +kernel
theorem dX5_reckon_245 : decode cX5_reckon 245 = .ok (.lcmp, 1) := by decide +kernel
theorem dX5_reckon_246 : decode cX5_reckon 246 = .ok (.ifCond .gt 12, 3) := by decide +kernel
theorem dX5_reckon_249 : decode cX5_reckon 249 = .ok (.aload_n 0, 1) := by decide +kernel
theorem dX5_reckon_250 : decode cX5_reckon 250 = .ok (.getfield 38, 3) := by decide +kernel
theorem dX5_reckon_253 : decode cX5_reckon 253 = .ok (.iconst 3, 1) := by decide +kernel
theorem dX5_reckon_254 : decode cX5_reckon 254 = .ok (.laload, 1) := by decide +kernel
theorem dX5_reckon_255 : decode cX5_reckon 255 = .ok (.goto 4, 3) := by decide +kernel
theorem dX5_reckon_258 : decode cX5_reckon 258 = .ok (.lconst 0, 1) := by decide +kernel
theorem dX5_reckon_259 : decode cX5_reckon 259 = .ok (.ladd, 1) := by decide +kernel
theorem dX5_reckon_260 : decode cX5_reckon 260 = .ok (.putfield 81, 3) := by decide +kernel
theorem dX5_reckon_263 : decode cX5_reckon 263 = .ok (.return_, 1) := by decide +kernel
set_option maxRecDepth 20000 in
theorem ggX5_run_X5_reckon : GoodIn wsX5_run wsX5_reckon := goodIn_ca (goodIn_r _ [19, 10, 8, 6, 20, 21, 22, 23, 24, 25, 26, 27, 28, 18, 29, 30, 31, 32, 33, 34, 35, 36, 37, 38, 39, 40, 41, 42, 43, 44, 45, 46, 47, 48, 49, 50, 51, 52] (by decide +kernel) (by decide +kernel)) (goodIn_sub (fun _ h => List.mem_cons_of_mem _ (List.mem_append_right _ h)) (by decide +kernel))
set_option maxRecDepth 20000 in
theorem gX5_run_X5_reckon : GoodIn wsX5_run (wsV RX5 95 RX5 yX5_reckon wsX5_reckon) := goodIn_app (goodIn_of _ (by decide +kernel)) ggX5_run_X5_reckon
theorem dX5_run_0 : decode cX5_run 0 = .ok (.aload_n 0, 1) := by decide +kernel
theorem dX5_run_1 : decode cX5_run 1 = .ok (.iconst 0, 1) := by decide +kernel
theorem dX5_run_2 : decode cX5_run 2 = .ok (.putfield 62, 3) := by decide +kernel
theorem dX5_run_5 : decode cX5_run 5 = .ok (.aload_n 0, 1) := by decide +kernel
theorem dX5_run_6 : decode cX5_run 6 = .ok (.iconst 1, 1) := by decide +kernel
theorem dX5_run_7 : decode cX5_run 7 = .ok (.putfield 88, 3) := by decide +kernel
theorem dX5_run_10 : decode cX5_run 10 = .ok (.aload_n 0, 1) := by decide +kernel
theorem dX5_run_11 : decode cX5_run 11 = .ok (.iconst 0, 1) := by decide +kernel
theorem dX5_run_12 : decode cX5_run 12 = .ok (.putfield 92, 3) := by decide +kernel
theorem dX5_run_15 : decode cX5_run 15 = .ok (.iconst 1, 1) := by decide +kernel
theorem dX5_run_16 : decode cX5_run 16 = .ok (.istore_n 1, 1) := by decide +kernel
theorem dX5_run_17 : decode cX5_run 17 = .ok (.iload_n 1, 1) := by decide +kernel
theorem dX5_run_18 : decode cX5_run 18 = .ok (.aload_n 0, 1) := by decide +kernel
theorem dX5_run_19 : decode cX5_run 19 = .ok (.getfield 66, 3) := by decide +kernel
theorem dX5_run_22 : decode cX5_run 22 = .ok (.if_icmp .gt 256, 3) := by decide +kernel
theorem dX5_run_25 : decode cX5_run 25 = .ok (.iconst 1, 1) := by decide +kernel
theorem dX5_run_26 : decode cX5_run 26 = .ok (.istore_n 2, 1) := by decide +kernel
theorem dX5_run_27 : decode cX5_run 27 = .ok (.iload_n 2, 1) := by decide +kernel
theorem dX5_run_28 : decode cX5_run 28 = .ok (.aload_n 0, 1) := by decide +kernel
theorem dX5_run_29 : decode cX5_run 29 = .ok (.getfield 66, 3) := by decide +kernel
theorem dX5_run_32 : decode cX5_run 32 = .ok (.if_icmp .gt 240, 3) := by decide +kernel
theorem dX5_run_35 : decode cX5_run 35 = .ok (.aload_n 0, 1) := by decide +kernel
theorem dX5_run_36 : decode cX5_run 36 = .ok (.getfield 7, 3) := by decide +kernel
theorem dX5_run_39 : decode cX5_run 39 = .ok (.iload_n 1, 1) := by decide +kernel
theorem dX5_run_40 : decode cX5_run 40 = .ok (.iaload, 1) := by decide +kernel
theorem dX5_run_41 : decode cX5_run 41 = .ok (.ifCond .ne 225, 3) := by decide +kernel
theorem dX5_run_44 : decode cX5_run 44 = .ok (.aload_n 0, 1) := by decide +kernel
theorem dX5_run_45 : decode cX5_run 45 = .ok (.getfield 7, 3) := by decide +kernel
theorem dX5_run_48 : decode cX5_run 48 = .ok (.iload_n 2, 1) := by decide +kernel
theorem dX5_run_49 : decode cX5_run 49 = .ok (.iaload, 1) := by decide +kernel
theorem dX5_run_50 : decode cX5_run 50 = .ok (.iconst 1, 1) := by decide +kernel
theorem dX5_run_51 : decode cX5_run 51 = .ok (.if_icmp .ne 215, 3) := by decide +kernel
theorem dX5_run_54 : decode cX5_run 54 = .ok (.aload_n 0, 1) := by decide +kernel
theorem dX5_run_55 : decode cX5_run 55 = .ok (.getfield 19, 3) := by decide +kernel
theorem dX5_run_58 : decode cX5_run 58 = .ok (.iload_n 1, 1) := by decide +kernel
theorem dX5_run_59 : decode cX5_run 59 = .ok (.iaload, 1) := by decide +kernel
theorem dX5_run_60 : decode cX5_run 60 = .ok (.ifCond .le 206, 3) := by decide +kernel
theorem dX5_run_63 : decode cX5_run 63 = .ok (.aload_n 0, 1) := by decide +kernel
theorem dX5_run_64 : decode cX5_run 64 = .ok (.getfield 19, 3) := by decide +kernel
theorem dX5_run_67 : decode cX5_run 67 = .ok (.iload_n 2, 1) := by decide +kernel
theorem dX5_run_68 : decode cX5_run 68 = .ok (.iaload, 1) := by decide +kernel
theorem dX5_run_69 : decode cX5_run 69 = .ok (.ifCond .le 197, 3) := by decide +kernel
theorem dX5_run_72 : decode cX5_run 72 = .ok (.aload_n 0, 1) := by decide +kernel
theorem dX5_run_73 : decode cX5_run 73 = .ok (.getfield 33, 3) := by decide +kernel
theorem dX5_run_76 : decode cX5_run 76 = .ok (.iload_n 1, 1) := by decide +kernel
theorem dX5_run_77 : decode cX5_run 77 = .ok (.iaload, 1) := by decide +kernel
theorem dX5_run_78 : decode cX5_run 78 = .ok (.ifCond .ne 188, 3) := by decide +kernel
theorem dX5_run_81 : decode cX5_run 81 = .ok (.aload_n 0, 1) := by decide +kernel
theorem dX5_run_82 : decode cX5_run 82 = .ok (.getfield 33, 3) := by decide +kernel
theorem dX5_run_85 : decode cX5_run 85 = .ok (.iload_n 2, 1) := by decide +kernel
theorem dX5_run_86 : decode cX5_run 86 = .ok (.iaload, 1) := by decide +kernel
theorem dX5_run_87 : decode cX5_run 87 = .ok (.ifCond .ne 179, 3) := by decide +kernel
theorem dX5_run_90 : decode cX5_run 90 = .ok (.aload_n 0, 1) := by decide +kernel
theorem dX5_run_91 : decode cX5_run 91 = .ok (.iload_n 1, 1) := by decide +kernel
theorem dX5_run_92 : decode cX5_run 92 = .ok (.iload_n 2, 1) := by decide +kernel
theorem dX5_run_93 : decode cX5_run 93 = .ok (.invokevirtual 95, 3) := by decide +kernel
theorem dX5_run_96 : decode cX5_run 96 = .ok (.aload_n 0, 1) := by decide +kernel
theorem dX5_run_97 : decode cX5_run 97 = .ok (.getfield 85, 3) := by decide +kernel
theorem dX5_run_100 : decode cX5_run 100 = .ok (.lconst 0, 1) := by decide +kernel
theorem dX5_run_101 : decode cX5_run 101 = .ok (.lcmp, 1) := by decide +kernel
theorem dX5_run_102 : decode cX5_run 102 = .ok (.ifCond .le 164, 3) := by decide +kernel
theorem dX5_run_105 : decode cX5_run 105 = .ok (.ldc2_w 99, 3) := by decide +kernel
theorem dX5_run_108 : decode cX5_run 108 = .ok (.aload_n 0, 1) := by decide +kernel
theorem dX5_run_109 : decode cX5_run 109 = .ok (.getfield 81, 3) := by decide +kernel
theorem dX5_run_112 : decode cX5_run 112 = .ok (.lmul, 1) := by decide +kernel
theorem dX5_run_113 : decode cX5_run 113 = .ok (.aload_n 0, 1) := by decide +kernel
theorem dX5_run_114 : decode cX5_run 114 = .ok (.getfield 85, 3) := by decide +kernel
theorem dX5_run_117 : decode cX5_run 117 = .ok (.lcmp, 1) := by decide +kernel
theorem dX5_run_118 : decode cX5_run 118 = .ok (.ifCond .lt 148, 3) := by decide +kernel
theorem dX5_run_121 : decode cX5_run 121 = .ok (.aload_n 0, 1) := by decide +kernel
theorem dX5_run_122 : decode cX5_run 122 = .ok (.getfield 92, 3) := by decide +kernel
theorem dX5_run_125 : decode cX5_run 125 = .ok (.istore_n 3, 1) := by decide +kernel
theorem dX5_run_126 : decode cX5_run 126 = .ok (.iload_n 3, 1) := by decide +kernel
theorem dX5_run_127 : decode cX5_run 127 = .ok (.ifCond .le 95, 3) := by decide +kernel
theorem dX5_run_130 : decode cX5_run 130 = .ok (.aload_n 0, 1) := by decide +kernel
theorem dX5_run_131 : decode cX5_run 131 = .ok (.getfield 81, 3) := by decide +kernel
theorem dX5_run_134 : decode cX5_run 134 = .ok (.aload_n 0, 1) := by decide +kernel
theorem dX5_run_135 : decode cX5_run 135 = .ok (.getfield 50, 3) := by decide +kernel
theorem dX5_run_138 : decode cX5_run 138 = .ok (.iload_n 3, 1) := by decide +kernel
theorem dX5_run_139 : decode cX5_run 139 = .ok (.iconst 1, 1) := by decide +kernel
theorem dX5_run_140 : decode cX5_run 140 = .ok (.isub, 1) := by decide +kernel
theorem dX5_run_141 : decode cX5_run 141 = .ok (.laload, 1) := by decide +kernel
theorem dX5_run_142 : decode cX5_run 142 = .ok (.lmul, 1) := by decide +kernel
theorem dX5_run_143 : decode cX5_run 143 = .ok (.aload_n 0, 1) := by decide +kernel
theorem dX5_run_144 : decode cX5_run 144 = .ok (.getfield 47, 3) := by decide +kernel
theorem dX5_run_147 : decode cX5_run 147 = .ok (.iload_n 3, 1) := by decide +kernel
theorem dX5_run_148 : decode cX5_run 148 = .ok (.iconst 1, 1) := by decide +kernel
theorem dX5_run_149 : decode cX5_run 149 = .ok (.isub, 1) := by decide +kernel
theorem dX5_run_150 : decode cX5_run 150 = .ok (.laload, 1) := by decide +kernel
theorem dX5_run_151 : decode cX5_run 151 = .ok (.aload_n 0, 1) := by decide +kernel
theorem dX5_run_152 : decode cX5_run 152 = .ok (.getfield 85, 3) := by decide +kernel
theorem dX5_run_155 : decode cX5_run 155 = .ok (.lmul, 1) := by decide +kernel
theorem dX5_run_156 : decode cX5_run 156 = .ok (.lcmp, 1) := by decide +kernel
theorem dX5_run_157 : decode cX5_run 157 = .ok (.ifCond .le 65, 3) := by decide +kernel
theorem dX5_run_160 : decode cX5_run 160 = .ok (.aload_n 0, 1) := by decide +kernel
theorem dX5_run_161 : decode cX5_run 161 = .ok (.getfield 41, 3) := by decide +kernel
theorem dX5_run_164 : decode cX5_run 164 = .ok (.iload_n 3, 1) := by decide +kernel
theorem dX5_run_165 : decode cX5_run 165 = .ok (.aload_n 0, 1) := by decide +kernel
theorem dX5_run_166 : decode cX5_run 166 = .ok (.getfield 41, 3) := by decide +kernel
theorem dX5_run_169 : decode cX5_run 169 = .ok (.iload_n 3, 1) := by decide +kernel
theorem dX5_run_170 : decode cX5_run 170 = .ok (.iconst 1, 1) := by decide +kernel
theorem dX5_run_171 : decode cX5_run 171 = .ok (.isub, 1) := by decide +kernel
theorem dX5_run_172 : decode cX5_run 172 = .ok (.iaload, 1) := by decide +kernel
theorem dX5_run_173 : decode cX5_run 173 = .ok (.iastore, 1) := by decide +kernel
theorem dX5_run_174 : decode cX5_run 174 = .ok (.aload_n 0, 1) := by decide +kernel
theorem dX5_run_175 : decode cX5_run 175 = .ok (.getfield 44, 3) := by decide +kernel
theorem dX5_run_178 : decode cX5_run 178 = .ok (.iload_n 3, 1) := by decide +kernel
theorem dX5_run_179 : decode cX5_run 179 = .ok (.aload_n 0, 1) := by decide +kernel
theorem dX5_run_180 : decode cX5_run 180 = .ok (.getfield 44, 3) := by decide +kernel
theorem dX5_run_183 : decode cX5_run 183 = .ok (.iload_n 3, 1) := by decide +kernel
theorem dX5_run_184 : decode cX5_run 184 = .ok (.iconst 1, 1) := by decide +kernel
theorem dX5_run_185 : decode cX5_run 185 = .ok (.isub, 1) := by decide +kernel
theorem dX5_run_186 : decode cX5_run 186 = .ok (.iaload, 1) := by decide +kernel
theorem dX5_run_187 : decode cX5_run 187 = .ok (.iastore, 1) := by decide +kernel
theorem dX5_run_188 : decode cX5_run 188 = .ok (.aload_n 0, 1) := by decide +kernel
theorem dX5_run_189 : decode cX5_run 189 = .ok (.getfield 47, 3) := by decide +kernel
theorem dX5_run_192 : decode cX5_run 192 = .ok (.iload_n 3, 1) := by decide +kernel
theorem dX5_run_193 : decode cX5_run 193 = .ok (.aload_n 0, 1) := by decide +kernel
theorem dX5_run_194 : decode cX5_run 194 = .ok (.getfield 47, 3) := by decide +kernel
theorem dX5_run_197 : decode cX5_run 197 = .ok (.iload_n 3, 1) := by decide +kernel
theorem dX5_run_198 : decode cX5_run 198 = .ok (.iconst 1, 1) := by decide +kernel
theorem dX5_run_199 : decode cX5_run 199 = .ok (.isub, 1) := by decide +kernel
theorem dX5_run_200 : decode cX5_run 200 = .ok (.laload, 1) := by decide +kernel
theorem dX5_run_201 : decode cX5_run 201 = .ok (.lastore, 1) := by decide +kernel
theorem dX5_run_202 : decode cX5_run 202 = .ok (.aload_n 0, 1) := by decide +kernel
theorem dX5_run_203 : decode cX5_run 203 = .ok (.getfield 50, 3) := by decide +kernel
theorem dX5_run_206 : decode cX5_run 206 = .ok (.iload_n 3, 1) := by decide +kernel
theorem dX5_run_207 : decode cX5_run 207 = .ok (.aload_n 0, 1) := by decide +kernel
theorem dX5_run_208 : decode cX5_run 208 = .ok (.getfield 50, 3) := by decide +kernel
theorem dX5_run_211 : decode cX5_run 211 = .ok (.iload_n 3, 1) := by decide +kernel
theorem dX5_run_212 : decode cX5_run 212 = .ok (.iconst 1, 1) := by decide +kernel
theorem dX5_run_213 : decode cX5_run 213 = .ok (.isub, 1) := by decide +kernel
theorem dX5_run_214 : decode cX5_run 214 = .ok (.laload, 1) := by decide +kernel
theorem dX5_run_215 : decode cX5_run 215 = .ok (.lastore, 1) := by decide +kernel
theorem dX5_run_216 : decode cX5_run 216 = .ok (.iinc 3 (-1), 3) := by decide +kernel
theorem dX5_run_219 : decode cX5_run 219 = .ok (.goto (-93), 3) := by decide +kernel
theorem dX5_run_222 : decode cX5_run 222 = .ok (.aload_n 0, 1) := by decide +kernel
theorem dX5_run_223 : decode cX5_run 223 = .ok (.getfield 41, 3) := by decide +kernel
theorem dX5_run_226 : decode cX5_run 226 = .ok (.iload_n 3, 1) := by decide +kernel
theorem dX5_run_227 : decode cX5_run 227 = .ok (.iload_n 1, 1) := by decide +kernel
theorem dX5_run_228 : decode cX5_run 228 = .ok (.iastore, 1) := by decide +kernel
theorem dX5_run_229 : decode cX5_run 229 = .ok (.aload_n 0, 1) := by decide +kernel
theorem dX5_run_230 : decode cX5_run 230 = .ok (.getfield 44, 3) := by decide +kernel
theorem dX5_run_233 : decode cX5_run 233 = .ok (.iload_n 3, 1) := by decide +kernel
theorem dX5_run_234 : decode cX5_run 234 = .ok (.iload_n 2, 1) := by decide +kernel
theorem dX5_run_235 : decode cX5_run 235 = .ok (.iastore, 1) := by decide +kernel
theorem dX5_run_236 : decode cX5_run 236 = .ok (.aload_n 0, 1) := by decide +kernel
theorem dX5_run_237 : decode cX5_run 237 = .ok (.getfield 47, 3) := by decide +kernel
theorem dX5_run_240 : decode cX5_run 240 = .ok (.iload_n 3, 1) := by decide +kernel
theorem dX5_run_241 : decode cX5_run 241 = .ok (.aload_n 0, 1) := by decide +kernel
theorem dX5_run_242 : decode cX5_run 242 = .ok (.getfield 81, 3) := by decide +kernel
theorem dX5_run_245 : decode cX5_run 245 = .ok (.lastore, 1) := by decide +kernel
theorem dX5_run_246 : decode cX5_run 246 = .ok (.aload_n 0, 1) := by decide +kernel
theorem dX5_run_247 : decode cX5_run 247 = .ok (.getfield 50, 3) := by decide +kernel
theorem dX5_run_250 : decode cX5_run 250 = .ok (.iload_n 3, 1) := by decide +kernel
theorem dX5_run_251 : decode cX5_run 251 = .ok (.aload_n 0, 1) := by decide +kernel
theorem dX5_run_252 : decode cX5_run 252 = .ok (.getfield 85, 3) := by decide +kernel
theorem dX5_run_255 : decode cX5_run 255 = .ok (.lastore, 1) := by decide +kernel
theorem dX5_run_256 : decode cX5_run 256 = .ok (.aload_n 0, 1) := by decide +kernel
theorem dX5_run_257 : decode cX5_run 257 = .ok (.dup, 1) := by decide +kernel
theorem dX5_run_258 : decode cX5_run 258 = .ok (.getfield 92, 3) := by decide +kernel
theorem dX5_run_261 : decode cX5_run 261 = .ok (.iconst 1, 1) := by decide +kernel
theorem dX5_run_262 : decode cX5_run 262 = .ok (.iadd, 1) := by decide +kernel
theorem dX5_run_263 : decode cX5_run 263 = .ok (.putfield 92, 3) := by decide +kernel
theorem dX5_run_266 : decode cX5_run 266 = .ok (.iinc 2 1, 3) := by decide +kernel
theorem dX5_run_269 : decode cX5_run 269 = .ok (.goto (-242), 3) := by decide +kernel
theorem dX5_run_272 : decode cX5_run 272 = .ok (.iinc 1 1, 3) := by decide +kernel
theorem dX5_run_275 : decode cX5_run 275 = .ok (.goto (-258), 3) := by decide +kernel
theorem dX5_run_278 : decode cX5_run 278 = .ok (.aload_n 0, 1) := by decide +kernel
theorem dX5_run_279 : decode cX5_run 279 = .ok (.getfield 92, 3) := by decide +kernel
theorem dX5_run_282 : decode cX5_run 282 = .ok (.ireturn, 1) := by decide +kernel
theorem dX5_isPair_0 : decode cX5_isPair 0 = .ok (.iload_n 1, 1) := by decide +kernel
theorem dX5_isPair_1 : decode cX5_isPair 1 = .ok (.ifCond .lt 15, 3) := by decide +kernel
theorem dX5_isPair_4 : decode cX5_isPair 4 = .ok (.iload_n 1, 1) := by decide +kernel
theorem dX5_isPair_5 : decode cX5_isPair 5 = .ok (.aload_n 0, 1) := by decide +kernel
theorem dX5_isPair_6 : decode cX5_isPair 6 = .ok (.getfield 92, 3) := by decide +kernel
theorem dX5_isPair_9 : decode cX5_isPair 9 = .ok (.if_icmp .ge 7, 3) := by decide +kernel
theorem dX5_isPair_12 : decode cX5_isPair 12 = .ok (.iconst 1, 1) := by decide +kernel
theorem dX5_isPair_13 : decode cX5_isPair 13 = .ok (.goto 4, 3) := by decide +kernel
theorem dX5_isPair_16 : decode cX5_isPair 16 = .ok (.iconst 0, 1) := by decide +kernel
theorem dX5_isPair_17 : decode cX5_isPair 17 = .ok (.ireturn, 1) := by decide +kernel
set_option maxRecDepth 20000 in
theorem ggX5_pair_X5_isPair : GoodIn wsX5_pair wsX5_isPair := goodIn_r _ [8, 9, 10, 11, 12, 13, 14, 15, 16, 17, 18, 19, 20, 21, 22, 23, 24, 25, 26, 27, 28, 29, 30, 31, 32] (by decide +kernel) (by decide +kernel)
set_option maxRecDepth 20000 in
theorem gX5_pair_X5_isPair : GoodIn wsX5_pair (wsV RX5 101 RX5 yX5_isPair wsX5_isPair) := goodIn_app (goodIn_of _ (by decide +kernel)) ggX5_pair_X5_isPair
theorem dX5_pair_0 : decode cX5_pair 0 = .ok (.aload_n 0, 1) := by decide +kernel
theorem dX5_pair_1 : decode cX5_pair 1 = .ok (.iconst 0, 1) := by decide +kernel
theorem dX5_pair_2 : decode cX5_pair 2 = .ok (.putfield 62, 3) := by decide +kernel
theorem dX5_pair_5 : decode cX5_pair 5 = .ok (.aload_n 0, 1) := by decide +kernel
theorem dX5_pair_6 : decode cX5_pair 6 = .ok (.iload_n 1, 1) := by decide +kernel
theorem dX5_pair_7 : decode cX5_pair 7 = .ok (.invokevirtual 101, 3) := by decide +kernel
theorem dX5_pair_10 : decode cX5_pair 10 = .ok (.ifCond .eq 12, 3) := by decide +kernel
theorem dX5_pair_13 : decode cX5_pair 13 = .ok (.iload_n 2, 1) := by decide +kernel
theorem dX5_pair_14 : decode cX5_pair 14 = .ok (.ifCond .lt 8, 3) := by decide +kernel
theorem dX5_pair_17 : decode cX5_pair 17 = .ok (.iload_n 2, 1) := by decide +kernel
theorem dX5_pair_18 : decode cX5_pair 18 = .ok (.iconst 1, 1) := by decide +kernel
theorem dX5_pair_19 : decode cX5_pair 19 = .ok (.if_icmp .le 7, 3) := by decide +kernel
theorem dX5_pair_22 : decode cX5_pair 22 = .ok (.iconst 0, 1) := by decide +kernel
theorem dX5_pair_23 : decode cX5_pair 23 = .ok (.goto 22, 3) := by decide +kernel
theorem dX5_pair_26 : decode cX5_pair 26 = .ok (.iload_n 2, 1) := by decide +kernel
theorem dX5_pair_27 : decode cX5_pair 27 = .ok (.ifCond .ne 12, 3) := by decide +kernel
theorem dX5_pair_30 : decode cX5_pair 30 = .ok (.aload_n 0, 1) := by decide +kernel
theorem dX5_pair_31 : decode cX5_pair 31 = .ok (.getfield 41, 3) := by decide +kernel
theorem dX5_pair_34 : decode cX5_pair 34 = .ok (.iload_n 1, 1) := by decide +kernel
theorem dX5_pair_35 : decode cX5_pair 35 = .ok (.iaload, 1) := by decide +kernel
theorem dX5_pair_36 : decode cX5_pair 36 = .ok (.goto 9, 3) := by decide +kernel
theorem dX5_pair_39 : decode cX5_pair 39 = .ok (.aload_n 0, 1) := by decide +kernel
theorem dX5_pair_40 : decode cX5_pair 40 = .ok (.getfield 44, 3) := by decide +kernel
theorem dX5_pair_43 : decode cX5_pair 43 = .ok (.iload_n 1, 1) := by decide +kernel
theorem dX5_pair_44 : decode cX5_pair 44 = .ok (.iaload, 1) := by decide +kernel
theorem dX5_pair_45 : decode cX5_pair 45 = .ok (.ireturn, 1) := by decide +kernel
set_option maxRecDepth 20000 in
theorem ggX5_index_X5_isPair : GoodIn wsX5_index wsX5_isPair := goodIn_r _ [8, 9, 10, 11, 12, 13, 14, 15, 16, 17, 18, 19, 20, 21, 22, 23, 24, 25, 26, 27, 28, 29, 30, 31, 32] (by decide +kernel) (by decide +kernel)
set_option maxRecDepth 20000 in
theorem gX5_index_X5_isPair : GoodIn wsX5_index (wsV RX5 101 RX5 yX5_isPair wsX5_isPair) := goodIn_app (goodIn_of _ (by decide +kernel)) ggX5_index_X5_isPair
theorem dX5_index_0 : decode cX5_index 0 = .ok (.aload_n 0, 1) := by decide +kernel
theorem dX5_index_1 : decode cX5_index 1 = .ok (.iconst 0, 1) := by decide +kernel
theorem dX5_index_2 : decode cX5_index 2 = .ok (.putfield 62, 3) := by decide +kernel
theorem dX5_index_5 : decode cX5_index 5 = .ok (.aload_n 0, 1) := by decide +kernel
theorem dX5_index_6 : decode cX5_index 6 = .ok (.iload_n 1, 1) := by decide +kernel
theorem dX5_index_7 : decode cX5_index 7 = .ok (.invokevirtual 101, 3) := by decide +kernel
theorem dX5_index_10 : decode cX5_index 10 = .ok (.ifCond .ne 10, 3) := by decide +kernel
theorem dX5_index_13 : decode cX5_index 13 = .ok (.aload_n 0, 1) := by decide +kernel
theorem dX5_index_14 : decode cX5_index 14 = .ok (.iconst 1, 1) := by decide +kernel
theorem dX5_index_15 : decode cX5_index 15 = .ok (.putfield 62, 3) := by decide +kernel
theorem dX5_index_18 : decode cX5_index 18 = .ok (.iconst 0, 1) := by decide +kernel
theorem dX5_index_19 : decode cX5_index 19 = .ok (.ireturn, 1) := by decide +kernel
theorem dX5_index_20 : decode cX5_index 20 = .ok (.iload_n 2, 1) := by decide +kernel
theorem dX5_index_21 : decode cX5_index 21 = .ok (.iconst 1, 1) := by decide +kernel
theorem dX5_index_22 : decode cX5_index 22 = .ok (.if_icmp .ne 12, 3) := by decide +kernel
theorem dX5_index_25 : decode cX5_index 25 = .ok (.aload_n 0, 1) := by decide +kernel
theorem dX5_index_26 : decode cX5_index 26 = .ok (.getfield 44, 3) := by decide +kernel
theorem dX5_index_29 : decode cX5_index 29 = .ok (.iload_n 1, 1) := by decide +kernel
theorem dX5_index_30 : decode cX5_index 30 = .ok (.iaload, 1) := by decide +kernel
theorem dX5_index_31 : decode cX5_index 31 = .ok (.goto 9, 3) := by decide +kernel
theorem dX5_index_34 : decode cX5_index 34 = .ok (.aload_n 0, 1) := by decide +kernel
theorem dX5_index_35 : decode cX5_index 35 = .ok (.getfield 41, 3) := by decide +kernel
theorem dX5_index_38 : decode cX5_index 38 = .ok (.iload_n 1, 1) := by decide +kernel
theorem dX5_index_39 : decode cX5_index 39 = .ok (.iaload, 1) := by decide +kernel
theorem dX5_index_40 : decode cX5_index 40 = .ok (.ireturn, 1) := by decide +kernel
set_option maxRecDepth 20000 in
theorem ggX5_score_X5_isPair : GoodIn wsX5_score wsX5_isPair := goodIn_r _ [11, 12, 28, 29, 30, 31, 32, 33, 34, 35, 36, 37, 38, 39, 40, 41, 42, 43, 44, 45, 46, 47, 48, 49, 50] (by decide +kernel) (by decide +kernel)
set_option maxRecDepth 20000 in
theorem gX5_score_X5_isPair : GoodIn wsX5_score (wsV RX5 101 RX5 yX5_isPair wsX5_isPair) := goodIn_app (goodIn_of _ (by decide +kernel)) ggX5_score_X5_isPair
set_option maxRecDepth 20000 in
theorem ggX5_score_X5_reckon : GoodIn wsX5_score wsX5_reckon := goodIn_ca (goodIn_r _ [16, 6, 5, 17, 18, 19, 20, 21, 22, 23, 24, 25, 26, 10, 27, 28, 29, 30, 31, 32, 33, 34, 35, 36, 37, 38, 39, 40, 41, 42, 43, 44, 45, 46, 47, 48, 49, 50] (by decide +kernel) (by decide +kernel)) (goodIn_sub (fun _ h => List.mem_cons_of_mem _ (List.mem_append_left _ (List.mem_append_right _ h))) (by decide +kernel))
set_option maxRecDepth 20000 in
theorem gX5_score_X5_reckon : GoodIn wsX5_score (wsV RX5 95 RX5 yX5_reckon wsX5_reckon) := goodIn_app (goodIn_of _ (by decide +kernel)) ggX5_score_X5_reckon
theorem dX5_score_0 : decode cX5_score 0 = .ok (.aload_n 0, 1) := by decide +kernel
theorem dX5_score_1 : decode cX5_score 1 = .ok (.iconst 0, 1) := by decide +kernel
theorem dX5_score_2 : decode cX5_score 2 = .ok (.putfield 62, 3) := by decide +kernel
theorem dX5_score_5 : decode cX5_score 5 = .ok (.aload_n 0, 1) := by decide +kernel
theorem dX5_score_6 : decode cX5_score 6 = .ok (.iload_n 1, 1) := by decide +kernel
theorem dX5_score_7 : decode cX5_score 7 = .ok (.invokevirtual 101, 3) := by decide +kernel
theorem dX5_score_10 : decode cX5_score 10 = .ok (.ifCond .ne 7, 3) := by decide +kernel
theorem dX5_score_13 : decode cX5_score 13 = .ok (.ldc2_w 104, 3) := by decide +kernel
theorem dX5_score_16 : decode cX5_score 16 = .ok (.lreturn, 1) := by decide +kernel
theorem dX5_score_17 : decode cX5_score 17 = .ok (.aload_n 0, 1) := by decide +kernel
theorem dX5_score_18 : decode cX5_score 18 = .ok (.aload_n 0, 1) := by decide +kernel
theorem dX5_score_19 : decode cX5_score 19 = .ok (.getfield 41, 3) := by decide +kernel
theorem dX5_score_22 : decode cX5_score 22 = .ok (.iload_n 1, 1) := by decide +kernel
theorem dX5_score_23 : decode cX5_score 23 = .ok (.iaload, 1) := by decide +kernel
theorem dX5_score_24 : decode cX5_score 24 = .ok (.aload_n 0, 1) := by decide +kernel
theorem dX5_score_25 : decode cX5_score 25 = .ok (.getfield 44, 3) := by decide +kernel
theorem dX5_score_28 : decode cX5_score 28 = .ok (.iload_n 1, 1) := by decide +kernel
theorem dX5_score_29 : decode cX5_score 29 = .ok (.iaload, 1) := by decide +kernel
theorem dX5_score_30 : decode cX5_score 30 = .ok (.invokevirtual 95, 3) := by decide +kernel
theorem dX5_score_33 : decode cX5_score 33 = .ok (.aload_n 0, 1) := by decide +kernel
theorem dX5_score_34 : decode cX5_score 34 = .ok (.getfield 85, 3) := by decide +kernel
theorem dX5_score_37 : decode cX5_score 37 = .ok (.lconst 0, 1) := by decide +kernel
theorem dX5_score_38 : decode cX5_score 38 = .ok (.lcmp, 1) := by decide +kernel
theorem dX5_score_39 : decode cX5_score 39 = .ok (.ifCond .ne 10, 3) := by decide +kernel
theorem dX5_score_42 : decode cX5_score 42 = .ok (.aload_n 0, 1) := by decide +kernel
theorem dX5_score_43 : decode cX5_score 43 = .ok (.iconst 1, 1) := by decide +kernel
theorem dX5_score_44 : decode cX5_score 44 = .ok (.putfield 62, 3) := by decide +kernel
theorem dX5_score_47 : decode cX5_score 47 = .ok (.lconst 0, 1) := by decide +kernel
theorem dX5_score_48 : decode cX5_score 48 = .ok (.lreturn, 1) := by decide +kernel
theorem dX5_score_49 : decode cX5_score 49 = .ok (.aload_n 0, 1) := by decide +kernel
theorem dX5_score_50 : decode cX5_score 50 = .ok (.getfield 81, 3) := by decide +kernel
theorem dX5_score_53 : decode cX5_score 53 = .ok (.lstore_n 3, 1) := by decide +kernel
theorem dX5_score_54 : decode cX5_score 54 = .ok (.aload_n 0, 1) := by decide +kernel
theorem dX5_score_55 : decode cX5_score 55 = .ok (.getfield 85, 3) := by decide +kernel
theorem dX5_score_58 : decode cX5_score 58 = .ok (.lstore 5, 2) := by decide +kernel
theorem dX5_score_60 : decode cX5_score 60 = .ok (.lload 5, 2) := by decide +kernel
theorem dX5_score_62 : decode cX5_score 62 = .ok (.lconst 0, 1) := by decide +kernel
theorem dX5_score_63 : decode cX5_score 63 = .ok (.lcmp, 1) := by decide +kernel
theorem dX5_score_64 : decode cX5_score 64 = .ok (.ifCond .le 19, 3) := by decide +kernel
theorem dX5_score_67 : decode cX5_score 67 = .ok (.lload_n 3, 1) := by decide +kernel
theorem dX5_score_68 : decode cX5_score 68 = .ok (.lload 5, 2) := by decide +kernel
theorem dX5_score_70 : decode cX5_score 70 = .ok (.lrem, 1) := by decide +kernel
theorem dX5_score_71 : decode cX5_score 71 = .ok (.lstore 7, 2) := by decide +kernel
theorem dX5_score_73 : decode cX5_score 73 = .ok (.lload 5, 2) := by decide +kernel
theorem dX5_score_75 : decode cX5_score 75 = .ok (.lstore_n 3, 1) := by decide +kernel
theorem dX5_score_76 : decode cX5_score 76 = .ok (.lload 7, 2) := by decide +kernel
theorem dX5_score_78 : decode cX5_score 78 = .ok (.lstore 5, 2) := by decide +kernel
theorem dX5_score_80 : decode cX5_score 80 = .ok (.goto (-20), 3) := by decide +kernel
theorem dX5_score_83 : decode cX5_score 83 = .ok (.iload_n 2, 1) := by decide +kernel
theorem dX5_score_84 : decode cX5_score 84 = .ok (.ifCond .ne 12, 3) := by decide +kernel
theorem dX5_score_87 : decode cX5_score 87 = .ok (.aload_n 0, 1) := by decide +kernel
theorem dX5_score_88 : decode cX5_score 88 = .ok (.getfield 81, 3) := by decide +kernel
theorem dX5_score_91 : decode cX5_score 91 = .ok (.lload_n 3, 1) := by decide +kernel
theorem dX5_score_92 : decode cX5_score 92 = .ok (.ldiv, 1) := by decide +kernel
theorem dX5_score_93 : decode cX5_score 93 = .ok (.goto 9, 3) := by decide +kernel
theorem dX5_score_96 : decode cX5_score 96 = .ok (.aload_n 0, 1) := by decide +kernel
theorem dX5_score_97 : decode cX5_score 97 = .ok (.getfield 85, 3) := by decide +kernel
theorem dX5_score_100 : decode cX5_score 100 = .ok (.lload_n 3, 1) := by decide +kernel
theorem dX5_score_101 : decode cX5_score 101 = .ok (.ldiv, 1) := by decide +kernel
theorem dX5_score_102 : decode cX5_score 102 = .ok (.lreturn, 1) := by decide +kernel
set_option maxRecDepth 20000 in
theorem ggX5_mutual_X5_isPair : GoodIn wsX5_mutual wsX5_isPair := goodIn_r _ [11, 2, 12, 13, 14, 15, 16, 17, 18, 19, 20, 21, 22, 23, 24, 25, 26, 27, 28, 29, 30, 31, 32, 33, 34] (by decide +kernel) (by decide +kernel)
set_option maxRecDepth 20000 in
theorem gX5_mutual_X5_isPair : GoodIn wsX5_mutual (wsV RX5 101 RX5 yX5_isPair wsX5_isPair) := goodIn_app (goodIn_of _ (by decide +kernel)) ggX5_mutual_X5_isPair
theorem dX5_mutual_0 : decode cX5_mutual 0 = .ok (.aload_n 0, 1) := by decide +kernel
theorem dX5_mutual_1 : decode cX5_mutual 1 = .ok (.iconst 0, 1) := by decide +kernel
theorem dX5_mutual_2 : decode cX5_mutual 2 = .ok (.putfield 62, 3) := by decide +kernel
theorem dX5_mutual_5 : decode cX5_mutual 5 = .ok (.aload_n 0, 1) := by decide +kernel
theorem dX5_mutual_6 : decode cX5_mutual 6 = .ok (.iload_n 1, 1) := by decide +kernel
theorem dX5_mutual_7 : decode cX5_mutual 7 = .ok (.invokevirtual 101, 3) := by decide +kernel
theorem dX5_mutual_10 : decode cX5_mutual 10 = .ok (.ifCond .ne 5, 3) := by decide +kernel
theorem dX5_mutual_13 : decode cX5_mutual 13 = .ok (.iconst (-1), 1) := by decide +kernel
theorem dX5_mutual_14 : decode cX5_mutual 14 = .ok (.ireturn, 1) := by decide +kernel
theorem dX5_mutual_15 : decode cX5_mutual 15 = .ok (.iconst 0, 1) := by decide +kernel
theorem dX5_mutual_16 : decode cX5_mutual 16 = .ok (.istore_n 2, 1) := by decide +kernel
theorem dX5_mutual_17 : decode cX5_mutual 17 = .ok (.iload_n 2, 1) := by decide +kernel
theorem dX5_mutual_18 : decode cX5_mutual 18 = .ok (.aload_n 0, 1) := by decide +kernel
theorem dX5_mutual_19 : decode cX5_mutual 19 = .ok (.getfield 92, 3) := by decide +kernel
theorem dX5_mutual_22 : decode cX5_mutual 22 = .ok (.if_icmp .ge 71, 3) := by decide +kernel
theorem dX5_mutual_25 : decode cX5_mutual 25 = .ok (.aload_n 0, 1) := by decide +kernel
theorem dX5_mutual_26 : decode cX5_mutual 26 = .ok (.getfield 41, 3) := by decide +kernel
theorem dX5_mutual_29 : decode cX5_mutual 29 = .ok (.iload_n 2, 1) := by decide +kernel
theorem dX5_mutual_30 : decode cX5_mutual 30 = .ok (.iaload, 1) := by decide +kernel
theorem dX5_mutual_31 : decode cX5_mutual 31 = .ok (.aload_n 0, 1) := by decide +kernel
theorem dX5_mutual_32 : decode cX5_mutual 32 = .ok (.getfield 41, 3) := by decide +kernel
theorem dX5_mutual_35 : decode cX5_mutual 35 = .ok (.iload_n 1, 1) := by decide +kernel
theorem dX5_mutual_36 : decode cX5_mutual 36 = .ok (.iaload, 1) := by decide +kernel
theorem dX5_mutual_37 : decode cX5_mutual 37 = .ok (.if_icmp .eq 18, 3) := by decide +kernel
theorem dX5_mutual_40 : decode cX5_mutual 40 = .ok (.aload_n 0, 1) := by decide +kernel
theorem dX5_mutual_41 : decode cX5_mutual 41 = .ok (.getfield 44, 3) := by decide +kernel
theorem dX5_mutual_44 : decode cX5_mutual 44 = .ok (.iload_n 2, 1) := by decide +kernel
theorem dX5_mutual_45 : decode cX5_mutual 45 = .ok (.iaload, 1) := by decide +kernel
theorem dX5_mutual_46 : decode cX5_mutual 46 = .ok (.aload_n 0, 1) := by decide +kernel
theorem dX5_mutual_47 : decode cX5_mutual 47 = .ok (.getfield 44, 3) := by decide +kernel
theorem dX5_mutual_50 : decode cX5_mutual 50 = .ok (.iload_n 1, 1) := by decide +kernel
theorem dX5_mutual_51 : decode cX5_mutual 51 = .ok (.iaload, 1) := by decide +kernel
theorem dX5_mutual_52 : decode cX5_mutual 52 = .ok (.if_icmp .ne 35, 3) := by decide +kernel
theorem dX5_mutual_55 : decode cX5_mutual 55 = .ok (.aload_n 0, 1) := by decide +kernel
theorem dX5_mutual_56 : decode cX5_mutual 56 = .ok (.getfield 47, 3) := by decide +kernel
theorem dX5_mutual_59 : decode cX5_mutual 59 = .ok (.iload_n 2, 1) := by decide +kernel
theorem dX5_mutual_60 : decode cX5_mutual 60 = .ok (.laload, 1) := by decide +kernel
theorem dX5_mutual_61 : decode cX5_mutual 61 = .ok (.aload_n 0, 1) := by decide +kernel
theorem dX5_mutual_62 : decode cX5_mutual 62 = .ok (.getfield 50, 3) := by decide +kernel
theorem dX5_mutual_65 : decode cX5_mutual 65 = .ok (.iload_n 1, 1) := by decide +kernel
theorem dX5_mutual_66 : decode cX5_mutual 66 = .ok (.laload, 1) := by decide +kernel
theorem dX5_mutual_67 : decode cX5_mutual 67 = .ok (.lmul, 1) := by decide +kernel
theorem dX5_mutual_68 : decode cX5_mutual 68 = .ok (.aload_n 0, 1) := by decide +kernel
theorem dX5_mutual_69 : decode cX5_mutual 69 = .ok (.getfield 47, 3) := by decide +kernel
theorem dX5_mutual_72 : decode cX5_mutual 72 = .ok (.iload_n 1, 1) := by decide +kernel
theorem dX5_mutual_73 : decode cX5_mutual 73 = .ok (.laload, 1) := by decide +kernel
theorem dX5_mutual_74 : decode cX5_mutual 74 = .ok (.aload_n 0, 1) := by decide +kernel
theorem dX5_mutual_75 : decode cX5_mutual 75 = .ok (.getfield 50, 3) := by decide +kernel
theorem dX5_mutual_78 : decode cX5_mutual 78 = .ok (.iload_n 2, 1) := by decide +kernel
theorem dX5_mutual_79 : decode cX5_mutual 79 = .ok (.laload, 1) := by decide +kernel
theorem dX5_mutual_80 : decode cX5_mutual 80 = .ok (.lmul, 1) := by decide +kernel
theorem dX5_mutual_81 : decode cX5_mutual 81 = .ok (.lcmp, 1) := by decide +kernel
theorem dX5_mutual_82 : decode cX5_mutual 82 = .ok (.ifCond .le 5, 3) := by decide +kernel
theorem dX5_mutual_85 : decode cX5_mutual 85 = .ok (.iconst 0, 1) := by decide +kernel
theorem dX5_mutual_86 : decode cX5_mutual 86 = .ok (.ireturn, 1) := by decide +kernel
theorem dX5_mutual_87 : decode cX5_mutual 87 = .ok (.iinc 2 1, 3) := by decide +kernel
theorem dX5_mutual_90 : decode cX5_mutual 90 = .ok (.goto (-73), 3) := by decide +kernel
theorem dX5_mutual_93 : decode cX5_mutual 93 = .ok (.iconst 1, 1) := by decide +kernel
theorem dX5_mutual_94 : decode cX5_mutual 94 = .ok (.ireturn, 1) := by decide +kernel
set_option maxRecDepth 20000 in
theorem ggX5_join_X5_isName : GoodIn wsX5_join wsX5_isName := goodIn_r _ [11, 12, 13, 14, 15, 16, 17, 18, 19, 20, 21, 22, 23, 24, 25, 26, 27, 28, 29, 30, 31, 32, 33, 34, 35] (by decide +kernel) (by decide +kernel)
set_option maxRecDepth 20000 in
theorem gX5_join_X5_isName : GoodIn wsX5_join (wsV RX5 69 RX5 yX5_isName wsX5_isName) := goodIn_app (goodIn_of _ (by decide +kernel)) ggX5_join_X5_isName
theorem dX5_join_0 : decode cX5_join 0 = .ok (.aload_n 0, 1) := by decide +kernel
theorem dX5_join_1 : decode cX5_join 1 = .ok (.iconst 0, 1) := by decide +kernel
theorem dX5_join_2 : decode cX5_join 2 = .ok (.putfield 62, 3) := by decide +kernel
theorem dX5_join_5 : decode cX5_join 5 = .ok (.aload_n 0, 1) := by decide +kernel
theorem dX5_join_6 : decode cX5_join 6 = .ok (.iload_n 1, 1) := by decide +kernel
theorem dX5_join_7 : decode cX5_join 7 = .ok (.invokevirtual 69, 3) := by decide +kernel
theorem dX5_join_10 : decode cX5_join 10 = .ok (.ifCond .eq 57, 3) := by decide +kernel
theorem dX5_join_13 : decode cX5_join 13 = .ok (.aload_n 0, 1) := by decide +kernel
theorem dX5_join_14 : decode cX5_join 14 = .ok (.iload_n 2, 1) := by decide +kernel
theorem dX5_join_15 : decode cX5_join 15 = .ok (.invokevirtual 69, 3) := by decide +kernel
theorem dX5_join_18 : decode cX5_join 18 = .ok (.ifCond .eq 49, 3) := by decide +kernel
theorem dX5_join_21 : decode cX5_join 21 = .ok (.aload_n 0, 1) := by decide +kernel
theorem dX5_join_22 : decode cX5_join 22 = .ok (.getfield 7, 3) := by decide +kernel
theorem dX5_join_25 : decode cX5_join 25 = .ok (.iload_n 1, 1) := by decide +kernel
theorem dX5_join_26 : decode cX5_join 26 = .ok (.iaload, 1) := by decide +kernel
theorem dX5_join_27 : decode cX5_join 27 = .ok (.ifCond .ne 40, 3) := by decide +kernel
theorem dX5_join_30 : decode cX5_join 30 = .ok (.aload_n 0, 1) := by decide +kernel
theorem dX5_join_31 : decode cX5_join 31 = .ok (.getfield 7, 3) := by decide +kernel
theorem dX5_join_34 : decode cX5_join 34 = .ok (.iload_n 2, 1) := by decide +kernel
theorem dX5_join_35 : decode cX5_join 35 = .ok (.iaload, 1) := by decide +kernel
theorem dX5_join_36 : decode cX5_join 36 = .ok (.iconst 1, 1) := by decide +kernel
theorem dX5_join_37 : decode cX5_join 37 = .ok (.if_icmp .ne 30, 3) := by decide +kernel
theorem dX5_join_40 : decode cX5_join 40 = .ok (.aload_n 0, 1) := by decide +kernel
theorem dX5_join_41 : decode cX5_join 41 = .ok (.getfield 33, 3) := by decide +kernel
theorem dX5_join_44 : decode cX5_join 44 = .ok (.iload_n 1, 1) := by decide +kernel
theorem dX5_join_45 : decode cX5_join 45 = .ok (.iaload, 1) := by decide +kernel
theorem dX5_join_46 : decode cX5_join 46 = .ok (.ifCond .ne 21, 3) := by decide +kernel
theorem dX5_join_49 : decode cX5_join 49 = .ok (.aload_n 0, 1) := by decide +kernel
theorem dX5_join_50 : decode cX5_join 50 = .ok (.getfield 33, 3) := by decide +kernel
theorem dX5_join_53 : decode cX5_join 53 = .ok (.iload_n 2, 1) := by decide +kernel
theorem dX5_join_54 : decode cX5_join 54 = .ok (.iaload, 1) := by decide +kernel
theorem dX5_join_55 : decode cX5_join 55 = .ok (.ifCond .ne 12, 3) := by decide +kernel
theorem dX5_join_58 : decode cX5_join 58 = .ok (.aload_n 0, 1) := by decide +kernel
theorem dX5_join_59 : decode cX5_join 59 = .ok (.getfield 106, 3) := by decide +kernel
theorem dX5_join_62 : decode cX5_join 62 = .ok (.bipush 100, 2) := by decide +kernel
theorem dX5_join_64 : decode cX5_join 64 = .ok (.if_icmp .ne 5, 3) := by decide +kernel
theorem dX5_join_67 : decode cX5_join 67 = .ok (.iconst 0, 1) := by decide +kernel
theorem dX5_join_68 : decode cX5_join 68 = .ok (.ireturn, 1) := by decide +kernel
theorem dX5_join_69 : decode cX5_join 69 = .ok (.aload_n 0, 1) := by decide +kernel
theorem dX5_join_70 : decode cX5_join 70 = .ok (.dup, 1) := by decide +kernel
theorem dX5_join_71 : decode cX5_join 71 = .ok (.getfield 106, 3) := by decide +kernel
theorem dX5_join_74 : decode cX5_join 74 = .ok (.iconst 1, 1) := by decide +kernel
theorem dX5_join_75 : decode cX5_join 75 = .ok (.iadd, 1) := by decide +kernel
theorem dX5_join_76 : decode cX5_join 76 = .ok (.putfield 106, 3) := by decide +kernel
theorem dX5_join_79 : decode cX5_join 79 = .ok (.aload_n 0, 1) := by decide +kernel
theorem dX5_join_80 : decode cX5_join 80 = .ok (.getfield 53, 3) := by decide +kernel
theorem dX5_join_83 : decode cX5_join 83 = .ok (.aload_n 0, 1) := by decide +kernel
theorem dX5_join_84 : decode cX5_join 84 = .ok (.getfield 106, 3) := by decide +kernel
theorem dX5_join_87 : decode cX5_join 87 = .ok (.iload_n 1, 1) := by decide +kernel
theorem dX5_join_88 : decode cX5_join 88 = .ok (.iastore, 1) := by decide +kernel
theorem dX5_join_89 : decode cX5_join 89 = .ok (.aload_n 0, 1) := by decide +kernel
theorem dX5_join_90 : decode cX5_join 90 = .ok (.getfield 56, 3) := by decide +kernel
theorem dX5_join_93 : decode cX5_join 93 = .ok (.aload_n 0, 1) := by decide +kernel
theorem dX5_join_94 : decode cX5_join 94 = .ok (.getfield 106, 3) := by decide +kernel
theorem dX5_join_97 : decode cX5_join 97 = .ok (.iload_n 2, 1) := by decide +kernel
theorem dX5_join_98 : decode cX5_join 98 = .ok (.iastore, 1) := by decide +kernel
theorem dX5_join_99 : decode cX5_join 99 = .ok (.aload_n 0, 1) := by decide +kernel
theorem dX5_join_100 : decode cX5_join 100 = .ok (.getfield 33, 3) := by decide +kernel
theorem dX5_join_103 : decode cX5_join 103 = .ok (.iload_n 1, 1) := by decide +kernel
theorem dX5_join_104 : decode cX5_join 104 = .ok (.aload_n 0, 1) := by decide +kernel
theorem dX5_join_105 : decode cX5_join 105 = .ok (.getfield 106, 3) := by decide +kernel
theorem dX5_join_108 : decode cX5_join 108 = .ok (.iastore, 1) := by decide +kernel
theorem dX5_join_109 : decode cX5_join 109 = .ok (.aload_n 0, 1) := by decide +kernel
theorem dX5_join_110 : decode cX5_join 110 = .ok (.getfield 33, 3) := by decide +kernel
theorem dX5_join_113 : decode cX5_join 113 = .ok (.iload_n 2, 1) := by decide +kernel
theorem dX5_join_114 : decode cX5_join 114 = .ok (.aload_n 0, 1) := by decide +kernel
theorem dX5_join_115 : decode cX5_join 115 = .ok (.getfield 106, 3) := by decide +kernel
theorem dX5_join_118 : decode cX5_join 118 = .ok (.iastore, 1) := by decide +kernel
theorem dX5_join_119 : decode cX5_join 119 = .ok (.aload_n 0, 1) := by decide +kernel
theorem dX5_join_120 : decode cX5_join 120 = .ok (.getfield 106, 3) := by decide +kernel
theorem dX5_join_123 : decode cX5_join 123 = .ok (.ireturn, 1) := by decide +kernel
theorem dX5_undo_0 : decode cX5_undo 0 = .ok (.aload_n 0, 1) := by decide +kernel
theorem dX5_undo_1 : decode cX5_undo 1 = .ok (.iconst 0, 1) := by decide +kernel
theorem dX5_undo_2 : decode cX5_undo 2 = .ok (.putfield 62, 3) := by decide +kernel
theorem dX5_undo_5 : decode cX5_undo 5 = .ok (.iload_n 1, 1) := by decide +kernel
theorem dX5_undo_6 : decode cX5_undo 6 = .ok (.iconst 1, 1) := by decide +kernel
theorem dX5_undo_7 : decode cX5_undo 7 = .ok (.if_icmp .lt 26, 3) := by decide +kernel
theorem dX5_undo_10 : decode cX5_undo 10 = .ok (.iload_n 1, 1) := by decide +kernel
theorem dX5_undo_11 : decode cX5_undo 11 = .ok (.aload_n 0, 1) := by decide +kernel
theorem dX5_undo_12 : decode cX5_undo 12 = .ok (.getfield 106, 3) := by decide +kernel
theorem dX5_undo_15 : decode cX5_undo 15 = .ok (.if_icmp .gt 18, 3) := by decide +kernel
theorem dX5_undo_18 : decode cX5_undo 18 = .ok (.aload_n 0, 1) := by decide +kernel
theorem dX5_undo_19 : decode cX5_undo 19 = .ok (.getfield 33, 3) := by decide +kernel
theorem dX5_undo_22 : decode cX5_undo 22 = .ok (.aload_n 0, 1) := by decide +kernel
theorem dX5_undo_23 : decode cX5_undo 23 = .ok (.getfield 53, 3) := by decide +kernel
theorem dX5_undo_26 : decode cX5_undo 26 = .ok (.iload_n 1, 1) := by decide +kernel
theorem dX5_undo_27 : decode cX5_undo 27 = .ok (.iaload, 1) := by decide +kernel
theorem dX5_undo_28 : decode cX5_undo 28 = .ok (.iaload, 1) := by decide +kernel
theorem dX5_undo_29 : decode cX5_undo 29 = .ok (.iload_n 1, 1) := by decide +kernel
theorem dX5_undo_30 : decode cX5_undo 30 = .ok (.if_icmp .eq 5, 3) := by decide +kernel
theorem dX5_undo_33 : decode cX5_undo 33 = .ok (.iconst 0, 1) := by decide +kernel
theorem dX5_undo_34 : decode cX5_undo 34 = .ok (.ireturn, 1) := by decide +kernel
theorem dX5_undo_35 : decode cX5_undo 35 = .ok (.aload_n 0, 1) := by decide +kernel
theorem dX5_undo_36 : decode cX5_undo 36 = .ok (.getfield 33, 3) := by decide +kernel
theorem dX5_undo_39 : decode cX5_undo 39 = .ok (.aload_n 0, 1) := by decide +kernel
theorem dX5_undo_40 : decode cX5_undo 40 = .ok (.getfield 53, 3) := by decide +kernel
theorem dX5_undo_43 : decode cX5_undo 43 = .ok (.iload_n 1, 1) := by decide +kernel
theorem dX5_undo_44 : decode cX5_undo 44 = .ok (.iaload, 1) := by decide +kernel
theorem dX5_undo_45 : decode cX5_undo 45 = .ok (.iconst 0, 1) := by decide +kernel
theorem dX5_undo_46 : decode cX5_undo 46 = .ok (.iastore, 1) := by decide +kernel
theorem dX5_undo_47 : decode cX5_undo 47 = .ok (.aload_n 0, 1) := by decide +kernel
theorem dX5_undo_48 : decode cX5_undo 48 = .ok (.getfield 33, 3) := by decide +kernel
theorem dX5_undo_51 : decode cX5_undo 51 = .ok (.aload_n 0, 1) := by decide +kernel
theorem dX5_undo_52 : decode cX5_undo 52 = .ok (.getfield 56, 3) := by decide +kernel
theorem dX5_undo_55 : decode cX5_undo 55 = .ok (.iload_n 1, 1) := by decide +kernel
theorem dX5_undo_56 : decode cX5_undo 56 = .ok (.iaload, 1) := by decide +kernel
theorem dX5_undo_57 : decode cX5_undo 57 = .ok (.iconst 0, 1) := by decide +kernel
theorem dX5_undo_58 : decode cX5_undo 58 = .ok (.iastore, 1) := by decide +kernel
theorem dX5_undo_59 : decode cX5_undo 59 = .ok (.iconst 1, 1) := by decide +kernel
theorem dX5_undo_60 : decode cX5_undo 60 = .ok (.ireturn, 1) := by decide +kernel
set_option maxRecDepth 20000 in
theorem ggX5_sample_X5_isPair : GoodIn wsX5_sample wsX5_isPair := goodIn_r _ [10, 2, 11, 12, 13, 14, 15, 16, 17, 18, 19, 20, 21, 22, 23, 24, 25, 26, 27, 28, 29, 30, 31, 32, 33] (by decide +kernel) (by decide +kernel)
set_option maxRecDepth 20000 in
theorem gX5_sample_X5_isPair : GoodIn wsX5_sample (wsV RX5 101 RX5 yX5_isPair wsX5_isPair) := goodIn_app (goodIn_of _ (by decide +kernel)) ggX5_sample_X5_isPair
theorem dX5_sample_0 : decode cX5_sample 0 = .ok (.aload_n 0, 1) := by decide +kernel
theorem dX5_sample_1 : decode cX5_sample 1 = .ok (.iconst 0, 1) := by decide +kernel
theorem dX5_sample_2 : decode cX5_sample 2 = .ok (.putfield 62, 3) := by decide +kernel
theorem dX5_sample_5 : decode cX5_sample 5 = .ok (.aload_n 0, 1) := by decide +kernel
theorem dX5_sample_6 : decode cX5_sample 6 = .ok (.iload_n 3, 1) := by decide +kernel
theorem dX5_sample_7 : decode cX5_sample 7 = .ok (.invokevirtual 101, 3) := by decide +kernel
theorem dX5_sample_10 : decode cX5_sample 10 = .ok (.ifCond .ne 5, 3) := by decide +kernel
theorem dX5_sample_13 : decode cX5_sample 13 = .ok (.iconst (-1), 1) := by decide +kernel
theorem dX5_sample_14 : decode cX5_sample 14 = .ok (.ireturn, 1) := by decide +kernel
theorem dX5_sample_15 : decode cX5_sample 15 = .ok (.iconst 0, 1) := by decide +kernel
theorem dX5_sample_16 : decode cX5_sample 16 = .ok (.istore 4, 2) := by decide +kernel
theorem dX5_sample_18 : decode cX5_sample 18 = .ok (.iload 4, 2) := by decide +kernel
theorem dX5_sample_20 : decode cX5_sample 20 = .ok (.aload_n 0, 1) := by decide +kernel
theorem dX5_sample_21 : decode cX5_sample 21 = .ok (.getfield 92, 3) := by decide +kernel
theorem dX5_sample_24 : decode cX5_sample 24 = .ok (.if_icmp .ge 18, 3) := by decide +kernel
theorem dX5_sample_27 : decode cX5_sample 27 = .ok (.aload_n 0, 1) := by decide +kernel
theorem dX5_sample_28 : decode cX5_sample 28 = .ok (.getfield 59, 3) := by decide +kernel
theorem dX5_sample_31 : decode cX5_sample 31 = .ok (.iload 4, 2) := by decide +kernel
theorem dX5_sample_33 : decode cX5_sample 33 = .ok (.iload 4, 2) := by decide +kernel
theorem dX5_sample_35 : decode cX5_sample 35 = .ok (.iastore, 1) := by decide +kernel
theorem dX5_sample_36 : decode cX5_sample 36 = .ok (.iinc 4 1, 3) := by decide +kernel
theorem dX5_sample_39 : decode cX5_sample 39 = .ok (.goto (-21), 3) := by decide +kernel
theorem dX5_sample_42 : decode cX5_sample 42 = .ok (.lload_n 1, 1) := by decide +kernel
theorem dX5_sample_43 : decode cX5_sample 43 = .ok (.lstore 4, 2) := by decide +kernel
theorem dX5_sample_45 : decode cX5_sample 45 = .ok (.aload_n 0, 1) := by decide +kernel
theorem dX5_sample_46 : decode cX5_sample 46 = .ok (.getfield 92, 3) := by decide +kernel
theorem dX5_sample_49 : decode cX5_sample 49 = .ok (.iconst 1, 1) := by decide +kernel
theorem dX5_sample_50 : decode cX5_sample 50 = .ok (.isub, 1) := by decide +kernel
theorem dX5_sample_51 : decode cX5_sample 51 = .ok (.istore 6, 2) := by decide +kernel
theorem dX5_sample_53 : decode cX5_sample 53 = .ok (.iload 6, 2) := by decide +kernel
theorem dX5_sample_55 : decode cX5_sample 55 = .ok (.ifCond .le 67, 3) := by decide +kernel
theorem dX5_sample_58 : decode cX5_sample 58 = .ok (.lload 4, 2) := by decide +kernel
theorem dX5_sample_60 : decode cX5_sample 60 = .ok (.ldc2_w 109, 3) := by decide +kernel
theorem dX5_sample_63 : decode cX5_sample 63 = .ok (.lmul, 1) := by decide +kernel
theorem dX5_sample_64 : decode cX5_sample 64 = .ok (.ldc2_w 111, 3) := by decide +kernel
theorem dX5_sample_67 : decode cX5_sample 67 = .ok (.ladd, 1) := by decide +kernel
theorem dX5_sample_68 : decode cX5_sample 68 = .ok (.lstore 4, 2) := by decide +kernel
theorem dX5_sample_70 : decode cX5_sample 70 = .ok (.lload 4, 2) := by decide +kernel
theorem dX5_sample_72 : decode cX5_sample 72 = .ok (.bipush 33, 2) := by decide +kernel
theorem dX5_sample_74 : decode cX5_sample 74 = .ok (.lushr, 1) := by decide +kernel
theorem dX5_sample_75 : decode cX5_sample 75 = .ok (.iload 6, 2) := by decide +kernel
theorem dX5_sample_77 : decode cX5_sample 77 = .ok (.iconst 1, 1) := by decide +kernel
theorem dX5_sample_78 : decode cX5_sample 78 = .ok (.iadd, 1) := by decide +kernel
theorem dX5_sample_79 : decode cX5_sample 79 = .ok (.i2l, 1) := by decide +kernel
theorem dX5_sample_80 : decode cX5_sample 80 = .ok (.lrem, 1) := by decide +kernel
theorem dX5_sample_81 : decode cX5_sample 81 = .ok (.l2i, 1) := by decide +kernel
theorem dX5_sample_82 : decode cX5_sample 82 = .ok (.istore 7, 2) := by decide +kernel
theorem dX5_sample_84 : decode cX5_sample 84 = .ok (.aload_n 0, 1) := by decide +kernel
theorem dX5_sample_85 : decode cX5_sample 85 = .ok (.getfield 59, 3) := by decide +kernel
theorem dX5_sample_88 : decode cX5_sample 88 = .ok (.iload 6, 2) := by decide +kernel
theorem dX5_sample_90 : decode cX5_sample 90 = .ok (.iaload, 1) := by decide +kernel
theorem dX5_sample_91 : decode cX5_sample 91 = .ok (.istore 8, 2) := by decide +kernel
theorem dX5_sample_93 : decode cX5_sample 93 = .ok (.aload_n 0, 1) := by decide +kernel
theorem dX5_sample_94 : decode cX5_sample 94 = .ok (.getfield 59, 3) := by decide +kernel
theorem dX5_sample_97 : decode cX5_sample 97 = .ok (.iload 6, 2) := by decide +kernel
theorem dX5_sample_99 : decode cX5_sample 99 = .ok (.aload_n 0, 1) := by decide +kernel
theorem dX5_sample_100 : decode cX5_sample 100 = .ok (.getfield 59, 3) := by decide +kernel
theorem dX5_sample_103 : decode cX5_sample 103 = .ok (.iload 7, 2) := by decide +kernel
theorem dX5_sample_105 : decode cX5_sample 105 = .ok (.iaload, 1) := by decide +kernel
theorem dX5_sample_106 : decode cX5_sample 106 = .ok (.iastore, 1) := by decide +kernel
theorem dX5_sample_107 : decode cX5_sample 107 = .ok (.aload_n 0, 1) := by decide +kernel
theorem dX5_sample_108 : decode cX5_sample 108 = .ok (.getfield 59, 3) := by decide +kernel
theorem dX5_sample_111 : decode cX5_sample 111 = .ok (.iload 7, 2) := by decide +kernel
theorem dX5_sample_113 : decode cX5_sample 113 = .ok (.iload 8, 2) := by decide +kernel
theorem dX5_sample_115 : decode cX5_sample 115 = .ok (.iastore, 1) := by decide +kernel
theorem dX5_sample_116 : decode cX5_sample 116 = .ok (.iinc 6 (-1), 3) := by decide +kernel
theorem dX5_sample_119 : decode cX5_sample 119 = .ok (.goto (-66), 3) := by decide +kernel
theorem dX5_sample_122 : decode cX5_sample 122 = .ok (.aload_n 0, 1) := by decide +kernel
theorem dX5_sample_123 : decode cX5_sample 123 = .ok (.getfield 59, 3) := by decide +kernel
theorem dX5_sample_126 : decode cX5_sample 126 = .ok (.iload_n 3, 1) := by decide +kernel
theorem dX5_sample_127 : decode cX5_sample 127 = .ok (.iaload, 1) := by decide +kernel
theorem dX5_sample_128 : decode cX5_sample 128 = .ok (.ireturn, 1) := by decide +kernel
theorem dX5_none_0 : decode cX5_none 0 = .ok (.aload_n 0, 1) := by decide +kernel
theorem dX5_none_1 : decode cX5_none 1 = .ok (.iconst 0, 1) := by decide +kernel
theorem dX5_none_2 : decode cX5_none 2 = .ok (.putfield 62, 3) := by decide +kernel
theorem dX5_none_5 : decode cX5_none 5 = .ok (.iconst 0, 1) := by decide +kernel
theorem dX5_none_6 : decode cX5_none 6 = .ok (.istore_n 2, 1) := by decide +kernel
theorem dX5_none_7 : decode cX5_none 7 = .ok (.iconst 1, 1) := by decide +kernel
theorem dX5_none_8 : decode cX5_none 8 = .ok (.istore_n 3, 1) := by decide +kernel
theorem dX5_none_9 : decode cX5_none 9 = .ok (.iload_n 3, 1) := by decide +kernel
theorem dX5_none_10 : decode cX5_none 10 = .ok (.aload_n 0, 1) := by decide +kernel
theorem dX5_none_11 : decode cX5_none 11 = .ok (.getfield 66, 3) := by decide +kernel
theorem dX5_none_14 : decode cX5_none 14 = .ok (.if_icmp .gt 92, 3) := by decide +kernel
theorem dX5_none_17 : decode cX5_none 17 = .ok (.aload_n 0, 1) := by decide +kernel
theorem dX5_none_18 : decode cX5_none 18 = .ok (.getfield 88, 3) := by decide +kernel
theorem dX5_none_21 : decode cX5_none 21 = .ok (.ifCond .eq 85, 3) := by decide +kernel
theorem dX5_none_24 : decode cX5_none 24 = .ok (.iload_n 1, 1) := by decide +kernel
theorem dX5_none_25 : decode cX5_none 25 = .ok (.ifCond .lt 81, 3) := by decide +kernel
theorem dX5_none_28 : decode cX5_none 28 = .ok (.aload_n 0, 1) := by decide +kernel
theorem dX5_none_29 : decode cX5_none 29 = .ok (.getfield 7, 3) := by decide +kernel
theorem dX5_none_32 : decode cX5_none 32 = .ok (.iload_n 3, 1) := by decide +kernel
theorem dX5_none_33 : decode cX5_none 33 = .ok (.iaload, 1) := by decide +kernel
theorem dX5_none_34 : decode cX5_none 34 = .ok (.ifCond .ne 7, 3) := by decide +kernel
theorem dX5_none_37 : decode cX5_none 37 = .ok (.iconst 1, 1) := by decide +kernel
theorem dX5_none_38 : decode cX5_none 38 = .ok (.goto 4, 3) := by decide +kernel
theorem dX5_none_41 : decode cX5_none 41 = .ok (.iconst 0, 1) := by decide +kernel
theorem dX5_none_42 : decode cX5_none 42 = .ok (.istore 4, 2) := by decide +kernel
theorem dX5_none_44 : decode cX5_none 44 = .ok (.iconst 0, 1) := by decide +kernel
theorem dX5_none_45 : decode cX5_none 45 = .ok (.istore 5, 2) := by decide +kernel
theorem dX5_none_47 : decode cX5_none 47 = .ok (.iload 5, 2) := by decide +kernel
theorem dX5_none_49 : decode cX5_none 49 = .ok (.aload_n 0, 1) := by decide +kernel
theorem dX5_none_50 : decode cX5_none 50 = .ok (.getfield 92, 3) := by decide +kernel
theorem dX5_none_53 : decode cX5_none 53 = .ok (.if_icmp .ge 32, 3) := by decide +kernel
theorem dX5_none_56 : decode cX5_none 56 = .ok (.iload 4, 2) := by decide +kernel
theorem dX5_none_58 : decode cX5_none 58 = .ok (.ifCond .eq 18, 3) := by decide +kernel
theorem dX5_none_61 : decode cX5_none 61 = .ok (.aload_n 0, 1) := by decide +kernel
theorem dX5_none_62 : decode cX5_none 62 = .ok (.getfield 41, 3) := by decide +kernel
theorem dX5_none_65 : decode cX5_none 65 = .ok (.iload 5, 2) := by decide +kernel
theorem dX5_none_67 : decode cX5_none 67 = .ok (.iaload, 1) := by decide +kernel
theorem dX5_none_68 : decode cX5_none 68 = .ok (.iload_n 3, 1) := by decide +kernel
theorem dX5_none_69 : decode cX5_none 69 = .ok (.if_icmp .eq 7, 3) := by decide +kernel
theorem dX5_none_72 : decode cX5_none 72 = .ok (.iconst 1, 1) := by decide +kernel
theorem dX5_none_73 : decode cX5_none 73 = .ok (.goto 4, 3) := by decide +kernel
theorem dX5_none_76 : decode cX5_none 76 = .ok (.iconst 0, 1) := by decide +kernel
theorem dX5_none_77 : decode cX5_none 77 = .ok (.istore 4, 2) := by decide +kernel
theorem dX5_none_79 : decode cX5_none 79 = .ok (.iinc 5 1, 3) := by decide +kernel
theorem dX5_none_82 : decode cX5_none 82 = .ok (.goto (-35), 3) := by decide +kernel
theorem dX5_none_85 : decode cX5_none 85 = .ok (.iload 4, 2) := by decide +kernel
theorem dX5_none_87 : decode cX5_none 87 = .ok (.ifCond .eq 13, 3) := by decide +kernel
theorem dX5_none_90 : decode cX5_none 90 = .ok (.iload_n 2, 1) := by decide +kernel
theorem dX5_none_91 : decode cX5_none 91 = .ok (.iload_n 1, 1) := by decide +kernel
theorem dX5_none_92 : decode cX5_none 92 = .ok (.if_icmp .ne 5, 3) := by decide +kernel
theorem dX5_none_95 : decode cX5_none 95 = .ok (.iload_n 3, 1) := by decide +kernel
theorem dX5_none_96 : decode cX5_none 96 = .ok (.ireturn, 1) := by decide +kernel
theorem dX5_none_97 : decode cX5_none 97 = .ok (.iinc 2 1, 3) := by decide +kernel
theorem dX5_none_100 : decode cX5_none 100 = .ok (.iinc 3 1, 3) := by decide +kernel
theorem dX5_none_103 : decode cX5_none 103 = .ok (.goto (-94), 3) := by decide +kernel
theorem dX5_none_106 : decode cX5_none 106 = .ok (.iconst 0, 1) := by decide +kernel
theorem dX5_none_107 : decode cX5_none 107 = .ok (.ireturn, 1) := by decide +kernel
theorem dX5_best_0 : decode cX5_best 0 = .ok (.aload_n 0, 1) := by decide +kernel
theorem dX5_best_1 : decode cX5_best 1 = .ok (.iconst 0, 1) := by decide +kernel
theorem dX5_best_2 : decode cX5_best 2 = .ok (.putfield 62, 3) := by decide +kernel
theorem dX5_best_5 : decode cX5_best 5 = .ok (.iconst 0, 1) := by decide +kernel
theorem dX5_best_6 : decode cX5_best 6 = .ok (.istore 4, 2) := by decide +kernel
theorem dX5_best_8 : decode cX5_best 8 = .ok (.iconst 0, 1) := by decide +kernel
theorem dX5_best_9 : decode cX5_best 9 = .ok (.istore 5, 2) := by decide +kernel
theorem dX5_best_11 : decode cX5_best 11 = .ok (.iload 5, 2) := by decide +kernel
theorem dX5_best_13 : decode cX5_best 13 = .ok (.aload_n 0, 1) := by decide +kernel
theorem dX5_best_14 : decode cX5_best 14 = .ok (.getfield 92, 3) := by decide +kernel
theorem dX5_best_17 : decode cX5_best 17 = .ok (.if_icmp .ge 78, 3) := by decide +kernel
theorem dX5_best_20 : decode cX5_best 20 = .ok (.iload_n 3, 1) := by decide +kernel
theorem dX5_best_21 : decode cX5_best 21 = .ok (.ifCond .lt 74, 3) := by decide +kernel
theorem dX5_best_24 : decode cX5_best 24 = .ok (.iload_n 1, 1) := by decide +kernel
theorem dX5_best_25 : decode cX5_best 25 = .ok (.ifCond .lt 70, 3) := by decide +kernel
theorem dX5_best_28 : decode cX5_best 28 = .ok (.iload_n 1, 1) := by decide +kernel
theorem dX5_best_29 : decode cX5_best 29 = .ok (.iconst 2, 1) := by decide +kernel
theorem dX5_best_30 : decode cX5_best 30 = .ok (.if_icmp .ge 65, 3) := by decide +kernel
theorem dX5_best_33 : decode cX5_best 33 = .ok (.iload_n 1, 1) := by decide +kernel
theorem dX5_best_34 : decode cX5_best 34 = .ok (.ifCond .ne 13, 3) := by decide +kernel
theorem dX5_best_37 : decode cX5_best 37 = .ok (.aload_n 0, 1) := by decide +kernel
theorem dX5_best_38 : decode cX5_best 38 = .ok (.getfield 41, 3) := by decide +kernel
theorem dX5_best_41 : decode cX5_best 41 = .ok (.iload 5, 2) := by decide +kernel
theorem dX5_best_43 : decode cX5_best 43 = .ok (.iaload, 1) := by decide +kernel
theorem dX5_best_44 : decode cX5_best 44 = .ok (.goto 10, 3) := by decide +kernel
theorem dX5_best_47 : decode cX5_best 47 = .ok (.aload_n 0, 1) := by decide +kernel
theorem dX5_best_48 : decode cX5_best 48 = .ok (.getfield 44, 3) := by decide +kernel
theorem dX5_best_51 : decode cX5_best 51 = .ok (.iload 5, 2) := by decide +kernel
theorem dX5_best_53 : decode cX5_best 53 = .ok (.iaload, 1) := by decide +kernel
theorem dX5_best_54 : decode cX5_best 54 = .ok (.iload_n 2, 1) := by decide +kernel
theorem dX5_best_55 : decode cX5_best 55 = .ok (.if_icmp .ne 34, 3) := by decide +kernel
theorem dX5_best_58 : decode cX5_best 58 = .ok (.iload 4, 2) := by decide +kernel
theorem dX5_best_60 : decode cX5_best 60 = .ok (.iload_n 3, 1) := by decide +kernel
theorem dX5_best_61 : decode cX5_best 61 = .ok (.if_icmp .ne 25, 3) := by decide +kernel
theorem dX5_best_64 : decode cX5_best 64 = .ok (.iload_n 1, 1) := by decide +kernel
theorem dX5_best_65 : decode cX5_best 65 = .ok (.ifCond .ne 13, 3) := by decide +kernel
theorem dX5_best_68 : decode cX5_best 68 = .ok (.aload_n 0, 1) := by decide +kernel
theorem dX5_best_69 : decode cX5_best 69 = .ok (.getfield 44, 3) := by decide +kernel
theorem dX5_best_72 : decode cX5_best 72 = .ok (.iload 5, 2) := by decide +kernel
theorem dX5_best_74 : decode cX5_best 74 = .ok (.iaload, 1) := by decide +kernel
theorem dX5_best_75 : decode cX5_best 75 = .ok (.goto 10, 3) := by decide +kernel
theorem dX5_best_78 : decode cX5_best 78 = .ok (.aload_n 0, 1) := by decide +kernel
theorem dX5_best_79 : decode cX5_best 79 = .ok (.getfield 41, 3) := by decide +kernel
theorem dX5_best_82 : decode cX5_best 82 = .ok (.iload 5, 2) := by decide +kernel
theorem dX5_best_84 : decode cX5_best 84 = .ok (.iaload, 1) := by decide +kernel
theorem dX5_best_85 : decode cX5_best 85 = .ok (.ireturn, 1) := by decide +kernel
theorem dX5_best_86 : decode cX5_best 86 = .ok (.iinc 4 1, 3) := by decide +kernel
theorem dX5_best_89 : decode cX5_best 89 = .ok (.iinc 5 1, 3) := by decide +kernel
theorem dX5_best_92 : decode cX5_best 92 = .ok (.goto (-81), 3) := by decide +kernel
theorem dX5_best_95 : decode cX5_best 95 = .ok (.iconst 0, 1) := by decide +kernel
theorem dX5_best_96 : decode cX5_best 96 = .ok (.ireturn, 1) := by decide +kernel
end
section
/-! MY OWN WORLD: cells by tags. M t = some (address, contents). -/
abbrev xM : Type := Nat → Option (Nat × va_E)
def xu (M : xM) (t : Nat) (x : Nat × va_E) : xM := fun j => if j = t then some x else M j
theorem xu_s {M : xM} {t : Nat} {x : Nat × va_E} : xu M t x t = some x := if_pos rfl
theorem xu_n {M : xM} {t j : Nat} {x : Nat × va_E} (h : j ≠ t) : xu M t x j = M j := if_neg h
def xw (D : va_G) (cl : List vw_C) (A : Nat → Prop) (M : xM) (H : Heap) : Prop :=
  ∃ ws : va_W, va_P D cl ws H ∧ va_D A ws ∧ (∀ (t : Nat) (x : Nat × va_E), M t = some x → ∃ k : Nat, ws[k]? = some x) ∧ ∀ (t t' : Nat) (x y : Nat × va_E), M t = some x → M t' = some y → x.1 = y.1 → t = t'
theorem xw_set {D : va_G} {cl : List vw_C} {A : Nat → Prop} {M : xM} {H1 : Heap} {ws : va_W} {k t a : Nat} {e e' : va_E} (hP1 : va_P D cl (ws.set k (a, e')) H1) (hD1 : va_D A (ws.set k (a, e'))) (h3 : ∀ (t : Nat) (x : Nat × va_E), M t = some x → ∃ k : Nat, ws[k]? = some x) (h4 : ∀ (t t' : Nat) (x y : Nat × va_E), M t = some x → M t' = some y → x.1 = y.1 → t = t') (hk : ws[k]? = some (a, e)) (ht : M t = some (a, e)) : xw D cl A (xu M t (a, e')) H1 := by
  have aux : ∀ (j : Nat) (x : Nat × va_E), xu M t (a, e') j = some x → ∃ z : Nat × va_E, M j = some z ∧ z.1 = x.1 := by
    intro j x hj
    by_cases h : j = t
    · subst h
      rw [xu_s] at hj
      cases hj
      exact ⟨_, ht, rfl⟩
    · rw [xu_n h] at hj
      exact ⟨_, hj, rfl⟩
  refine ⟨_, hP1, hD1, ?_, ?_⟩
  · intro j x hj
    by_cases h : j = t
    · subst h
      rw [xu_s] at hj
      cases hj
      exact ⟨k, List.getElem?_set_self (List.getElem?_eq_some_iff.mp hk).1⟩
    · rw [xu_n h] at hj
      obtain ⟨k', hk'⟩ := h3 j x hj
      refine ⟨k', ?_⟩
      rw [List.getElem?_set_ne ?_]
      · exact hk'
      · intro q
        subst q
        rw [hk] at hk'
        cases hk'
        exact h (h4 _ _ _ _ hj ht rfl)
  · intro j j' x y hj hj' hxy
    obtain ⟨z, hz, ez⟩ := aux j x hj
    obtain ⟨z', hz', ez'⟩ := aux j' y hj'
    exact h4 _ _ _ _ hz hz' (by rw [ez, ez', hxy])
theorem xw_push {D : va_G} {cl : List vw_C} {A : Nat → Prop} {M : xM} {H1 : Heap} {ws : va_W} {t q : Nat} {e : va_E} (hP1 : va_P D cl (ws ++ [(q, e)]) H1) (hD1 : va_D A (ws ++ [(q, e)])) (h3 : ∀ (t : Nat) (x : Nat × va_E), M t = some x → ∃ k : Nat, ws[k]? = some x) (h4 : ∀ (t t' : Nat) (x y : Nat × va_E), M t = some x → M t' = some y → x.1 = y.1 → t = t') : xw D cl A (xu M t (q, e)) H1 := by
  have hq : (ws ++ [(q, e)])[ws.length]? = some (q, e) := by rw [List.getElem?_append_right (Nat.le_refl _), Nat.sub_self]; rfl
  have old : ∀ (j : Nat) (x : Nat × va_E), M j = some x → ∃ k : Nat, k < ws.length ∧ (ws ++ [(q, e)])[k]? = some x := by
    intro j x hj
    obtain ⟨k, hk⟩ := h3 j x hj
    have hl := (List.getElem?_eq_some_iff.mp hk).1
    exact ⟨k, hl, by rw [List.getElem?_append_left hl]; exact hk⟩
  have apart : ∀ (j : Nat) (x : Nat × va_E), M j = some x → x.1 = q → False := by
    intro j x hj hx
    obtain ⟨k, hl, hk⟩ := old j x hj
    have := hD1.1 k ws.length x (q, e) hk hq hx
    omega
  refine ⟨_, hP1, hD1, ?_, ?_⟩
  · intro j x hj
    by_cases h : j = t
    · subst h
      rw [xu_s] at hj
      cases hj
      exact ⟨_, hq⟩
    · rw [xu_n h] at hj
      obtain ⟨k, -, hk⟩ := old j x hj
      exact ⟨k, hk⟩
  · intro j j' x y hj hj' hxy
    by_cases h : j = t
    · by_cases h' : j' = t
      · rw [h, h']
      · subst h
        rw [xu_s] at hj
        cases hj
        rw [xu_n h'] at hj'
        exact (apart _ _ hj' hxy.symm).elim
    · by_cases h' : j' = t
      · subst h'
        rw [xu_s] at hj'
        cases hj'
        rw [xu_n h] at hj
        exact (apart _ _ hj hxy).elim
      · rw [xu_n h] at hj
        rw [xu_n h'] at hj'
        exact h4 _ _ _ _ hj hj' hxy
section XK
variable {p : Program} {l : Launch} {e : Env} {R : Room} {s : State} {m : MethodId} {args : Array Value} {below : List Frame} {meth : Method} {c : Code} {H : Heap} {locs : List Loc} {cells slots : Nat} {Q : State → Prop}
variable {cc : ByteArray} {pc : Nat} {ls : Array Slot} {rest : List Value} {D : va_G} {cl : List vw_C} {A : Nat → Prop} {a : Nat} {tys : List (ClassId × FieldType)} {M : xM} {H0 : Heap}
theorem x_get (hexec : p.tables.exec = Jvm.exec) (hb : c.code = cc) {own ref C : String} {T : u_T} {N ci index : Nat} {Ts : List Cond} (hts : ∀ w ∈ Ts, w.before args s = true) (hin : ∀ w ∈ u_ws C T N, w ∈ Ts) (hown : s.vm.findClass own = some m.cls) (hK : va_K D cl tys s) (hX : xw D cl A M H) {t : Nat} {fs : List Value} (he : M t = some (a, .inr (ci, fs))) (hc : cl[ci]? = some (C, T, N)) (k : Nat) (hk : k < N) (hlink : (Cond.fieldLink own index ref (T k).2.1 (T k).2.2.1).before args s = true) (hsame : ∀ x, s.fieldFound? (T k).1 (T k).2.1 (T k).2.2.1 = some x → s.fieldFound? ref (T k).2.1 (T k).2.2.1 = some x) {v : Value} (hv : fs[k]? = some v) (hdg : decode cc pc = .ok (.getfield index, 3))
    (kk : W p l e R s m args below meth c H locs cells slots Q (F0 m (pc + 3) ls (v :: rest))) : W p l e R s m args below meth c H locs cells slots Q (F0 m pc ls (.ref a :: rest)) := by
  obtain ⟨ws, hP, -, h3, -⟩ := hX
  obtain ⟨q0, hq⟩ := h3 t _ he
  exact va_get hexec hb hts hin hown hK hP q0 hq hc k hk hlink hsame hv hdg kk
theorem x_put (hexec : p.tables.exec = Jvm.exec) (hb : c.code = cc) {own ref C : String} {T : u_T} {N ci index : Nat} {Ts : List Cond} (hts : ∀ w ∈ Ts, w.before args s = true) (hin : ∀ w ∈ u_ws C T N, w ∈ Ts) (ty0 : Nat → FieldType) (hty : ∀ k, k < N → parseFieldDescriptor (T k).2.2.1 = some (ty0 k)) (hnm : ∀ a, a < N → ∀ b, b < N → a ≠ b → (T a).2.1 ≠ (T b).2.1) (hown : s.vm.findClass own = some m.cls) (hK : va_K D cl tys s) (hX : xw D cl A M H) (hS0 : va_S A H0 H locs) {t : Nat} {fs : List Value} (he : M t = some (a, .inr (ci, fs))) (hc : cl[ci]? = some (C, T, N)) (k : Nat) (hk : k < N) (hlink : (Cond.fieldLink own index ref (T k).2.1 (T k).2.2.1).before args s = true) (hsame : ∀ x, s.fieldFound? (T k).1 (T k).2.1 (T k).2.2.1 = some x → s.fieldFound? ref (T k).2.1 (T k).2.2.1 = some x) (hfin : (T k).2.2.2 = false) {ty : FieldType} {v : Value} (hd : parseFieldDescriptor (T k).2.2.1 = some ty) (hn : narrow ty v = v) (hfit : fits ty v = true) (hl : k < fs.length)
    (hdg : decode cc pc = .ok (.putfield index, 3)) (kk : ∀ (H1 : Heap) (locs1 : List Loc), xw D cl A (xu M t (a, .inr (ci, fs.set k v))) H1 → va_S A H0 H1 locs1 → W p l e R s m args below meth c H1 locs1 cells slots Q (F0 m (pc + 3) ls rest)) : W p l e R s m args below meth c H locs cells slots Q (F0 m pc ls (v :: .ref a :: rest)) := by
  obtain ⟨ws, hP, hD, h3, h4⟩ := hX
  obtain ⟨q0, hq⟩ := h3 t _ he
  exact va_put hexec hb hts hin ty0 hty hnm hown hK hP hD hS0 q0 hq hc k hk hlink hsame hfin hd hn hfit hl hdg (fun H1 locs1 hP1 hD1 hS1 => kk H1 locs1 (xw_set hP1 hD1 h3 h4 hq he) hS1)
theorem x_putF (hexec : p.tables.exec = Jvm.exec) (hb : c.code = cc) {own ref C : String} {T : u_T} {N ci index : Nat} {Ts : List Cond} (hts : ∀ w ∈ Ts, w.before args s = true) (hin : ∀ w ∈ u_ws C T N, w ∈ Ts) (ty0 : Nat → FieldType) (hty : ∀ k, k < N → parseFieldDescriptor (T k).2.2.1 = some (ty0 k)) (hnm : ∀ a, a < N → ∀ b, b < N → a ≠ b → (T a).2.1 ≠ (T b).2.1) (hown : s.vm.findClass own = some m.cls) (hK : va_K D cl tys s) (hX : xw D cl A M H) (hS0 : va_S A H0 H locs) {t : Nat} {fs : List Value} (he : M t = some (a, .inr (ci, fs))) (hc : cl[ci]? = some (C, T, N)) (k : Nat) (hk : k < N) (hlink : (Cond.fieldLink own index ref (T k).2.1 (T k).2.2.1).before args s = true) (hsame : ∀ x, s.fieldFound? (T k).1 (T k).2.1 (T k).2.2.1 = some x → s.fieldFound? ref (T k).2.1 (T k).2.2.1 = some x) (hfin : (T k).2.2.2 = true) (hin2 : meth.name = "<init>") (hdecl : (T k).1 = own) {ty : FieldType} {v : Value} (hd : parseFieldDescriptor (T k).2.2.1 = some ty) (hn : narrow ty v = v) (hfit : fits ty v = true) (hl : k < fs.length)
    (hdg : decode cc pc = .ok (.putfield index, 3)) (kk : ∀ (H1 : Heap) (locs1 : List Loc), xw D cl A (xu M t (a, .inr (ci, fs.set k v))) H1 → va_S A H0 H1 locs1 → W p l e R s m args below meth c H1 locs1 cells slots Q (F0 m (pc + 3) ls rest)) : W p l e R s m args below meth c H locs cells slots Q (F0 m pc ls (v :: .ref a :: rest)) := by
  obtain ⟨ws, hP, hD, h3, h4⟩ := hX
  obtain ⟨q0, hq⟩ := h3 t _ he
  exact va_putF hexec hb hts hin ty0 hty hnm hown hK hP hD hS0 q0 hq hc k hk hlink hsame hfin hin2 hdecl hd hn hfit hl hdg (fun H1 locs1 hP1 hD1 hS1 => kk H1 locs1 (xw_set hP1 hD1 h3 h4 hq he) hS1)
theorem x_iald (hexec : p.tables.exec = Jvm.exec) (hb : c.code = cc) (hK : va_K D cl tys s) (hX : xw D cl A M H) {t : Nat} (t0 : Nat) {cA : ClassId} {n : Nat} {f : Nat → Int32} (ha : M t = some (a, .inl (cA, n, .inl f))) (ht : tys[t0]? = some (cA, .int)) {i : Int32} (hin : vp_in i n) (hdg : decode cc pc = .ok (.iaload, 1))
    (kk : W p l e R s m args below meth c H locs cells slots Q (F0 m (pc + 1) ls (.int (f i.toNatClampNeg) :: rest))) : W p l e R s m args below meth c H locs cells slots Q (F0 m pc ls (.int i :: .ref a :: rest)) := by
  obtain ⟨ws, hP, -, h3, -⟩ := hX
  obtain ⟨q0, hq⟩ := h3 t _ ha
  exact va_iald hexec hb hK hP q0 t0 hq ht hin hdg kk
theorem x_zald (hexec : p.tables.exec = Jvm.exec) (hb : c.code = cc) (hK : va_K D cl tys s) (hX : xw D cl A M H) {t : Nat} (t0 : Nat) {cA : ClassId} {n : Nat} {f : Nat → Int32} (ha : M t = some (a, .inl (cA, n, .inl f))) (ht : tys[t0]? = some (cA, .boolean)) {i : Int32} (hin : vp_in i n) (hdg : decode cc pc = .ok (.baload, 1))
    (kk : W p l e R s m args below meth c H locs cells slots Q (F0 m (pc + 1) ls (.int (f i.toNatClampNeg) :: rest))) : W p l e R s m args below meth c H locs cells slots Q (F0 m pc ls (.int i :: .ref a :: rest)) := by
  obtain ⟨ws, hP, -, h3, -⟩ := hX
  obtain ⟨q0, hq⟩ := h3 t _ ha
  exact va_zald hexec hb hK hP q0 t0 hq ht hin hdg kk
theorem x_lald (hexec : p.tables.exec = Jvm.exec) (hb : c.code = cc) (hK : va_K D cl tys s) (hX : xw D cl A M H) {t : Nat} (t0 : Nat) {cA : ClassId} {n : Nat} {f : Nat → Int64} (ha : M t = some (a, .inl (cA, n, .inr (.inl f)))) (ht : tys[t0]? = some (cA, .long)) {i : Int32} (hin : vp_in i n) (hdg : decode cc pc = .ok (.laload, 1))
    (kk : W p l e R s m args below meth c H locs cells slots Q (F0 m (pc + 1) ls (.long (f i.toNatClampNeg) :: rest))) : W p l e R s m args below meth c H locs cells slots Q (F0 m pc ls (.int i :: .ref a :: rest)) := by
  obtain ⟨ws, hP, -, h3, -⟩ := hX
  obtain ⟨q0, hq⟩ := h3 t _ ha
  exact va_lald hexec hb hK hP q0 t0 hq ht hin hdg kk
theorem x_aald (hexec : p.tables.exec = Jvm.exec) (hb : c.code = cc) (hK : va_K D cl tys s) (hX : xw D cl A M H) {t : Nat} (t0 : Nat) {cA : ClassId} {C : String} {n : Nat} {f : Nat → Option Nat} (ha : M t = some (a, .inl (cA, n, .inr (.inr (.inr (.inr f)))))) (ht : tys[t0]? = some (cA, .object C)) {i : Int32} (hin : vp_in i n) (hdg : decode cc pc = .ok (.aaload, 1))
    (kk : W p l e R s m args below meth c H locs cells slots Q (F0 m (pc + 1) ls (va_rf (f i.toNatClampNeg) :: rest))) : W p l e R s m args below meth c H locs cells slots Q (F0 m pc ls (.int i :: .ref a :: rest)) := by
  obtain ⟨ws, hP, -, h3, -⟩ := hX
  obtain ⟨q0, hq⟩ := h3 t _ ha
  exact va_aldq hexec hb hK hP q0 t0 hq ht hin hdg kk
theorem x_alen (hexec : p.tables.exec = Jvm.exec) (hb : c.code = cc) (hK : va_K D cl tys s) (hX : xw D cl A M H) {t : Nat} (t0 : Nat) {cA : ClassId} {x : vp_A} (ha : M t = some (a, .inl (cA, x))) {ty : FieldType} (ht : tys[t0]? = some (cA, ty)) {v : Int32} (hv : Int32.ofNat x.1 = v) (hdg : decode cc pc = .ok (.arraylength, 1))
    (kk : W p l e R s m args below meth c H locs cells slots Q (F0 m (pc + 1) ls (.int v :: rest))) : W p l e R s m args below meth c H locs cells slots Q (F0 m pc ls (.ref a :: rest)) := by
  obtain ⟨ws, hP, -, h3, -⟩ := hX
  obtain ⟨q0, hq⟩ := h3 t _ ha
  exact va_alen hexec hb hK hP q0 t0 hq ht hv hdg kk
theorem x_iast (hexec : p.tables.exec = Jvm.exec) (hb : c.code = cc) (hK : va_K D cl tys s) (hX : xw D cl A M H) (hS : va_S A H0 H locs) {t : Nat} (t0 : Nat) {cA : ClassId} {n : Nat} {f : Nat → Int32} (ha : M t = some (a, .inl (cA, n, .inl f))) (ht : tys[t0]? = some (cA, .int)) {i : Int32} {x : Int32} (hin : vp_in i n) (hdg : decode cc pc = .ok (.iastore, 1))
    (kk : ∀ (H1 : Heap) (locs1 : List Loc), xw D cl A (xu M t (a, .inl (cA, n, .inl (upd f i.toNatClampNeg x)))) H1 → va_S A H0 H1 locs1 → W p l e R s m args below meth c H1 locs1 cells slots Q (F0 m (pc + 1) ls rest)) : W p l e R s m args below meth c H locs cells slots Q (F0 m pc ls (.int x :: .int i :: .ref a :: rest)) := by
  obtain ⟨ws, hP, hD, h3, h4⟩ := hX
  obtain ⟨q0, hq⟩ := h3 t _ ha
  exact va_iast hexec hb hK hP hD hS q0 t0 hq ht hin hdg (fun H1 locs1 hP1 hD1 hS1 => kk H1 locs1 (xw_set hP1 hD1 h3 h4 hq ha) hS1)
theorem x_zast (hexec : p.tables.exec = Jvm.exec) (hb : c.code = cc) (hK : va_K D cl tys s) (hX : xw D cl A M H) (hS : va_S A H0 H locs) {t : Nat} (t0 : Nat) {cA : ClassId} {n : Nat} {f : Nat → Int32} (ha : M t = some (a, .inl (cA, n, .inl f))) (ht : tys[t0]? = some (cA, .boolean)) {i : Int32} {x : Int32} (hin : vp_in i n) (hdg : decode cc pc = .ok (.bastore, 1))
    (kk : ∀ (H1 : Heap) (locs1 : List Loc), xw D cl A (xu M t (a, .inl (cA, n, .inl (upd f i.toNatClampNeg (vp_nar .boolean x))))) H1 → va_S A H0 H1 locs1 → W p l e R s m args below meth c H1 locs1 cells slots Q (F0 m (pc + 1) ls rest)) : W p l e R s m args below meth c H locs cells slots Q (F0 m pc ls (.int x :: .int i :: .ref a :: rest)) := by
  obtain ⟨ws, hP, hD, h3, h4⟩ := hX
  obtain ⟨q0, hq⟩ := h3 t _ ha
  exact va_zast hexec hb hK hP hD hS q0 t0 hq ht hin hdg (fun H1 locs1 hP1 hD1 hS1 => kk H1 locs1 (xw_set hP1 hD1 h3 h4 hq ha) hS1)
theorem x_last (hexec : p.tables.exec = Jvm.exec) (hb : c.code = cc) (hK : va_K D cl tys s) (hX : xw D cl A M H) (hS : va_S A H0 H locs) {t : Nat} (t0 : Nat) {cA : ClassId} {n : Nat} {f : Nat → Int64} (ha : M t = some (a, .inl (cA, n, .inr (.inl f)))) (ht : tys[t0]? = some (cA, .long)) {i : Int32} {x : Int64} (hin : vp_in i n) (hdg : decode cc pc = .ok (.lastore, 1))
    (kk : ∀ (H1 : Heap) (locs1 : List Loc), xw D cl A (xu M t (a, .inl (cA, n, .inr (.inl (vp_updL f i.toNatClampNeg x))))) H1 → va_S A H0 H1 locs1 → W p l e R s m args below meth c H1 locs1 cells slots Q (F0 m (pc + 1) ls rest)) : W p l e R s m args below meth c H locs cells slots Q (F0 m pc ls (.long x :: .int i :: .ref a :: rest)) := by
  obtain ⟨ws, hP, hD, h3, h4⟩ := hX
  obtain ⟨q0, hq⟩ := h3 t _ ha
  exact va_last hexec hb hK hP hD hS q0 t0 hq ht hin hdg (fun H1 locs1 hP1 hD1 hS1 => kk H1 locs1 (xw_set hP1 hD1 h3 h4 hq ha) hS1)
theorem x_aast (hexec : p.tables.exec = Jvm.exec) (hb : c.code = cc) (hK : va_K D cl tys s) (hX : xw D cl A M H) (hS : va_S A H0 H locs) {t tv : Nat} (t0 ci : Nat) {cA : ClassId} {r : vw_C} {n v : Nat} {vs : List Value} {f : Nat → Option Nat} (ha : M t = some (a, .inl (cA, n, .inr (.inr (.inr (.inr f)))))) (ht : tys[t0]? = some (cA, .object r.1)) (hv : M tv = some (v, .inr (ci, vs))) (hc : cl[ci]? = some r) {i : Int32} (hin : vp_in i n) (hdg : decode cc pc = .ok (.aastore, 1))
    (kk : ∀ (H1 : Heap) (locs1 : List Loc), xw D cl A (xu M t (a, .inl (cA, n, .inr (.inr (.inr (.inr (va_up f i.toNatClampNeg (some v)))))))) H1 → va_S A H0 H1 locs1 → W p l e R s m args below meth c H1 locs1 cells slots Q (F0 m (pc + 1) ls rest)) : W p l e R s m args below meth c H locs cells slots Q (F0 m pc ls (.ref v :: .int i :: .ref a :: rest)) := by
  obtain ⟨ws, hP, hD, h3, h4⟩ := hX
  obtain ⟨q0, hq⟩ := h3 t _ ha
  obtain ⟨q1, hq1⟩ := h3 tv _ hv
  exact va_astq hexec hb hK hP hD hS q0 t0 q1 ci hq ht hq1 hc hin hdg (fun H1 locs1 hP1 hD1 hS1 => kk H1 locs1 (xw_set hP1 hD1 h3 h4 hq ha) hS1)
theorem x_new {c0 : Code} (hexec : p.tables.exec = Jvm.exec) (hb : c0.code = cc) {own C : String} {T : u_T} {N ci index : Nat} {Ts : List Cond} (hts : ∀ w ∈ Ts, w.before args s = true) (hin : ∀ w ∈ u_ws C T N, w ∈ Ts) (ty : Nat → FieldType) (hty : ∀ k, k < N → parseFieldDescriptor (T k).2.2.1 = some (ty k)) (hown : s.vm.findClass own = some m.cls) (hcl : (Cond.classLink own index C).before args s = true) (hinst : (Cond.instantiable C N).before args s = true) (hini : (Cond.initialized C).before args s = true)
    (hK : va_K D cl tys s) (hX : xw D cl A M H) (hS : va_S A H0 H locs) (hA : ∀ q, H0.size ≤ q → A q) (hc : cl[ci]? = some (C, T, N)) {fs : List Value} (hfs : ∀ j, j < N → defaultValue (ty j) = vp_V fs j) (hcells : cells + 1 ≤ R.cells) (hslots : slots + N ≤ R.slots) (hdg : decode cc pc = .ok (.new index, 3)) (t : Nat)
    (kk : ∀ (q : Nat) (H1 : Heap), xw D cl A (xu M t (q, .inr (ci, fs))) H1 → va_S A H0 H1 locs →
      W p l e R s m args below meth c0 H1 locs (cells + 1) (slots + N) Q (F0 m (pc + 3) ls (.ref q :: rest))) : W p l e R s m args below meth c0 H locs cells slots Q (F0 m pc ls rest) := by
  obtain ⟨ws, hP, hD, h3, h4⟩ := hX
  exact va_new hexec hb hts hin ty hty hown hcl hinst hini hK hP hD hS hA hc hfs hcells hslots hdg (fun q H1 hP1 hD1 hS1 => kk q H1 (xw_push hP1 hD1 h3 h4) hS1)
end XK
end
section
/-! contracts, calls and returns over the world of tags -/
abbrev xG : Type := va_G × (Nat → ClassId)
def xT (G : xG) : List (ClassId × FieldType) := [(G.2 0, .int), (G.2 1, .long), (G.2 2, .boolean), (G.2 3, .object RX3), (G.2 4, .object RX1)]
def xPc (G : xG) (A : Nat → Prop) (M : xM) (U : State) : Prop := va_K G.1 vwCl (xT G) U ∧ (∀ q, U.heap.size ≤ q → A q) ∧ xw G.1 vwCl A M U.heap
theorem x_blind {av : List Value} {G : xG} {A : Nat → Prop} {M : xM} : FrameBlind (va_Pc av (xPc G A M)) := fun a U g mk q => ⟨q.1, va_K.moved (u := U) (U := U.calling g mk a) (Vm.Alike.refl U.vm) q.2.1, q.2.2.1, q.2.2.2⟩
section XC
variable {p : Program} {l : Launch} {e : Env} {R : Room} {s : State} {m : MethodId} {args : Array Value} {below : List Frame} {meth : Method} {c : Code} {H : Heap} {locs : List Loc} {cells slots : Nat} {Q : State → Prop}
variable {cc : ByteArray} {pc : Nat} {ls : Array Slot} {rest : List Value} {A : Nat → Prop} {M : xM} {G : xG} {H0 : Heap}
variable {Ts ws ws' : List Cond} {nL maxL index n mc ms : Nat} {own C : String} {y : MethodName} {bytes : ByteArray} {ret : Option FieldType} {rm : Room} {Qc : Array Value → State → Outcome → State → Prop} {b : Nat} {As : List Value} {st : List Value} {a : Array Value}
theorem x_pre {av : List Value} (hK : va_K G.1 vwCl (xT G) s) (hA : ∀ q, s.heap.size ≤ q → A q) (hX : xw G.1 vwCl A M H) (hS : va_S A s.heap H locs) : ∀ U : State, U.heap = H → s.WarmedH U.vm → va_Pc av (xPc G A M) av.toArray U :=
  fun U hU hW => ⟨rfl, va_K.moved hW.alike hK, by rw [hU]; exact fun q h => hA q (Nat.le_trans hS.1 h), by rw [hU]; exact hX⟩
theorem x_recv (hK : va_K G.1 vwCl (xT G) s) (hX : xw G.1 vwCl A M H) {t ci : Nat} {fs : List Value} {q : vw_C} (he : M t = some (b, .inr (ci, fs))) (hc : vwCl[ci]? = some q) : ∃ cell : Cell, H[b]? = some cell ∧ cell.vm.isStatics = false ∧ s.vm.findClass q.1 = some cell.cls := by
  obtain ⟨ws, hP, -, h3, -⟩ := hX
  obtain ⟨k, hk⟩ := h3 t _ he
  exact va_recv hK hP hc hk
theorem x_runV (S : CallFix p m c cc nL s args Ts own) (hM : Met l y ws rm (va_Pc (.ref b :: As) (xPc G A M)) Qc mc ms A) {q : vw_C} (cw : CallW R s args own q.1 index y bytes maxL ret ws rm mc ms n) (hK : va_K G.1 vwCl (xT G) s) (hA : ∀ q, s.heap.size ≤ q → A q) (hX : xw G.1 vwCl A M H) (hS : va_S A s.heap H locs) {t ci : Nat} {fs : List Value} (he : M t = some (b, .inr (ci, fs))) (hc : vwCl[ci]? = some q)
    (hn : As.length = n) (hsize : ls.size = nL) (hstack : st = As.reverse ++ .ref b :: rest) (hW : 2 * (F0 m pc ls st).monitorRoom + (rest.map fun v => v.category).sum ≤ 8) (hdg : decode cc pc = .ok (.invokevirtual index, 3)) (hf : cells + mc ≤ R.cells ∧ slots + ms ≤ R.slots) :
    va_Run p l e R s m args below meth c H locs cells slots mc ms (F0 m pc ls st) rest (Qc (Value.ref b :: As).toArray) A :=
  va_runV S hM cw ⟨x_blind, x_recv hK hX he hc, x_pre hK hA hX hS⟩ rfl hn hsize hstack hW hdg hf
theorem x_runS (S : CallFix p m c cc nL s args Ts own) (hM : Met l y ws rm (va_Pc As (xPc G A M)) Qc mc ms A) (cw : CallB R s args own index y bytes maxL ret ws rm mc ms n ∧ (Cond.static y).before args s = true) (hK : va_K G.1 vwCl (xT G) s) (hA : ∀ q, s.heap.size ≤ q → A q) (hX : xw G.1 vwCl A M H) (hS : va_S A s.heap H locs)
    (hn : As.length = n) (hsize : ls.size = nL) (hstack : st = As.reverse ++ rest) (hW : 2 * (F0 m pc ls st).monitorRoom + (rest.map fun v => v.category).sum ≤ 8) (hdg : decode cc pc = .ok (.invokestatic index, 3)) (hf : cells + mc ≤ R.cells ∧ slots + ms ≤ R.slots) :
    va_Run p l e R s m args below meth c H locs cells slots mc ms (F0 m pc ls st) rest (Qc As.toArray) A :=
  va_runS S hM cw ⟨x_blind, x_pre hK hA hX hS⟩ rfl hn hsize hstack hW hdg hf
theorem x_runI (S : CallFix p m c cc nL s args Ts own) (hM : Met l y ws rm (va_Pc (.ref b :: As) (xPc G A M)) Qc mc ms A) (cw : CallB R s args own index y bytes maxL none ws rm mc ms n ∧ y.name = "<init>" ∧ (Cond.instanceMethod y).before args s = true) (hK : va_K G.1 vwCl (xT G) s) (hA : ∀ q, s.heap.size ≤ q → A q) (hX : xw G.1 vwCl A M H) (hS : va_S A s.heap H locs)
    (hn : As.length = n) (hsize : ls.size = nL) (hstack : st = As.reverse ++ .ref b :: rest) (hW : 2 * (F0 m pc ls st).monitorRoom + (rest.map fun v => v.category).sum ≤ 8) (hdg : decode cc pc = .ok (.invokespecial index, 3)) (hf : cells + mc ≤ R.cells ∧ slots + ms ≤ R.slots) :
    va_Run p l e R s m args below meth c H locs cells slots mc ms (F0 m pc ls st) rest (Qc (Value.ref b :: As).toArray) A :=
  va_runI S hM cw ⟨x_blind, x_pre hK hA hX hS⟩ rfl hn hsize hstack hW hdg hf
theorem x_calli {post : Int32 → xM → Prop} (hr : va_Run p l e R s m args below meth c H locs cells slots mc ms (F0 m pc ls st) rest (va_Qi post (xPc G A) A a) A) (hS : va_S A H0 H locs)
    (kk : ∀ (r : Int32) (M1 : xM) (H1 : Heap) (locs1 : List Loc), post r M1 → xw G.1 vwCl A M1 H1 → va_S A H0 H1 locs1 → W p l e R s m args below meth c H1 locs1 (cells + mc) (slots + ms) Q (F0 m (pc + 3) ls (.int r :: rest))) : W p l e R s m args below meth c H locs cells slots Q (F0 m pc ls st) :=
  va_calli hr hS (fun _ _ h => h) (fun _ h => h) (fun r u t H1 locs1 ht _ hw hB _ _ hS1 => kk r u H1 locs1 hw (by rw [← ht]; exact hB.2.2) hS1)
theorem x_calll {post : Int64 → xM → Prop} (hr : va_Run p l e R s m args below meth c H locs cells slots mc ms (F0 m pc ls st) rest (va_Ql post (xPc G A) A a) A) (hS : va_S A H0 H locs)
    (kk : ∀ (r : Int64) (M1 : xM) (H1 : Heap) (locs1 : List Loc), post r M1 → xw G.1 vwCl A M1 H1 → va_S A H0 H1 locs1 → W p l e R s m args below meth c H1 locs1 (cells + mc) (slots + ms) Q (F0 m (pc + 3) ls (.long r :: rest))) : W p l e R s m args below meth c H locs cells slots Q (F0 m pc ls st) :=
  va_calll hr hS (fun _ _ h => h) (fun _ h => h) (fun r u t H1 locs1 ht _ hw hB _ _ hS1 => kk r u H1 locs1 hw (by rw [← ht]; exact hB.2.2) hS1)
theorem x_callv {post : xM → Prop} (hr : va_Run p l e R s m args below meth c H locs cells slots mc ms (F0 m pc ls st) rest (va_Qv post (xPc G A) A a) A) (hS : va_S A H0 H locs)
    (kk : ∀ (M1 : xM) (H1 : Heap) (locs1 : List Loc), post M1 → xw G.1 vwCl A M1 H1 → va_S A H0 H1 locs1 → W p l e R s m args below meth c H1 locs1 (cells + mc) (slots + ms) Q (F0 m (pc + 3) ls rest)) : W p l e R s m args below meth c H locs cells slots Q (F0 m pc ls st) :=
  va_callv hr hS (fun _ _ h => h) (fun _ h => h) (fun u t H1 locs1 ht _ hw hB _ _ hS1 => kk u H1 locs1 hw (by rw [← ht]; exact hB.2.2) hS1)
theorem x_callq {post : Option Nat → xM → Prop} (hr : va_Run p l e R s m args below meth c H locs cells slots mc ms (F0 m pc ls st) rest (va_Qq post (xPc G A) A a) A) (hS : va_S A H0 H locs)
    (kk : ∀ (r : Option Nat) (M1 : xM) (H1 : Heap) (locs1 : List Loc), post r M1 → xw G.1 vwCl A M1 H1 → va_S A H0 H1 locs1 → W p l e R s m args below meth c H1 locs1 (cells + mc) (slots + ms) Q (F0 m (pc + 3) ls (va_rf r :: rest))) : W p l e R s m args below meth c H locs cells slots Q (F0 m pc ls st) :=
  va_callq hr hS (fun _ _ h => h) (fun _ h => h) (fun r u t H1 locs1 ht _ hw hB _ _ hS1 => kk r u H1 locs1 hw (by rw [← ht]; exact hB.2.2) hS1)
theorem x_end (hK : va_K G.1 vwCl (xT G) s) (hA : ∀ q, s.heap.size ≤ q → A q) (hX : xw G.1 vwCl A M H) (hS : va_S A s.heap H locs) {t : State} (ht : t.heap = H) (hW : s.WarmedH t.vm) : xPc G A M t :=
  ⟨va_K.moved hW.alike hK, by rw [ht]; exact fun q h => hA q (Nat.le_trans hS.1 h), by rw [ht]; exact hX⟩
theorem x_iret {post : Int32 → xM → Prop} {v : Int32} (hx : p.tables.exec = Jvm.exec) (hb : c.code = cc) (hr : meth.sig.returnType = some .int) (hlocks : meth.locks = false) (hK : va_K G.1 vwCl (xT G) s) (hA : ∀ q, s.heap.size ≤ q → A q) (hX : xw G.1 vwCl A M H) (hS : va_S A s.heap H locs) (hdg : decode cc pc = .ok (.ireturn, 1)) (hp : post v M) :
    W p l e R s m args below meth c H locs cells slots (MQ below (va_Qi post (xPc G A) A) args s cells slots A) (F0 m pc ls [.int v]) :=
  W.iret hx hb hr (fun _ ht hW => ⟨⟨v, M, rfl, hp, x_end hK hA hX hS ht hW⟩, hS.F ht⟩) hS.2.2 hdg hlocks
theorem x_zret {post : Int32 → xM → Prop} {v : Int32} (hx : p.tables.exec = Jvm.exec) (hb : c.code = cc) (hr : meth.sig.returnType = some .boolean) (hlocks : meth.locks = false) (hK : va_K G.1 vwCl (xT G) s) (hA : ∀ q, s.heap.size ≤ q → A q) (hX : xw G.1 vwCl A M H) (hS : va_S A s.heap H locs) (hdg : decode cc pc = .ok (.ireturn, 1)) (hn : narrow .boolean (.int v) = .int v) (hp : post v M) :
    W p l e R s m args below meth c H locs cells slots (MQ below (va_Qi post (xPc G A) A) args s cells slots A) (F0 m pc ls [.int v]) :=
  W.zret hx hb hr hn (fun _ ht hW => ⟨⟨v, M, rfl, hp, x_end hK hA hX hS ht hW⟩, hS.F ht⟩) hS.2.2 hdg hlocks
theorem x_lret {post : Int64 → xM → Prop} {v : Int64} (hx : p.tables.exec = Jvm.exec) (hb : c.code = cc) (hr : meth.sig.returnType = some .long) (hlocks : meth.locks = false) (hK : va_K G.1 vwCl (xT G) s) (hA : ∀ q, s.heap.size ≤ q → A q) (hX : xw G.1 vwCl A M H) (hS : va_S A s.heap H locs) (hdg : decode cc pc = .ok (.lreturn, 1)) (hp : post v M) :
    W p l e R s m args below meth c H locs cells slots (MQ below (va_Ql post (xPc G A) A) args s cells slots A) (F0 m pc ls [.long v]) :=
  W.lret hx hb hr (fun _ ht hW => ⟨⟨v, M, rfl, hp, x_end hK hA hX hS ht hW⟩, hS.F ht⟩) hS.2.2 hdg hlocks
theorem x_vret {post : xM → Prop} (hx : p.tables.exec = Jvm.exec) (hb : c.code = cc) (hr : meth.sig.returnType = none) (hlocks : meth.locks = false) (hK : va_K G.1 vwCl (xT G) s) (hA : ∀ q, s.heap.size ≤ q → A q) (hX : xw G.1 vwCl A M H) (hS : va_S A s.heap H locs) (hdg : decode cc pc = .ok (.return_, 1)) (hp : post M) :
    W p l e R s m args below meth c H locs cells slots (MQ below (va_Qv post (xPc G A) A) args s cells slots A) (F0 m pc ls []) :=
  W.vret hx hb hr (fun _ ht hW => ⟨⟨M, rfl, hp, x_end hK hA hX hS ht hW⟩, hS.F ht⟩) hS.2.2 hdg hlocks
theorem x_aret {post : Option Nat → xM → Prop} {C : String} {r : Option Nat} {v : Value} (hv : v = va_rf r) (hx : p.tables.exec = Jvm.exec) (hb : c.code = cc) (hr : meth.sig.returnType = some (.object C)) (hlocks : meth.locks = false) (hK : va_K G.1 vwCl (xT G) s) (hA : ∀ q, s.heap.size ≤ q → A q) (hX : xw G.1 vwCl A M H) (hS : va_S A s.heap H locs) (hdg : decode cc pc = .ok (.areturn, 1)) (hp : post r M) :
    W p l e R s m args below meth c H locs cells slots (MQ below (va_Qq post (xPc G A) A) args s cells slots A) (F0 m pc ls [v]) := by
  subst hv
  exact W.aret hx hb hr (Or.inl ⟨_, rfl⟩) (by cases r with | none => exact Or.inl rfl | some a => exact Or.inr ⟨a, rfl⟩) (fun _ ht hW => ⟨⟨r, M, rfl, hp, x_end hK hA hX hS ht hW⟩, hS.F ht⟩) hS.2.2 hdg hlocks
theorem x_ri {x y : Int32} (h : x = y) (k : W p l e R s m args below meth c H locs cells slots Q (F0 m pc ls (.int y :: rest))) : W p l e R s m args below meth c H locs cells slots Q (F0 m pc ls (.int x :: rest)) := h ▸ k
theorem x_rl {x y : Int64} (h : x = y) (k : W p l e R s m args below meth c H locs cells slots Q (F0 m pc ls (.long y :: rest))) : W p l e R s m args below meth c H locs cells slots Q (F0 m pc ls (.long x :: rest)) := h ▸ k
theorem x_rv {x y : Value} (h : x = y) (k : W p l e R s m args below meth c H locs cells slots Q (F0 m pc ls (y :: rest))) : W p l e R s m args below meth c H locs cells slots Q (F0 m pc ls (x :: rest)) := h ▸ k
theorem x_iN (hx : p.tables.exec = Jvm.exec) (hb : c.code = cc) (hK : va_K G.1 vwCl (xT G) s) (hX : xw G.1 vwCl A M H) {t i n aa : Nat} {f : Nat → Int32} (ha : M t = some (aa, .inl (G.2 0, n, .inl f))) (hi : i < n) (hn : n < 2 ^ 31) (hdg : decode cc pc = .ok (.iaload, 1)) (kk : W p l e R s m args below meth c H locs cells slots Q (F0 m (pc + 1) ls (.int (f i) :: rest))) : W p l e R s m args below meth c H locs cells slots Q (F0 m pc ls (.int (nI i) :: .ref aa :: rest)) :=
  x_iald hx hb hK hX 0 ha rfl (vp_in_nI hi hn) hdg (by rw [nI_clamp (by omega)]; exact kk)
theorem x_lN (hx : p.tables.exec = Jvm.exec) (hb : c.code = cc) (hK : va_K G.1 vwCl (xT G) s) (hX : xw G.1 vwCl A M H) {t i n aa : Nat} {f : Nat → Int64} (ha : M t = some (aa, .inl (G.2 1, n, .inr (.inl f)))) (hi : i < n) (hn : n < 2 ^ 31) (hdg : decode cc pc = .ok (.laload, 1)) (kk : W p l e R s m args below meth c H locs cells slots Q (F0 m (pc + 1) ls (.long (f i) :: rest))) : W p l e R s m args below meth c H locs cells slots Q (F0 m pc ls (.int (nI i) :: .ref aa :: rest)) :=
  x_lald hx hb hK hX 1 ha rfl (vp_in_nI hi hn) hdg (by rw [nI_clamp (by omega)]; exact kk)
theorem x_zN (hx : p.tables.exec = Jvm.exec) (hb : c.code = cc) (hK : va_K G.1 vwCl (xT G) s) (hX : xw G.1 vwCl A M H) {t i n aa : Nat} {f : Nat → Int32} (ha : M t = some (aa, .inl (G.2 2, n, .inl f))) (hi : i < n) (hn : n < 2 ^ 31) (hdg : decode cc pc = .ok (.baload, 1)) (kk : W p l e R s m args below meth c H locs cells slots Q (F0 m (pc + 1) ls (.int (f i) :: rest))) : W p l e R s m args below meth c H locs cells slots Q (F0 m pc ls (.int (nI i) :: .ref aa :: rest)) :=
  x_zald hx hb hK hX 2 ha rfl (vp_in_nI hi hn) hdg (by rw [nI_clamp (by omega)]; exact kk)
theorem x_aN (hx : p.tables.exec = Jvm.exec) (hb : c.code = cc) (hK : va_K G.1 vwCl (xT G) s) (hX : xw G.1 vwCl A M H) {t i n aa : Nat} {f : Nat → Option Nat} (t0 : Nat) {C : String} {cA : ClassId} (ht : (xT G)[t0]? = some (cA, .object C)) (ha : M t = some (aa, .inl (cA, n, .inr (.inr (.inr (.inr f)))))) (hi : i < n) (hn : n < 2 ^ 31) (hdg : decode cc pc = .ok (.aaload, 1)) (kk : W p l e R s m args below meth c H locs cells slots Q (F0 m (pc + 1) ls (va_rf (f i) :: rest))) : W p l e R s m args below meth c H locs cells slots Q (F0 m pc ls (.int (nI i) :: .ref aa :: rest)) :=
  x_aald hx hb hK hX t0 ha ht (vp_in_nI hi hn) hdg (by rw [nI_clamp (by omega)]; exact kk)
theorem x_isN (hx : p.tables.exec = Jvm.exec) (hb : c.code = cc) (hK : va_K G.1 vwCl (xT G) s) (hX : xw G.1 vwCl A M H) (hS : va_S A H0 H locs) {t i n aa : Nat} {f : Nat → Int32} {x : Int32} (ha : M t = some (aa, .inl (G.2 0, n, .inl f))) (hi : i < n) (hn : n < 2 ^ 31) (hdg : decode cc pc = .ok (.iastore, 1)) (kk : ∀ (H1 : Heap) (locs1 : List Loc), xw G.1 vwCl A (xu M t (aa, .inl (G.2 0, n, .inl (upd f i x)))) H1 → va_S A H0 H1 locs1 → W p l e R s m args below meth c H1 locs1 cells slots Q (F0 m (pc + 1) ls rest)) : W p l e R s m args below meth c H locs cells slots Q (F0 m pc ls (.int x :: .int (nI i) :: .ref aa :: rest)) :=
  x_iast hx hb hK hX hS 0 ha rfl (vp_in_nI hi hn) hdg (by rw [nI_clamp (by omega)]; exact kk)
theorem x_lsN (hx : p.tables.exec = Jvm.exec) (hb : c.code = cc) (hK : va_K G.1 vwCl (xT G) s) (hX : xw G.1 vwCl A M H) (hS : va_S A H0 H locs) {t i n aa : Nat} {f : Nat → Int64} {x : Int64} (ha : M t = some (aa, .inl (G.2 1, n, .inr (.inl f)))) (hi : i < n) (hn : n < 2 ^ 31) (hdg : decode cc pc = .ok (.lastore, 1)) (kk : ∀ (H1 : Heap) (locs1 : List Loc), xw G.1 vwCl A (xu M t (aa, .inl (G.2 1, n, .inr (.inl (vp_updL f i x))))) H1 → va_S A H0 H1 locs1 → W p l e R s m args below meth c H1 locs1 cells slots Q (F0 m (pc + 1) ls rest)) : W p l e R s m args below meth c H locs cells slots Q (F0 m pc ls (.long x :: .int (nI i) :: .ref aa :: rest)) :=
  x_last hx hb hK hX hS 1 ha rfl (vp_in_nI hi hn) hdg (by rw [nI_clamp (by omega)]; exact kk)
theorem x_zsN (hx : p.tables.exec = Jvm.exec) (hb : c.code = cc) (hK : va_K G.1 vwCl (xT G) s) (hX : xw G.1 vwCl A M H) (hS : va_S A H0 H locs) {t i n aa : Nat} {f : Nat → Int32} {x x' : Int32} (hx' : vp_nar .boolean x = x') (ha : M t = some (aa, .inl (G.2 2, n, .inl f))) (hi : i < n) (hn : n < 2 ^ 31) (hdg : decode cc pc = .ok (.bastore, 1)) (kk : ∀ (H1 : Heap) (locs1 : List Loc), xw G.1 vwCl A (xu M t (aa, .inl (G.2 2, n, .inl (upd f i x')))) H1 → va_S A H0 H1 locs1 → W p l e R s m args below meth c H1 locs1 cells slots Q (F0 m (pc + 1) ls rest)) : W p l e R s m args below meth c H locs cells slots Q (F0 m pc ls (.int x :: .int (nI i) :: .ref aa :: rest)) :=
  x_zast hx hb hK hX hS 2 ha rfl (vp_in_nI hi hn) hdg (by rw [nI_clamp (by omega), hx']; exact kk)
theorem x_asN (hx : p.tables.exec = Jvm.exec) (hb : c.code = cc) (hK : va_K G.1 vwCl (xT G) s) (hX : xw G.1 vwCl A M H) (hS : va_S A H0 H locs) {t tv i n aa v ci : Nat} {f : Nat → Option Nat} {vs : List Value} {r : vw_C} {cA : ClassId} (t0 : Nat) (ht : (xT G)[t0]? = some (cA, .object r.1)) (ha : M t = some (aa, .inl (cA, n, .inr (.inr (.inr (.inr f)))))) (hv : M tv = some (v, .inr (ci, vs))) (hc : vwCl[ci]? = some r) (hi : i < n) (hn : n < 2 ^ 31) (hdg : decode cc pc = .ok (.aastore, 1)) (kk : ∀ (H1 : Heap) (locs1 : List Loc), xw G.1 vwCl A (xu M t (aa, .inl (cA, n, .inr (.inr (.inr (.inr (va_up f i (some v)))))))) H1 → va_S A H0 H1 locs1 → W p l e R s m args below meth c H1 locs1 cells slots Q (F0 m (pc + 1) ls rest)) : W p l e R s m args below meth c H locs cells slots Q (F0 m pc ls (.ref v :: .int (nI i) :: .ref aa :: rest)) :=
  x_aast hx hb hK hX hS t0 ci ha ht hv hc (vp_in_nI hi hn) hdg (by rw [nI_clamp (by omega)]; exact kk)
theorem x_met {av : List Value} {maxL : Nat} (own : String) (hy : plainName y.cls = true) (hw : ws = Cond.code y cc maxL ret :: ws') (hlen : (lg_sl av).length ≤ maxL) (hyo : y.cls = own)
    (body : ∀ (p : Program) (e : Env) (s : State) (m : MethodId) (below : List Frame) (meth : Method) (c : Code), p.tables.exec = Jvm.exec → c.code = cc → meth.sig.returnType = ret → (∀ w ∈ ws, w.before av.toArray s = true) → s.vm.findClass own = some m.cls → meth.locks = false → c.maxLocals = maxL → meth.name = y.name → va_K G.1 vwCl (xT G) s → (∀ q, s.heap.size ≤ q → A q) → xw G.1 vwCl A M s.heap → ∀ ls : Array Slot, lv_has ls maxL (lv_args 0 av) →
      W p l e rm s m av.toArray below meth c s.heap [] 0 0 (MQ below Qc av.toArray s mc ms A) (F0 m 0 ls [])) : Met l y ws rm (va_Pc av (xPc G A M)) Qc mc ms A := by
  refine Met.ofW (cc := cc) (maxL := maxL) (ret := ret) hy hw ?_
  intro p e s m args below meth c s₁ B hml hv
  obtain ⟨rfl, hK, hA, hX⟩ := hv
  have hl := lv_entry av (n := maxL) hlen
  rw [lg_entry_eq]
  exact body p e s m below meth c B.exec B.bytes B.returns (atoms_spec (ws := ws) B.pre) (by rw [← hyo]; exact findClass_of_methodNamed B.named) B.notSynchronized hml (name_of_methodNamed B.named B.method).1 hK hA hX _ hl
theorem x_uu {M : xM} {t : Nat} {x z : Nat × va_E} : xu (xu M t x) t z = xu M t z := by
  funext j
  by_cases h : j = t
  · subst h; rw [xu_s, xu_s]
  · rw [xu_n h, xu_n h, xu_n h]
theorem x_us {M : xM} {t : Nat} {x : Nat × va_E} (h : M t = some x) : xu M t x = M := by
  funext j
  by_cases hj : j = t
  · subst hj; rw [xu_s, h]
  · rw [xu_n hj]
end XC
end
section
/-! branches on a comparison of longs -/
theorem lc_gt {x y : Int64} : 0 < lg_cmp x y ↔ y < x := by
  unfold lg_cmp
  by_cases h1 : y < x
  · simp [h1]
  · by_cases h2 : x = y <;> simp [h1, h2]
theorem lc_lt {x y : Int64} : lg_cmp x y < 0 ↔ x < y := by
  unfold lg_cmp
  by_cases h1 : y < x
  · have h3 : ¬ x < y := fun q => by
      rw [Int64.lt_iff_toInt_lt] at h1 q; omega
    simp [h1, h3]
  · by_cases h2 : x = y
    · subst h2; simp [h1]
    · have h3 : x < y := by
        rw [Int64.lt_iff_toInt_lt] at h1 ⊢
        have h4 : x.toInt ≠ y.toInt := fun q => h2 (Int64.toInt_inj.mp q)
        omega
      simp [h1, h2, h3]
theorem lc_eq {x y : Int64} : lg_cmp x y = 0 ↔ x = y := by
  unfold lg_cmp
  by_cases h1 : y < x
  · have h3 : ¬ x = y := fun q => by subst q; rw [Int64.lt_iff_toInt_lt] at h1; omega
    simp [h1, h3]
  · by_cases h2 : x = y <;> simp [h1, h2]
theorem lc_n32 {z : Int32} : z ≤ 0 ↔ ¬ 0 < z := by
  rw [Int32.le_iff_toInt_le, Int32.lt_iff_toInt_lt]; omega
theorem lc_m32 {z : Int32} : 0 ≤ z ↔ ¬ z < 0 := by
  rw [Int32.le_iff_toInt_le, Int32.lt_iff_toInt_lt]; omega
theorem lc_n64 {x y : Int64} : x ≤ y ↔ ¬ y < x := by
  rw [Int64.le_iff_toInt_le, Int64.lt_iff_toInt_lt]; omega
theorem lc_le {x y : Int64} : lg_cmp x y ≤ 0 ↔ x ≤ y := by rw [lc_n32, lc_gt, lc_n64]
theorem lc_ge {x y : Int64} : 0 ≤ lg_cmp x y ↔ y ≤ x := by rw [lc_m32, lc_lt, lc_n64]
section XLC
variable {p : Program} {l : Launch} {e : Env} {R : Room} {s : State} {m : MethodId} {args : Array Value} {below : List Frame} {meth : Method} {c : Code} {H : Heap} {locs : List Loc} {cells slots : Nat} {Q : State → Prop}
variable {cc : ByteArray} {pc : Nat} {ls : Array Slot} {rest : List Value} {x y : Int64} {off : Int} {tgt : Nat}
theorem x_lc_gt (hexec : p.tables.exec = Jvm.exec) (hb : c.code = cc) (hdg : decode cc pc = .ok (.ifCond .gt off, 3)) (ht : (pc : Int) + off = (tgt : Int)) (kt : y < x → W p l e R s m args below meth c H locs cells slots Q (F0 m tgt ls rest)) (kf : ¬ y < x → W p l e R s m args below meth c H locs cells slots Q (F0 m (pc + 3) ls rest)) : W p l e R s m args below meth c H locs cells slots Q (F0 m pc ls (.int (lg_cmp x y) :: rest)) :=
  lv_if_gt hexec hb hdg ht (fun h => kt (lc_gt.mp h)) (fun h => kf (fun q => h (lc_gt.mpr q)))
theorem x_lc_lt (hexec : p.tables.exec = Jvm.exec) (hb : c.code = cc) (hdg : decode cc pc = .ok (.ifCond .lt off, 3)) (ht : (pc : Int) + off = (tgt : Int)) (kt : x < y → W p l e R s m args below meth c H locs cells slots Q (F0 m tgt ls rest)) (kf : ¬ x < y → W p l e R s m args below meth c H locs cells slots Q (F0 m (pc + 3) ls rest)) : W p l e R s m args below meth c H locs cells slots Q (F0 m pc ls (.int (lg_cmp x y) :: rest)) :=
  lv_if_lt hexec hb hdg ht (fun h => kt (lc_lt.mp h)) (fun h => kf (fun q => h (lc_lt.mpr q)))
theorem x_lc_le (hexec : p.tables.exec = Jvm.exec) (hb : c.code = cc) (hdg : decode cc pc = .ok (.ifCond .le off, 3)) (ht : (pc : Int) + off = (tgt : Int)) (kt : x ≤ y → W p l e R s m args below meth c H locs cells slots Q (F0 m tgt ls rest)) (kf : ¬ x ≤ y → W p l e R s m args below meth c H locs cells slots Q (F0 m (pc + 3) ls rest)) : W p l e R s m args below meth c H locs cells slots Q (F0 m pc ls (.int (lg_cmp x y) :: rest)) :=
  lv_if_le hexec hb hdg ht (fun h => kt (lc_le.mp h)) (fun h => kf (fun q => h (lc_le.mpr q)))
theorem x_lc_ge (hexec : p.tables.exec = Jvm.exec) (hb : c.code = cc) (hdg : decode cc pc = .ok (.ifCond .ge off, 3)) (ht : (pc : Int) + off = (tgt : Int)) (kt : y ≤ x → W p l e R s m args below meth c H locs cells slots Q (F0 m tgt ls rest)) (kf : ¬ y ≤ x → W p l e R s m args below meth c H locs cells slots Q (F0 m (pc + 3) ls rest)) : W p l e R s m args below meth c H locs cells slots Q (F0 m pc ls (.int (lg_cmp x y) :: rest)) :=
  lv_if_ge hexec hb hdg ht (fun h => kt (lc_ge.mp h)) (fun h => kf (fun q => h (lc_ge.mpr q)))
theorem x_lc_eq (hexec : p.tables.exec = Jvm.exec) (hb : c.code = cc) (hdg : decode cc pc = .ok (.ifCond .eq off, 3)) (ht : (pc : Int) + off = (tgt : Int)) (kt : x = y → W p l e R s m args below meth c H locs cells slots Q (F0 m tgt ls rest)) (kf : ¬ x = y → W p l e R s m args below meth c H locs cells slots Q (F0 m (pc + 3) ls rest)) : W p l e R s m args below meth c H locs cells slots Q (F0 m pc ls (.int (lg_cmp x y) :: rest)) :=
  lv_if_eq hexec hb hdg ht (fun h => kt (lc_eq.mp h)) (fun h => kf (fun q => h (lc_eq.mpr q)))
theorem x_lc_ne (hexec : p.tables.exec = Jvm.exec) (hb : c.code = cc) (hdg : decode cc pc = .ok (.ifCond .ne off, 3)) (ht : (pc : Int) + off = (tgt : Int)) (kt : ¬ x = y → W p l e R s m args below meth c H locs cells slots Q (F0 m tgt ls rest)) (kf : x = y → W p l e R s m args below meth c H locs cells slots Q (F0 m (pc + 3) ls rest)) : W p l e R s m args below meth c H locs cells slots Q (F0 m pc ls (.int (lg_cmp x y) :: rest)) :=
  lv_if_ne hexec hb hdg ht (fun h => kt (fun q => h (lc_eq.mpr q))) (fun h => kf (lc_eq.mp h))
end XLC
/-! new arrays: the class by its name is one -/
theorem x_cA {G : xG} {s : State} {ty : FieldType} {cA cB : ClassId} {k : Nat} (hK : va_K G.1 vwCl (xT G) s) (hk : (xT G)[k]? = some (cB, ty)) (hp : ∀ C, ty ≠ .object C) (hr : va_RA s cA ty) : cA = cB := by
  have h2 := (hK.2 k _ hk).2
  cases ty with
  | object C => exact absurd rfl (hp C)
  | _ => exact Option.some.inj (hr.symm.trans h2)
theorem x_cO {G : xG} {s : State} {C : String} {cA cB : ClassId} {k : Nat} (hK : va_K G.1 vwCl (xT G) s) (hk : (xT G)[k]? = some (cB, .object C)) (hr : va_RA s cA (.object C)) : cA = cB := by
  obtain ⟨_, _, _, _, _, h2⟩ := (hK.2 k _ hk).2
  obtain ⟨_, _, _, _, _, h3⟩ := hr
  exact Option.some.inj (h3.symm.trans h2)
section XNA
variable {p : Program} {l : Launch} {e : Env} {R : Room} {s : State} {m : MethodId} {args : Array Value} {below : List Frame} {meth : Method} {c : Code} {H : Heap} {locs : List Loc} {cells slots : Nat} {Q : State → Prop}
variable {cc : ByteArray} {pc : Nat} {ls : Array Slot} {rest : List Value} {A : Nat → Prop} {M : xM} {G : xG} {H0 : Heap}
theorem x_newa (hx : p.tables.exec = Jvm.exec) (hb : c.code = cc) {atype : ArrayType} (harr : (Cond.arrayClass (newarray.typeOf atype)).before args s = true) {ty : FieldType} (hty : newarray.typeOf atype = ty) (hp : ∀ C, ty ≠ .object C) (hK : va_K G.1 vwCl (xT G) s) (hX : xw G.1 vwCl A M H) (hS : va_S A H0 H locs) (hA : ∀ q, H0.size ≤ q → A q) {k : Nat} {cB : ClassId} (hk : (xT G)[k]? = some (cB, ty))
    {n : Int32} {N' : Nat} {a0 : vp_A} (ha : ∀ cA : ClassId, vp_cell cA a0 = arrV cA N' (fun _ => defaultValue ty)) (hn : n = nI N') (hN : N' < 2 ^ 20) (hcomp : componentBytes ty ≤ 8) (hcells : cells + 1 ≤ R.cells) (hslots : slots + N' ≤ R.slots) (hdg : decode cc pc = .ok (.newarray atype, 2)) (t : Nat)
    (kk : ∀ (q : Nat) (H1 : Heap), xw G.1 vwCl A (xu M t (q, .inl (cB, a0))) H1 → va_S A H0 H1 locs → W p l e R s m args below meth c H1 locs (cells + 1) (slots + N') Q (F0 m (pc + 2) ls (.ref q :: rest))) : W p l e R s m args below meth c H locs cells slots Q (F0 m pc ls (.int n :: rest)) := by
  subst hn
  obtain ⟨ws, hP, hD, h3, h4⟩ := hX
  refine va_newa hx hb harr hty hK hP hD hS hA ha (nI_pos (by omega)) (nI_clamp (by omega)) (Nat.le_trans (Nat.mul_le_mul_left _ hcomp) (by omega)) hcells hslots hdg (fun q cA H1 hK1 hP1 hD1 hS1 => ?_)
  have he : cA = cB := x_cA hK hk hp (hK1.2 (xT G).length (cA, ty) (by rw [List.getElem?_append_right (Nat.le_refl _), Nat.sub_self]; rfl)).2
  subst he
  exact kk q H1 (xw_push hP1 hD1 h3 h4) hS1
theorem x_newq (hx : p.tables.exec = Jvm.exec) (hb : c.code = cc) {own C : String} {index : Nat} (hown : s.vm.findClass own = some m.cls) (hclink : (Cond.classLink own index C).before args s = true) (hover : va_AO C s) (hK : va_K G.1 vwCl (xT G) s) (hX : xw G.1 vwCl A M H) (hS : va_S A H0 H locs) (hA : ∀ q, H0.size ≤ q → A q) {k : Nat} {cB : ClassId} (hk : (xT G)[k]? = some (cB, .object C))
    {n : Int32} {N' : Nat} (hn : n = nI N') (hN : N' < 2 ^ 20) (hcells : cells + 1 ≤ R.cells) (hslots : slots + N' ≤ R.slots) (hdg : decode cc pc = .ok (.anewarray index, 3)) (t : Nat)
    (kk : ∀ (q : Nat) (H1 : Heap), xw G.1 vwCl A (xu M t (q, .inl (cB, N', .inr (.inr (.inr (.inr (fun _ => none))))))) H1 → va_S A H0 H1 locs → W p l e R s m args below meth c H1 locs (cells + 1) (slots + N') Q (F0 m (pc + 3) ls (.ref q :: rest))) : W p l e R s m args below meth c H locs cells slots Q (F0 m pc ls (.int n :: rest)) := by
  subst hn
  obtain ⟨ws, hP, hD, h3, h4⟩ := hX
  refine va_newq hx hb hown hclink hover hK hP hD hS hA (nI_pos (by omega)) (nI_clamp (by omega)) (by omega) hcells hslots hdg (fun q cA H1 hK1 hP1 hD1 hS1 => ?_)
  have he : cA = cB := x_cO hK hk (hK1.2 (xT G).length (cA, .object C) (by rw [List.getElem?_append_right (Nat.le_refl _), Nat.sub_self]; rfl)).2
  subst he
  exact kk q H1 (xw_push hP1 hD1 h3 h4) hS1
end XNA
end
section
theorem x_uc {M : xM} {t t' : Nat} {x y : Nat × va_E} (h : t ≠ t') : xu (xu M t x) t' y = xu (xu M t' y) t x := by
  funext j
  by_cases h1 : j = t
  · subst h1
    rw [xu_n h, xu_s, xu_s]
  · by_cases h2 : j = t'
    · subst h2
      rw [xu_s, xu_n h1, xu_s]
    · rw [xu_n h2, xu_n h1, xu_n h1, xu_n h2]
end
section
/-! Name: the pure words -/
theorem x_dec {a : Nat} (h : 1 ≤ a) : nI a + Int32.ofInt (-1) = nI (a - 1) := by
  obtain ⟨k, rfl⟩ : ∃ k, a = k + 1 := ⟨a - 1, by omega⟩
  exact pk_m1 k
theorem x_if0 {p : Prop} {r : Int32} [Decidable p] (e : r = if p then 1 else 0) (h : r = 0) : ¬ p := by
  intro hp
  rw [if_pos hp] at e
  rw [e] at h
  exact absurd h (by decide)
theorem x_if1 {p : Prop} {r : Int32} [Decidable p] (e : r = if p then 1 else 0) (h : ¬ r = 0) : p := by
  by_cases hp : p
  · exact hp
  · rw [if_neg hp] at e; exact absurd e h
theorem x_ib0 {b : Bool} {r : Int32} (e : r = if b then 1 else 0) (h : r = 0) : b = false := by
  cases b with
  | false => rfl
  | true => rw [if_pos rfl] at e; rw [e] at h; exact absurd h (by decide)
theorem x_ib1 {b : Bool} {r : Int32} (e : r = if b then 1 else 0) (h : ¬ r = 0) : b = true := by
  cases b with
  | true => rfl
  | false => rw [if_neg (by decide)] at e; exact absurd e h
def xHas (tk kd : Nat → Int32) (x k : Int32) : Nat → Bool
  | 0 => false
  | n + 1 => xHas tk kd x k n || (decide (tk n = x) && decide (kd n = k))
theorem xHas_f {tk kd : Nat → Int32} {x k : Int32} : ∀ {n : Nat}, (∀ j, j < n → ¬ (tk j = x ∧ kd j = k)) → xHas tk kd x k n = false
  | 0, _ => rfl
  | n + 1, h => by
    have h1 := xHas_f (n := n) (fun j hj => h j (by omega))
    have h2 := h n (by omega)
    simp only [xHas, h1, Bool.false_or, Bool.and_eq_false_iff, decide_eq_false_iff_not]
    by_cases a : tk n = x
    · exact Or.inr (fun b => h2 ⟨a, b⟩)
    · exact Or.inl a
theorem xHas_t {tk kd : Nat → Int32} {x k : Int32} {j : Nat} (h : tk j = x ∧ kd j = k) : ∀ {n : Nat}, j < n → xHas tk kd x k n = true
  | 0, hj => absurd hj (by omega)
  | n + 1, hj => by
    simp only [xHas, Bool.or_eq_true, Bool.and_eq_true, decide_eq_true_eq]
    rcases Nat.lt_or_ge j n with q | q
    · exact Or.inl (xHas_t h q)
    · rw [show n = j by omega]; exact Or.inr h
def xAll (kd : Nat → Int32) (wn : Nat → Nat) : Nat → Nat
  | 0 => 0
  | n + 1 => xAll kd wn n + wn (kd n).toNatClampNeg
def xSh (tk kd otk okd : Nat → Int32) (otc : Nat) (wn : Nat → Nat) : Nat → Nat
  | 0 => 0
  | n + 1 => if xHas otk okd (tk n) (kd n) otc then xSh tk kd otk okd otc wn n + wn (kd n).toNatClampNeg else xSh tk kd otk okd otc wn n
theorem x_ki {k : Int32} {n : Nat} (h : vp_in k n) (hn : n < 2 ^ 31) : k = nI k.toNatClampNeg ∧ k.toNatClampNeg < n := by
  obtain ⟨j, hj, rfl⟩ := vp_in_of h hn
  rw [nI_clamp (by omega)]
  exact ⟨rfl, hj⟩

abbrev rmX3_hasToken : Room := { frames := 0, cells := 0, slots := 0, locals := 0 }
set_option maxHeartbeats 4000000 in
set_option maxRecDepth 100000 in
/-- Name.hasToken -/
theorem ctX3_hasToken (l : Launch) (G : xG) (A : Nat → Prop) (M : xM) {t a a1 a2 tc : Nat} {sd jn dt : Int32} {fd ld : Int64} {tk kd : Nat → Int32} (hcN : M t = some (a, .inr (5, [.int sd, .int jn, .ref a1, .ref a2, .int (nI tc), .int dt, .long fd, .long ld]))) (hcT : M (t + 1) = some (a1, .inl (G.2 0, 8, .inl tk))) (hcK : M (t + 2) = some (a2, .inl (G.2 0, 8, .inl kd))) (htc : tc ≤ 8) (p0 p1 : Int32) : Met l yX3_hasToken wsX3_hasToken rmX3_hasToken (va_Pc ([.ref a, .int p0, .int p1] : List Value) (xPc G A M)) (va_Qi (fun r M1 => M1 = M ∧ r = if xHas tk kd p0 p1 tc then 1 else 0) (xPc G A) A) 0 0 A := by
  refine x_met (cc := cX3_hasToken) (maxL := 4) (ret := (some .boolean)) RX3 (by decide) rfl (Nat.le_of_ble_eq_true rfl) rfl ?_
  intro p e s m below meth c hx hb hr hts hown hlocks hml hin hK hA hX ls hl
  have inX3 : ∀ w ∈ wsX30, w ∈ wsX3_hasToken := by decide +kernel
  have lk_fieldLink_22 := hts (.fieldLink RX3 22 "Reconcile$Name" "tokenCount" "I") (by decide +kernel)
  have lk_fieldLink_15 := hts (.fieldLink RX3 15 "Reconcile$Name" "tokens" "[I") (by decide +kernel)
  have lk_fieldLink_19 := hts (.fieldLink RX3 19 "Reconcile$Name" "kinds" "[I") (by decide +kernel)
  have hS : va_S A s.heap s.heap [] := va_S.rf
  have hl : lv_has ls 4 [(0, .ref a), (1, .int p0), (2, .int p1)] := hl
  refine lv_iconst (v := nI 0) hx hb dX3_hasToken_0 (by decide) ?_
  refine lv_istore_n (lv' := [(3, .int (nI 0)), (0, .ref a), (1, .int p0), (2, .int p1)]) hx hb dX3_hasToken_1 rfl hl (by decide) rfl (fun ls hl => ?_)
  have loop : ∀ (n : Nat) (i : Nat) (ls : Array Slot), tc < i + n → (i ≤ tc) → (∀ j, j < i → ¬ (tk j = p0 ∧ kd j = p1)) → lv_has ls 4 [(3, .int (nI i)), (0, .ref a), (1, .int p0), (2, .int p1)] → W p l e rmX3_hasToken s m ([.ref a, .int p0, .int p1] : List Value).toArray below meth c s.heap [] 0 0 (MQ below (va_Qi (fun r M1 => M1 = M ∧ r = if xHas tk kd p0 p1 tc then 1 else 0) (xPc G A) A) ([.ref a, .int p0, .int p1] : List Value).toArray s 0 0 A) (F0 m 2 ls []) := by
    intro n
    induction n with
    | zero => intro i ls hn0 hi hv; exact absurd hn0 (by omega)
    | succ n ih =>
      intro i ls hn0 hi hv hl
      refine lv_iload_n hx hb dX3_hasToken_2 rfl (lv_at hl 0 rfl) ?_
      refine lv_aload_n hx hb dX3_hasToken_3 rfl (lv_at hl 1 rfl) ?_
      refine x_get (ci := 5) (v := .int (nI tc)) (C := RX3) (T := TX3) (N := 8) hx hb hts inX3 hown hK hX hcN rfl 4 (by decide) lk_fieldLink_22 (fun _ h9 => h9) rfl dX3_hasToken_4 ?_
      refine lv_icmp_ge (tgt := 38) hx hb dX3_hasToken_7 (by decide) (fun c_1 => ?_) (fun c_1 => ?_)
      · have c_1 : tc ≤ i := (nI_leI (by omega) (by omega)).mp c_1
        refine lv_iconst (v := nI 0) hx hb dX3_hasToken_38 (by decide) ?_
        exact x_zret hx hb hr hlocks hK hA hX hS dX3_hasToken_39 rfl (⟨rfl, by rw [xHas_f (n := tc) (fun j hj => hv j (by omega))]; rfl⟩)
      · have c_1 : ¬ (tc ≤ i) := fun q => c_1 ((nI_leI (by omega) (by omega)).mpr q)
        refine lv_aload_n hx hb dX3_hasToken_10 rfl (lv_at hl 1 rfl) ?_
        refine x_get (ci := 5) (v := .ref a1) (C := RX3) (T := TX3) (N := 8) hx hb hts inX3 hown hK hX hcN rfl 2 (by decide) lk_fieldLink_15 (fun _ h9 => h9) rfl dX3_hasToken_11 ?_
        refine lv_iload_n hx hb dX3_hasToken_14 rfl (lv_at hl 0 rfl) ?_
        refine x_iN hx hb hK hX hcT (by omega) (by decide) dX3_hasToken_15 ?_
        refine lv_iload_n hx hb dX3_hasToken_16 rfl (lv_at hl 2 rfl) ?_
        refine lv_icmp_ne (tgt := 32) hx hb dX3_hasToken_17 (by decide) (fun c_2 => ?_) (fun c_2 => ?_)
        · refine lv_iinc (v := nI (i + 1)) (lv' := [(3, .int (nI (i + 1))), (0, .ref a), (1, .int p0), (2, .int p1)]) hx hb dX3_hasToken_32 hl (k := 0) rfl (show nI i + Int32.ofInt 1 = _ from nI_add _ 1) (by decide) rfl (fun ls hl => ?_)
          refine lv_goto (tgt := 2) hx hb dX3_hasToken_35 (by decide) ?_
          exact ih (i + 1) ls (by omega) (by omega) (lt_s hv (fun q => c_2 q.1)) (lv_sub hl [0, 1, 2, 3] rfl)
        · refine lv_aload_n hx hb dX3_hasToken_20 rfl (lv_at hl 1 rfl) ?_
          refine x_get (ci := 5) (v := .ref a2) (C := RX3) (T := TX3) (N := 8) hx hb hts inX3 hown hK hX hcN rfl 3 (by decide) lk_fieldLink_19 (fun _ h9 => h9) rfl dX3_hasToken_21 ?_
          refine lv_iload_n hx hb dX3_hasToken_24 rfl (lv_at hl 0 rfl) ?_
          refine x_iN hx hb hK hX hcK (by omega) (by decide) dX3_hasToken_25 ?_
          refine lv_iload_n hx hb dX3_hasToken_26 rfl (lv_at hl 3 rfl) ?_
          refine lv_icmp_ne (tgt := 32) hx hb dX3_hasToken_27 (by decide) (fun c_3 => ?_) (fun c_3 => ?_)
          · refine lv_iinc (v := nI (i + 1)) (lv' := [(3, .int (nI (i + 1))), (0, .ref a), (1, .int p0), (2, .int p1)]) hx hb dX3_hasToken_32 hl (k := 0) rfl (show nI i + Int32.ofInt 1 = _ from nI_add _ 1) (by decide) rfl (fun ls hl => ?_)
            refine lv_goto (tgt := 2) hx hb dX3_hasToken_35 (by decide) ?_
            exact ih (i + 1) ls (by omega) (by omega) (lt_s hv (fun q => c_3 q.2)) (lv_sub hl [0, 1, 2, 3] rfl)
          · refine lv_iconst (v := nI 1) hx hb dX3_hasToken_30 (by decide) ?_
            exact x_zret hx hb hr hlocks hK hA hX hS dX3_hasToken_31 rfl (⟨rfl, by rw [xHas_t ⟨c_2, c_3⟩ (show i < tc by omega)]; rfl⟩)
  exact loop (tc + 1) 0 ls (by omega) (by omega) (fun j hj => absurd hj (by omega)) (lv_sub hl [0, 1, 2, 3] rfl)

abbrev rmX3_mayPair : Room := { frames := 0, cells := 0, slots := 0, locals := 0 }
set_option maxHeartbeats 4000000 in
set_option maxRecDepth 100000 in
/-- Name.mayPair -/
theorem ctX3_mayPair (l : Launch) (G : xG) (A : Nat → Prop) (M : xM) {t a a1 a2 tc : Nat} {sd jn dt : Int32} {fd ld : Int64} {tk kd : Nat → Int32} (hcN : M t = some (a, .inr (5, [.int sd, .int jn, .ref a1, .ref a2, .int (nI tc), .int dt, .long fd, .long ld]))) (hcT : M (t + 1) = some (a1, .inl (G.2 0, 8, .inl tk))) (hcK : M (t + 2) = some (a2, .inl (G.2 0, 8, .inl kd))) (htc : tc ≤ 8) (p0 : Int32) : Met l yX3_mayPair wsX3_mayPair rmX3_mayPair (va_Pc ([.ref a, .int p0] : List Value) (xPc G A M)) (va_Qi (fun r M1 => M1 = M ∧ r = if sd = p0 ∧ 0 < tc ∧ jn = 0 then 1 else 0) (xPc G A) A) 0 0 A := by
  refine x_met (cc := cX3_mayPair) (maxL := 2) (ret := (some .boolean)) RX3 (by decide) rfl (Nat.le_of_ble_eq_true rfl) rfl ?_
  intro p e s m below meth c hx hb hr hts hown hlocks hml hin hK hA hX ls hl
  have inX3 : ∀ w ∈ wsX30, w ∈ wsX3_mayPair := by decide +kernel
  have lk_fieldLink_36 := hts (.fieldLink RX3 36 "Reconcile$Name" "side" "I") (by decide +kernel)
  have lk_fieldLink_22 := hts (.fieldLink RX3 22 "Reconcile$Name" "tokenCount" "I") (by decide +kernel)
  have lk_fieldLink_9 := hts (.fieldLink RX3 9 "Reconcile$Name" "joined" "Z") (by decide +kernel)
  have hS : va_S A s.heap s.heap [] := va_S.rf
  have hl : lv_has ls 2 [(0, .ref a), (1, .int p0)] := hl
  refine lv_aload_n hx hb dX3_mayPair_0 rfl (lv_at hl 0 rfl) ?_
  refine x_get (ci := 5) (v := .int sd) (C := RX3) (T := TX3) (N := 8) hx hb hts inX3 hown hK hX hcN rfl 0 (by decide) lk_fieldLink_36 (fun _ h9 => h9) rfl dX3_mayPair_1 ?_
  refine lv_iload_n hx hb dX3_mayPair_4 rfl (lv_at hl 1 rfl) ?_
  refine lv_icmp_ne (tgt := 26) hx hb dX3_mayPair_5 (by decide) (fun c_1 => ?_) (fun c_1 => ?_)
  · refine lv_iconst (v := nI 0) hx hb dX3_mayPair_26 (by decide) ?_
    exact x_zret hx hb hr hlocks hK hA hX hS dX3_mayPair_27 rfl (⟨rfl, by split <;> first | rfl | (rename_i q; exfalso; first | omega | exact q (by and_intros <;> first | assumption | omega) | exact absurd q.1 (by assumption) | exact absurd q.2 (by assumption) | exact absurd q.2.1 (by assumption) | exact absurd q.2.2 (by assumption) | exact absurd (by assumption) q.1 | exact absurd (by assumption) q.2 | exact absurd (by assumption) q.2.1 | exact absurd (by assumption) q.2.2 | exact absurd q.1.1 (by assumption) | exact absurd q.1.2 (by assumption))⟩)
  · refine lv_aload_n hx hb dX3_mayPair_8 rfl (lv_at hl 0 rfl) ?_
    refine x_get (ci := 5) (v := .int (nI tc)) (C := RX3) (T := TX3) (N := 8) hx hb hts inX3 hown hK hX hcN rfl 4 (by decide) lk_fieldLink_22 (fun _ h9 => h9) rfl dX3_mayPair_9 ?_
    refine lv_if_le (tgt := 26) hx hb dX3_mayPair_12 (by decide) (fun c_2 => ?_) (fun c_2 => ?_)
    · have c_2 : tc ≤ 0 := (nI_leI (a := tc) (b := 0) (by omega) (by omega)).mp c_2
      refine lv_iconst (v := nI 0) hx hb dX3_mayPair_26 (by decide) ?_
      exact x_zret hx hb hr hlocks hK hA hX hS dX3_mayPair_27 rfl (⟨rfl, by split <;> first | rfl | (rename_i q; exfalso; first | omega | exact q (by and_intros <;> first | assumption | omega) | exact absurd q.1 (by assumption) | exact absurd q.2 (by assumption) | exact absurd q.2.1 (by assumption) | exact absurd q.2.2 (by assumption) | exact absurd (by assumption) q.1 | exact absurd (by assumption) q.2 | exact absurd (by assumption) q.2.1 | exact absurd (by assumption) q.2.2 | exact absurd q.1.1 (by assumption) | exact absurd q.1.2 (by assumption))⟩)
    · have c_2 : ¬ (tc ≤ 0) := fun q => c_2 ((nI_leI (a := tc) (b := 0) (by omega) (by omega)).mpr q)
      refine lv_aload_n hx hb dX3_mayPair_15 rfl (lv_at hl 0 rfl) ?_
      refine x_get (ci := 5) (v := .int jn) (C := RX3) (T := TX3) (N := 8) hx hb hts inX3 hown hK hX hcN rfl 1 (by decide) lk_fieldLink_9 (fun _ h9 => h9) rfl dX3_mayPair_16 ?_
      refine lv_if_ne (tgt := 26) hx hb dX3_mayPair_19 (by decide) (fun c_3 => ?_) (fun c_3 => ?_)
      · refine lv_iconst (v := nI 0) hx hb dX3_mayPair_26 (by decide) ?_
        exact x_zret hx hb hr hlocks hK hA hX hS dX3_mayPair_27 rfl (⟨rfl, by split <;> first | rfl | (rename_i q; exfalso; first | omega | exact q (by and_intros <;> first | assumption | omega) | exact absurd q.1 (by assumption) | exact absurd q.2 (by assumption) | exact absurd q.2.1 (by assumption) | exact absurd q.2.2 (by assumption) | exact absurd (by assumption) q.1 | exact absurd (by assumption) q.2 | exact absurd (by assumption) q.2.1 | exact absurd (by assumption) q.2.2 | exact absurd q.1.1 (by assumption) | exact absurd q.1.2 (by assumption))⟩)
      · refine lv_iconst (v := nI 1) hx hb dX3_mayPair_22 (by decide) ?_
        refine lv_goto (tgt := 27) hx hb dX3_mayPair_23 (by decide) ?_
        exact x_zret hx hb hr hlocks hK hA hX hS dX3_mayPair_27 rfl (⟨rfl, by split <;> first | rfl | (rename_i q; exfalso; first | omega | exact q (by and_intros <;> first | assumption | omega) | exact absurd q.1 (by assumption) | exact absurd q.2 (by assumption) | exact absurd q.2.1 (by assumption) | exact absurd q.2.2 (by assumption) | exact absurd (by assumption) q.1 | exact absurd (by assumption) q.2 | exact absurd (by assumption) q.2.1 | exact absurd (by assumption) q.2.2 | exact absurd q.1.1 (by assumption) | exact absurd q.1.2 (by assumption))⟩)

abbrev rmX3_mayJoin : Room := { frames := 0, cells := 0, slots := 0, locals := 0 }
set_option maxHeartbeats 4000000 in
set_option maxRecDepth 100000 in
/-- Name.mayJoin -/
theorem ctX3_mayJoin (l : Launch) (G : xG) (A : Nat → Prop) (M : xM) {t a a1 a2 tc : Nat} {sd jn dt : Int32} {fd ld : Int64} {tk kd : Nat → Int32} (hcN : M t = some (a, .inr (5, [.int sd, .int jn, .ref a1, .ref a2, .int (nI tc), .int dt, .long fd, .long ld]))) (hcT : M (t + 1) = some (a1, .inl (G.2 0, 8, .inl tk))) (hcK : M (t + 2) = some (a2, .inl (G.2 0, 8, .inl kd))) (htc : tc ≤ 8) (p0 : Int32) : Met l yX3_mayJoin wsX3_mayJoin rmX3_mayJoin (va_Pc ([.ref a, .int p0] : List Value) (xPc G A M)) (va_Qi (fun r M1 => M1 = M ∧ r = if sd = p0 ∧ jn = 0 then 1 else 0) (xPc G A) A) 0 0 A := by
  refine x_met (cc := cX3_mayJoin) (maxL := 2) (ret := (some .boolean)) RX3 (by decide) rfl (Nat.le_of_ble_eq_true rfl) rfl ?_
  intro p e s m below meth c hx hb hr hts hown hlocks hml hin hK hA hX ls hl
  have inX3 : ∀ w ∈ wsX30, w ∈ wsX3_mayJoin := by decide +kernel
  have lk_fieldLink_36 := hts (.fieldLink RX3 36 "Reconcile$Name" "side" "I") (by decide +kernel)
  have lk_fieldLink_9 := hts (.fieldLink RX3 9 "Reconcile$Name" "joined" "Z") (by decide +kernel)
  have hS : va_S A s.heap s.heap [] := va_S.rf
  have hl : lv_has ls 2 [(0, .ref a), (1, .int p0)] := hl
  refine lv_aload_n hx hb dX3_mayJoin_0 rfl (lv_at hl 0 rfl) ?_
  refine x_get (ci := 5) (v := .int sd) (C := RX3) (T := TX3) (N := 8) hx hb hts inX3 hown hK hX hcN rfl 0 (by decide) lk_fieldLink_36 (fun _ h9 => h9) rfl dX3_mayJoin_1 ?_
  refine lv_iload_n hx hb dX3_mayJoin_4 rfl (lv_at hl 1 rfl) ?_
  refine lv_icmp_ne (tgt := 19) hx hb dX3_mayJoin_5 (by decide) (fun c_1 => ?_) (fun c_1 => ?_)
  · refine lv_iconst (v := nI 0) hx hb dX3_mayJoin_19 (by decide) ?_
    exact x_zret hx hb hr hlocks hK hA hX hS dX3_mayJoin_20 rfl (⟨rfl, by split <;> first | rfl | (rename_i q; exfalso; first | omega | exact q (by and_intros <;> first | assumption | omega) | exact absurd q.1 (by assumption) | exact absurd q.2 (by assumption) | exact absurd q.2.1 (by assumption) | exact absurd q.2.2 (by assumption) | exact absurd (by assumption) q.1 | exact absurd (by assumption) q.2 | exact absurd (by assumption) q.2.1 | exact absurd (by assumption) q.2.2 | exact absurd q.1.1 (by assumption) | exact absurd q.1.2 (by assumption))⟩)
  · refine lv_aload_n hx hb dX3_mayJoin_8 rfl (lv_at hl 0 rfl) ?_
    refine x_get (ci := 5) (v := .int jn) (C := RX3) (T := TX3) (N := 8) hx hb hts inX3 hown hK hX hcN rfl 1 (by decide) lk_fieldLink_9 (fun _ h9 => h9) rfl dX3_mayJoin_9 ?_
    refine lv_if_ne (tgt := 19) hx hb dX3_mayJoin_12 (by decide) (fun c_2 => ?_) (fun c_2 => ?_)
    · refine lv_iconst (v := nI 0) hx hb dX3_mayJoin_19 (by decide) ?_
      exact x_zret hx hb hr hlocks hK hA hX hS dX3_mayJoin_20 rfl (⟨rfl, by split <;> first | rfl | (rename_i q; exfalso; first | omega | exact q (by and_intros <;> first | assumption | omega) | exact absurd q.1 (by assumption) | exact absurd q.2 (by assumption) | exact absurd q.2.1 (by assumption) | exact absurd q.2.2 (by assumption) | exact absurd (by assumption) q.1 | exact absurd (by assumption) q.2 | exact absurd (by assumption) q.2.1 | exact absurd (by assumption) q.2.2 | exact absurd q.1.1 (by assumption) | exact absurd q.1.2 (by assumption))⟩)
    · refine lv_iconst (v := nI 1) hx hb dX3_mayJoin_15 (by decide) ?_
      refine lv_goto (tgt := 20) hx hb dX3_mayJoin_16 (by decide) ?_
      exact x_zret hx hb hr hlocks hK hA hX hS dX3_mayJoin_20 rfl (⟨rfl, by split <;> first | rfl | (rename_i q; exfalso; first | omega | exact q (by and_intros <;> first | assumption | omega) | exact absurd q.1 (by assumption) | exact absurd q.2 (by assumption) | exact absurd q.2.1 (by assumption) | exact absurd q.2.2 (by assumption) | exact absurd (by assumption) q.1 | exact absurd (by assumption) q.2 | exact absurd (by assumption) q.2.1 | exact absurd (by assumption) q.2.2 | exact absurd q.1.1 (by assumption) | exact absurd q.1.2 (by assumption))⟩)

abbrev rmX3_bothDated : Room := { frames := 0, cells := 0, slots := 0, locals := 0 }
set_option maxHeartbeats 4000000 in
set_option maxRecDepth 100000 in
/-- Name.bothDated -/
theorem ctX3_bothDated (l : Launch) (G : xG) (A : Nat → Prop) (M : xM) {t a a1 a2 tc : Nat} {sd jn dt : Int32} {fd ld : Int64} {tk kd : Nat → Int32} (hcN : M t = some (a, .inr (5, [.int sd, .int jn, .ref a1, .ref a2, .int (nI tc), .int dt, .long fd, .long ld]))) (hcT : M (t + 1) = some (a1, .inl (G.2 0, 8, .inl tk))) (hcK : M (t + 2) = some (a2, .inl (G.2 0, 8, .inl kd))) (htc : tc ≤ 8) {u a_ a1_ a2_ tc_ : Nat} {sd_ jn_ dt_ : Int32} {fd_ ld_ : Int64} {tk_ kd_ : Nat → Int32} (hcN_ : M u = some (a_, .inr (5, [.int sd_, .int jn_, .ref a1_, .ref a2_, .int (nI tc_), .int dt_, .long fd_, .long ld_]))) (hcT_ : M (u + 1) = some (a1_, .inl (G.2 0, 8, .inl tk_))) (hcK_ : M (u + 2) = some (a2_, .inl (G.2 0, 8, .inl kd_))) (htc_ : tc_ ≤ 8) : Met l yX3_bothDated wsX3_bothDated rmX3_bothDated (va_Pc ([.ref a, .ref a_] : List Value) (xPc G A M)) (va_Qi (fun r M1 => M1 = M ∧ r = if ¬ dt = 0 ∧ ¬ dt_ = 0 then 1 else 0) (xPc G A) A) 0 0 A := by
  refine x_met (cc := cX3_bothDated) (maxL := 2) (ret := (some .boolean)) RX3 (by decide) rfl (Nat.le_of_ble_eq_true rfl) rfl ?_
  intro p e s m below meth c hx hb hr hts hown hlocks hml hin hK hA hX ls hl
  have inX3 : ∀ w ∈ wsX30, w ∈ wsX3_bothDated := by decide +kernel
  have lk_fieldLink_26 := hts (.fieldLink RX3 26 "Reconcile$Name" "dated" "Z") (by decide +kernel)
  have hS : va_S A s.heap s.heap [] := va_S.rf
  have hl : lv_has ls 2 [(0, .ref a), (1, .ref a_)] := hl
  refine lv_aload_n hx hb dX3_bothDated_0 rfl (lv_at hl 0 rfl) ?_
  refine x_get (ci := 5) (v := .int dt) (C := RX3) (T := TX3) (N := 8) hx hb hts inX3 hown hK hX hcN rfl 5 (by decide) lk_fieldLink_26 (fun _ h9 => h9) rfl dX3_bothDated_1 ?_
  refine lv_if_eq (tgt := 18) hx hb dX3_bothDated_4 (by decide) (fun c_1 => ?_) (fun c_1 => ?_)
  · refine lv_iconst (v := nI 0) hx hb dX3_bothDated_18 (by decide) ?_
    exact x_zret hx hb hr hlocks hK hA hX hS dX3_bothDated_19 rfl (⟨rfl, by split <;> first | rfl | (rename_i q; exfalso; first | omega | exact q (by and_intros <;> first | assumption | omega) | exact absurd q.1 (by assumption) | exact absurd q.2 (by assumption) | exact absurd q.2.1 (by assumption) | exact absurd q.2.2 (by assumption) | exact absurd (by assumption) q.1 | exact absurd (by assumption) q.2 | exact absurd (by assumption) q.2.1 | exact absurd (by assumption) q.2.2 | exact absurd q.1.1 (by assumption) | exact absurd q.1.2 (by assumption))⟩)
  · refine lv_aload_n hx hb dX3_bothDated_7 rfl (lv_at hl 1 rfl) ?_
    refine x_get (ci := 5) (v := .int dt_) (C := RX3) (T := TX3) (N := 8) hx hb hts inX3 hown hK hX hcN_ rfl 5 (by decide) lk_fieldLink_26 (fun _ h9 => h9) rfl dX3_bothDated_8 ?_
    refine lv_if_eq (tgt := 18) hx hb dX3_bothDated_11 (by decide) (fun c_2 => ?_) (fun c_2 => ?_)
    · refine lv_iconst (v := nI 0) hx hb dX3_bothDated_18 (by decide) ?_
      exact x_zret hx hb hr hlocks hK hA hX hS dX3_bothDated_19 rfl (⟨rfl, by split <;> first | rfl | (rename_i q; exfalso; first | omega | exact q (by and_intros <;> first | assumption | omega) | exact absurd q.1 (by assumption) | exact absurd q.2 (by assumption) | exact absurd q.2.1 (by assumption) | exact absurd q.2.2 (by assumption) | exact absurd (by assumption) q.1 | exact absurd (by assumption) q.2 | exact absurd (by assumption) q.2.1 | exact absurd (by assumption) q.2.2 | exact absurd q.1.1 (by assumption) | exact absurd q.1.2 (by assumption))⟩)
    · refine lv_iconst (v := nI 1) hx hb dX3_bothDated_14 (by decide) ?_
      refine lv_goto (tgt := 19) hx hb dX3_bothDated_15 (by decide) ?_
      exact x_zret hx hb hr hlocks hK hA hX hS dX3_bothDated_19 rfl (⟨rfl, by split <;> first | rfl | (rename_i q; exfalso; first | omega | exact q (by and_intros <;> first | assumption | omega) | exact absurd q.1 (by assumption) | exact absurd q.2 (by assumption) | exact absurd q.2.1 (by assumption) | exact absurd q.2.2 (by assumption) | exact absurd (by assumption) q.1 | exact absurd (by assumption) q.2 | exact absurd (by assumption) q.2.1 | exact absurd (by assumption) q.2.2 | exact absurd q.1.1 (by assumption) | exact absurd q.1.2 (by assumption))⟩)

abbrev rmX3_sharesDay : Room := { frames := 1, cells := 0, slots := 0, locals := 21 }
set_option maxHeartbeats 4000000 in
set_option maxRecDepth 100000 in
/-- Name.sharesDay -/
theorem ctX3_sharesDay (l : Launch) (G : xG) (A : Nat → Prop) (M : xM) {t a a1 a2 tc : Nat} {sd jn dt : Int32} {fd ld : Int64} {tk kd : Nat → Int32} (hcN : M t = some (a, .inr (5, [.int sd, .int jn, .ref a1, .ref a2, .int (nI tc), .int dt, .long fd, .long ld]))) (hcT : M (t + 1) = some (a1, .inl (G.2 0, 8, .inl tk))) (hcK : M (t + 2) = some (a2, .inl (G.2 0, 8, .inl kd))) (htc : tc ≤ 8) {u a_ a1_ a2_ tc_ : Nat} {sd_ jn_ dt_ : Int32} {fd_ ld_ : Int64} {tk_ kd_ : Nat → Int32} (hcN_ : M u = some (a_, .inr (5, [.int sd_, .int jn_, .ref a1_, .ref a2_, .int (nI tc_), .int dt_, .long fd_, .long ld_]))) (hcT_ : M (u + 1) = some (a1_, .inl (G.2 0, 8, .inl tk_))) (hcK_ : M (u + 2) = some (a2_, .inl (G.2 0, 8, .inl kd_))) (htc_ : tc_ ≤ 8) : Met l yX3_sharesDay wsX3_sharesDay rmX3_sharesDay (va_Pc ([.ref a, .ref a_] : List Value) (xPc G A M)) (va_Qi (fun r M1 => M1 = M ∧ r = if (¬ dt = 0 ∧ ¬ dt_ = 0) ∧ ¬ ld_ < fd ∧ ¬ ld < fd_ then 1 else 0) (xPc G A) A) 0 0 A := by
  refine x_met (cc := cX3_sharesDay) (maxL := 2) (ret := (some .boolean)) RX3 (by decide) rfl (Nat.le_of_ble_eq_true rfl) rfl ?_
  intro p e s m below meth c hx hb hr hts hown hlocks hml hin hK hA hX ls hl
  have inX3 : ∀ w ∈ wsX30, w ∈ wsX3_sharesDay := by decide +kernel
  have lk_fieldLink_29 := hts (.fieldLink RX3 29 "Reconcile$Name" "firstDay" "J") (by decide +kernel)
  have lk_fieldLink_33 := hts (.fieldLink RX3 33 "Reconcile$Name" "lastDay" "J") (by decide +kernel)
  have hS : va_S A s.heap s.heap [] := va_S.rf
  have hl : lv_has ls 2 [(0, .ref a), (1, .ref a_)] := hl
  refine lv_aload_n hx hb dX3_sharesDay_0 rfl (lv_at hl 0 rfl) ?_
  refine lv_aload_n hx hb dX3_sharesDay_1 rfl (lv_at hl 1 rfl) ?_
  refine x_calli (x_runV (q := (RX3, TX3, 8)) (As := [.ref a_]) (rest := []) ⟨hx, hb, hml, hown, hts⟩ (ctX3_bothDated l G A M hcN hcT hcK htc hcN_ hcT_ hcK_ htc_) (cwV 1 hts gX3_sharesDay_X3_bothDated rfl rfl rfl (by decide +kernel) ⟨Nat.le_of_ble_eq_true rfl, Nat.le_of_ble_eq_true rfl⟩) hK hA hX hS hcN rfl rfl hl.1 rfl (lv_room (Nat.le_of_ble_eq_true rfl)) dX3_sharesDay_2 ⟨by decide, by decide⟩) hS (fun r_1 M_2 H locs hp hX hS => ?_)
  obtain ⟨hM_, er_1⟩ := hp
  rw [hM_] at hX
  refine lv_if_eq (tgt := 36) hx hb dX3_sharesDay_5 (by decide) (fun c_3 => ?_) (fun c_3 => ?_)
  · have c_3 := x_if0 er_1 c_3
    refine lv_iconst (v := nI 0) hx hb dX3_sharesDay_36 (by decide) ?_
    exact x_zret hx hb hr hlocks hK hA hX hS dX3_sharesDay_37 rfl (⟨rfl, by split <;> first | rfl | (rename_i q; exfalso; first | omega | exact q (by and_intros <;> first | assumption | omega) | exact absurd q.1 (by assumption) | exact absurd q.2 (by assumption) | exact absurd q.2.1 (by assumption) | exact absurd q.2.2 (by assumption) | exact absurd (by assumption) q.1 | exact absurd (by assumption) q.2 | exact absurd (by assumption) q.2.1 | exact absurd (by assumption) q.2.2 | exact absurd q.1.1 (by assumption) | exact absurd q.1.2 (by assumption))⟩)
  · have c_3 := x_if1 er_1 c_3
    obtain ⟨hA1, hA2⟩ := c_3
    refine lv_aload_n hx hb dX3_sharesDay_8 rfl (lv_at hl 0 rfl) ?_
    refine x_get (ci := 5) (v := .long fd) (C := RX3) (T := TX3) (N := 8) hx hb hts inX3 hown hK hX hcN rfl 6 (by decide) lk_fieldLink_29 (fun _ h9 => h9) rfl dX3_sharesDay_9 ?_
    refine lv_aload_n hx hb dX3_sharesDay_12 rfl (lv_at hl 1 rfl) ?_
    refine x_get (ci := 5) (v := .long ld_) (C := RX3) (T := TX3) (N := 8) hx hb hts inX3 hown hK hX hcN_ rfl 7 (by decide) lk_fieldLink_33 (fun _ h9 => h9) rfl dX3_sharesDay_13 ?_
    refine W.lcmp hx hb dX3_sharesDay_16 ?_
    refine x_lc_gt (tgt := 36) hx hb dX3_sharesDay_17 (by decide) (fun c_4 => ?_) (fun c_4 => ?_)
    · refine lv_iconst (v := nI 0) hx hb dX3_sharesDay_36 (by decide) ?_
      exact x_zret hx hb hr hlocks hK hA hX hS dX3_sharesDay_37 rfl (⟨rfl, by split <;> first | rfl | (rename_i q; exfalso; first | omega | exact q (by and_intros <;> first | assumption | omega) | exact absurd q.1 (by assumption) | exact absurd q.2 (by assumption) | exact absurd q.2.1 (by assumption) | exact absurd q.2.2 (by assumption) | exact absurd (by assumption) q.1 | exact absurd (by assumption) q.2 | exact absurd (by assumption) q.2.1 | exact absurd (by assumption) q.2.2 | exact absurd q.1.1 (by assumption) | exact absurd q.1.2 (by assumption))⟩)
    · refine lv_aload_n hx hb dX3_sharesDay_20 rfl (lv_at hl 1 rfl) ?_
      refine x_get (ci := 5) (v := .long fd_) (C := RX3) (T := TX3) (N := 8) hx hb hts inX3 hown hK hX hcN_ rfl 6 (by decide) lk_fieldLink_29 (fun _ h9 => h9) rfl dX3_sharesDay_21 ?_
      refine lv_aload_n hx hb dX3_sharesDay_24 rfl (lv_at hl 0 rfl) ?_
      refine x_get (ci := 5) (v := .long ld) (C := RX3) (T := TX3) (N := 8) hx hb hts inX3 hown hK hX hcN rfl 7 (by decide) lk_fieldLink_33 (fun _ h9 => h9) rfl dX3_sharesDay_25 ?_
      refine W.lcmp hx hb dX3_sharesDay_28 ?_
      refine x_lc_gt (tgt := 36) hx hb dX3_sharesDay_29 (by decide) (fun c_5 => ?_) (fun c_5 => ?_)
      · refine lv_iconst (v := nI 0) hx hb dX3_sharesDay_36 (by decide) ?_
        exact x_zret hx hb hr hlocks hK hA hX hS dX3_sharesDay_37 rfl (⟨rfl, by split <;> first | rfl | (rename_i q; exfalso; first | omega | exact q (by and_intros <;> first | assumption | omega) | exact absurd q.1 (by assumption) | exact absurd q.2 (by assumption) | exact absurd q.2.1 (by assumption) | exact absurd q.2.2 (by assumption) | exact absurd (by assumption) q.1 | exact absurd (by assumption) q.2 | exact absurd (by assumption) q.2.1 | exact absurd (by assumption) q.2.2 | exact absurd q.1.1 (by assumption) | exact absurd q.1.2 (by assumption))⟩)
      · refine lv_iconst (v := nI 1) hx hb dX3_sharesDay_32 (by decide) ?_
        refine lv_goto (tgt := 37) hx hb dX3_sharesDay_33 (by decide) ?_
        exact x_zret hx hb hr hlocks hK hA hX hS dX3_sharesDay_37 rfl (⟨rfl, by split <;> first | rfl | (rename_i q; exfalso; first | omega | exact q (by and_intros <;> first | assumption | omega) | exact absurd q.1 (by assumption) | exact absurd q.2 (by assumption) | exact absurd q.2.1 (by assumption) | exact absurd q.2.2 (by assumption) | exact absurd (by assumption) q.1 | exact absurd (by assumption) q.2 | exact absurd (by assumption) q.2.1 | exact absurd (by assumption) q.2.2 | exact absurd q.1.1 (by assumption) | exact absurd q.1.2 (by assumption))⟩)

abbrev rmX3_setDates : Room := { frames := 0, cells := 0, slots := 0, locals := 0 }
set_option maxHeartbeats 4000000 in
set_option maxRecDepth 100000 in
/-- Name.setDates -/
theorem ctX3_setDates (l : Launch) (G : xG) (A : Nat → Prop) (M : xM) {t a a1 a2 tc : Nat} {sd jn dt : Int32} {fd ld : Int64} {tk kd : Nat → Int32} (hcN : M t = some (a, .inr (5, [.int sd, .int jn, .ref a1, .ref a2, .int (nI tc), .int dt, .long fd, .long ld]))) (hcT : M (t + 1) = some (a1, .inl (G.2 0, 8, .inl tk))) (hcK : M (t + 2) = some (a2, .inl (G.2 0, 8, .inl kd))) (htc : tc ≤ 8) (p0 p1 : Int64) : Met l yX3_setDates wsX3_setDates rmX3_setDates (va_Pc ([.ref a, .long p0, .long p1] : List Value) (xPc G A M)) (va_Qv (fun M1 => M1 = xu M t (a, .inr (5, [.int sd, .int jn, .ref a1, .ref a2, .int (nI tc), .int (nI 1), .long p0, .long p1]))) (xPc G A) A) 0 0 A := by
  refine x_met (cc := cX3_setDates) (maxL := 5) (ret := none) RX3 (by decide) rfl (Nat.le_of_ble_eq_true rfl) rfl ?_
  intro p e s m below meth c hx hb hr hts hown hlocks hml hin hK hA hX ls hl
  have inX3 : ∀ w ∈ wsX30, w ∈ wsX3_setDates := by decide +kernel
  have lk_fieldLink_26 := hts (.fieldLink RX3 26 "Reconcile$Name" "dated" "Z") (by decide +kernel)
  have lk_fieldLink_29 := hts (.fieldLink RX3 29 "Reconcile$Name" "firstDay" "J") (by decide +kernel)
  have lk_fieldLink_33 := hts (.fieldLink RX3 33 "Reconcile$Name" "lastDay" "J") (by decide +kernel)
  have hS : va_S A s.heap s.heap [] := va_S.rf
  have hl : lv_has ls 5 [(0, .ref a), (1, .long p0), (3, .long p1)] := hl
  refine lv_aload_n hx hb dX3_setDates_0 rfl (lv_at hl 0 rfl) ?_
  refine lv_iconst (v := nI 1) hx hb dX3_setDates_1 (by decide) ?_
  refine x_put (ci := 5) (v := .int (nI 1)) (C := RX3) (T := TX3) (N := 8) hx hb hts inX3 tyX3 tyX3_ok nmX3 hown hK hX hS hcN rfl 5 (by decide) lk_fieldLink_26 (fun _ h9 => h9) rfl (tyX3_ok 5 (by decide)) rfl rfl (Nat.le_of_ble_eq_true rfl) dX3_setDates_2 (fun H locs hX hS => ?_)
  obtain ⟨M_1, hM_1⟩ : ∃ zM : xM, zM = xu M t (a, .inr (5, [.int sd, .int jn, .ref a1, .ref a2, .int (nI tc), .int (nI 1), .long fd, .long ld])) := ⟨_, rfl⟩
  have hX : xw G.1 vwCl A M_1 H := by rw [hM_1]; exact hX
  have hcT : M_1 (t + 1) = some (a1, .inl (G.2 0, 8, .inl tk)) := by rw [hM_1, xu_n (by omega)]; exact hcT
  have hcK : M_1 (t + 2) = some (a2, .inl (G.2 0, 8, .inl kd)) := by rw [hM_1, xu_n (by omega)]; exact hcK
  have hcN : M_1 t = some (a, .inr (5, [.int sd, .int jn, .ref a1, .ref a2, .int (nI tc), .int (nI 1), .long fd, .long ld])) := by rw [hM_1]; exact xu_s
  refine lv_aload_n hx hb dX3_setDates_5 rfl (lv_at hl 0 rfl) ?_
  refine lv_lload_n hx hb dX3_setDates_6 rfl (lv_at hl 1 rfl) ?_
  refine x_put (ci := 5) (v := .long p0) (C := RX3) (T := TX3) (N := 8) hx hb hts inX3 tyX3 tyX3_ok nmX3 hown hK hX hS hcN rfl 6 (by decide) lk_fieldLink_29 (fun _ h9 => h9) rfl (tyX3_ok 6 (by decide)) rfl rfl (Nat.le_of_ble_eq_true rfl) dX3_setDates_7 (fun H locs hX hS => ?_)
  obtain ⟨M_2, hM_2⟩ : ∃ zM : xM, zM = xu M_1 t (a, .inr (5, [.int sd, .int jn, .ref a1, .ref a2, .int (nI tc), .int (nI 1), .long p0, .long ld])) := ⟨_, rfl⟩
  have hX : xw G.1 vwCl A M_2 H := by rw [hM_2]; exact hX
  have hcT : M_2 (t + 1) = some (a1, .inl (G.2 0, 8, .inl tk)) := by rw [hM_2, xu_n (by omega)]; exact hcT
  have hcK : M_2 (t + 2) = some (a2, .inl (G.2 0, 8, .inl kd)) := by rw [hM_2, xu_n (by omega)]; exact hcK
  have hcN : M_2 t = some (a, .inr (5, [.int sd, .int jn, .ref a1, .ref a2, .int (nI tc), .int (nI 1), .long p0, .long ld])) := by rw [hM_2]; exact xu_s
  refine lv_aload_n hx hb dX3_setDates_10 rfl (lv_at hl 0 rfl) ?_
  refine lv_lload_n hx hb dX3_setDates_11 rfl (lv_at hl 2 rfl) ?_
  refine x_put (ci := 5) (v := .long p1) (C := RX3) (T := TX3) (N := 8) hx hb hts inX3 tyX3 tyX3_ok nmX3 hown hK hX hS hcN rfl 7 (by decide) lk_fieldLink_33 (fun _ h9 => h9) rfl (tyX3_ok 7 (by decide)) rfl rfl (Nat.le_of_ble_eq_true rfl) dX3_setDates_12 (fun H locs hX hS => ?_)
  obtain ⟨M_3, hM_3⟩ : ∃ zM : xM, zM = xu M_2 t (a, .inr (5, [.int sd, .int jn, .ref a1, .ref a2, .int (nI tc), .int (nI 1), .long p0, .long p1])) := ⟨_, rfl⟩
  have hX : xw G.1 vwCl A M_3 H := by rw [hM_3]; exact hX
  have hcT : M_3 (t + 1) = some (a1, .inl (G.2 0, 8, .inl tk)) := by rw [hM_3, xu_n (by omega)]; exact hcT
  have hcK : M_3 (t + 2) = some (a2, .inl (G.2 0, 8, .inl kd)) := by rw [hM_3, xu_n (by omega)]; exact hcK
  have hcN : M_3 t = some (a, .inr (5, [.int sd, .int jn, .ref a1, .ref a2, .int (nI tc), .int (nI 1), .long p0, .long p1])) := by rw [hM_3]; exact xu_s
  exact x_vret hx hb hr hlocks hK hA hX hS dX3_setDates_15 (by rw [hM_3, hM_2, hM_1, x_uu, x_uu])

abbrev rmX3_addToken : Room := { frames := 1, cells := 0, slots := 0, locals := 23 }
set_option maxHeartbeats 4000000 in
set_option maxRecDepth 100000 in
/-- Name.addToken -/
theorem ctX3_addToken (l : Launch) (G : xG) (A : Nat → Prop) (M : xM) {t a a1 a2 tc : Nat} {sd jn dt : Int32} {fd ld : Int64} {tk kd : Nat → Int32} (hcN : M t = some (a, .inr (5, [.int sd, .int jn, .ref a1, .ref a2, .int (nI tc), .int dt, .long fd, .long ld]))) (hcT : M (t + 1) = some (a1, .inl (G.2 0, 8, .inl tk))) (hcK : M (t + 2) = some (a2, .inl (G.2 0, 8, .inl kd))) (htc : tc ≤ 8) (p0 p1 : Int32) : Met l yX3_addToken wsX3_addToken rmX3_addToken (va_Pc ([.ref a, .int p0, .int p1] : List Value) (xPc G A M)) (va_Qv (fun M1 => M1 = if tc < 8 ∧ xHas tk kd p0 p1 tc = false then xu (xu (xu M (t + 1) (a1, .inl (G.2 0, 8, .inl (upd tk tc p0)))) (t + 2) (a2, .inl (G.2 0, 8, .inl (upd kd tc p1)))) t (a, .inr (5, [.int sd, .int jn, .ref a1, .ref a2, .int (nI (tc + 1)), .int dt, .long fd, .long ld])) else M) (xPc G A) A) 0 0 A := by
  refine x_met (cc := cX3_addToken) (maxL := 3) (ret := none) RX3 (by decide) rfl (Nat.le_of_ble_eq_true rfl) rfl ?_
  intro p e s m below meth c hx hb hr hts hown hlocks hml hin hK hA hX ls hl
  have inX3 : ∀ w ∈ wsX30, w ∈ wsX3_addToken := by decide +kernel
  have lk_fieldLink_22 := hts (.fieldLink RX3 22 "Reconcile$Name" "tokenCount" "I") (by decide +kernel)
  have lk_fieldLink_15 := hts (.fieldLink RX3 15 "Reconcile$Name" "tokens" "[I") (by decide +kernel)
  have lk_fieldLink_19 := hts (.fieldLink RX3 19 "Reconcile$Name" "kinds" "[I") (by decide +kernel)
  have hS : va_S A s.heap s.heap [] := va_S.rf
  have hl : lv_has ls 3 [(0, .ref a), (1, .int p0), (2, .int p1)] := hl
  refine lv_aload_n hx hb dX3_addToken_0 rfl (lv_at hl 0 rfl) ?_
  refine x_get (ci := 5) (v := .int (nI tc)) (C := RX3) (T := TX3) (N := 8) hx hb hts inX3 hown hK hX hcN rfl 4 (by decide) lk_fieldLink_22 (fun _ h9 => h9) rfl dX3_addToken_1 ?_
  refine lv_bipush (v := nI 8) hx hb dX3_addToken_4 (by decide) ?_
  refine lv_icmp_ge (tgt := 18) hx hb dX3_addToken_6 (by decide) (fun c_1 => ?_) (fun c_1 => ?_)
  · have c_1 : 8 ≤ tc := (nI_leI (by omega) (by omega)).mp c_1
    exact x_vret hx hb hr hlocks hK hA hX hS dX3_addToken_18 (by rw [if_neg (fun q => by first | omega | (rw [q.2] at *; contradiction) | (simp_all; done))])
  · have c_1 : ¬ (8 ≤ tc) := fun q => c_1 ((nI_leI (by omega) (by omega)).mpr q)
    refine lv_aload_n hx hb dX3_addToken_9 rfl (lv_at hl 0 rfl) ?_
    refine lv_iload_n hx hb dX3_addToken_10 rfl (lv_at hl 1 rfl) ?_
    refine lv_iload_n hx hb dX3_addToken_11 rfl (lv_at hl 2 rfl) ?_
    refine x_calli (x_runV (q := (RX3, TX3, 8)) (As := [.int p0, .int p1]) (rest := []) ⟨hx, hb, hml, hown, hts⟩ (ctX3_hasToken l G A M hcN hcT hcK htc p0 p1) (cwV 2 hts gX3_addToken_X3_hasToken rfl rfl rfl (by decide +kernel) ⟨Nat.le_of_ble_eq_true rfl, Nat.le_of_ble_eq_true rfl⟩) hK hA hX hS hcN rfl rfl hl.1 rfl (lv_room (Nat.le_of_ble_eq_true rfl)) dX3_addToken_12 ⟨by decide, by decide⟩) hS (fun r_2 M_3 H locs hp hX hS => ?_)
    obtain ⟨hM_, er_2⟩ := hp
    rw [hM_] at hX
    refine lv_if_eq (tgt := 19) hx hb dX3_addToken_15 (by decide) (fun c_4 => ?_) (fun c_4 => ?_)
    · have c_4 := x_ib0 er_2 c_4
      refine lv_aload_n hx hb dX3_addToken_19 rfl (lv_at hl 0 rfl) ?_
      refine x_get (ci := 5) (v := .ref a1) (C := RX3) (T := TX3) (N := 8) hx hb hts inX3 hown hK hX hcN rfl 2 (by decide) lk_fieldLink_15 (fun _ h9 => h9) rfl dX3_addToken_20 ?_
      refine lv_aload_n hx hb dX3_addToken_23 rfl (lv_at hl 0 rfl) ?_
      refine x_get (ci := 5) (v := .int (nI tc)) (C := RX3) (T := TX3) (N := 8) hx hb hts inX3 hown hK hX hcN rfl 4 (by decide) lk_fieldLink_22 (fun _ h9 => h9) rfl dX3_addToken_24 ?_
      refine lv_iload_n hx hb dX3_addToken_27 rfl (lv_at hl 1 rfl) ?_
      refine x_isN hx hb hK hX hS hcT (by omega) (by decide) dX3_addToken_28 (fun H locs hX hS => ?_)
      obtain ⟨M_5, hM_5⟩ : ∃ zM : xM, zM = xu M (t + 1) (a1, .inl (G.2 0, 8, .inl (upd tk tc p0))) := ⟨_, rfl⟩
      have hX : xw G.1 vwCl A M_5 H := by rw [hM_5]; exact hX
      have hcN : M_5 t = some (a, .inr (5, [.int sd, .int jn, .ref a1, .ref a2, .int (nI tc), .int dt, .long fd, .long ld])) := by rw [hM_5, xu_n (by omega)]; exact hcN
      have hcK : M_5 (t + 2) = some (a2, .inl (G.2 0, 8, .inl kd)) := by rw [hM_5, xu_n (by omega)]; exact hcK
      have hcT : M_5 (t + 1) = some (a1, .inl (G.2 0, 8, .inl (upd tk tc p0))) := by rw [hM_5]; exact xu_s
      refine lv_aload_n hx hb dX3_addToken_29 rfl (lv_at hl 0 rfl) ?_
      refine x_get (ci := 5) (v := .ref a2) (C := RX3) (T := TX3) (N := 8) hx hb hts inX3 hown hK hX hcN rfl 3 (by decide) lk_fieldLink_19 (fun _ h9 => h9) rfl dX3_addToken_30 ?_
      refine lv_aload_n hx hb dX3_addToken_33 rfl (lv_at hl 0 rfl) ?_
      refine x_get (ci := 5) (v := .int (nI tc)) (C := RX3) (T := TX3) (N := 8) hx hb hts inX3 hown hK hX hcN rfl 4 (by decide) lk_fieldLink_22 (fun _ h9 => h9) rfl dX3_addToken_34 ?_
      refine lv_iload_n hx hb dX3_addToken_37 rfl (lv_at hl 2 rfl) ?_
      refine x_isN hx hb hK hX hS hcK (by omega) (by decide) dX3_addToken_38 (fun H locs hX hS => ?_)
      obtain ⟨M_6, hM_6⟩ : ∃ zM : xM, zM = xu M_5 (t + 2) (a2, .inl (G.2 0, 8, .inl (upd kd tc p1))) := ⟨_, rfl⟩
      have hX : xw G.1 vwCl A M_6 H := by rw [hM_6]; exact hX
      have hcN : M_6 t = some (a, .inr (5, [.int sd, .int jn, .ref a1, .ref a2, .int (nI tc), .int dt, .long fd, .long ld])) := by rw [hM_6, xu_n (by omega)]; exact hcN
      have hcT : M_6 (t + 1) = some (a1, .inl (G.2 0, 8, .inl (upd tk tc p0))) := by rw [hM_6, xu_n (by omega)]; exact hcT
      have hcK : M_6 (t + 2) = some (a2, .inl (G.2 0, 8, .inl (upd kd tc p1))) := by rw [hM_6]; exact xu_s
      refine lv_aload_n hx hb dX3_addToken_39 rfl (lv_at hl 0 rfl) ?_
      refine lv_dup hx hb dX3_addToken_40 rfl ?_
      refine x_get (ci := 5) (v := .int (nI tc)) (C := RX3) (T := TX3) (N := 8) hx hb hts inX3 hown hK hX hcN rfl 4 (by decide) lk_fieldLink_22 (fun _ h9 => h9) rfl dX3_addToken_41 ?_
      refine lv_iconst (v := nI 1) hx hb dX3_addToken_44 (by decide) ?_
      refine lv_iadd hx hb dX3_addToken_45 ?_
      refine x_ri (nI_add _ _) ?_
      refine x_put (ci := 5) (v := .int (nI (tc + 1))) (C := RX3) (T := TX3) (N := 8) hx hb hts inX3 tyX3 tyX3_ok nmX3 hown hK hX hS hcN rfl 4 (by decide) lk_fieldLink_22 (fun _ h9 => h9) rfl (tyX3_ok 4 (by decide)) rfl rfl (Nat.le_of_ble_eq_true rfl) dX3_addToken_46 (fun H locs hX hS => ?_)
      obtain ⟨M_7, hM_7⟩ : ∃ zM : xM, zM = xu M_6 t (a, .inr (5, [.int sd, .int jn, .ref a1, .ref a2, .int (nI (tc + 1)), .int dt, .long fd, .long ld])) := ⟨_, rfl⟩
      have hX : xw G.1 vwCl A M_7 H := by rw [hM_7]; exact hX
      have hcT : M_7 (t + 1) = some (a1, .inl (G.2 0, 8, .inl (upd tk tc p0))) := by rw [hM_7, xu_n (by omega)]; exact hcT
      have hcK : M_7 (t + 2) = some (a2, .inl (G.2 0, 8, .inl (upd kd tc p1))) := by rw [hM_7, xu_n (by omega)]; exact hcK
      have hcN : M_7 t = some (a, .inr (5, [.int sd, .int jn, .ref a1, .ref a2, .int (nI (tc + 1)), .int dt, .long fd, .long ld])) := by rw [hM_7]; exact xu_s
      exact x_vret hx hb hr hlocks hK hA hX hS dX3_addToken_49 (by rw [if_pos ⟨by omega, by assumption⟩, hM_7, hM_6, hM_5])
    · have c_4 := x_ib1 er_2 c_4
      exact x_vret hx hb hr hlocks hK hA hX hS dX3_addToken_18 (by rw [if_neg (fun q => by first | omega | (rw [q.2] at *; contradiction) | (simp_all; done))])

abbrev rmX3_weightOfAll : Room := { frames := 0, cells := 0, slots := 0, locals := 0 }
set_option maxHeartbeats 4000000 in
set_option maxRecDepth 100000 in
/-- Name.weightOfAll -/
theorem ctX3_weightOfAll (l : Launch) (G : xG) (A : Nat → Prop) (M : xM) {t a a1 a2 tc : Nat} {sd jn dt : Int32} {fd ld : Int64} {tk kd : Nat → Int32} (hcN : M t = some (a, .inr (5, [.int sd, .int jn, .ref a1, .ref a2, .int (nI tc), .int dt, .long fd, .long ld]))) (hcT : M (t + 1) = some (a1, .inl (G.2 0, 8, .inl tk))) (hcK : M (t + 2) = some (a2, .inl (G.2 0, 8, .inl kd))) (htc : tc ≤ 8) (hkd : ∀ j, j < tc → vp_in (kd j) 4) {tw aw : Nat} {wn : Nat → Nat} (hcW : M tw = some (aw, .inl (G.2 1, 4, .inr (.inl (fun k => lN (wn k)))))) : Met l yX3_weightOfAll wsX3_weightOfAll rmX3_weightOfAll (va_Pc ([.ref a, .ref aw] : List Value) (xPc G A M)) (va_Ql (fun r M1 => M1 = M ∧ r = lN (xAll kd wn tc)) (xPc G A) A) 0 0 A := by
  refine x_met (cc := cX3_weightOfAll) (maxL := 5) (ret := (some .long)) RX3 (by decide) rfl (Nat.le_of_ble_eq_true rfl) rfl ?_
  intro p e s m below meth c hx hb hr hts hown hlocks hml hin hK hA hX ls hl
  have inX3 : ∀ w ∈ wsX30, w ∈ wsX3_weightOfAll := by decide +kernel
  have lk_fieldLink_22 := hts (.fieldLink RX3 22 "Reconcile$Name" "tokenCount" "I") (by decide +kernel)
  have lk_fieldLink_19 := hts (.fieldLink RX3 19 "Reconcile$Name" "kinds" "[I") (by decide +kernel)
  have hS : va_S A s.heap s.heap [] := va_S.rf
  have hl : lv_has ls 5 [(0, .ref a), (1, .ref aw)] := hl
  refine lv_lconst (v := lN 0) hx hb dX3_weightOfAll_0 rfl ?_
  refine lv_lstore_n (lv' := [(2, .long (lN 0)), (0, .ref a), (1, .ref aw)]) hx hb dX3_weightOfAll_1 rfl hl (by decide) rfl (fun ls hl => ?_)
  refine lv_iconst (v := nI 0) hx hb dX3_weightOfAll_2 (by decide) ?_
  refine lv_istore (lv' := [(4, .int (nI 0)), (2, .long (lN 0)), (0, .ref a), (1, .ref aw)]) hx hb dX3_weightOfAll_3 hl (by decide) rfl (fun ls hl => ?_)
  have loop : ∀ (n : Nat) (i : Nat) (ls : Array Slot), tc < i + n → (i ≤ tc) → lv_has ls 5 [(4, .int (nI i)), (2, .long (lN (xAll kd wn i))), (0, .ref a), (1, .ref aw)] → W p l e rmX3_weightOfAll s m ([.ref a, .ref aw] : List Value).toArray below meth c s.heap [] 0 0 (MQ below (va_Ql (fun r M1 => M1 = M ∧ r = lN (xAll kd wn tc)) (xPc G A) A) ([.ref a, .ref aw] : List Value).toArray s 0 0 A) (F0 m 5 ls []) := by
    intro n
    induction n with
    | zero => intro i ls hn0 hi; exact absurd hn0 (by omega)
    | succ n ih =>
      intro i ls hn0 hi hl
      refine lv_iload hx hb dX3_weightOfAll_5 (lv_at hl 0 rfl) ?_
      refine lv_aload_n hx hb dX3_weightOfAll_7 rfl (lv_at hl 2 rfl) ?_
      refine x_get (ci := 5) (v := .int (nI tc)) (C := RX3) (T := TX3) (N := 8) hx hb hts inX3 hown hK hX hcN rfl 4 (by decide) lk_fieldLink_22 (fun _ h9 => h9) rfl dX3_weightOfAll_8 ?_
      refine lv_icmp_ge (tgt := 32) hx hb dX3_weightOfAll_11 (by decide) (fun c_1 => ?_) (fun c_1 => ?_)
      · have c_1 : tc ≤ i := (nI_leI (by omega) (by omega)).mp c_1
        refine lv_lload_n hx hb dX3_weightOfAll_32 rfl (lv_at hl 1 rfl) ?_
        exact x_lret hx hb hr hlocks hK hA hX hS dX3_weightOfAll_33 (⟨rfl, by rw [show i = tc by omega]⟩)
      · have c_1 : ¬ (tc ≤ i) := fun q => c_1 ((nI_leI (by omega) (by omega)).mpr q)
        refine lv_lload_n hx hb dX3_weightOfAll_14 rfl (lv_at hl 1 rfl) ?_
        refine lv_aload_n hx hb dX3_weightOfAll_15 rfl (lv_at hl 3 rfl) ?_
        refine lv_aload_n hx hb dX3_weightOfAll_16 rfl (lv_at hl 2 rfl) ?_
        refine x_get (ci := 5) (v := .ref a2) (C := RX3) (T := TX3) (N := 8) hx hb hts inX3 hown hK hX hcN rfl 3 (by decide) lk_fieldLink_19 (fun _ h9 => h9) rfl dX3_weightOfAll_17 ?_
        refine lv_iload hx hb dX3_weightOfAll_20 (lv_at hl 0 rfl) ?_
        refine x_iN hx hb hK hX hcK (by omega) (by decide) dX3_weightOfAll_22 ?_
        obtain ⟨ek, hk4⟩ := x_ki (hkd i (by omega)) (by decide)
        refine x_ri (ek) ?_
        refine x_lN hx hb hK hX hcW hk4 (by decide) dX3_weightOfAll_23 ?_
        refine lv_ladd hx hb dX3_weightOfAll_24 ?_
        refine x_rl (lN_add _ _) ?_
        refine lv_lstore_n (lv' := [(2, .long (lN (xAll kd wn (i + 1)))), (4, .int (nI i)), (0, .ref a), (1, .ref aw)]) hx hb dX3_weightOfAll_25 rfl hl (by decide) rfl (fun ls hl => ?_)
        refine lv_iinc (v := nI (i + 1)) (lv' := [(4, .int (nI (i + 1))), (2, .long (lN (xAll kd wn (i + 1)))), (0, .ref a), (1, .ref aw)]) hx hb dX3_weightOfAll_26 hl (k := 1) rfl (show nI i + Int32.ofInt 1 = _ from nI_add _ 1) (by decide) rfl (fun ls hl => ?_)
        refine lv_goto (tgt := 5) hx hb dX3_weightOfAll_29 (by decide) ?_
        exact ih (i + 1) ls (by omega) (by omega) (lv_sub hl [0, 1, 2, 3] rfl)
  exact loop (tc + 1) 0 ls (by omega) (by omega) (lv_sub hl [0, 1, 2, 3] rfl)

abbrev rmX3_weightOfShared : Room := { frames := 1, cells := 0, slots := 0, locals := 23 }
set_option maxHeartbeats 4000000 in
set_option maxRecDepth 100000 in
/-- Name.weightOfShared -/
theorem ctX3_weightOfShared (l : Launch) (G : xG) (A : Nat → Prop) (M : xM) {t a a1 a2 tc : Nat} {sd jn dt : Int32} {fd ld : Int64} {tk kd : Nat → Int32} (hcN : M t = some (a, .inr (5, [.int sd, .int jn, .ref a1, .ref a2, .int (nI tc), .int dt, .long fd, .long ld]))) (hcT : M (t + 1) = some (a1, .inl (G.2 0, 8, .inl tk))) (hcK : M (t + 2) = some (a2, .inl (G.2 0, 8, .inl kd))) (htc : tc ≤ 8) {u a_ a1_ a2_ tc_ : Nat} {sd_ jn_ dt_ : Int32} {fd_ ld_ : Int64} {tk_ kd_ : Nat → Int32} (hcN_ : M u = some (a_, .inr (5, [.int sd_, .int jn_, .ref a1_, .ref a2_, .int (nI tc_), .int dt_, .long fd_, .long ld_]))) (hcT_ : M (u + 1) = some (a1_, .inl (G.2 0, 8, .inl tk_))) (hcK_ : M (u + 2) = some (a2_, .inl (G.2 0, 8, .inl kd_))) (htc_ : tc_ ≤ 8) (hkd : ∀ j, j < tc → vp_in (kd j) 4) {tw aw : Nat} {wn : Nat → Nat} (hcW : M tw = some (aw, .inl (G.2 1, 4, .inr (.inl (fun k => lN (wn k)))))) : Met l yX3_weightOfShared wsX3_weightOfShared rmX3_weightOfShared (va_Pc ([.ref a, .ref a_, .ref aw] : List Value) (xPc G A M)) (va_Ql (fun r M1 => M1 = M ∧ r = lN (xSh tk kd tk_ kd_ tc_ wn tc)) (xPc G A) A) 0 0 A := by
  refine x_met (cc := cX3_weightOfShared) (maxL := 6) (ret := (some .long)) RX3 (by decide) rfl (Nat.le_of_ble_eq_true rfl) rfl ?_
  intro p e s m below meth c hx hb hr hts hown hlocks hml hin hK hA hX ls hl
  have inX3 : ∀ w ∈ wsX30, w ∈ wsX3_weightOfShared := by decide +kernel
  have lk_fieldLink_22 := hts (.fieldLink RX3 22 "Reconcile$Name" "tokenCount" "I") (by decide +kernel)
  have lk_fieldLink_15 := hts (.fieldLink RX3 15 "Reconcile$Name" "tokens" "[I") (by decide +kernel)
  have lk_fieldLink_19 := hts (.fieldLink RX3 19 "Reconcile$Name" "kinds" "[I") (by decide +kernel)
  have hS : va_S A s.heap s.heap [] := va_S.rf
  have hl : lv_has ls 6 [(0, .ref a), (1, .ref a_), (2, .ref aw)] := hl
  refine lv_lconst (v := lN 0) hx hb dX3_weightOfShared_0 rfl ?_
  refine lv_lstore_n (lv' := [(3, .long (lN 0)), (0, .ref a), (1, .ref a_), (2, .ref aw)]) hx hb dX3_weightOfShared_1 rfl hl (by decide) rfl (fun ls hl => ?_)
  refine lv_iconst (v := nI 0) hx hb dX3_weightOfShared_2 (by decide) ?_
  refine lv_istore (lv' := [(5, .int (nI 0)), (3, .long (lN 0)), (0, .ref a), (1, .ref a_), (2, .ref aw)]) hx hb dX3_weightOfShared_3 hl (by decide) rfl (fun ls hl => ?_)
  have loop : ∀ (n : Nat) (i : Nat) (H : Heap) (locs : List Loc) (ls : Array Slot), tc < i + n → (i ≤ tc) → xw G.1 vwCl A M H → va_S A s.heap H locs → lv_has ls 6 [(5, .int (nI i)), (3, .long (lN (xSh tk kd tk_ kd_ tc_ wn i))), (0, .ref a), (1, .ref a_), (2, .ref aw)] → W p l e rmX3_weightOfShared s m ([.ref a, .ref a_, .ref aw] : List Value).toArray below meth c H locs 0 0 (MQ below (va_Ql (fun r M1 => M1 = M ∧ r = lN (xSh tk kd tk_ kd_ tc_ wn tc)) (xPc G A) A) ([.ref a, .ref a_, .ref aw] : List Value).toArray s 0 0 A) (F0 m 5 ls []) := by
    intro n
    induction n with
    | zero => intro i H locs ls hn0 hi; exact absurd hn0 (by omega)
    | succ n ih =>
      intro i H locs ls hn0 hi hX hS hl
      refine lv_iload hx hb dX3_weightOfShared_5 (lv_at hl 0 rfl) ?_
      refine lv_aload_n hx hb dX3_weightOfShared_7 rfl (lv_at hl 2 rfl) ?_
      refine x_get (ci := 5) (v := .int (nI tc)) (C := RX3) (T := TX3) (N := 8) hx hb hts inX3 hown hK hX hcN rfl 4 (by decide) lk_fieldLink_22 (fun _ h9 => h9) rfl dX3_weightOfShared_8 ?_
      refine lv_icmp_ge (tgt := 53) hx hb dX3_weightOfShared_11 (by decide) (fun c_1 => ?_) (fun c_1 => ?_)
      · have c_1 : tc ≤ i := (nI_leI (by omega) (by omega)).mp c_1
        refine lv_lload_n hx hb dX3_weightOfShared_53 rfl (lv_at hl 1 rfl) ?_
        exact x_lret hx hb hr hlocks hK hA hX hS dX3_weightOfShared_54 (⟨rfl, by rw [show i = tc by omega]⟩)
      · have c_1 : ¬ (tc ≤ i) := fun q => c_1 ((nI_leI (by omega) (by omega)).mpr q)
        refine lv_aload_n hx hb dX3_weightOfShared_14 rfl (lv_at hl 3 rfl) ?_
        refine lv_aload_n hx hb dX3_weightOfShared_15 rfl (lv_at hl 2 rfl) ?_
        refine x_get (ci := 5) (v := .ref a1) (C := RX3) (T := TX3) (N := 8) hx hb hts inX3 hown hK hX hcN rfl 2 (by decide) lk_fieldLink_15 (fun _ h9 => h9) rfl dX3_weightOfShared_16 ?_
        refine lv_iload hx hb dX3_weightOfShared_19 (lv_at hl 0 rfl) ?_
        refine x_iN hx hb hK hX hcT (by omega) (by decide) dX3_weightOfShared_21 ?_
        refine lv_aload_n hx hb dX3_weightOfShared_22 rfl (lv_at hl 2 rfl) ?_
        refine x_get (ci := 5) (v := .ref a2) (C := RX3) (T := TX3) (N := 8) hx hb hts inX3 hown hK hX hcN rfl 3 (by decide) lk_fieldLink_19 (fun _ h9 => h9) rfl dX3_weightOfShared_23 ?_
        refine lv_iload hx hb dX3_weightOfShared_26 (lv_at hl 0 rfl) ?_
        refine x_iN hx hb hK hX hcK (by omega) (by decide) dX3_weightOfShared_28 ?_
        refine x_calli (x_runV (q := (RX3, TX3, 8)) (As := [.int (tk i), .int (kd i)]) (rest := []) ⟨hx, hb, hml, hown, hts⟩ (ctX3_hasToken l G A M hcN_ hcT_ hcK_ htc_ (tk i) (kd i)) (cwV 2 hts gX3_weightOfShared_X3_hasToken rfl rfl rfl (by decide +kernel) ⟨Nat.le_of_ble_eq_true rfl, Nat.le_of_ble_eq_true rfl⟩) hK hA hX hS hcN_ rfl rfl hl.1 rfl (lv_room (Nat.le_of_ble_eq_true rfl)) dX3_weightOfShared_29 ⟨by decide, by decide⟩) hS (fun r_2 M_3 H locs hp hX hS => ?_)
        obtain ⟨hM_, er_2⟩ := hp
        rw [hM_] at hX
        refine lv_if_eq (tgt := 47) hx hb dX3_weightOfShared_32 (by decide) (fun c_4 => ?_) (fun c_4 => ?_)
        · have c_4 := x_ib0 er_2 c_4
          have esh : xSh tk kd tk_ kd_ tc_ wn (i + 1) = xSh tk kd tk_ kd_ tc_ wn i := by simp only [xSh, c_4, Bool.false_eq_true, if_false, if_true]
          rw [← esh] at hl
          refine lv_iinc (v := nI (i + 1)) (lv' := [(5, .int (nI (i + 1))), (3, .long (lN (xSh tk kd tk_ kd_ tc_ wn (i + 1)))), (0, .ref a), (1, .ref a_), (2, .ref aw)]) hx hb dX3_weightOfShared_47 hl (k := 0) rfl (show nI i + Int32.ofInt 1 = _ from nI_add _ 1) (by decide) rfl (fun ls hl => ?_)
          refine lv_goto (tgt := 5) hx hb dX3_weightOfShared_50 (by decide) ?_
          exact ih (i + 1) _ _ ls (by omega) (by omega) hX hS (lv_sub hl [0, 1, 2, 3, 4] rfl)
        · have c_4 := x_ib1 er_2 c_4
          have esh : xSh tk kd tk_ kd_ tc_ wn (i + 1) = xSh tk kd tk_ kd_ tc_ wn i + wn (kd i).toNatClampNeg := by simp only [xSh, c_4, Bool.false_eq_true, if_false, if_true]
          refine lv_lload_n hx hb dX3_weightOfShared_35 rfl (lv_at hl 1 rfl) ?_
          refine lv_aload_n hx hb dX3_weightOfShared_36 rfl (lv_at hl 4 rfl) ?_
          refine lv_aload_n hx hb dX3_weightOfShared_37 rfl (lv_at hl 2 rfl) ?_
          refine x_get (ci := 5) (v := .ref a2) (C := RX3) (T := TX3) (N := 8) hx hb hts inX3 hown hK hX hcN rfl 3 (by decide) lk_fieldLink_19 (fun _ h9 => h9) rfl dX3_weightOfShared_38 ?_
          refine lv_iload hx hb dX3_weightOfShared_41 (lv_at hl 0 rfl) ?_
          refine x_iN hx hb hK hX hcK (by omega) (by decide) dX3_weightOfShared_43 ?_
          obtain ⟨ek, hk4⟩ := x_ki (hkd i (by omega)) (by decide)
          refine x_ri (ek) ?_
          refine x_lN hx hb hK hX hcW hk4 (by decide) dX3_weightOfShared_44 ?_
          refine lv_ladd hx hb dX3_weightOfShared_45 ?_
          refine x_rl (lN_add _ _) ?_
          refine x_rl (congrArg lN esh.symm) ?_
          refine lv_lstore_n (lv' := [(3, .long (lN (xSh tk kd tk_ kd_ tc_ wn (i + 1)))), (5, .int (nI i)), (0, .ref a), (1, .ref a_), (2, .ref aw)]) hx hb dX3_weightOfShared_46 rfl hl (by decide) rfl (fun ls hl => ?_)
          refine lv_iinc (v := nI (i + 1)) (lv' := [(5, .int (nI (i + 1))), (3, .long (lN (xSh tk kd tk_ kd_ tc_ wn (i + 1)))), (0, .ref a), (1, .ref a_), (2, .ref aw)]) hx hb dX3_weightOfShared_47 hl (k := 1) rfl (show nI i + Int32.ofInt 1 = _ from nI_add _ 1) (by decide) rfl (fun ls hl => ?_)
          refine lv_goto (tgt := 5) hx hb dX3_weightOfShared_50 (by decide) ?_
          exact ih (i + 1) _ _ ls (by omega) (by omega) hX hS (lv_sub hl [0, 1, 2, 3, 4] rfl)
  exact loop (tc + 1) 0 _ _ ls (by omega) (by omega) hX hS (lv_sub hl [0, 1, 2, 3, 4] rfl)
end
section
abbrev rmX3_init : Room := { frames := 1, cells := 2, slots := 16, locals := 12 }
set_option maxHeartbeats 4000000 in
set_option maxRecDepth 100000 in
/-- Name(side) -/
theorem ctX3_init (l : Launch) (G : xG) (A : Nat → Prop) (M : xM) {t a : Nat} (hcN : M t = some (a, .inr (5, [.int (nI 0), .int (nI 0), .null, .null, .int (nI 0), .int (nI 0), .long (lN 0), .long (lN 0)]))) (p0 : Int32) : Met l yX3_init wsX3_init rmX3_init (va_Pc ([.ref a, .int p0] : List Value) (xPc G A M)) (va_Qv (fun M1 => ∃ q1 q2 : Nat, M1 = xu (xu (xu M (t + 1) (q1, .inl (G.2 0, 8, .inl (fun _ => 0)))) (t + 2) (q2, .inl (G.2 0, 8, .inl (fun _ => 0)))) t (a, .inr (5, [.int p0, .int (nI 0), .ref q1, .ref q2, .int (nI 0), .int (nI 0), .long (lN 0), .long (lN 0)]))) (xPc G A) A) 2 16 A := by
  refine x_met (cc := cX3_init) (maxL := 2) (ret := none) RX3 (by decide) rfl (Nat.le_of_ble_eq_true rfl) rfl ?_
  intro p e s m below meth c hx hb hr hts hown hlocks hml hin hK hA hX ls hl
  have inX3 : ∀ w ∈ wsX30, w ∈ wsX3_init := by decide +kernel
  have lk_methodLink_3 := hts (.methodLink RX3 3 objectInit) (by decide +kernel)
  have lk_fieldLink_9 := hts (.fieldLink RX3 9 "Reconcile$Name" "joined" "Z") (by decide +kernel)
  have lk_fieldLink_15 := hts (.fieldLink RX3 15 "Reconcile$Name" "tokens" "[I") (by decide +kernel)
  have lk_fieldLink_19 := hts (.fieldLink RX3 19 "Reconcile$Name" "kinds" "[I") (by decide +kernel)
  have lk_fieldLink_22 := hts (.fieldLink RX3 22 "Reconcile$Name" "tokenCount" "I") (by decide +kernel)
  have lk_fieldLink_26 := hts (.fieldLink RX3 26 "Reconcile$Name" "dated" "Z") (by decide +kernel)
  have lk_fieldLink_29 := hts (.fieldLink RX3 29 "Reconcile$Name" "firstDay" "J") (by decide +kernel)
  have lk_fieldLink_33 := hts (.fieldLink RX3 33 "Reconcile$Name" "lastDay" "J") (by decide +kernel)
  have lk_fieldLink_36 := hts (.fieldLink RX3 36 "Reconcile$Name" "side" "I") (by decide +kernel)
  have hS : va_S A s.heap s.heap [] := va_S.rf
  have hl : lv_has ls 2 [(0, .ref a), (1, .int p0)] := hl
  refine lv_aload_n hx hb dX3_init_0 rfl (lv_at hl 0 rfl) ?_
  refine W.objInit hx hb hown lk_methodLink_3 (hts (.instanceMethod objectInit) (by decide +kernel)) (hts (.code objectInit ⟨#[0xb1]⟩ 1 none) (List.mem_of_getElem? (i := 3) rfl)) rfl (by rw [hml]; exact hl.1) rfl dX3_init_1 (Nat.le_of_ble_eq_true rfl) (Nat.le_of_ble_eq_true rfl) ?_
  refine W.eq (g2 := F0 m 4 ls []) rfl ?_
  refine lv_aload_n hx hb dX3_init_4 rfl (lv_at hl 0 rfl) ?_
  refine lv_iconst (v := nI 0) hx hb dX3_init_5 (by decide) ?_
  refine x_put (ci := 5) (v := .int (nI 0)) (C := RX3) (T := TX3) (N := 8) hx hb hts inX3 tyX3 tyX3_ok nmX3 hown hK hX hS hcN rfl 1 (by decide) lk_fieldLink_9 (fun _ h9 => h9) rfl (tyX3_ok 1 (by decide)) rfl rfl (Nat.le_of_ble_eq_true rfl) dX3_init_6 (fun H locs hX hS => ?_)
  obtain ⟨M_1, hM_1⟩ : ∃ zM : xM, zM = xu M t (a, .inr (5, [.int (nI 0), .int (nI 0), .null, .null, .int (nI 0), .int (nI 0), .long (lN 0), .long (lN 0)])) := ⟨_, rfl⟩
  have hX : xw G.1 vwCl A M_1 H := by rw [hM_1]; exact hX
  have hcN : M_1 t = some (a, .inr (5, [.int (nI 0), .int (nI 0), .null, .null, .int (nI 0), .int (nI 0), .long (lN 0), .long (lN 0)])) := by rw [hM_1]; exact xu_s
  refine lv_aload_n hx hb dX3_init_9 rfl (lv_at hl 0 rfl) ?_
  refine lv_bipush (v := nI 8) hx hb dX3_init_10 (by decide) ?_
  refine x_newa (atype := .int) (ty := .int) (k := 0) (N' := 8) (a0 := (8, .inl (fun _ => 0))) hx hb (hts (.arrayClass .int) (by decide +kernel)) rfl (fun _ h => by cases h) hK hX hS hA rfl (fun _ => rfl) rfl (by omega) (Nat.le_of_ble_eq_true rfl) (Nat.le_of_ble_eq_true rfl) (Nat.le_of_ble_eq_true rfl) dX3_init_12 (t + 1) (fun q_2 H hX hS => ?_)
  obtain ⟨M_3, hM_3⟩ : ∃ zM : xM, zM = xu M_1 (t + 1) (q_2, .inl (G.2 0, 8, .inl (fun _ => 0))) := ⟨_, rfl⟩
  have hX : xw G.1 vwCl A M_3 H := by rw [hM_3]; exact hX
  have hcN : M_3 t = some (a, .inr (5, [.int (nI 0), .int (nI 0), .null, .null, .int (nI 0), .int (nI 0), .long (lN 0), .long (lN 0)])) := by rw [hM_3, xu_n (by omega)]; exact hcN
  have hcT : M_3 (t + 1) = some (q_2, .inl (G.2 0, 8, .inl (fun _ => 0))) := by rw [hM_3]; exact xu_s
  refine x_putF (ci := 5) (v := .ref q_2) (C := RX3) (T := TX3) (N := 8) hx hb hts inX3 tyX3 tyX3_ok nmX3 hown hK hX hS hcN rfl 2 (by decide) lk_fieldLink_15 (fun _ h9 => h9) rfl hin rfl (tyX3_ok 2 (by decide)) rfl rfl (Nat.le_of_ble_eq_true rfl) dX3_init_14 (fun H locs hX hS => ?_)
  obtain ⟨M_4, hM_4⟩ : ∃ zM : xM, zM = xu M_3 t (a, .inr (5, [.int (nI 0), .int (nI 0), .ref q_2, .null, .int (nI 0), .int (nI 0), .long (lN 0), .long (lN 0)])) := ⟨_, rfl⟩
  have hX : xw G.1 vwCl A M_4 H := by rw [hM_4]; exact hX
  have hcT : M_4 (t + 1) = some (q_2, .inl (G.2 0, 8, .inl (fun _ => 0))) := by rw [hM_4, xu_n (by omega)]; exact hcT
  have hcN : M_4 t = some (a, .inr (5, [.int (nI 0), .int (nI 0), .ref q_2, .null, .int (nI 0), .int (nI 0), .long (lN 0), .long (lN 0)])) := by rw [hM_4]; exact xu_s
  refine lv_aload_n hx hb dX3_init_17 rfl (lv_at hl 0 rfl) ?_
  refine lv_bipush (v := nI 8) hx hb dX3_init_18 (by decide) ?_
  refine x_newa (atype := .int) (ty := .int) (k := 0) (N' := 8) (a0 := (8, .inl (fun _ => 0))) hx hb (hts (.arrayClass .int) (by decide +kernel)) rfl (fun _ h => by cases h) hK hX hS hA rfl (fun _ => rfl) rfl (by omega) (Nat.le_of_ble_eq_true rfl) (Nat.le_of_ble_eq_true rfl) (Nat.le_of_ble_eq_true rfl) dX3_init_20 (t + 2) (fun q_5 H hX hS => ?_)
  obtain ⟨M_6, hM_6⟩ : ∃ zM : xM, zM = xu M_4 (t + 2) (q_5, .inl (G.2 0, 8, .inl (fun _ => 0))) := ⟨_, rfl⟩
  have hX : xw G.1 vwCl A M_6 H := by rw [hM_6]; exact hX
  have hcN : M_6 t = some (a, .inr (5, [.int (nI 0), .int (nI 0), .ref q_2, .null, .int (nI 0), .int (nI 0), .long (lN 0), .long (lN 0)])) := by rw [hM_6, xu_n (by omega)]; exact hcN
  have hcT : M_6 (t + 1) = some (q_2, .inl (G.2 0, 8, .inl (fun _ => 0))) := by rw [hM_6, xu_n (by omega)]; exact hcT
  have hcK : M_6 (t + 2) = some (q_5, .inl (G.2 0, 8, .inl (fun _ => 0))) := by rw [hM_6]; exact xu_s
  refine x_putF (ci := 5) (v := .ref q_5) (C := RX3) (T := TX3) (N := 8) hx hb hts inX3 tyX3 tyX3_ok nmX3 hown hK hX hS hcN rfl 3 (by decide) lk_fieldLink_19 (fun _ h9 => h9) rfl hin rfl (tyX3_ok 3 (by decide)) rfl rfl (Nat.le_of_ble_eq_true rfl) dX3_init_22 (fun H locs hX hS => ?_)
  obtain ⟨M_7, hM_7⟩ : ∃ zM : xM, zM = xu M_6 t (a, .inr (5, [.int (nI 0), .int (nI 0), .ref q_2, .ref q_5, .int (nI 0), .int (nI 0), .long (lN 0), .long (lN 0)])) := ⟨_, rfl⟩
  have hX : xw G.1 vwCl A M_7 H := by rw [hM_7]; exact hX
  have hcT : M_7 (t + 1) = some (q_2, .inl (G.2 0, 8, .inl (fun _ => 0))) := by rw [hM_7, xu_n (by omega)]; exact hcT
  have hcK : M_7 (t + 2) = some (q_5, .inl (G.2 0, 8, .inl (fun _ => 0))) := by rw [hM_7, xu_n (by omega)]; exact hcK
  have hcN : M_7 t = some (a, .inr (5, [.int (nI 0), .int (nI 0), .ref q_2, .ref q_5, .int (nI 0), .int (nI 0), .long (lN 0), .long (lN 0)])) := by rw [hM_7]; exact xu_s
  refine lv_aload_n hx hb dX3_init_25 rfl (lv_at hl 0 rfl) ?_
  refine lv_iconst (v := nI 0) hx hb dX3_init_26 (by decide) ?_
  refine x_put (ci := 5) (v := .int (nI 0)) (C := RX3) (T := TX3) (N := 8) hx hb hts inX3 tyX3 tyX3_ok nmX3 hown hK hX hS hcN rfl 4 (by decide) lk_fieldLink_22 (fun _ h9 => h9) rfl (tyX3_ok 4 (by decide)) rfl rfl (Nat.le_of_ble_eq_true rfl) dX3_init_27 (fun H locs hX hS => ?_)
  obtain ⟨M_8, hM_8⟩ : ∃ zM : xM, zM = xu M_7 t (a, .inr (5, [.int (nI 0), .int (nI 0), .ref q_2, .ref q_5, .int (nI 0), .int (nI 0), .long (lN 0), .long (lN 0)])) := ⟨_, rfl⟩
  have hX : xw G.1 vwCl A M_8 H := by rw [hM_8]; exact hX
  have hcT : M_8 (t + 1) = some (q_2, .inl (G.2 0, 8, .inl (fun _ => 0))) := by rw [hM_8, xu_n (by omega)]; exact hcT
  have hcK : M_8 (t + 2) = some (q_5, .inl (G.2 0, 8, .inl (fun _ => 0))) := by rw [hM_8, xu_n (by omega)]; exact hcK
  have hcN : M_8 t = some (a, .inr (5, [.int (nI 0), .int (nI 0), .ref q_2, .ref q_5, .int (nI 0), .int (nI 0), .long (lN 0), .long (lN 0)])) := by rw [hM_8]; exact xu_s
  refine lv_aload_n hx hb dX3_init_30 rfl (lv_at hl 0 rfl) ?_
  refine lv_iconst (v := nI 0) hx hb dX3_init_31 (by decide) ?_
  refine x_put (ci := 5) (v := .int (nI 0)) (C := RX3) (T := TX3) (N := 8) hx hb hts inX3 tyX3 tyX3_ok nmX3 hown hK hX hS hcN rfl 5 (by decide) lk_fieldLink_26 (fun _ h9 => h9) rfl (tyX3_ok 5 (by decide)) rfl rfl (Nat.le_of_ble_eq_true rfl) dX3_init_32 (fun H locs hX hS => ?_)
  obtain ⟨M_9, hM_9⟩ : ∃ zM : xM, zM = xu M_8 t (a, .inr (5, [.int (nI 0), .int (nI 0), .ref q_2, .ref q_5, .int (nI 0), .int (nI 0), .long (lN 0), .long (lN 0)])) := ⟨_, rfl⟩
  have hX : xw G.1 vwCl A M_9 H := by rw [hM_9]; exact hX
  have hcT : M_9 (t + 1) = some (q_2, .inl (G.2 0, 8, .inl (fun _ => 0))) := by rw [hM_9, xu_n (by omega)]; exact hcT
  have hcK : M_9 (t + 2) = some (q_5, .inl (G.2 0, 8, .inl (fun _ => 0))) := by rw [hM_9, xu_n (by omega)]; exact hcK
  have hcN : M_9 t = some (a, .inr (5, [.int (nI 0), .int (nI 0), .ref q_2, .ref q_5, .int (nI 0), .int (nI 0), .long (lN 0), .long (lN 0)])) := by rw [hM_9]; exact xu_s
  refine lv_aload_n hx hb dX3_init_35 rfl (lv_at hl 0 rfl) ?_
  refine lv_lconst (v := lN 0) hx hb dX3_init_36 rfl ?_
  refine x_put (ci := 5) (v := .long (lN 0)) (C := RX3) (T := TX3) (N := 8) hx hb hts inX3 tyX3 tyX3_ok nmX3 hown hK hX hS hcN rfl 6 (by decide) lk_fieldLink_29 (fun _ h9 => h9) rfl (tyX3_ok 6 (by decide)) rfl rfl (Nat.le_of_ble_eq_true rfl) dX3_init_37 (fun H locs hX hS => ?_)
  obtain ⟨M_10, hM_10⟩ : ∃ zM : xM, zM = xu M_9 t (a, .inr (5, [.int (nI 0), .int (nI 0), .ref q_2, .ref q_5, .int (nI 0), .int (nI 0), .long (lN 0), .long (lN 0)])) := ⟨_, rfl⟩
  have hX : xw G.1 vwCl A M_10 H := by rw [hM_10]; exact hX
  have hcT : M_10 (t + 1) = some (q_2, .inl (G.2 0, 8, .inl (fun _ => 0))) := by rw [hM_10, xu_n (by omega)]; exact hcT
  have hcK : M_10 (t + 2) = some (q_5, .inl (G.2 0, 8, .inl (fun _ => 0))) := by rw [hM_10, xu_n (by omega)]; exact hcK
  have hcN : M_10 t = some (a, .inr (5, [.int (nI 0), .int (nI 0), .ref q_2, .ref q_5, .int (nI 0), .int (nI 0), .long (lN 0), .long (lN 0)])) := by rw [hM_10]; exact xu_s
  refine lv_aload_n hx hb dX3_init_40 rfl (lv_at hl 0 rfl) ?_
  refine lv_lconst (v := lN 0) hx hb dX3_init_41 rfl ?_
  refine x_put (ci := 5) (v := .long (lN 0)) (C := RX3) (T := TX3) (N := 8) hx hb hts inX3 tyX3 tyX3_ok nmX3 hown hK hX hS hcN rfl 7 (by decide) lk_fieldLink_33 (fun _ h9 => h9) rfl (tyX3_ok 7 (by decide)) rfl rfl (Nat.le_of_ble_eq_true rfl) dX3_init_42 (fun H locs hX hS => ?_)
  obtain ⟨M_11, hM_11⟩ : ∃ zM : xM, zM = xu M_10 t (a, .inr (5, [.int (nI 0), .int (nI 0), .ref q_2, .ref q_5, .int (nI 0), .int (nI 0), .long (lN 0), .long (lN 0)])) := ⟨_, rfl⟩
  have hX : xw G.1 vwCl A M_11 H := by rw [hM_11]; exact hX
  have hcT : M_11 (t + 1) = some (q_2, .inl (G.2 0, 8, .inl (fun _ => 0))) := by rw [hM_11, xu_n (by omega)]; exact hcT
  have hcK : M_11 (t + 2) = some (q_5, .inl (G.2 0, 8, .inl (fun _ => 0))) := by rw [hM_11, xu_n (by omega)]; exact hcK
  have hcN : M_11 t = some (a, .inr (5, [.int (nI 0), .int (nI 0), .ref q_2, .ref q_5, .int (nI 0), .int (nI 0), .long (lN 0), .long (lN 0)])) := by rw [hM_11]; exact xu_s
  refine lv_aload_n hx hb dX3_init_45 rfl (lv_at hl 0 rfl) ?_
  refine lv_iload_n hx hb dX3_init_46 rfl (lv_at hl 1 rfl) ?_
  refine x_putF (ci := 5) (v := .int p0) (C := RX3) (T := TX3) (N := 8) hx hb hts inX3 tyX3 tyX3_ok nmX3 hown hK hX hS hcN rfl 0 (by decide) lk_fieldLink_36 (fun _ h9 => h9) rfl hin rfl (tyX3_ok 0 (by decide)) rfl rfl (Nat.le_of_ble_eq_true rfl) dX3_init_47 (fun H locs hX hS => ?_)
  obtain ⟨M_12, hM_12⟩ : ∃ zM : xM, zM = xu M_11 t (a, .inr (5, [.int p0, .int (nI 0), .ref q_2, .ref q_5, .int (nI 0), .int (nI 0), .long (lN 0), .long (lN 0)])) := ⟨_, rfl⟩
  have hX : xw G.1 vwCl A M_12 H := by rw [hM_12]; exact hX
  have hcT : M_12 (t + 1) = some (q_2, .inl (G.2 0, 8, .inl (fun _ => 0))) := by rw [hM_12, xu_n (by omega)]; exact hcT
  have hcK : M_12 (t + 2) = some (q_5, .inl (G.2 0, 8, .inl (fun _ => 0))) := by rw [hM_12, xu_n (by omega)]; exact hcK
  have hcN : M_12 t = some (a, .inr (5, [.int p0, .int (nI 0), .ref q_2, .ref q_5, .int (nI 0), .int (nI 0), .long (lN 0), .long (lN 0)])) := by rw [hM_12]; exact xu_s
  refine W.widen (k := 2) (n := 16) (by omega) (by omega) ?_
  exact x_vret hx hb hr hlocks hK hA hX hS dX3_init_50 (⟨q_2, q_5, by rw [hM_12, hM_11, hM_10, hM_9, hM_8, hM_7, hM_6, hM_4, hM_3, hM_1, x_uc (t := t) (t' := t + 1) (by omega)]; simp only [x_uu]; rw [x_uc (t := t) (t' := t + 2) (by omega)]; simp only [x_uu]⟩)
end
section
/-! Fraction, Join -/
theorem xSh_le {tk kd otk okd : Nat → Int32} {otc : Nat} {wn : Nat → Nat} : ∀ n, xSh tk kd otk okd otc wn n ≤ xAll kd wn n
  | 0 => Nat.le_refl _
  | n + 1 => by
    have h := xSh_le (tk := tk) (kd := kd) (otk := otk) (okd := okd) (otc := otc) (wn := wn) n
    simp only [xSh, xAll]
    split <;> omega
theorem xAll_le {kd : Nat → Int32} {wn : Nat → Nat} {B : Nat} (h : ∀ k, wn k ≤ B) : ∀ n, xAll kd wn n ≤ n * B
  | 0 => by simp [xAll]
  | n + 1 => by
    have h1 := xAll_le (kd := kd) h n
    have h2 := h (kd n).toNatClampNeg
    simp only [xAll, Nat.succ_mul]
    omega
theorem gd_step {g r i : Nat} (hr : 0 < r) (h : (g < 1099511627776 ∧ r < 1099511627776) ∧ (i = 0 ∨ (r < g ∧ r * g * 2 ^ i ≤ 2 ^ 81))) : (r < 1099511627776 ∧ g % r < 1099511627776) ∧ (i + 1 = 0 ∨ (g % r < r ∧ (g % r) * r * 2 ^ (i + 1) ≤ 2 ^ 81)) := by
  have hm : g % r < r := Nat.mod_lt _ hr
  refine ⟨⟨h.1.2, by omega⟩, Or.inr ⟨hm, ?_⟩⟩
  rcases h.2 with rfl | ⟨h1, h2⟩
  · have h3 : (g % r) * r ≤ 1099511627776 * 1099511627776 := Nat.mul_le_mul (by omega) (by omega)
    calc (g % r) * r * 2 ^ (0 + 1) ≤ (1099511627776 * 1099511627776) * 2 := Nat.mul_le_mul h3 (by decide)
      _ = 2 ^ 81 := by decide
  · have h4 : 2 * (g % r) ≤ g := by
      have h5 := Nat.div_add_mod g r
      have h6 : 1 ≤ g / r := (Nat.le_div_iff_mul_le hr).mpr (by omega)
      have h7 : r * 1 ≤ r * (g / r) := Nat.mul_le_mul_left r h6
      omega
    calc (g % r) * r * 2 ^ (i + 1) = (2 * (g % r)) * r * 2 ^ i := by rw [Nat.pow_succ]; ac_rfl
      _ ≤ g * r * 2 ^ i := Nat.mul_le_mul_right _ (Nat.mul_le_mul_right _ h4)
      _ = r * g * 2 ^ i := by rw [Nat.mul_comm g r]
      _ ≤ 2 ^ 81 := h2
theorem gd_end {g r i : Nat} (hi : i = 200) (hs : i = 0 ∨ (r < g ∧ r * g * 2 ^ i ≤ 2 ^ 81)) : r = 0 := by
  subst hi
  have h : r < g ∧ r * g * 2 ^ 200 ≤ 2 ^ 81 := hs.resolve_left (by decide)
  rcases Nat.eq_zero_or_pos r with q | q
  · exact q
  · exfalso
    have h1 : 1 ≤ r * g := Nat.mul_pos q (by omega)
    have h2 : 1 * 2 ^ 200 ≤ r * g * 2 ^ 200 := Nat.mul_le_mul_right _ h1
    have h3 : ¬ (1 * 2 ^ 200 ≤ 2 ^ 81) := by decide
    exact h3 (Nat.le_trans h2 h.2)

abbrev rmX0_init : Room := { frames := 1, cells := 0, slots := 0, locals := 12 }
set_option maxHeartbeats 4000000 in
set_option maxRecDepth 100000 in
/-- Fraction() -/
theorem ctX0_init (l : Launch) (G : xG) (A : Nat → Prop) (M : xM) {tf af : Nat} (hcF : M tf = some (af, .inr (2, [.long (lN 0), .long (lN 0)]))) : Met l yX0_init wsX0_init rmX0_init (va_Pc ([.ref af] : List Value) (xPc G A M)) (va_Qv (fun M1 => M1 = M) (xPc G A) A) 0 0 A := by
  refine x_met (cc := cX0_init) (maxL := 1) (ret := none) RX0 (by decide) rfl (Nat.le_of_ble_eq_true rfl) rfl ?_
  intro p e s m below meth c hx hb hr hts hown hlocks hml hin hK hA hX ls hl
  have inX0 : ∀ w ∈ wsX00, w ∈ wsX0_init := by decide +kernel
  have lk_methodLink_3 := hts (.methodLink RX0 3 objectInit) (by decide +kernel)
  have lk_fieldLink_9 := hts (.fieldLink RX0 9 "Reconcile$Fraction" "above" "J") (by decide +kernel)
  have lk_fieldLink_15 := hts (.fieldLink RX0 15 "Reconcile$Fraction" "below" "J") (by decide +kernel)
  have hS : va_S A s.heap s.heap [] := va_S.rf
  have hl : lv_has ls 1 [(0, .ref af)] := hl
  have hcF0 := hcF
  refine lv_aload_n hx hb dX0_init_0 rfl (lv_at hl 0 rfl) ?_
  refine W.objInit hx hb hown lk_methodLink_3 (hts (.instanceMethod objectInit) (by decide +kernel)) (hts (.code objectInit ⟨#[0xb1]⟩ 1 none) (List.mem_of_getElem? (i := 3) rfl)) rfl (by rw [hml]; exact hl.1) rfl dX0_init_1 (Nat.le_of_ble_eq_true rfl) (Nat.le_of_ble_eq_true rfl) ?_
  refine W.eq (g2 := F0 m 4 ls []) rfl ?_
  refine lv_aload_n hx hb dX0_init_4 rfl (lv_at hl 0 rfl) ?_
  refine lv_lconst (v := lN 0) hx hb dX0_init_5 rfl ?_
  refine x_put (ci := 2) (v := .long (lN 0)) (C := RX0) (T := TX0) (N := 2) hx hb hts inX0 tyX0 tyX0_ok nmX0 hown hK hX hS hcF rfl 0 (by decide) lk_fieldLink_9 (fun _ h9 => h9) rfl (tyX0_ok 0 (by decide)) rfl rfl (Nat.le_of_ble_eq_true rfl) dX0_init_6 (fun H locs hX hS => ?_)
  obtain ⟨M_1, hM_1⟩ : ∃ zM : xM, zM = xu M tf (af, .inr (2, [.long (lN 0), .long (lN 0)])) := ⟨_, rfl⟩
  have hX : xw G.1 vwCl A M_1 H := by rw [hM_1]; exact hX
  have hcF : M_1 tf = some (af, .inr (2, [.long (lN 0), .long (lN 0)])) := by rw [hM_1]; exact xu_s
  refine lv_aload_n hx hb dX0_init_9 rfl (lv_at hl 0 rfl) ?_
  refine lv_lconst (v := lN 0) hx hb dX0_init_10 rfl ?_
  refine x_put (ci := 2) (v := .long (lN 0)) (C := RX0) (T := TX0) (N := 2) hx hb hts inX0 tyX0 tyX0_ok nmX0 hown hK hX hS hcF rfl 1 (by decide) lk_fieldLink_15 (fun _ h9 => h9) rfl (tyX0_ok 1 (by decide)) rfl rfl (Nat.le_of_ble_eq_true rfl) dX0_init_11 (fun H locs hX hS => ?_)
  obtain ⟨M_2, hM_2⟩ : ∃ zM : xM, zM = xu M_1 tf (af, .inr (2, [.long (lN 0), .long (lN 0)])) := ⟨_, rfl⟩
  have hX : xw G.1 vwCl A M_2 H := by rw [hM_2]; exact hX
  have hcF : M_2 tf = some (af, .inr (2, [.long (lN 0), .long (lN 0)])) := by rw [hM_2]; exact xu_s
  exact x_vret hx hb hr hlocks hK hA hX hS dX0_init_14 (by rw [hM_2, hM_1, x_uu, x_us hcF0])

abbrev rmX0_exists : Room := { frames := 0, cells := 0, slots := 0, locals := 0 }
set_option maxHeartbeats 4000000 in
set_option maxRecDepth 100000 in
/-- Fraction.exists -/
theorem ctX0_exists (l : Launch) (G : xG) (A : Nat → Prop) (M : xM) {tf af an bn : Nat} (hcF : M tf = some (af, .inr (2, [.long (lN an), .long (lN bn)]))) (han : an < 1000000000) (hbn : bn < 1000000000) : Met l yX0_exists wsX0_exists rmX0_exists (va_Pc ([.ref af] : List Value) (xPc G A M)) (va_Qi (fun r M1 => M1 = M ∧ r = if 0 < bn then 1 else 0) (xPc G A) A) 0 0 A := by
  refine x_met (cc := cX0_exists) (maxL := 1) (ret := (some .boolean)) RX0 (by decide) rfl (Nat.le_of_ble_eq_true rfl) rfl ?_
  intro p e s m below meth c hx hb hr hts hown hlocks hml hin hK hA hX ls hl
  have inX0 : ∀ w ∈ wsX00, w ∈ wsX0_exists := by decide +kernel
  have lk_fieldLink_15 := hts (.fieldLink RX0 15 "Reconcile$Fraction" "below" "J") (by decide +kernel)
  have hS : va_S A s.heap s.heap [] := va_S.rf
  have hl : lv_has ls 1 [(0, .ref af)] := hl
  refine lv_aload_n hx hb dX0_exists_0 rfl (lv_at hl 0 rfl) ?_
  refine x_get (ci := 2) (v := .long (lN bn)) (C := RX0) (T := TX0) (N := 2) hx hb hts inX0 hown hK hX hcF rfl 1 (by decide) lk_fieldLink_15 (fun _ h9 => h9) rfl dX0_exists_1 ?_
  refine lv_lconst (v := lN 0) hx hb dX0_exists_4 rfl ?_
  refine W.lcmp hx hb dX0_exists_5 ?_
  refine x_lc_le (tgt := 13) hx hb dX0_exists_6 (by decide) (fun c_1 => ?_) (fun c_1 => ?_)
  · have c_1 : bn ≤ 0 := (pk_lLE (by omega) (by omega)).mp c_1
    refine lv_iconst (v := nI 0) hx hb dX0_exists_13 (by decide) ?_
    exact x_zret hx hb hr hlocks hK hA hX hS dX0_exists_14 rfl (⟨rfl, by split <;> first | rfl | (rename_i q; exfalso; first | omega | exact q (by and_intros <;> first | assumption | omega) | exact absurd q.1 (by assumption) | exact absurd q.2 (by assumption) | exact absurd q.2.1 (by assumption) | exact absurd q.2.2 (by assumption) | exact absurd (by assumption) q.1 | exact absurd (by assumption) q.2 | exact absurd (by assumption) q.2.1 | exact absurd (by assumption) q.2.2 | exact absurd q.1.1 (by assumption) | exact absurd q.1.2 (by assumption))⟩)
  · have c_1 : ¬ (bn ≤ 0) := fun q => c_1 ((pk_lLE (by omega) (by omega)).mpr q)
    refine lv_iconst (v := nI 1) hx hb dX0_exists_9 (by decide) ?_
    refine lv_goto (tgt := 14) hx hb dX0_exists_10 (by decide) ?_
    exact x_zret hx hb hr hlocks hK hA hX hS dX0_exists_14 rfl (⟨rfl, by split <;> first | rfl | (rename_i q; exfalso; first | omega | exact q (by and_intros <;> first | assumption | omega) | exact absurd q.1 (by assumption) | exact absurd q.2 (by assumption) | exact absurd q.2.1 (by assumption) | exact absurd q.2.2 (by assumption) | exact absurd (by assumption) q.1 | exact absurd (by assumption) q.2 | exact absurd (by assumption) q.2.1 | exact absurd (by assumption) q.2.2 | exact absurd q.1.1 (by assumption) | exact absurd q.1.2 (by assumption))⟩)

abbrev rmX0_isHalfAtLeast : Room := { frames := 0, cells := 0, slots := 0, locals := 0 }
set_option maxHeartbeats 4000000 in
set_option maxRecDepth 100000 in
/-- Fraction.isHalfAtLeast -/
theorem ctX0_isHalfAtLeast (l : Launch) (G : xG) (A : Nat → Prop) (M : xM) {tf af an bn : Nat} (hcF : M tf = some (af, .inr (2, [.long (lN an), .long (lN bn)]))) (han : an < 1000000000) (hbn : bn < 1000000000) : Met l yX0_isHalfAtLeast wsX0_isHalfAtLeast rmX0_isHalfAtLeast (va_Pc ([.ref af] : List Value) (xPc G A M)) (va_Qi (fun r M1 => M1 = M ∧ r = if bn ≤ 2 * an then 1 else 0) (xPc G A) A) 0 0 A := by
  refine x_met (cc := cX0_isHalfAtLeast) (maxL := 1) (ret := (some .boolean)) RX0 (by decide) rfl (Nat.le_of_ble_eq_true rfl) rfl ?_
  intro p e s m below meth c hx hb hr hts hown hlocks hml hin hK hA hX ls hl
  have inX0 : ∀ w ∈ wsX00, w ∈ wsX0_isHalfAtLeast := by decide +kernel
  have lk_constantLong_35 := hts (.constantLong RX0 35 (2)) (by decide +kernel)
  have lk_fieldLink_9 := hts (.fieldLink RX0 9 "Reconcile$Fraction" "above" "J") (by decide +kernel)
  have lk_fieldLink_15 := hts (.fieldLink RX0 15 "Reconcile$Fraction" "below" "J") (by decide +kernel)
  have hS : va_S A s.heap s.heap [] := va_S.rf
  have hl : lv_has ls 1 [(0, .ref af)] := hl
  refine lv_ldc2 (v := 2) hx hb hown lk_constantLong_35 dX0_isHalfAtLeast_0 ?_
  refine x_rl (y := lN 2) rfl ?_
  refine lv_aload_n hx hb dX0_isHalfAtLeast_3 rfl (lv_at hl 0 rfl) ?_
  refine x_get (ci := 2) (v := .long (lN an)) (C := RX0) (T := TX0) (N := 2) hx hb hts inX0 hown hK hX hcF rfl 0 (by decide) lk_fieldLink_9 (fun _ h9 => h9) rfl dX0_isHalfAtLeast_4 ?_
  refine lv_lmul hx hb dX0_isHalfAtLeast_7 ?_
  refine x_rl (lN_mul _ _) ?_
  refine lv_aload_n hx hb dX0_isHalfAtLeast_8 rfl (lv_at hl 0 rfl) ?_
  refine x_get (ci := 2) (v := .long (lN bn)) (C := RX0) (T := TX0) (N := 2) hx hb hts inX0 hown hK hX hcF rfl 1 (by decide) lk_fieldLink_15 (fun _ h9 => h9) rfl dX0_isHalfAtLeast_9 ?_
  refine W.lcmp hx hb dX0_isHalfAtLeast_12 ?_
  refine x_lc_lt (tgt := 20) hx hb dX0_isHalfAtLeast_13 (by decide) (fun c_1 => ?_) (fun c_1 => ?_)
  · have c_1 : (2 * an) < bn := (pk_lLT (by omega) (by omega)).mp c_1
    refine lv_iconst (v := nI 0) hx hb dX0_isHalfAtLeast_20 (by decide) ?_
    exact x_zret hx hb hr hlocks hK hA hX hS dX0_isHalfAtLeast_21 rfl (⟨rfl, by split <;> first | rfl | (rename_i q; exfalso; first | omega | exact q (by and_intros <;> first | assumption | omega) | exact absurd q.1 (by assumption) | exact absurd q.2 (by assumption) | exact absurd q.2.1 (by assumption) | exact absurd q.2.2 (by assumption) | exact absurd (by assumption) q.1 | exact absurd (by assumption) q.2 | exact absurd (by assumption) q.2.1 | exact absurd (by assumption) q.2.2 | exact absurd q.1.1 (by assumption) | exact absurd q.1.2 (by assumption))⟩)
  · have c_1 : ¬ ((2 * an) < bn) := fun q => c_1 ((pk_lLT (by omega) (by omega)).mpr q)
    refine lv_iconst (v := nI 1) hx hb dX0_isHalfAtLeast_16 (by decide) ?_
    refine lv_goto (tgt := 21) hx hb dX0_isHalfAtLeast_17 (by decide) ?_
    exact x_zret hx hb hr hlocks hK hA hX hS dX0_isHalfAtLeast_21 rfl (⟨rfl, by split <;> first | rfl | (rename_i q; exfalso; first | omega | exact q (by and_intros <;> first | assumption | omega) | exact absurd q.1 (by assumption) | exact absurd q.2 (by assumption) | exact absurd q.2.1 (by assumption) | exact absurd q.2.2 (by assumption) | exact absurd (by assumption) q.1 | exact absurd (by assumption) q.2 | exact absurd (by assumption) q.2.1 | exact absurd (by assumption) q.2.2 | exact absurd q.1.1 (by assumption) | exact absurd q.1.2 (by assumption))⟩)

abbrev rmX0_greatestDivisor : Room := { frames := 0, cells := 0, slots := 0, locals := 0 }
set_option maxHeartbeats 4000000 in
set_option maxRecDepth 100000 in
/-- Fraction.greatestDivisor -/
theorem ctX0_greatestDivisor (l : Launch) (G : xG) (A : Nat → Prop) (M : xM) (a b : Nat) (ha : a < 1000000000) (hb9 : b < 1000000000) : Met l yX0_greatestDivisor wsX0_greatestDivisor rmX0_greatestDivisor (va_Pc ([.long (lN a), .long (lN b)] : List Value) (xPc G A M)) (va_Ql (fun r M1 => M1 = M ∧ r = lN (Nat.gcd a b)) (xPc G A) A) 0 0 A := by
  refine x_met (cc := cX0_greatestDivisor) (maxL := 11) (ret := (some .long)) RX0 (by decide) rfl (Nat.le_of_ble_eq_true rfl) rfl ?_
  intro p e s m below meth c hx hb hr hts hown hlocks hml hin hK hA hX ls hl
  have hS : va_S A s.heap s.heap [] := va_S.rf
  have hl : lv_has ls 11 [(0, .long (lN a)), (2, .long (lN b))] := hl
  refine lv_lload_n hx hb dX0_greatestDivisor_0 rfl (lv_at hl 0 rfl) ?_
  refine lv_lstore (lv' := [(4, .long (lN a)), (0, .long (lN a)), (2, .long (lN b))]) hx hb dX0_greatestDivisor_1 hl (by decide) rfl (fun ls hl => ?_)
  refine lv_lload_n hx hb dX0_greatestDivisor_3 rfl (lv_at hl 2 rfl) ?_
  refine lv_lstore (lv' := [(6, .long (lN b)), (4, .long (lN a)), (0, .long (lN a)), (2, .long (lN b))]) hx hb dX0_greatestDivisor_4 hl (by decide) rfl (fun ls hl => ?_)
  refine lv_iconst (v := nI 0) hx hb dX0_greatestDivisor_6 (by decide) ?_
  refine lv_istore (lv' := [(8, .int (nI 0)), (6, .long (lN b)), (4, .long (lN a)), (0, .long (lN a)), (2, .long (lN b))]) hx hb dX0_greatestDivisor_7 hl (by decide) rfl (fun ls hl => ?_)
  have loop : ∀ (n : Nat) (i : Nat) (g : Nat) (r : Nat) (ls : Array Slot), 200 < i + n → (i ≤ 200) → (Nat.gcd g r = Nat.gcd a b) → ((g < 1099511627776 ∧ r < 1099511627776) ∧ (i = 0 ∨ (r < g ∧ r * g * 2 ^ i ≤ 2 ^ 81))) → lv_has ls 11 [(8, .int (nI i)), (6, .long (lN r)), (4, .long (lN g)), (0, .long (lN a)), (2, .long (lN b))] → W p l e rmX0_greatestDivisor s m ([.long (lN a), .long (lN b)] : List Value).toArray below meth c s.heap [] 0 0 (MQ below (va_Ql (fun r M1 => M1 = M ∧ r = lN (Nat.gcd a b)) (xPc G A) A) ([.long (lN a), .long (lN b)] : List Value).toArray s 0 0 A) (F0 m 9 ls []) := by
    intro n
    induction n with
    | zero => intro i g r ls hn0 hi hg hs; exact absurd hn0 (by omega)
    | succ n ih =>
      intro i g r ls hn0 hi hg hs hl
      refine lv_iload hx hb dX0_greatestDivisor_9 (lv_at hl 0 rfl) ?_
      refine lv_sipush (v := nI 200) hx hb dX0_greatestDivisor_11 (by decide) ?_
      refine lv_icmp_ge (tgt := 45) hx hb dX0_greatestDivisor_14 (by decide) (fun c_1 => ?_) (fun c_1 => ?_)
      · have c_1 : 200 ≤ i := (nI_leI (by omega) (by omega)).mp c_1
        refine lv_lload hx hb dX0_greatestDivisor_45 (lv_at hl 2 rfl) ?_
        exact x_lret hx hb hr hlocks hK hA hX hS dX0_greatestDivisor_47 (⟨rfl, by rw [← hg, show r = 0 from gd_end (by omega) hs.2, Nat.gcd_zero_right]⟩)
      · have c_1 : ¬ (200 ≤ i) := fun q => c_1 ((nI_leI (by omega) (by omega)).mpr q)
        have hs1 := hs.1
        refine lv_lload hx hb dX0_greatestDivisor_17 (lv_at hl 1 rfl) ?_
        refine lv_lconst (v := lN 0) hx hb dX0_greatestDivisor_19 rfl ?_
        refine W.lcmp hx hb dX0_greatestDivisor_20 ?_
        refine x_lc_eq (tgt := 45) hx hb dX0_greatestDivisor_21 (by decide) (fun c_2 => ?_) (fun c_2 => ?_)
        · have c_2 : r = 0 := (pk_lEQ (by omega) (by omega)).mp c_2
          refine lv_lload hx hb dX0_greatestDivisor_45 (lv_at hl 2 rfl) ?_
          exact x_lret hx hb hr hlocks hK hA hX hS dX0_greatestDivisor_47 (⟨rfl, by rw [← hg, show r = 0 from by omega, Nat.gcd_zero_right]⟩)
        · have c_2 : ¬ (r = 0) := fun q => c_2 ((pk_lEQ (by omega) (by omega)).mpr q)
          have hs1 := hs.1
          refine lv_lload hx hb dX0_greatestDivisor_24 (lv_at hl 2 rfl) ?_
          refine lv_lload hx hb dX0_greatestDivisor_26 (lv_at hl 1 rfl) ?_
          refine lv_lrem hx hb dX0_greatestDivisor_28 (by rw [show (0 : Int64) = lN 0 from rfl, pk_lEQ (by omega) (by omega)]; omega) ?_
          refine x_rl (pk_lRem (by omega) (by omega) (by omega)) ?_
          refine lv_lstore (lv' := [(9, .long (lN (g % r))), (8, .int (nI i)), (6, .long (lN r)), (4, .long (lN g)), (0, .long (lN a)), (2, .long (lN b))]) hx hb dX0_greatestDivisor_29 hl (by decide) rfl (fun ls hl => ?_)
          refine lv_lload hx hb dX0_greatestDivisor_31 (lv_at hl 2 rfl) ?_
          refine lv_lstore (lv' := [(4, .long (lN r)), (9, .long (lN (g % r))), (8, .int (nI i)), (6, .long (lN r)), (0, .long (lN a)), (2, .long (lN b))]) hx hb dX0_greatestDivisor_33 hl (by decide) rfl (fun ls hl => ?_)
          refine lv_lload hx hb dX0_greatestDivisor_35 (lv_at hl 1 rfl) ?_
          refine lv_lstore (lv' := [(6, .long (lN (g % r))), (4, .long (lN r)), (9, .long (lN (g % r))), (8, .int (nI i)), (0, .long (lN a)), (2, .long (lN b))]) hx hb dX0_greatestDivisor_37 hl (by decide) rfl (fun ls hl => ?_)
          refine lv_iinc (v := nI (i + 1)) (lv' := [(8, .int (nI (i + 1))), (6, .long (lN (g % r))), (4, .long (lN r)), (9, .long (lN (g % r))), (0, .long (lN a)), (2, .long (lN b))]) hx hb dX0_greatestDivisor_39 hl (k := 3) rfl (show nI i + Int32.ofInt 1 = _ from nI_add _ 1) (by decide) rfl (fun ls hl => ?_)
          refine lv_goto (tgt := 9) hx hb dX0_greatestDivisor_42 (by decide) ?_
          exact ih (i + 1) r (g % r) ls (by omega) (by omega) (by rw [Nat.gcd_comm, ← Nat.gcd_rec, Nat.gcd_comm]; exact hg) (gd_step (by omega) hs) (lv_sub hl [0, 1, 2, 4, 5] rfl)
  exact loop 201 0 a b ls (by omega) (by omega) rfl (⟨⟨by omega, by omega⟩, Or.inl rfl⟩) (lv_sub hl [0, 1, 2, 3, 4] rfl)

abbrev rmX0_reduce : Room := { frames := 1, cells := 0, slots := 0, locals := 30 }
set_option maxHeartbeats 4000000 in
set_option maxRecDepth 100000 in
/-- Fraction.reduce -/
theorem ctX0_reduce (l : Launch) (G : xG) (A : Nat → Prop) (M : xM) {tf af an bn : Nat} (hcF : M tf = some (af, .inr (2, [.long (lN an), .long (lN bn)]))) (han : an < 1000000000) (hbn : bn < 1000000000) (hbp : 0 < bn) : Met l yX0_reduce wsX0_reduce rmX0_reduce (va_Pc ([.ref af] : List Value) (xPc G A M)) (va_Qv (fun M1 => M1 = xu M tf (af, .inr (2, [.long (lN (an / Nat.gcd an bn)), .long (lN (bn / Nat.gcd an bn))]))) (xPc G A) A) 0 0 A := by
  refine x_met (cc := cX0_reduce) (maxL := 3) (ret := none) RX0 (by decide) rfl (Nat.le_of_ble_eq_true rfl) rfl ?_
  intro p e s m below meth c hx hb hr hts hown hlocks hml hin hK hA hX ls hl
  have inX0 : ∀ w ∈ wsX00, w ∈ wsX0_reduce := by decide +kernel
  have lk_fieldLink_9 := hts (.fieldLink RX0 9 "Reconcile$Fraction" "above" "J") (by decide +kernel)
  have lk_fieldLink_15 := hts (.fieldLink RX0 15 "Reconcile$Fraction" "below" "J") (by decide +kernel)
  have hS : va_S A s.heap s.heap [] := va_S.rf
  have hl : lv_has ls 3 [(0, .ref af)] := hl
  refine lv_aload_n hx hb dX0_reduce_0 rfl (lv_at hl 0 rfl) ?_
  refine x_get (ci := 2) (v := .long (lN an)) (C := RX0) (T := TX0) (N := 2) hx hb hts inX0 hown hK hX hcF rfl 0 (by decide) lk_fieldLink_9 (fun _ h9 => h9) rfl dX0_reduce_1 ?_
  refine lv_aload_n hx hb dX0_reduce_4 rfl (lv_at hl 0 rfl) ?_
  refine x_get (ci := 2) (v := .long (lN bn)) (C := RX0) (T := TX0) (N := 2) hx hb hts inX0 hown hK hX hcF rfl 1 (by decide) lk_fieldLink_15 (fun _ h9 => h9) rfl dX0_reduce_5 ?_
  refine x_calll (x_runS (As := [.long (lN an), .long (lN bn)]) (rest := []) ⟨hx, hb, hml, hown, hts⟩ (ctX0_greatestDivisor l G A M an bn han hbn) (cwS 2 hts gX0_reduce_X0_greatestDivisor rfl rfl rfl (by decide +kernel) ⟨Nat.le_of_ble_eq_true rfl, Nat.le_of_ble_eq_true rfl⟩) hK hA hX hS rfl hl.1 rfl (lv_room (Nat.le_of_ble_eq_true rfl)) dX0_reduce_8 ⟨by decide, by decide⟩) hS (fun r_1 M_2 H locs hp hX hS => ?_)
  obtain ⟨hM_, er_1⟩ := hp
  rw [hM_] at hX
  have hg0 : 0 < Nat.gcd an bn := Nat.gcd_pos_of_pos_right an hbp
  have hg1 : Nat.gcd an bn ≤ bn := Nat.gcd_le_right an hbp
  refine x_rl (er_1) ?_
  refine lv_lstore_n (lv' := [(1, .long (lN (Nat.gcd an bn))), (0, .ref af)]) hx hb dX0_reduce_11 rfl hl (by decide) rfl (fun ls hl => ?_)
  refine lv_lload_n hx hb dX0_reduce_12 rfl (lv_at hl 0 rfl) ?_
  refine lv_lconst (v := lN 0) hx hb dX0_reduce_13 rfl ?_
  refine W.lcmp hx hb dX0_reduce_14 ?_
  refine x_lc_le (tgt := 38) hx hb dX0_reduce_15 (by decide) (fun c_3 => ?_) (fun c_3 => ?_)
  · have c_3 : (Nat.gcd an bn) ≤ 0 := (pk_lLE (by omega) (by omega)).mp c_3
    exact absurd c_3 (by omega)
  · have c_3 : ¬ ((Nat.gcd an bn) ≤ 0) := fun q => c_3 ((pk_lLE (by omega) (by omega)).mpr q)
    refine lv_aload_n hx hb dX0_reduce_18 rfl (lv_at hl 1 rfl) ?_
    refine lv_dup hx hb dX0_reduce_19 rfl ?_
    refine x_get (ci := 2) (v := .long (lN an)) (C := RX0) (T := TX0) (N := 2) hx hb hts inX0 hown hK hX hcF rfl 0 (by decide) lk_fieldLink_9 (fun _ h9 => h9) rfl dX0_reduce_20 ?_
    refine lv_lload_n hx hb dX0_reduce_23 rfl (lv_at hl 0 rfl) ?_
    refine lv_ldiv hx hb dX0_reduce_24 (by rw [show (0 : Int64) = lN 0 from rfl, pk_lEQ (by omega) (by omega)]; omega) ?_
    refine x_rl (pk_lDiv (by omega) (by omega) (by omega)) ?_
    refine x_put (ci := 2) (v := .long (lN (an / (Nat.gcd an bn)))) (C := RX0) (T := TX0) (N := 2) hx hb hts inX0 tyX0 tyX0_ok nmX0 hown hK hX hS hcF rfl 0 (by decide) lk_fieldLink_9 (fun _ h9 => h9) rfl (tyX0_ok 0 (by decide)) rfl rfl (Nat.le_of_ble_eq_true rfl) dX0_reduce_25 (fun H locs hX hS => ?_)
    obtain ⟨M_4, hM_4⟩ : ∃ zM : xM, zM = xu M tf (af, .inr (2, [.long (lN (an / (Nat.gcd an bn))), .long (lN bn)])) := ⟨_, rfl⟩
    have hX : xw G.1 vwCl A M_4 H := by rw [hM_4]; exact hX
    have hcF : M_4 tf = some (af, .inr (2, [.long (lN (an / (Nat.gcd an bn))), .long (lN bn)])) := by rw [hM_4]; exact xu_s
    refine lv_aload_n hx hb dX0_reduce_28 rfl (lv_at hl 1 rfl) ?_
    refine lv_dup hx hb dX0_reduce_29 rfl ?_
    refine x_get (ci := 2) (v := .long (lN bn)) (C := RX0) (T := TX0) (N := 2) hx hb hts inX0 hown hK hX hcF rfl 1 (by decide) lk_fieldLink_15 (fun _ h9 => h9) rfl dX0_reduce_30 ?_
    refine lv_lload_n hx hb dX0_reduce_33 rfl (lv_at hl 0 rfl) ?_
    refine lv_ldiv hx hb dX0_reduce_34 (by rw [show (0 : Int64) = lN 0 from rfl, pk_lEQ (by omega) (by omega)]; omega) ?_
    refine x_rl (pk_lDiv (by omega) (by omega) (by omega)) ?_
    refine x_put (ci := 2) (v := .long (lN (bn / (Nat.gcd an bn)))) (C := RX0) (T := TX0) (N := 2) hx hb hts inX0 tyX0 tyX0_ok nmX0 hown hK hX hS hcF rfl 1 (by decide) lk_fieldLink_15 (fun _ h9 => h9) rfl (tyX0_ok 1 (by decide)) rfl rfl (Nat.le_of_ble_eq_true rfl) dX0_reduce_35 (fun H locs hX hS => ?_)
    obtain ⟨M_5, hM_5⟩ : ∃ zM : xM, zM = xu M_4 tf (af, .inr (2, [.long (lN (an / (Nat.gcd an bn))), .long (lN (bn / (Nat.gcd an bn)))])) := ⟨_, rfl⟩
    have hX : xw G.1 vwCl A M_5 H := by rw [hM_5]; exact hX
    have hcF : M_5 tf = some (af, .inr (2, [.long (lN (an / (Nat.gcd an bn))), .long (lN (bn / (Nat.gcd an bn)))])) := by rw [hM_5]; exact xu_s
    exact x_vret hx hb hr hlocks hK hA hX hS dX0_reduce_38 (by rw [hM_5, hM_4, x_uu])

abbrev rmX0_measure : Room := { frames := 2, cells := 0, slots := 0, locals := 48 }
set_option maxHeartbeats 4000000 in
set_option maxRecDepth 100000 in
/-- Fraction.measure -/
theorem ctX0_measure (l : Launch) (G : xG) (A : Nat → Prop) (M : xM) {tf af : Nat} {fa fb : Int64} (hcF : M tf = some (af, .inr (2, [.long fa, .long fb]))) {t a a1 a2 tc : Nat} {sd jn dt : Int32} {fd ld : Int64} {tk kd : Nat → Int32} (hcN : M t = some (a, .inr (5, [.int sd, .int jn, .ref a1, .ref a2, .int (nI tc), .int dt, .long fd, .long ld]))) (hcT : M (t + 1) = some (a1, .inl (G.2 0, 8, .inl tk))) (hcK : M (t + 2) = some (a2, .inl (G.2 0, 8, .inl kd))) (htc : tc ≤ 8) {u a_ a1_ a2_ tc_ : Nat} {sd_ jn_ dt_ : Int32} {fd_ ld_ : Int64} {tk_ kd_ : Nat → Int32} (hcN_ : M u = some (a_, .inr (5, [.int sd_, .int jn_, .ref a1_, .ref a2_, .int (nI tc_), .int dt_, .long fd_, .long ld_]))) (hcT_ : M (u + 1) = some (a1_, .inl (G.2 0, 8, .inl tk_))) (hcK_ : M (u + 2) = some (a2_, .inl (G.2 0, 8, .inl kd_))) (htc_ : tc_ ≤ 8) (hkd : ∀ j, j < tc → vp_in (kd j) 4) (hkd_ : ∀ j, j < tc_ → vp_in (kd_ j) 4) {tw aw : Nat} {wn : Nat → Nat} (hcW : M tw = some (aw, .inl (G.2 1, 4, .inr (.inl (fun k => lN (wn k)))))) (htu : t ≠ u) (hd1 : t ≠ u + 1) (hd2 : t ≠ u + 2) (hd3 : u ≠ t + 1) (hd4 : u ≠ t + 2) (hf1 : tf ≠ t ∧ tf ≠ t + 1 ∧ tf ≠ t + 2 ∧ tf ≠ u ∧ tf ≠ u + 1 ∧ tf ≠ u + 2) (hw1 : tw ≠ tf) : Met l yX0_measure wsX0_measure rmX0_measure (va_Pc ([.ref af, .ref a, .ref a_, .ref aw] : List Value) (xPc G A M)) (va_Qv (fun M1 => M1 = xu M tf (af, .inr (2, [.long (lN (if (¬ dt = 0 ∧ ¬ dt_ = 0) ∧ ¬ ld_ < fd ∧ ¬ ld < fd_ then xSh tk kd tk_ kd_ tc_ wn tc + wn 3 else xSh tk kd tk_ kd_ tc_ wn tc)), .long (lN (if ¬ dt = 0 ∧ ¬ dt_ = 0 then xAll kd wn tc + xAll kd_ wn tc_ - xSh tk kd tk_ kd_ tc_ wn tc + wn 3 else xAll kd wn tc + xAll kd_ wn tc_ - xSh tk kd tk_ kd_ tc_ wn tc))]))) (xPc G A) A) 0 0 A := by
  refine x_met (cc := cX0_measure) (maxL := 6) (ret := none) RX0 (by decide) rfl (Nat.le_of_ble_eq_true rfl) rfl ?_
  intro p e s m below meth c hx hb hr hts hown hlocks hml hin hK hA hX ls hl
  have inX0 : ∀ w ∈ wsX00, w ∈ wsX0_measure := by decide +kernel
  have lk_fieldLink_9 := hts (.fieldLink RX0 9 "Reconcile$Fraction" "above" "J") (by decide +kernel)
  have lk_fieldLink_15 := hts (.fieldLink RX0 15 "Reconcile$Fraction" "below" "J") (by decide +kernel)
  have hS : va_S A s.heap s.heap [] := va_S.rf
  have hl : lv_has ls 6 [(0, .ref af), (1, .ref a), (2, .ref a_), (3, .ref aw)] := hl
  refine lv_aload_n hx hb dX0_measure_0 rfl (lv_at hl 1 rfl) ?_
  refine lv_aload_n hx hb dX0_measure_1 rfl (lv_at hl 2 rfl) ?_
  refine lv_aload_n hx hb dX0_measure_2 rfl (lv_at hl 3 rfl) ?_
  refine x_calll (x_runV (q := (RX3, TX3, 8)) (As := [.ref a_, .ref aw]) (rest := []) ⟨hx, hb, hml, hown, hts⟩ (ctX3_weightOfShared l G A M hcN hcT hcK htc hcN_ hcT_ hcK_ htc_ hkd hcW) (cwV 2 hts gX0_measure_X3_weightOfShared rfl rfl rfl (by decide +kernel) ⟨Nat.le_of_ble_eq_true rfl, Nat.le_of_ble_eq_true rfl⟩) hK hA hX hS hcN rfl rfl hl.1 rfl (lv_room (Nat.le_of_ble_eq_true rfl)) dX0_measure_3 ⟨by decide, by decide⟩) hS (fun r_1 M_2 H locs hp hX hS => ?_)
  obtain ⟨hM_, er_1⟩ := hp
  rw [hM_] at hX
  have hle := xSh_le (tk := tk) (kd := kd) (otk := tk_) (okd := kd_) (otc := tc_) (wn := wn) tc
  refine x_rl (er_1) ?_
  refine lv_lstore (lv' := [(4, .long (lN (xSh tk kd tk_ kd_ tc_ wn tc))), (0, .ref af), (1, .ref a), (2, .ref a_), (3, .ref aw)]) hx hb dX0_measure_6 hl (by decide) rfl (fun ls hl => ?_)
  refine lv_aload_n hx hb dX0_measure_8 rfl (lv_at hl 1 rfl) ?_
  refine lv_lload hx hb dX0_measure_9 (lv_at hl 0 rfl) ?_
  refine x_put (ci := 2) (v := .long (lN (xSh tk kd tk_ kd_ tc_ wn tc))) (C := RX0) (T := TX0) (N := 2) hx hb hts inX0 tyX0 tyX0_ok nmX0 hown hK hX hS hcF rfl 0 (by decide) lk_fieldLink_9 (fun _ h9 => h9) rfl (tyX0_ok 0 (by decide)) rfl rfl (Nat.le_of_ble_eq_true rfl) dX0_measure_11 (fun H locs hX hS => ?_)
  obtain ⟨M_3, hM_3⟩ : ∃ zM : xM, zM = xu M tf (af, .inr (2, [.long (lN (xSh tk kd tk_ kd_ tc_ wn tc)), .long fb])) := ⟨_, rfl⟩
  have hX : xw G.1 vwCl A M_3 H := by rw [hM_3]; exact hX
  have hcN : M_3 t = some (a, .inr (5, [.int sd, .int jn, .ref a1, .ref a2, .int (nI tc), .int dt, .long fd, .long ld])) := by rw [hM_3, xu_n (by omega)]; exact hcN
  have hcT : M_3 (t + 1) = some (a1, .inl (G.2 0, 8, .inl tk)) := by rw [hM_3, xu_n (by omega)]; exact hcT
  have hcK : M_3 (t + 2) = some (a2, .inl (G.2 0, 8, .inl kd)) := by rw [hM_3, xu_n (by omega)]; exact hcK
  have hcN_ : M_3 u = some (a_, .inr (5, [.int sd_, .int jn_, .ref a1_, .ref a2_, .int (nI tc_), .int dt_, .long fd_, .long ld_])) := by rw [hM_3, xu_n (by omega)]; exact hcN_
  have hcT_ : M_3 (u + 1) = some (a1_, .inl (G.2 0, 8, .inl tk_)) := by rw [hM_3, xu_n (by omega)]; exact hcT_
  have hcK_ : M_3 (u + 2) = some (a2_, .inl (G.2 0, 8, .inl kd_)) := by rw [hM_3, xu_n (by omega)]; exact hcK_
  have hcW : M_3 tw = some (aw, .inl (G.2 1, 4, .inr (.inl (fun k => lN (wn k))))) := by rw [hM_3, xu_n (by omega)]; exact hcW
  have hcF : M_3 tf = some (af, .inr (2, [.long (lN (xSh tk kd tk_ kd_ tc_ wn tc)), .long fb])) := by rw [hM_3]; exact xu_s
  refine lv_aload_n hx hb dX0_measure_14 rfl (lv_at hl 1 rfl) ?_
  refine lv_aload_n hx hb dX0_measure_15 rfl (lv_at hl 2 rfl) ?_
  refine lv_aload_n hx hb dX0_measure_16 rfl (lv_at hl 4 rfl) ?_
  refine x_calll (x_runV (q := (RX3, TX3, 8)) (As := [.ref aw]) (rest := [.ref af]) ⟨hx, hb, hml, hown, hts⟩ (ctX3_weightOfAll l G A M_3 hcN hcT hcK htc hkd hcW) (cwV 1 hts gX0_measure_X3_weightOfAll rfl rfl rfl (by decide +kernel) ⟨Nat.le_of_ble_eq_true rfl, Nat.le_of_ble_eq_true rfl⟩) hK hA hX hS hcN rfl rfl hl.1 rfl (lv_room (Nat.le_of_ble_eq_true rfl)) dX0_measure_17 ⟨by decide, by decide⟩) hS (fun r_4 M_5 H locs hp hX hS => ?_)
  obtain ⟨hM_, er_4⟩ := hp
  rw [hM_] at hX
  refine x_rl (er_4) ?_
  refine lv_aload_n hx hb dX0_measure_20 rfl (lv_at hl 3 rfl) ?_
  refine lv_aload_n hx hb dX0_measure_21 rfl (lv_at hl 4 rfl) ?_
  refine x_calll (x_runV (q := (RX3, TX3, 8)) (As := [.ref aw]) (rest := [.long (lN (xAll kd wn tc)), .ref af]) ⟨hx, hb, hml, hown, hts⟩ (ctX3_weightOfAll l G A M_3 hcN_ hcT_ hcK_ htc_ hkd_ hcW) (cwV 1 hts gX0_measure_X3_weightOfAll rfl rfl rfl (by decide +kernel) ⟨Nat.le_of_ble_eq_true rfl, Nat.le_of_ble_eq_true rfl⟩) hK hA hX hS hcN_ rfl rfl hl.1 rfl (lv_room (Nat.le_of_ble_eq_true rfl)) dX0_measure_22 ⟨by decide, by decide⟩) hS (fun r_6 M_7 H locs hp hX hS => ?_)
  obtain ⟨hM_, er_6⟩ := hp
  rw [hM_] at hX
  refine x_rl (er_6) ?_
  refine lv_ladd hx hb dX0_measure_25 ?_
  refine x_rl (lN_add _ _) ?_
  refine lv_lload hx hb dX0_measure_26 (lv_at hl 0 rfl) ?_
  refine lv_lsub hx hb dX0_measure_28 ?_
  refine x_rl (lN_sub (by omega)) ?_
  refine x_put (ci := 2) (v := .long (lN (((xAll kd wn tc) + (xAll kd_ wn tc_)) - (xSh tk kd tk_ kd_ tc_ wn tc)))) (C := RX0) (T := TX0) (N := 2) hx hb hts inX0 tyX0 tyX0_ok nmX0 hown hK hX hS hcF rfl 1 (by decide) lk_fieldLink_15 (fun _ h9 => h9) rfl (tyX0_ok 1 (by decide)) rfl rfl (Nat.le_of_ble_eq_true rfl) dX0_measure_29 (fun H locs hX hS => ?_)
  obtain ⟨M_8, hM_8⟩ : ∃ zM : xM, zM = xu M_3 tf (af, .inr (2, [.long (lN (xSh tk kd tk_ kd_ tc_ wn tc)), .long (lN (((xAll kd wn tc) + (xAll kd_ wn tc_)) - (xSh tk kd tk_ kd_ tc_ wn tc)))])) := ⟨_, rfl⟩
  have hX : xw G.1 vwCl A M_8 H := by rw [hM_8]; exact hX
  have hcN : M_8 t = some (a, .inr (5, [.int sd, .int jn, .ref a1, .ref a2, .int (nI tc), .int dt, .long fd, .long ld])) := by rw [hM_8, xu_n (by omega)]; exact hcN
  have hcT : M_8 (t + 1) = some (a1, .inl (G.2 0, 8, .inl tk)) := by rw [hM_8, xu_n (by omega)]; exact hcT
  have hcK : M_8 (t + 2) = some (a2, .inl (G.2 0, 8, .inl kd)) := by rw [hM_8, xu_n (by omega)]; exact hcK
  have hcN_ : M_8 u = some (a_, .inr (5, [.int sd_, .int jn_, .ref a1_, .ref a2_, .int (nI tc_), .int dt_, .long fd_, .long ld_])) := by rw [hM_8, xu_n (by omega)]; exact hcN_
  have hcT_ : M_8 (u + 1) = some (a1_, .inl (G.2 0, 8, .inl tk_)) := by rw [hM_8, xu_n (by omega)]; exact hcT_
  have hcK_ : M_8 (u + 2) = some (a2_, .inl (G.2 0, 8, .inl kd_)) := by rw [hM_8, xu_n (by omega)]; exact hcK_
  have hcW : M_8 tw = some (aw, .inl (G.2 1, 4, .inr (.inl (fun k => lN (wn k))))) := by rw [hM_8, xu_n (by omega)]; exact hcW
  have hcF : M_8 tf = some (af, .inr (2, [.long (lN (xSh tk kd tk_ kd_ tc_ wn tc)), .long (lN (((xAll kd wn tc) + (xAll kd_ wn tc_)) - (xSh tk kd tk_ kd_ tc_ wn tc)))])) := by rw [hM_8]; exact xu_s
  refine lv_aload_n hx hb dX0_measure_32 rfl (lv_at hl 2 rfl) ?_
  refine lv_aload_n hx hb dX0_measure_33 rfl (lv_at hl 3 rfl) ?_
  refine x_calli (x_runV (q := (RX3, TX3, 8)) (As := [.ref a_]) (rest := []) ⟨hx, hb, hml, hown, hts⟩ (ctX3_bothDated l G A M_8 hcN hcT hcK htc hcN_ hcT_ hcK_ htc_) (cwV 1 hts gX0_measure_X3_bothDated rfl rfl rfl (by decide +kernel) ⟨Nat.le_of_ble_eq_true rfl, Nat.le_of_ble_eq_true rfl⟩) hK hA hX hS hcN rfl rfl hl.1 rfl (lv_room (Nat.le_of_ble_eq_true rfl)) dX0_measure_34 ⟨by decide, by decide⟩) hS (fun r_9 M_10 H locs hp hX hS => ?_)
  obtain ⟨hM_, er_9⟩ := hp
  rw [hM_] at hX
  refine lv_if_eq (tgt := 52) hx hb dX0_measure_37 (by decide) (fun c_11 => ?_) (fun c_11 => ?_)
  · have c_11 := x_if0 er_9 c_11
    refine lv_aload_n hx hb dX0_measure_52 rfl (lv_at hl 2 rfl) ?_
    refine lv_aload_n hx hb dX0_measure_53 rfl (lv_at hl 3 rfl) ?_
    refine x_calli (x_runV (q := (RX3, TX3, 8)) (As := [.ref a_]) (rest := []) ⟨hx, hb, hml, hown, hts⟩ (ctX3_sharesDay l G A M_8 hcN hcT hcK htc hcN_ hcT_ hcK_ htc_) (cwV 1 hts gX0_measure_X3_sharesDay rfl rfl rfl (by decide +kernel) ⟨Nat.le_of_ble_eq_true rfl, Nat.le_of_ble_eq_true rfl⟩) hK hA hX hS hcN rfl rfl hl.1 rfl (lv_room (Nat.le_of_ble_eq_true rfl)) dX0_measure_54 ⟨by decide, by decide⟩) hS (fun r_12 M_13 H locs hp hX hS => ?_)
    obtain ⟨hM_, er_12⟩ := hp
    rw [hM_] at hX
    refine lv_if_eq (tgt := 72) hx hb dX0_measure_57 (by decide) (fun c_14 => ?_) (fun c_14 => ?_)
    · have c_14 := x_if0 er_12 c_14
      exact x_vret hx hb hr hlocks hK hA hX hS dX0_measure_72 (by rw [hM_8, hM_3, x_uu, if_neg c_14, if_neg c_11])
    · have c_14 := x_if1 er_12 c_14
      refine lv_aload_n hx hb dX0_measure_60 rfl (lv_at hl 1 rfl) ?_
      refine lv_dup hx hb dX0_measure_61 rfl ?_
      refine x_get (ci := 2) (v := .long (lN (xSh tk kd tk_ kd_ tc_ wn tc))) (C := RX0) (T := TX0) (N := 2) hx hb hts inX0 hown hK hX hcF rfl 0 (by decide) lk_fieldLink_9 (fun _ h9 => h9) rfl dX0_measure_62 ?_
      refine lv_aload_n hx hb dX0_measure_65 rfl (lv_at hl 4 rfl) ?_
      refine lv_iconst (v := nI 3) hx hb dX0_measure_66 (by decide) ?_
      refine x_lN hx hb hK hX hcW (by omega) (by decide) dX0_measure_67 ?_
      refine lv_ladd hx hb dX0_measure_68 ?_
      refine x_rl (lN_add _ _) ?_
      refine x_put (ci := 2) (v := .long (lN ((xSh tk kd tk_ kd_ tc_ wn tc) + (wn 3)))) (C := RX0) (T := TX0) (N := 2) hx hb hts inX0 tyX0 tyX0_ok nmX0 hown hK hX hS hcF rfl 0 (by decide) lk_fieldLink_9 (fun _ h9 => h9) rfl (tyX0_ok 0 (by decide)) rfl rfl (Nat.le_of_ble_eq_true rfl) dX0_measure_69 (fun H locs hX hS => ?_)
      obtain ⟨M_15, hM_15⟩ : ∃ zM : xM, zM = xu M_8 tf (af, .inr (2, [.long (lN ((xSh tk kd tk_ kd_ tc_ wn tc) + (wn 3))), .long (lN (((xAll kd wn tc) + (xAll kd_ wn tc_)) - (xSh tk kd tk_ kd_ tc_ wn tc)))])) := ⟨_, rfl⟩
      have hX : xw G.1 vwCl A M_15 H := by rw [hM_15]; exact hX
      have hcN : M_15 t = some (a, .inr (5, [.int sd, .int jn, .ref a1, .ref a2, .int (nI tc), .int dt, .long fd, .long ld])) := by rw [hM_15, xu_n (by omega)]; exact hcN
      have hcT : M_15 (t + 1) = some (a1, .inl (G.2 0, 8, .inl tk)) := by rw [hM_15, xu_n (by omega)]; exact hcT
      have hcK : M_15 (t + 2) = some (a2, .inl (G.2 0, 8, .inl kd)) := by rw [hM_15, xu_n (by omega)]; exact hcK
      have hcN_ : M_15 u = some (a_, .inr (5, [.int sd_, .int jn_, .ref a1_, .ref a2_, .int (nI tc_), .int dt_, .long fd_, .long ld_])) := by rw [hM_15, xu_n (by omega)]; exact hcN_
      have hcT_ : M_15 (u + 1) = some (a1_, .inl (G.2 0, 8, .inl tk_)) := by rw [hM_15, xu_n (by omega)]; exact hcT_
      have hcK_ : M_15 (u + 2) = some (a2_, .inl (G.2 0, 8, .inl kd_)) := by rw [hM_15, xu_n (by omega)]; exact hcK_
      have hcW : M_15 tw = some (aw, .inl (G.2 1, 4, .inr (.inl (fun k => lN (wn k))))) := by rw [hM_15, xu_n (by omega)]; exact hcW
      have hcF : M_15 tf = some (af, .inr (2, [.long (lN ((xSh tk kd tk_ kd_ tc_ wn tc) + (wn 3))), .long (lN (((xAll kd wn tc) + (xAll kd_ wn tc_)) - (xSh tk kd tk_ kd_ tc_ wn tc)))])) := by rw [hM_15]; exact xu_s
      exact x_vret hx hb hr hlocks hK hA hX hS dX0_measure_72 (by rw [hM_15, hM_8, hM_3, x_uu, x_uu, if_pos c_14, if_neg c_11])
  · have c_11 := x_if1 er_9 c_11
    refine lv_aload_n hx hb dX0_measure_40 rfl (lv_at hl 1 rfl) ?_
    refine lv_dup hx hb dX0_measure_41 rfl ?_
    refine x_get (ci := 2) (v := .long (lN (((xAll kd wn tc) + (xAll kd_ wn tc_)) - (xSh tk kd tk_ kd_ tc_ wn tc)))) (C := RX0) (T := TX0) (N := 2) hx hb hts inX0 hown hK hX hcF rfl 1 (by decide) lk_fieldLink_15 (fun _ h9 => h9) rfl dX0_measure_42 ?_
    refine lv_aload_n hx hb dX0_measure_45 rfl (lv_at hl 4 rfl) ?_
    refine lv_iconst (v := nI 3) hx hb dX0_measure_46 (by decide) ?_
    refine x_lN hx hb hK hX hcW (by omega) (by decide) dX0_measure_47 ?_
    refine lv_ladd hx hb dX0_measure_48 ?_
    refine x_rl (lN_add _ _) ?_
    refine x_put (ci := 2) (v := .long (lN ((((xAll kd wn tc) + (xAll kd_ wn tc_)) - (xSh tk kd tk_ kd_ tc_ wn tc)) + (wn 3)))) (C := RX0) (T := TX0) (N := 2) hx hb hts inX0 tyX0 tyX0_ok nmX0 hown hK hX hS hcF rfl 1 (by decide) lk_fieldLink_15 (fun _ h9 => h9) rfl (tyX0_ok 1 (by decide)) rfl rfl (Nat.le_of_ble_eq_true rfl) dX0_measure_49 (fun H locs hX hS => ?_)
    obtain ⟨M_16, hM_16⟩ : ∃ zM : xM, zM = xu M_8 tf (af, .inr (2, [.long (lN (xSh tk kd tk_ kd_ tc_ wn tc)), .long (lN ((((xAll kd wn tc) + (xAll kd_ wn tc_)) - (xSh tk kd tk_ kd_ tc_ wn tc)) + (wn 3)))])) := ⟨_, rfl⟩
    have hX : xw G.1 vwCl A M_16 H := by rw [hM_16]; exact hX
    have hcN : M_16 t = some (a, .inr (5, [.int sd, .int jn, .ref a1, .ref a2, .int (nI tc), .int dt, .long fd, .long ld])) := by rw [hM_16, xu_n (by omega)]; exact hcN
    have hcT : M_16 (t + 1) = some (a1, .inl (G.2 0, 8, .inl tk)) := by rw [hM_16, xu_n (by omega)]; exact hcT
    have hcK : M_16 (t + 2) = some (a2, .inl (G.2 0, 8, .inl kd)) := by rw [hM_16, xu_n (by omega)]; exact hcK
    have hcN_ : M_16 u = some (a_, .inr (5, [.int sd_, .int jn_, .ref a1_, .ref a2_, .int (nI tc_), .int dt_, .long fd_, .long ld_])) := by rw [hM_16, xu_n (by omega)]; exact hcN_
    have hcT_ : M_16 (u + 1) = some (a1_, .inl (G.2 0, 8, .inl tk_)) := by rw [hM_16, xu_n (by omega)]; exact hcT_
    have hcK_ : M_16 (u + 2) = some (a2_, .inl (G.2 0, 8, .inl kd_)) := by rw [hM_16, xu_n (by omega)]; exact hcK_
    have hcW : M_16 tw = some (aw, .inl (G.2 1, 4, .inr (.inl (fun k => lN (wn k))))) := by rw [hM_16, xu_n (by omega)]; exact hcW
    have hcF : M_16 tf = some (af, .inr (2, [.long (lN (xSh tk kd tk_ kd_ tc_ wn tc)), .long (lN ((((xAll kd wn tc) + (xAll kd_ wn tc_)) - (xSh tk kd tk_ kd_ tc_ wn tc)) + (wn 3)))])) := by rw [hM_16]; exact xu_s
    refine lv_aload_n hx hb dX0_measure_52 rfl (lv_at hl 2 rfl) ?_
    refine lv_aload_n hx hb dX0_measure_53 rfl (lv_at hl 3 rfl) ?_
    refine x_calli (x_runV (q := (RX3, TX3, 8)) (As := [.ref a_]) (rest := []) ⟨hx, hb, hml, hown, hts⟩ (ctX3_sharesDay l G A M_16 hcN hcT hcK htc hcN_ hcT_ hcK_ htc_) (cwV 1 hts gX0_measure_X3_sharesDay rfl rfl rfl (by decide +kernel) ⟨Nat.le_of_ble_eq_true rfl, Nat.le_of_ble_eq_true rfl⟩) hK hA hX hS hcN rfl rfl hl.1 rfl (lv_room (Nat.le_of_ble_eq_true rfl)) dX0_measure_54 ⟨by decide, by decide⟩) hS (fun r_17 M_18 H locs hp hX hS => ?_)
    obtain ⟨hM_, er_17⟩ := hp
    rw [hM_] at hX
    refine lv_if_eq (tgt := 72) hx hb dX0_measure_57 (by decide) (fun c_19 => ?_) (fun c_19 => ?_)
    · have c_19 := x_if0 er_17 c_19
      exact x_vret hx hb hr hlocks hK hA hX hS dX0_measure_72 (by rw [hM_16, hM_8, hM_3, x_uu, x_uu, if_neg c_19, if_pos c_11])
    · have c_19 := x_if1 er_17 c_19
      refine lv_aload_n hx hb dX0_measure_60 rfl (lv_at hl 1 rfl) ?_
      refine lv_dup hx hb dX0_measure_61 rfl ?_
      refine x_get (ci := 2) (v := .long (lN (xSh tk kd tk_ kd_ tc_ wn tc))) (C := RX0) (T := TX0) (N := 2) hx hb hts inX0 hown hK hX hcF rfl 0 (by decide) lk_fieldLink_9 (fun _ h9 => h9) rfl dX0_measure_62 ?_
      refine lv_aload_n hx hb dX0_measure_65 rfl (lv_at hl 4 rfl) ?_
      refine lv_iconst (v := nI 3) hx hb dX0_measure_66 (by decide) ?_
      refine x_lN hx hb hK hX hcW (by omega) (by decide) dX0_measure_67 ?_
      refine lv_ladd hx hb dX0_measure_68 ?_
      refine x_rl (lN_add _ _) ?_
      refine x_put (ci := 2) (v := .long (lN ((xSh tk kd tk_ kd_ tc_ wn tc) + (wn 3)))) (C := RX0) (T := TX0) (N := 2) hx hb hts inX0 tyX0 tyX0_ok nmX0 hown hK hX hS hcF rfl 0 (by decide) lk_fieldLink_9 (fun _ h9 => h9) rfl (tyX0_ok 0 (by decide)) rfl rfl (Nat.le_of_ble_eq_true rfl) dX0_measure_69 (fun H locs hX hS => ?_)
      obtain ⟨M_20, hM_20⟩ : ∃ zM : xM, zM = xu M_16 tf (af, .inr (2, [.long (lN ((xSh tk kd tk_ kd_ tc_ wn tc) + (wn 3))), .long (lN ((((xAll kd wn tc) + (xAll kd_ wn tc_)) - (xSh tk kd tk_ kd_ tc_ wn tc)) + (wn 3)))])) := ⟨_, rfl⟩
      have hX : xw G.1 vwCl A M_20 H := by rw [hM_20]; exact hX
      have hcN : M_20 t = some (a, .inr (5, [.int sd, .int jn, .ref a1, .ref a2, .int (nI tc), .int dt, .long fd, .long ld])) := by rw [hM_20, xu_n (by omega)]; exact hcN
      have hcT : M_20 (t + 1) = some (a1, .inl (G.2 0, 8, .inl tk)) := by rw [hM_20, xu_n (by omega)]; exact hcT
      have hcK : M_20 (t + 2) = some (a2, .inl (G.2 0, 8, .inl kd)) := by rw [hM_20, xu_n (by omega)]; exact hcK
      have hcN_ : M_20 u = some (a_, .inr (5, [.int sd_, .int jn_, .ref a1_, .ref a2_, .int (nI tc_), .int dt_, .long fd_, .long ld_])) := by rw [hM_20, xu_n (by omega)]; exact hcN_
      have hcT_ : M_20 (u + 1) = some (a1_, .inl (G.2 0, 8, .inl tk_)) := by rw [hM_20, xu_n (by omega)]; exact hcT_
      have hcK_ : M_20 (u + 2) = some (a2_, .inl (G.2 0, 8, .inl kd_)) := by rw [hM_20, xu_n (by omega)]; exact hcK_
      have hcW : M_20 tw = some (aw, .inl (G.2 1, 4, .inr (.inl (fun k => lN (wn k))))) := by rw [hM_20, xu_n (by omega)]; exact hcW
      have hcF : M_20 tf = some (af, .inr (2, [.long (lN ((xSh tk kd tk_ kd_ tc_ wn tc) + (wn 3))), .long (lN ((((xAll kd wn tc) + (xAll kd_ wn tc_)) - (xSh tk kd tk_ kd_ tc_ wn tc)) + (wn 3)))])) := by rw [hM_20]; exact xu_s
      exact x_vret hx hb hr hlocks hK hA hX hS dX0_measure_72 (by rw [hM_20, hM_16, hM_8, hM_3, x_uu, x_uu, x_uu, if_pos c_19, if_pos c_11])

abbrev rmX1_init : Room := { frames := 1, cells := 0, slots := 0, locals := 12 }
set_option maxHeartbeats 4000000 in
set_option maxRecDepth 100000 in
/-- Join(zero, one) -/
theorem ctX1_init (l : Launch) (G : xG) (A : Nat → Prop) (M : xM) {tj aj : Nat} (hcJ : M tj = some (aj, .inr (3, [.null, .null, .int (nI 0)]))) (z o : Nat) : Met l yX1_init wsX1_init rmX1_init (va_Pc ([.ref aj, .ref z, .ref o] : List Value) (xPc G A M)) (va_Qv (fun M1 => M1 = xu M tj (aj, .inr (3, [.ref z, .ref o, .int (nI 0)]))) (xPc G A) A) 0 0 A := by
  refine x_met (cc := cX1_init) (maxL := 3) (ret := none) RX1 (by decide) rfl (Nat.le_of_ble_eq_true rfl) rfl ?_
  intro p e s m below meth c hx hb hr hts hown hlocks hml hin hK hA hX ls hl
  have inX1 : ∀ w ∈ wsX10, w ∈ wsX1_init := by decide +kernel
  have lk_methodLink_1 := hts (.methodLink RX1 1 objectInit) (by decide +kernel)
  have lk_fieldLink_7 := hts (.fieldLink RX1 7 "Reconcile$Join" "undone" "Z") (by decide +kernel)
  have lk_fieldLink_13 := hts (.fieldLink RX1 13 "Reconcile$Join" "zero" "LReconcile$Name;") (by decide +kernel)
  have lk_fieldLink_17 := hts (.fieldLink RX1 17 "Reconcile$Join" "one" "LReconcile$Name;") (by decide +kernel)
  have hS : va_S A s.heap s.heap [] := va_S.rf
  have hl : lv_has ls 3 [(0, .ref aj), (1, .ref z), (2, .ref o)] := hl
  refine lv_aload_n hx hb dX1_init_0 rfl (lv_at hl 0 rfl) ?_
  refine W.objInit hx hb hown lk_methodLink_1 (hts (.instanceMethod objectInit) (by decide +kernel)) (hts (.code objectInit ⟨#[0xb1]⟩ 1 none) (List.mem_of_getElem? (i := 3) rfl)) rfl (by rw [hml]; exact hl.1) rfl dX1_init_1 (Nat.le_of_ble_eq_true rfl) (Nat.le_of_ble_eq_true rfl) ?_
  refine W.eq (g2 := F0 m 4 ls []) rfl ?_
  refine lv_aload_n hx hb dX1_init_4 rfl (lv_at hl 0 rfl) ?_
  refine lv_iconst (v := nI 0) hx hb dX1_init_5 (by decide) ?_
  refine x_put (ci := 3) (v := .int (nI 0)) (C := RX1) (T := TX1) (N := 3) hx hb hts inX1 tyX1 tyX1_ok nmX1 hown hK hX hS hcJ rfl 2 (by decide) lk_fieldLink_7 (fun _ h9 => h9) rfl (tyX1_ok 2 (by decide)) rfl rfl (Nat.le_of_ble_eq_true rfl) dX1_init_6 (fun H locs hX hS => ?_)
  obtain ⟨M_1, hM_1⟩ : ∃ zM : xM, zM = xu M tj (aj, .inr (3, [.null, .null, .int (nI 0)])) := ⟨_, rfl⟩
  have hX : xw G.1 vwCl A M_1 H := by rw [hM_1]; exact hX
  have hcJ : M_1 tj = some (aj, .inr (3, [.null, .null, .int (nI 0)])) := by rw [hM_1]; exact xu_s
  refine lv_aload_n hx hb dX1_init_9 rfl (lv_at hl 0 rfl) ?_
  refine lv_aload_n hx hb dX1_init_10 rfl (lv_at hl 1 rfl) ?_
  refine x_putF (ci := 3) (v := .ref z) (C := RX1) (T := TX1) (N := 3) hx hb hts inX1 tyX1 tyX1_ok nmX1 hown hK hX hS hcJ rfl 0 (by decide) lk_fieldLink_13 (fun _ h9 => h9) rfl hin rfl (tyX1_ok 0 (by decide)) rfl rfl (Nat.le_of_ble_eq_true rfl) dX1_init_11 (fun H locs hX hS => ?_)
  obtain ⟨M_2, hM_2⟩ : ∃ zM : xM, zM = xu M_1 tj (aj, .inr (3, [.ref z, .null, .int (nI 0)])) := ⟨_, rfl⟩
  have hX : xw G.1 vwCl A M_2 H := by rw [hM_2]; exact hX
  have hcJ : M_2 tj = some (aj, .inr (3, [.ref z, .null, .int (nI 0)])) := by rw [hM_2]; exact xu_s
  refine lv_aload_n hx hb dX1_init_14 rfl (lv_at hl 0 rfl) ?_
  refine lv_aload_n hx hb dX1_init_15 rfl (lv_at hl 2 rfl) ?_
  refine x_putF (ci := 3) (v := .ref o) (C := RX1) (T := TX1) (N := 3) hx hb hts inX1 tyX1 tyX1_ok nmX1 hown hK hX hS hcJ rfl 1 (by decide) lk_fieldLink_17 (fun _ h9 => h9) rfl hin rfl (tyX1_ok 1 (by decide)) rfl rfl (Nat.le_of_ble_eq_true rfl) dX1_init_16 (fun H locs hX hS => ?_)
  obtain ⟨M_3, hM_3⟩ : ∃ zM : xM, zM = xu M_2 tj (aj, .inr (3, [.ref z, .ref o, .int (nI 0)])) := ⟨_, rfl⟩
  have hX : xw G.1 vwCl A M_3 H := by rw [hM_3]; exact hX
  have hcJ : M_3 tj = some (aj, .inr (3, [.ref z, .ref o, .int (nI 0)])) := by rw [hM_3]; exact xu_s
  exact x_vret hx hb hr hlocks hK hA hX hS dX1_init_19 (by rw [hM_3, hM_2, hM_1, x_uu, x_uu])

abbrev rmX1_takeBack : Room := { frames := 0, cells := 0, slots := 0, locals := 0 }
set_option maxHeartbeats 4000000 in
set_option maxRecDepth 100000 in
/-- Join.takeBack -/
theorem ctX1_takeBack (l : Launch) (G : xG) (A : Nat → Prop) (M : xM) {tj aj : Nat} {un : Int32} {t a a1 a2 tc : Nat} {sd jn dt : Int32} {fd ld : Int64} {tk kd : Nat → Int32} (hcN : M t = some (a, .inr (5, [.int sd, .int jn, .ref a1, .ref a2, .int (nI tc), .int dt, .long fd, .long ld]))) {u a_ a1_ a2_ tc_ : Nat} {sd_ jn_ dt_ : Int32} {fd_ ld_ : Int64} {tk_ kd_ : Nat → Int32} (hcN_ : M u = some (a_, .inr (5, [.int sd_, .int jn_, .ref a1_, .ref a2_, .int (nI tc_), .int dt_, .long fd_, .long ld_]))) (hcJ : M tj = some (aj, .inr (3, [.ref a, .ref a_, .int un]))) (h1 : tj ≠ t) (h2 : tj ≠ u) (h3 : t ≠ u) : Met l yX1_takeBack wsX1_takeBack rmX1_takeBack (va_Pc ([.ref aj] : List Value) (xPc G A M)) (va_Qv (fun M1 => M1 = xu (xu (xu M tj (aj, .inr (3, [.ref a, .ref a_, .int (nI 1)]))) t (a, .inr (5, [.int sd, .int (nI 0), .ref a1, .ref a2, .int (nI tc), .int dt, .long fd, .long ld]))) u (a_, .inr (5, [.int sd_, .int (nI 0), .ref a1_, .ref a2_, .int (nI tc_), .int dt_, .long fd_, .long ld_]))) (xPc G A) A) 0 0 A := by
  refine x_met (cc := cX1_takeBack) (maxL := 1) (ret := none) RX1 (by decide) rfl (Nat.le_of_ble_eq_true rfl) rfl ?_
  intro p e s m below meth c hx hb hr hts hown hlocks hml hin hK hA hX ls hl
  have inX1 : ∀ w ∈ wsX10, w ∈ wsX1_takeBack := by decide +kernel
  have inX3 : ∀ w ∈ wsX30, w ∈ wsX1_takeBack := by decide +kernel
  have lk_fieldLink_7 := hts (.fieldLink RX1 7 "Reconcile$Join" "undone" "Z") (by decide +kernel)
  have lk_fieldLink_13 := hts (.fieldLink RX1 13 "Reconcile$Join" "zero" "LReconcile$Name;") (by decide +kernel)
  have lk_fieldLink_20 := hts (.fieldLink RX1 20 "Reconcile$Name" "joined" "Z") (by decide +kernel)
  have lk_fieldLink_17 := hts (.fieldLink RX1 17 "Reconcile$Join" "one" "LReconcile$Name;") (by decide +kernel)
  have hS : va_S A s.heap s.heap [] := va_S.rf
  have hl : lv_has ls 1 [(0, .ref aj)] := hl
  refine lv_aload_n hx hb dX1_takeBack_0 rfl (lv_at hl 0 rfl) ?_
  refine lv_iconst (v := nI 1) hx hb dX1_takeBack_1 (by decide) ?_
  refine x_put (ci := 3) (v := .int (nI 1)) (C := RX1) (T := TX1) (N := 3) hx hb hts inX1 tyX1 tyX1_ok nmX1 hown hK hX hS hcJ rfl 2 (by decide) lk_fieldLink_7 (fun _ h9 => h9) rfl (tyX1_ok 2 (by decide)) rfl rfl (Nat.le_of_ble_eq_true rfl) dX1_takeBack_2 (fun H locs hX hS => ?_)
  obtain ⟨M_1, hM_1⟩ : ∃ zM : xM, zM = xu M tj (aj, .inr (3, [.ref a, .ref a_, .int (nI 1)])) := ⟨_, rfl⟩
  have hX : xw G.1 vwCl A M_1 H := by rw [hM_1]; exact hX
  have hcN : M_1 t = some (a, .inr (5, [.int sd, .int jn, .ref a1, .ref a2, .int (nI tc), .int dt, .long fd, .long ld])) := by rw [hM_1, xu_n (by omega)]; exact hcN
  have hcN_ : M_1 u = some (a_, .inr (5, [.int sd_, .int jn_, .ref a1_, .ref a2_, .int (nI tc_), .int dt_, .long fd_, .long ld_])) := by rw [hM_1, xu_n (by omega)]; exact hcN_
  have hcJ : M_1 tj = some (aj, .inr (3, [.ref a, .ref a_, .int (nI 1)])) := by rw [hM_1]; exact xu_s
  refine lv_aload_n hx hb dX1_takeBack_5 rfl (lv_at hl 0 rfl) ?_
  refine x_get (ci := 3) (v := .ref a) (C := RX1) (T := TX1) (N := 3) hx hb hts inX1 hown hK hX hcJ rfl 0 (by decide) lk_fieldLink_13 (fun _ h9 => h9) rfl dX1_takeBack_6 ?_
  refine lv_iconst (v := nI 0) hx hb dX1_takeBack_9 (by decide) ?_
  refine x_put (ci := 5) (v := .int (nI 0)) (C := RX3) (T := TX3) (N := 8) hx hb hts inX3 tyX3 tyX3_ok nmX3 hown hK hX hS hcN rfl 1 (by decide) lk_fieldLink_20 (fun _ h9 => h9) rfl (tyX3_ok 1 (by decide)) rfl rfl (Nat.le_of_ble_eq_true rfl) dX1_takeBack_10 (fun H locs hX hS => ?_)
  obtain ⟨M_2, hM_2⟩ : ∃ zM : xM, zM = xu M_1 t (a, .inr (5, [.int sd, .int (nI 0), .ref a1, .ref a2, .int (nI tc), .int dt, .long fd, .long ld])) := ⟨_, rfl⟩
  have hX : xw G.1 vwCl A M_2 H := by rw [hM_2]; exact hX
  have hcJ : M_2 tj = some (aj, .inr (3, [.ref a, .ref a_, .int (nI 1)])) := by rw [hM_2, xu_n (by omega)]; exact hcJ
  have hcN_ : M_2 u = some (a_, .inr (5, [.int sd_, .int jn_, .ref a1_, .ref a2_, .int (nI tc_), .int dt_, .long fd_, .long ld_])) := by rw [hM_2, xu_n (by omega)]; exact hcN_
  have hcN : M_2 t = some (a, .inr (5, [.int sd, .int (nI 0), .ref a1, .ref a2, .int (nI tc), .int dt, .long fd, .long ld])) := by rw [hM_2]; exact xu_s
  refine lv_aload_n hx hb dX1_takeBack_13 rfl (lv_at hl 0 rfl) ?_
  refine x_get (ci := 3) (v := .ref a_) (C := RX1) (T := TX1) (N := 3) hx hb hts inX1 hown hK hX hcJ rfl 1 (by decide) lk_fieldLink_17 (fun _ h9 => h9) rfl dX1_takeBack_14 ?_
  refine lv_iconst (v := nI 0) hx hb dX1_takeBack_17 (by decide) ?_
  refine x_put (ci := 5) (v := .int (nI 0)) (C := RX3) (T := TX3) (N := 8) hx hb hts inX3 tyX3 tyX3_ok nmX3 hown hK hX hS hcN_ rfl 1 (by decide) lk_fieldLink_20 (fun _ h9 => h9) rfl (tyX3_ok 1 (by decide)) rfl rfl (Nat.le_of_ble_eq_true rfl) dX1_takeBack_18 (fun H locs hX hS => ?_)
  obtain ⟨M_3, hM_3⟩ : ∃ zM : xM, zM = xu M_2 u (a_, .inr (5, [.int sd_, .int (nI 0), .ref a1_, .ref a2_, .int (nI tc_), .int dt_, .long fd_, .long ld_])) := ⟨_, rfl⟩
  have hX : xw G.1 vwCl A M_3 H := by rw [hM_3]; exact hX
  have hcJ : M_3 tj = some (aj, .inr (3, [.ref a, .ref a_, .int (nI 1)])) := by rw [hM_3, xu_n (by omega)]; exact hcJ
  have hcN : M_3 t = some (a, .inr (5, [.int sd, .int (nI 0), .ref a1, .ref a2, .int (nI tc), .int dt, .long fd, .long ld])) := by rw [hM_3, xu_n (by omega)]; exact hcN
  have hcN_ : M_3 u = some (a_, .inr (5, [.int sd_, .int (nI 0), .ref a1_, .ref a2_, .int (nI tc_), .int dt_, .long fd_, .long ld_])) := by rw [hM_3]; exact xu_s
  exact x_vret hx hb hr hlocks hK hA hX hS dX1_takeBack_21 (by rw [hM_3, hM_2, hM_1])
end
section
/-! Listing -/
theorem upd_n {f : Nat → Nat} {i x : Nat} : upd (fun k => nI (f k)) i (nI x) = fun k => nI (va_up f i x k) := by
  funext j
  by_cases h : j = i
  · subst h; simp [upd, va_up]
  · simp [upd, va_up, h]
theorem updL_n {f : Nat → Nat} {i x : Nat} : vp_updL (fun k => lN (f k)) i (lN x) = fun k => lN (va_up f i x k) := by
  funext j
  by_cases h : j = i
  · subst h; simp [vp_updL, va_up]
  · simp [vp_updL, va_up, h]
def xClr (pr : Nat → Nat) (i : Nat) : Nat → Nat := fun k => if k < i then 0 else pr k
theorem xClr_0 {pr : Nat → Nat} : xClr pr 0 = pr := by funext k; simp [xClr]
theorem xClr_s {pr : Nat → Nat} {i : Nat} : va_up (xClr pr i) i 0 = xClr pr (i + 1) := by
  funext k
  simp only [va_up, xClr]
  by_cases h : k = i
  · rw [if_pos h, if_pos (by omega)]
  · rw [if_neg h]
    by_cases h2 : k < i
    · rw [if_pos h2, if_pos (by omega)]
    · rw [if_neg h2, if_neg (by omega)]
def xScan (P : Nat → Bool) (v : Nat → Int32) (k : Int32) : Nat → Nat → Nat → Int32
  | 0, _, _ => 0
  | f + 1, i, b => if P i then (if nI b = k then v i else xScan P v k f (i + 1) (b + 1)) else xScan P v k f (i + 1) b
theorem xScan_hit {P : Nat → Bool} {v : Nat → Int32} {k : Int32} {f i b : Nat} (h : P i = true) (h2 : nI b = k) (hf : 0 < f) : xScan P v k f i b = v i := by
  obtain ⟨g, rfl⟩ : ∃ g, f = g + 1 := ⟨f - 1, by omega⟩
  simp only [xScan, h, if_true, h2]
theorem xScan_miss {P : Nat → Bool} {v : Nat → Int32} {k : Int32} {f i b : Nat} (h : P i = true) (h2 : ¬ nI b = k) (hf : 0 < f) : xScan P v k f i b = xScan P v k (f - 1) (i + 1) (b + 1) := by
  obtain ⟨g, rfl⟩ : ∃ g, f = g + 1 := ⟨f - 1, by omega⟩
  simp only [xScan, h, if_true, h2, if_false, Nat.add_sub_cancel]
theorem xScan_pass {P : Nat → Bool} {v : Nat → Int32} {k : Int32} {f i b : Nat} (h : P i = false) (hf : 0 < f) : xScan P v k f i b = xScan P v k (f - 1) (i + 1) b := by
  obtain ⟨g, rfl⟩ : ∃ g, f = g + 1 := ⟨f - 1, by omega⟩
  simp only [xScan, h, Bool.false_eq_true, if_false, Nat.add_sub_cancel]
theorem xScan_0 {P : Nat → Bool} {v : Nat → Int32} {k : Int32} {f i b : Nat} (hf : f = 0) : xScan P v k f i b = 0 := by subst hf; rfl
def xGt (ab bl : Nat → Nat) (r o : Nat) : Prop := ab o * bl r < ab r * bl o
def xBest (zs os ab bl od : Nat → Nat) (p n : Nat) : Prop := ∀ q, q < n → ¬ ((zs (od q) = zs (od p) ∨ os (od q) = os (od p)) ∧ xGt ab bl (od q) (od p))
theorem x_mulb {a b : Nat} (ha : a < 1000000000) (hb : b < 1000000000) : a * b < 1000000000000000000 := by
  have h : a * b ≤ 999999999 * 999999999 := Nat.mul_le_mul (by omega) (by omega)
  omega

abbrev rmX2_init : Room := { frames := 1, cells := 7, slots := 3801, locals := 12 }
set_option maxHeartbeats 4000000 in
set_option maxRecDepth 100000 in
/-- Listing() -/
theorem ctX2_init (l : Launch) (G : xG) (A : Nat → Prop) (M : xM) {a4 : Nat} (hcL : M 4 = some (a4, .inr (4, [.int (nI 0), .int (nI 0), .null, .null, .null, .null, .null, .null, .null]))) : Met l yX2_init wsX2_init rmX2_init (va_Pc ([.ref a4] : List Value) (xPc G A M)) (va_Qv (fun M1 => ∃ q6 q7 q8 q9 q10 q11 q12 : Nat, M1 = xu (xu (xu (xu (xu (xu (xu (xu M 6 (q6, .inl (G.2 0, 625, .inl (fun k => nI ((fun _ => 0) k))))) 7 (q7, .inl (G.2 0, 625, .inl (fun k => nI ((fun _ => 0) k))))) 8 (q8, .inl (G.2 1, 625, .inr (.inl (fun k => lN ((fun _ => 0) k)))))) 9 (q9, .inl (G.2 1, 625, .inr (.inl (fun k => lN ((fun _ => 0) k)))))) 10 (q10, .inl (G.2 0, 625, .inl (fun k => nI ((fun _ => 0) k))))) 11 (q11, .inl (G.2 0, 625, .inl (fun k => nI ((fun _ => 0) k))))) 12 (q12, .inl (G.2 2, 51, .inl (fun k => nI ((fun _ => 0) k))))) 4 (a4, .inr (4, [.int (nI 0), .int (nI 0), .ref q6, .ref q7, .ref q8, .ref q9, .ref q10, .ref q11, .ref q12]))) (xPc G A) A) 7 3801 A := by
  refine x_met (cc := cX2_init) (maxL := 1) (ret := none) RX2 (by decide) rfl (Nat.le_of_ble_eq_true rfl) rfl ?_
  intro p e s m below meth c hx hb hr hts hown hlocks hml hin hK hA hX ls hl
  have inX2 : ∀ w ∈ wsX20, w ∈ wsX2_init := by decide +kernel
  have lk_methodLink_3 := hts (.methodLink RX2 3 objectInit) (by decide +kernel)
  have lk_fieldLink_9 := hts (.fieldLink RX2 9 "Reconcile$Listing" "begun" "Z") (by decide +kernel)
  have lk_fieldLink_15 := hts (.fieldLink RX2 15 "Reconcile$Listing" "count" "I") (by decide +kernel)
  have lk_fieldLink_19 := hts (.fieldLink RX2 19 "Reconcile$Listing" "zeros" "[I") (by decide +kernel)
  have lk_fieldLink_23 := hts (.fieldLink RX2 23 "Reconcile$Listing" "ones" "[I") (by decide +kernel)
  have lk_fieldLink_26 := hts (.fieldLink RX2 26 "Reconcile$Listing" "aboves" "[J") (by decide +kernel)
  have lk_fieldLink_30 := hts (.fieldLink RX2 30 "Reconcile$Listing" "belows" "[J") (by decide +kernel)
  have lk_fieldLink_33 := hts (.fieldLink RX2 33 "Reconcile$Listing" "order" "[I") (by decide +kernel)
  have lk_fieldLink_36 := hts (.fieldLink RX2 36 "Reconcile$Listing" "spare" "[I") (by decide +kernel)
  have lk_fieldLink_39 := hts (.fieldLink RX2 39 "Reconcile$Listing" "paired" "[Z") (by decide +kernel)
  have hS : va_S A s.heap s.heap [] := va_S.rf
  have hl : lv_has ls 1 [(0, .ref a4)] := hl
  refine lv_aload_n hx hb dX2_init_0 rfl (lv_at hl 0 rfl) ?_
  refine W.objInit hx hb hown lk_methodLink_3 (hts (.instanceMethod objectInit) (by decide +kernel)) (hts (.code objectInit ⟨#[0xb1]⟩ 1 none) (List.mem_of_getElem? (i := 3) rfl)) rfl (by rw [hml]; exact hl.1) rfl dX2_init_1 (Nat.le_of_ble_eq_true rfl) (Nat.le_of_ble_eq_true rfl) ?_
  refine W.eq (g2 := F0 m 4 ls []) rfl ?_
  refine lv_aload_n hx hb dX2_init_4 rfl (lv_at hl 0 rfl) ?_
  refine lv_iconst (v := nI 0) hx hb dX2_init_5 (by decide) ?_
  refine x_put (ci := 4) (v := .int (nI 0)) (C := RX2) (T := TX2) (N := 9) hx hb hts inX2 tyX2 tyX2_ok nmX2 hown hK hX hS hcL rfl 0 (by decide) lk_fieldLink_9 (fun _ h9 => h9) rfl (tyX2_ok 0 (by decide)) rfl rfl (Nat.le_of_ble_eq_true rfl) dX2_init_6 (fun H locs hX hS => ?_)
  obtain ⟨M_1, hM_1⟩ : ∃ zM : xM, zM = xu M 4 (a4, .inr (4, [.int (nI 0), .int (nI 0), .null, .null, .null, .null, .null, .null, .null])) := ⟨_, rfl⟩
  have hX : xw G.1 vwCl A M_1 H := by rw [hM_1]; exact hX
  have hcL : M_1 4 = some (a4, .inr (4, [.int (nI 0), .int (nI 0), .null, .null, .null, .null, .null, .null, .null])) := by rw [hM_1]; exact xu_s
  refine lv_aload_n hx hb dX2_init_9 rfl (lv_at hl 0 rfl) ?_
  refine lv_iconst (v := nI 0) hx hb dX2_init_10 (by decide) ?_
  refine x_put (ci := 4) (v := .int (nI 0)) (C := RX2) (T := TX2) (N := 9) hx hb hts inX2 tyX2 tyX2_ok nmX2 hown hK hX hS hcL rfl 1 (by decide) lk_fieldLink_15 (fun _ h9 => h9) rfl (tyX2_ok 1 (by decide)) rfl rfl (Nat.le_of_ble_eq_true rfl) dX2_init_11 (fun H locs hX hS => ?_)
  obtain ⟨M_2, hM_2⟩ : ∃ zM : xM, zM = xu M_1 4 (a4, .inr (4, [.int (nI 0), .int (nI 0), .null, .null, .null, .null, .null, .null, .null])) := ⟨_, rfl⟩
  have hX : xw G.1 vwCl A M_2 H := by rw [hM_2]; exact hX
  have hcL : M_2 4 = some (a4, .inr (4, [.int (nI 0), .int (nI 0), .null, .null, .null, .null, .null, .null, .null])) := by rw [hM_2]; exact xu_s
  refine lv_aload_n hx hb dX2_init_14 rfl (lv_at hl 0 rfl) ?_
  refine lv_sipush (v := nI 625) hx hb dX2_init_15 (by decide) ?_
  refine x_newa (atype := .int) (ty := .int) (k := 0) (N' := 625) (a0 := (625, .inl (fun k => nI ((fun _ => 0) k)))) hx hb (hts (.arrayClass .int) (by decide +kernel)) rfl (fun _ h => by cases h) hK hX hS hA rfl (fun _ => rfl) rfl (by omega) (Nat.le_of_ble_eq_true rfl) (Nat.le_of_ble_eq_true rfl) (Nat.le_of_ble_eq_true rfl) dX2_init_18 (6) (fun q_3 H hX hS => ?_)
  obtain ⟨M_4, hM_4⟩ : ∃ zM : xM, zM = xu M_2 6 (q_3, .inl (G.2 0, 625, .inl (fun k => nI ((fun _ => 0) k)))) := ⟨_, rfl⟩
  have hX : xw G.1 vwCl A M_4 H := by rw [hM_4]; exact hX
  have hcL : M_4 4 = some (a4, .inr (4, [.int (nI 0), .int (nI 0), .null, .null, .null, .null, .null, .null, .null])) := by rw [hM_4, xu_n (by omega)]; exact hcL
  have hc6 : M_4 6 = some (q_3, .inl (G.2 0, 625, .inl (fun k => nI ((fun _ => 0) k)))) := by rw [hM_4]; exact xu_s
  refine x_putF (ci := 4) (v := .ref q_3) (C := RX2) (T := TX2) (N := 9) hx hb hts inX2 tyX2 tyX2_ok nmX2 hown hK hX hS hcL rfl 2 (by decide) lk_fieldLink_19 (fun _ h9 => h9) rfl hin rfl (tyX2_ok 2 (by decide)) rfl rfl (Nat.le_of_ble_eq_true rfl) dX2_init_20 (fun H locs hX hS => ?_)
  obtain ⟨M_5, hM_5⟩ : ∃ zM : xM, zM = xu M_4 4 (a4, .inr (4, [.int (nI 0), .int (nI 0), .ref q_3, .null, .null, .null, .null, .null, .null])) := ⟨_, rfl⟩
  have hX : xw G.1 vwCl A M_5 H := by rw [hM_5]; exact hX
  have hc6 : M_5 6 = some (q_3, .inl (G.2 0, 625, .inl (fun k => nI ((fun _ => 0) k)))) := by rw [hM_5, xu_n (by omega)]; exact hc6
  have hcL : M_5 4 = some (a4, .inr (4, [.int (nI 0), .int (nI 0), .ref q_3, .null, .null, .null, .null, .null, .null])) := by rw [hM_5]; exact xu_s
  refine lv_aload_n hx hb dX2_init_23 rfl (lv_at hl 0 rfl) ?_
  refine lv_sipush (v := nI 625) hx hb dX2_init_24 (by decide) ?_
  refine x_newa (atype := .int) (ty := .int) (k := 0) (N' := 625) (a0 := (625, .inl (fun k => nI ((fun _ => 0) k)))) hx hb (hts (.arrayClass .int) (by decide +kernel)) rfl (fun _ h => by cases h) hK hX hS hA rfl (fun _ => rfl) rfl (by omega) (Nat.le_of_ble_eq_true rfl) (Nat.le_of_ble_eq_true rfl) (Nat.le_of_ble_eq_true rfl) dX2_init_27 (7) (fun q_6 H hX hS => ?_)
  obtain ⟨M_7, hM_7⟩ : ∃ zM : xM, zM = xu M_5 7 (q_6, .inl (G.2 0, 625, .inl (fun k => nI ((fun _ => 0) k)))) := ⟨_, rfl⟩
  have hX : xw G.1 vwCl A M_7 H := by rw [hM_7]; exact hX
  have hcL : M_7 4 = some (a4, .inr (4, [.int (nI 0), .int (nI 0), .ref q_3, .null, .null, .null, .null, .null, .null])) := by rw [hM_7, xu_n (by omega)]; exact hcL
  have hc6 : M_7 6 = some (q_3, .inl (G.2 0, 625, .inl (fun k => nI ((fun _ => 0) k)))) := by rw [hM_7, xu_n (by omega)]; exact hc6
  have hc7 : M_7 7 = some (q_6, .inl (G.2 0, 625, .inl (fun k => nI ((fun _ => 0) k)))) := by rw [hM_7]; exact xu_s
  refine x_putF (ci := 4) (v := .ref q_6) (C := RX2) (T := TX2) (N := 9) hx hb hts inX2 tyX2 tyX2_ok nmX2 hown hK hX hS hcL rfl 3 (by decide) lk_fieldLink_23 (fun _ h9 => h9) rfl hin rfl (tyX2_ok 3 (by decide)) rfl rfl (Nat.le_of_ble_eq_true rfl) dX2_init_29 (fun H locs hX hS => ?_)
  obtain ⟨M_8, hM_8⟩ : ∃ zM : xM, zM = xu M_7 4 (a4, .inr (4, [.int (nI 0), .int (nI 0), .ref q_3, .ref q_6, .null, .null, .null, .null, .null])) := ⟨_, rfl⟩
  have hX : xw G.1 vwCl A M_8 H := by rw [hM_8]; exact hX
  have hc6 : M_8 6 = some (q_3, .inl (G.2 0, 625, .inl (fun k => nI ((fun _ => 0) k)))) := by rw [hM_8, xu_n (by omega)]; exact hc6
  have hc7 : M_8 7 = some (q_6, .inl (G.2 0, 625, .inl (fun k => nI ((fun _ => 0) k)))) := by rw [hM_8, xu_n (by omega)]; exact hc7
  have hcL : M_8 4 = some (a4, .inr (4, [.int (nI 0), .int (nI 0), .ref q_3, .ref q_6, .null, .null, .null, .null, .null])) := by rw [hM_8]; exact xu_s
  refine lv_aload_n hx hb dX2_init_32 rfl (lv_at hl 0 rfl) ?_
  refine lv_sipush (v := nI 625) hx hb dX2_init_33 (by decide) ?_
  refine x_newa (atype := .long) (ty := .long) (k := 1) (N' := 625) (a0 := (625, .inr (.inl (fun k => lN ((fun _ => 0) k))))) hx hb (hts (.arrayClass .long) (by decide +kernel)) rfl (fun _ h => by cases h) hK hX hS hA rfl (fun _ => rfl) rfl (by omega) (Nat.le_of_ble_eq_true rfl) (Nat.le_of_ble_eq_true rfl) (Nat.le_of_ble_eq_true rfl) dX2_init_36 (8) (fun q_9 H hX hS => ?_)
  obtain ⟨M_10, hM_10⟩ : ∃ zM : xM, zM = xu M_8 8 (q_9, .inl (G.2 1, 625, .inr (.inl (fun k => lN ((fun _ => 0) k))))) := ⟨_, rfl⟩
  have hX : xw G.1 vwCl A M_10 H := by rw [hM_10]; exact hX
  have hcL : M_10 4 = some (a4, .inr (4, [.int (nI 0), .int (nI 0), .ref q_3, .ref q_6, .null, .null, .null, .null, .null])) := by rw [hM_10, xu_n (by omega)]; exact hcL
  have hc6 : M_10 6 = some (q_3, .inl (G.2 0, 625, .inl (fun k => nI ((fun _ => 0) k)))) := by rw [hM_10, xu_n (by omega)]; exact hc6
  have hc7 : M_10 7 = some (q_6, .inl (G.2 0, 625, .inl (fun k => nI ((fun _ => 0) k)))) := by rw [hM_10, xu_n (by omega)]; exact hc7
  have hc8 : M_10 8 = some (q_9, .inl (G.2 1, 625, .inr (.inl (fun k => lN ((fun _ => 0) k))))) := by rw [hM_10]; exact xu_s
  refine x_putF (ci := 4) (v := .ref q_9) (C := RX2) (T := TX2) (N := 9) hx hb hts inX2 tyX2 tyX2_ok nmX2 hown hK hX hS hcL rfl 4 (by decide) lk_fieldLink_26 (fun _ h9 => h9) rfl hin rfl (tyX2_ok 4 (by decide)) rfl rfl (Nat.le_of_ble_eq_true rfl) dX2_init_38 (fun H locs hX hS => ?_)
  obtain ⟨M_11, hM_11⟩ : ∃ zM : xM, zM = xu M_10 4 (a4, .inr (4, [.int (nI 0), .int (nI 0), .ref q_3, .ref q_6, .ref q_9, .null, .null, .null, .null])) := ⟨_, rfl⟩
  have hX : xw G.1 vwCl A M_11 H := by rw [hM_11]; exact hX
  have hc6 : M_11 6 = some (q_3, .inl (G.2 0, 625, .inl (fun k => nI ((fun _ => 0) k)))) := by rw [hM_11, xu_n (by omega)]; exact hc6
  have hc7 : M_11 7 = some (q_6, .inl (G.2 0, 625, .inl (fun k => nI ((fun _ => 0) k)))) := by rw [hM_11, xu_n (by omega)]; exact hc7
  have hc8 : M_11 8 = some (q_9, .inl (G.2 1, 625, .inr (.inl (fun k => lN ((fun _ => 0) k))))) := by rw [hM_11, xu_n (by omega)]; exact hc8
  have hcL : M_11 4 = some (a4, .inr (4, [.int (nI 0), .int (nI 0), .ref q_3, .ref q_6, .ref q_9, .null, .null, .null, .null])) := by rw [hM_11]; exact xu_s
  refine lv_aload_n hx hb dX2_init_41 rfl (lv_at hl 0 rfl) ?_
  refine lv_sipush (v := nI 625) hx hb dX2_init_42 (by decide) ?_
  refine x_newa (atype := .long) (ty := .long) (k := 1) (N' := 625) (a0 := (625, .inr (.inl (fun k => lN ((fun _ => 0) k))))) hx hb (hts (.arrayClass .long) (by decide +kernel)) rfl (fun _ h => by cases h) hK hX hS hA rfl (fun _ => rfl) rfl (by omega) (Nat.le_of_ble_eq_true rfl) (Nat.le_of_ble_eq_true rfl) (Nat.le_of_ble_eq_true rfl) dX2_init_45 (9) (fun q_12 H hX hS => ?_)
  obtain ⟨M_13, hM_13⟩ : ∃ zM : xM, zM = xu M_11 9 (q_12, .inl (G.2 1, 625, .inr (.inl (fun k => lN ((fun _ => 0) k))))) := ⟨_, rfl⟩
  have hX : xw G.1 vwCl A M_13 H := by rw [hM_13]; exact hX
  have hcL : M_13 4 = some (a4, .inr (4, [.int (nI 0), .int (nI 0), .ref q_3, .ref q_6, .ref q_9, .null, .null, .null, .null])) := by rw [hM_13, xu_n (by omega)]; exact hcL
  have hc6 : M_13 6 = some (q_3, .inl (G.2 0, 625, .inl (fun k => nI ((fun _ => 0) k)))) := by rw [hM_13, xu_n (by omega)]; exact hc6
  have hc7 : M_13 7 = some (q_6, .inl (G.2 0, 625, .inl (fun k => nI ((fun _ => 0) k)))) := by rw [hM_13, xu_n (by omega)]; exact hc7
  have hc8 : M_13 8 = some (q_9, .inl (G.2 1, 625, .inr (.inl (fun k => lN ((fun _ => 0) k))))) := by rw [hM_13, xu_n (by omega)]; exact hc8
  have hc9 : M_13 9 = some (q_12, .inl (G.2 1, 625, .inr (.inl (fun k => lN ((fun _ => 0) k))))) := by rw [hM_13]; exact xu_s
  refine x_putF (ci := 4) (v := .ref q_12) (C := RX2) (T := TX2) (N := 9) hx hb hts inX2 tyX2 tyX2_ok nmX2 hown hK hX hS hcL rfl 5 (by decide) lk_fieldLink_30 (fun _ h9 => h9) rfl hin rfl (tyX2_ok 5 (by decide)) rfl rfl (Nat.le_of_ble_eq_true rfl) dX2_init_47 (fun H locs hX hS => ?_)
  obtain ⟨M_14, hM_14⟩ : ∃ zM : xM, zM = xu M_13 4 (a4, .inr (4, [.int (nI 0), .int (nI 0), .ref q_3, .ref q_6, .ref q_9, .ref q_12, .null, .null, .null])) := ⟨_, rfl⟩
  have hX : xw G.1 vwCl A M_14 H := by rw [hM_14]; exact hX
  have hc6 : M_14 6 = some (q_3, .inl (G.2 0, 625, .inl (fun k => nI ((fun _ => 0) k)))) := by rw [hM_14, xu_n (by omega)]; exact hc6
  have hc7 : M_14 7 = some (q_6, .inl (G.2 0, 625, .inl (fun k => nI ((fun _ => 0) k)))) := by rw [hM_14, xu_n (by omega)]; exact hc7
  have hc8 : M_14 8 = some (q_9, .inl (G.2 1, 625, .inr (.inl (fun k => lN ((fun _ => 0) k))))) := by rw [hM_14, xu_n (by omega)]; exact hc8
  have hc9 : M_14 9 = some (q_12, .inl (G.2 1, 625, .inr (.inl (fun k => lN ((fun _ => 0) k))))) := by rw [hM_14, xu_n (by omega)]; exact hc9
  have hcL : M_14 4 = some (a4, .inr (4, [.int (nI 0), .int (nI 0), .ref q_3, .ref q_6, .ref q_9, .ref q_12, .null, .null, .null])) := by rw [hM_14]; exact xu_s
  refine lv_aload_n hx hb dX2_init_50 rfl (lv_at hl 0 rfl) ?_
  refine lv_sipush (v := nI 625) hx hb dX2_init_51 (by decide) ?_
  refine x_newa (atype := .int) (ty := .int) (k := 0) (N' := 625) (a0 := (625, .inl (fun k => nI ((fun _ => 0) k)))) hx hb (hts (.arrayClass .int) (by decide +kernel)) rfl (fun _ h => by cases h) hK hX hS hA rfl (fun _ => rfl) rfl (by omega) (Nat.le_of_ble_eq_true rfl) (Nat.le_of_ble_eq_true rfl) (Nat.le_of_ble_eq_true rfl) dX2_init_54 (10) (fun q_15 H hX hS => ?_)
  obtain ⟨M_16, hM_16⟩ : ∃ zM : xM, zM = xu M_14 10 (q_15, .inl (G.2 0, 625, .inl (fun k => nI ((fun _ => 0) k)))) := ⟨_, rfl⟩
  have hX : xw G.1 vwCl A M_16 H := by rw [hM_16]; exact hX
  have hcL : M_16 4 = some (a4, .inr (4, [.int (nI 0), .int (nI 0), .ref q_3, .ref q_6, .ref q_9, .ref q_12, .null, .null, .null])) := by rw [hM_16, xu_n (by omega)]; exact hcL
  have hc6 : M_16 6 = some (q_3, .inl (G.2 0, 625, .inl (fun k => nI ((fun _ => 0) k)))) := by rw [hM_16, xu_n (by omega)]; exact hc6
  have hc7 : M_16 7 = some (q_6, .inl (G.2 0, 625, .inl (fun k => nI ((fun _ => 0) k)))) := by rw [hM_16, xu_n (by omega)]; exact hc7
  have hc8 : M_16 8 = some (q_9, .inl (G.2 1, 625, .inr (.inl (fun k => lN ((fun _ => 0) k))))) := by rw [hM_16, xu_n (by omega)]; exact hc8
  have hc9 : M_16 9 = some (q_12, .inl (G.2 1, 625, .inr (.inl (fun k => lN ((fun _ => 0) k))))) := by rw [hM_16, xu_n (by omega)]; exact hc9
  have hc10 : M_16 10 = some (q_15, .inl (G.2 0, 625, .inl (fun k => nI ((fun _ => 0) k)))) := by rw [hM_16]; exact xu_s
  refine x_putF (ci := 4) (v := .ref q_15) (C := RX2) (T := TX2) (N := 9) hx hb hts inX2 tyX2 tyX2_ok nmX2 hown hK hX hS hcL rfl 6 (by decide) lk_fieldLink_33 (fun _ h9 => h9) rfl hin rfl (tyX2_ok 6 (by decide)) rfl rfl (Nat.le_of_ble_eq_true rfl) dX2_init_56 (fun H locs hX hS => ?_)
  obtain ⟨M_17, hM_17⟩ : ∃ zM : xM, zM = xu M_16 4 (a4, .inr (4, [.int (nI 0), .int (nI 0), .ref q_3, .ref q_6, .ref q_9, .ref q_12, .ref q_15, .null, .null])) := ⟨_, rfl⟩
  have hX : xw G.1 vwCl A M_17 H := by rw [hM_17]; exact hX
  have hc6 : M_17 6 = some (q_3, .inl (G.2 0, 625, .inl (fun k => nI ((fun _ => 0) k)))) := by rw [hM_17, xu_n (by omega)]; exact hc6
  have hc7 : M_17 7 = some (q_6, .inl (G.2 0, 625, .inl (fun k => nI ((fun _ => 0) k)))) := by rw [hM_17, xu_n (by omega)]; exact hc7
  have hc8 : M_17 8 = some (q_9, .inl (G.2 1, 625, .inr (.inl (fun k => lN ((fun _ => 0) k))))) := by rw [hM_17, xu_n (by omega)]; exact hc8
  have hc9 : M_17 9 = some (q_12, .inl (G.2 1, 625, .inr (.inl (fun k => lN ((fun _ => 0) k))))) := by rw [hM_17, xu_n (by omega)]; exact hc9
  have hc10 : M_17 10 = some (q_15, .inl (G.2 0, 625, .inl (fun k => nI ((fun _ => 0) k)))) := by rw [hM_17, xu_n (by omega)]; exact hc10
  have hcL : M_17 4 = some (a4, .inr (4, [.int (nI 0), .int (nI 0), .ref q_3, .ref q_6, .ref q_9, .ref q_12, .ref q_15, .null, .null])) := by rw [hM_17]; exact xu_s
  refine lv_aload_n hx hb dX2_init_59 rfl (lv_at hl 0 rfl) ?_
  refine lv_sipush (v := nI 625) hx hb dX2_init_60 (by decide) ?_
  refine x_newa (atype := .int) (ty := .int) (k := 0) (N' := 625) (a0 := (625, .inl (fun k => nI ((fun _ => 0) k)))) hx hb (hts (.arrayClass .int) (by decide +kernel)) rfl (fun _ h => by cases h) hK hX hS hA rfl (fun _ => rfl) rfl (by omega) (Nat.le_of_ble_eq_true rfl) (Nat.le_of_ble_eq_true rfl) (Nat.le_of_ble_eq_true rfl) dX2_init_63 (11) (fun q_18 H hX hS => ?_)
  obtain ⟨M_19, hM_19⟩ : ∃ zM : xM, zM = xu M_17 11 (q_18, .inl (G.2 0, 625, .inl (fun k => nI ((fun _ => 0) k)))) := ⟨_, rfl⟩
  have hX : xw G.1 vwCl A M_19 H := by rw [hM_19]; exact hX
  have hcL : M_19 4 = some (a4, .inr (4, [.int (nI 0), .int (nI 0), .ref q_3, .ref q_6, .ref q_9, .ref q_12, .ref q_15, .null, .null])) := by rw [hM_19, xu_n (by omega)]; exact hcL
  have hc6 : M_19 6 = some (q_3, .inl (G.2 0, 625, .inl (fun k => nI ((fun _ => 0) k)))) := by rw [hM_19, xu_n (by omega)]; exact hc6
  have hc7 : M_19 7 = some (q_6, .inl (G.2 0, 625, .inl (fun k => nI ((fun _ => 0) k)))) := by rw [hM_19, xu_n (by omega)]; exact hc7
  have hc8 : M_19 8 = some (q_9, .inl (G.2 1, 625, .inr (.inl (fun k => lN ((fun _ => 0) k))))) := by rw [hM_19, xu_n (by omega)]; exact hc8
  have hc9 : M_19 9 = some (q_12, .inl (G.2 1, 625, .inr (.inl (fun k => lN ((fun _ => 0) k))))) := by rw [hM_19, xu_n (by omega)]; exact hc9
  have hc10 : M_19 10 = some (q_15, .inl (G.2 0, 625, .inl (fun k => nI ((fun _ => 0) k)))) := by rw [hM_19, xu_n (by omega)]; exact hc10
  have hc11 : M_19 11 = some (q_18, .inl (G.2 0, 625, .inl (fun k => nI ((fun _ => 0) k)))) := by rw [hM_19]; exact xu_s
  refine x_putF (ci := 4) (v := .ref q_18) (C := RX2) (T := TX2) (N := 9) hx hb hts inX2 tyX2 tyX2_ok nmX2 hown hK hX hS hcL rfl 7 (by decide) lk_fieldLink_36 (fun _ h9 => h9) rfl hin rfl (tyX2_ok 7 (by decide)) rfl rfl (Nat.le_of_ble_eq_true rfl) dX2_init_65 (fun H locs hX hS => ?_)
  obtain ⟨M_20, hM_20⟩ : ∃ zM : xM, zM = xu M_19 4 (a4, .inr (4, [.int (nI 0), .int (nI 0), .ref q_3, .ref q_6, .ref q_9, .ref q_12, .ref q_15, .ref q_18, .null])) := ⟨_, rfl⟩
  have hX : xw G.1 vwCl A M_20 H := by rw [hM_20]; exact hX
  have hc6 : M_20 6 = some (q_3, .inl (G.2 0, 625, .inl (fun k => nI ((fun _ => 0) k)))) := by rw [hM_20, xu_n (by omega)]; exact hc6
  have hc7 : M_20 7 = some (q_6, .inl (G.2 0, 625, .inl (fun k => nI ((fun _ => 0) k)))) := by rw [hM_20, xu_n (by omega)]; exact hc7
  have hc8 : M_20 8 = some (q_9, .inl (G.2 1, 625, .inr (.inl (fun k => lN ((fun _ => 0) k))))) := by rw [hM_20, xu_n (by omega)]; exact hc8
  have hc9 : M_20 9 = some (q_12, .inl (G.2 1, 625, .inr (.inl (fun k => lN ((fun _ => 0) k))))) := by rw [hM_20, xu_n (by omega)]; exact hc9
  have hc10 : M_20 10 = some (q_15, .inl (G.2 0, 625, .inl (fun k => nI ((fun _ => 0) k)))) := by rw [hM_20, xu_n (by omega)]; exact hc10
  have hc11 : M_20 11 = some (q_18, .inl (G.2 0, 625, .inl (fun k => nI ((fun _ => 0) k)))) := by rw [hM_20, xu_n (by omega)]; exact hc11
  have hcL : M_20 4 = some (a4, .inr (4, [.int (nI 0), .int (nI 0), .ref q_3, .ref q_6, .ref q_9, .ref q_12, .ref q_15, .ref q_18, .null])) := by rw [hM_20]; exact xu_s
  refine lv_aload_n hx hb dX2_init_68 rfl (lv_at hl 0 rfl) ?_
  refine lv_bipush (v := nI 51) hx hb dX2_init_69 (by decide) ?_
  refine x_newa (atype := .boolean) (ty := .boolean) (k := 2) (N' := 51) (a0 := (51, .inl (fun k => nI ((fun _ => 0) k)))) hx hb (hts (.arrayClass .boolean) (by decide +kernel)) rfl (fun _ h => by cases h) hK hX hS hA rfl (fun _ => rfl) rfl (by omega) (Nat.le_of_ble_eq_true rfl) (Nat.le_of_ble_eq_true rfl) (Nat.le_of_ble_eq_true rfl) dX2_init_71 (12) (fun q_21 H hX hS => ?_)
  obtain ⟨M_22, hM_22⟩ : ∃ zM : xM, zM = xu M_20 12 (q_21, .inl (G.2 2, 51, .inl (fun k => nI ((fun _ => 0) k)))) := ⟨_, rfl⟩
  have hX : xw G.1 vwCl A M_22 H := by rw [hM_22]; exact hX
  have hcL : M_22 4 = some (a4, .inr (4, [.int (nI 0), .int (nI 0), .ref q_3, .ref q_6, .ref q_9, .ref q_12, .ref q_15, .ref q_18, .null])) := by rw [hM_22, xu_n (by omega)]; exact hcL
  have hc6 : M_22 6 = some (q_3, .inl (G.2 0, 625, .inl (fun k => nI ((fun _ => 0) k)))) := by rw [hM_22, xu_n (by omega)]; exact hc6
  have hc7 : M_22 7 = some (q_6, .inl (G.2 0, 625, .inl (fun k => nI ((fun _ => 0) k)))) := by rw [hM_22, xu_n (by omega)]; exact hc7
  have hc8 : M_22 8 = some (q_9, .inl (G.2 1, 625, .inr (.inl (fun k => lN ((fun _ => 0) k))))) := by rw [hM_22, xu_n (by omega)]; exact hc8
  have hc9 : M_22 9 = some (q_12, .inl (G.2 1, 625, .inr (.inl (fun k => lN ((fun _ => 0) k))))) := by rw [hM_22, xu_n (by omega)]; exact hc9
  have hc10 : M_22 10 = some (q_15, .inl (G.2 0, 625, .inl (fun k => nI ((fun _ => 0) k)))) := by rw [hM_22, xu_n (by omega)]; exact hc10
  have hc11 : M_22 11 = some (q_18, .inl (G.2 0, 625, .inl (fun k => nI ((fun _ => 0) k)))) := by rw [hM_22, xu_n (by omega)]; exact hc11
  have hc12 : M_22 12 = some (q_21, .inl (G.2 2, 51, .inl (fun k => nI ((fun _ => 0) k)))) := by rw [hM_22]; exact xu_s
  refine x_putF (ci := 4) (v := .ref q_21) (C := RX2) (T := TX2) (N := 9) hx hb hts inX2 tyX2 tyX2_ok nmX2 hown hK hX hS hcL rfl 8 (by decide) lk_fieldLink_39 (fun _ h9 => h9) rfl hin rfl (tyX2_ok 8 (by decide)) rfl rfl (Nat.le_of_ble_eq_true rfl) dX2_init_73 (fun H locs hX hS => ?_)
  obtain ⟨M_23, hM_23⟩ : ∃ zM : xM, zM = xu M_22 4 (a4, .inr (4, [.int (nI 0), .int (nI 0), .ref q_3, .ref q_6, .ref q_9, .ref q_12, .ref q_15, .ref q_18, .ref q_21])) := ⟨_, rfl⟩
  have hX : xw G.1 vwCl A M_23 H := by rw [hM_23]; exact hX
  have hc6 : M_23 6 = some (q_3, .inl (G.2 0, 625, .inl (fun k => nI ((fun _ => 0) k)))) := by rw [hM_23, xu_n (by omega)]; exact hc6
  have hc7 : M_23 7 = some (q_6, .inl (G.2 0, 625, .inl (fun k => nI ((fun _ => 0) k)))) := by rw [hM_23, xu_n (by omega)]; exact hc7
  have hc8 : M_23 8 = some (q_9, .inl (G.2 1, 625, .inr (.inl (fun k => lN ((fun _ => 0) k))))) := by rw [hM_23, xu_n (by omega)]; exact hc8
  have hc9 : M_23 9 = some (q_12, .inl (G.2 1, 625, .inr (.inl (fun k => lN ((fun _ => 0) k))))) := by rw [hM_23, xu_n (by omega)]; exact hc9
  have hc10 : M_23 10 = some (q_15, .inl (G.2 0, 625, .inl (fun k => nI ((fun _ => 0) k)))) := by rw [hM_23, xu_n (by omega)]; exact hc10
  have hc11 : M_23 11 = some (q_18, .inl (G.2 0, 625, .inl (fun k => nI ((fun _ => 0) k)))) := by rw [hM_23, xu_n (by omega)]; exact hc11
  have hc12 : M_23 12 = some (q_21, .inl (G.2 2, 51, .inl (fun k => nI ((fun _ => 0) k)))) := by rw [hM_23, xu_n (by omega)]; exact hc12
  have hcL : M_23 4 = some (a4, .inr (4, [.int (nI 0), .int (nI 0), .ref q_3, .ref q_6, .ref q_9, .ref q_12, .ref q_15, .ref q_18, .ref q_21])) := by rw [hM_23]; exact xu_s
  refine W.widen (k := 7) (n := 3801) (by omega) (by omega) ?_
  exact x_vret hx hb hr hlocks hK hA hX hS dX2_init_76 (⟨q_3, q_6, q_9, q_12, q_15, q_18, q_21, by rw [hM_23, hM_22, hM_20, hM_19, hM_17, hM_16, hM_14, hM_13, hM_11, hM_10, hM_8, hM_7, hM_5, hM_4, hM_2, hM_1]; simp only [x_uu]; rw [x_uc (t := 4) (t' := 6) (by omega)]; simp only [x_uu]; rw [x_uc (t := 4) (t' := 7) (by omega)]; simp only [x_uu]; rw [x_uc (t := 4) (t' := 8) (by omega)]; simp only [x_uu]; rw [x_uc (t := 4) (t' := 9) (by omega)]; simp only [x_uu]; rw [x_uc (t := 4) (t' := 10) (by omega)]; simp only [x_uu]; rw [x_uc (t := 4) (t' := 11) (by omega)]; simp only [x_uu]; rw [x_uc (t := 4) (t' := 12) (by omega)]; simp only [x_uu]⟩)

abbrev rmX2_size : Room := { frames := 0, cells := 0, slots := 0, locals := 0 }
set_option maxHeartbeats 4000000 in
set_option maxRecDepth 100000 in
/-- Listing.size -/
theorem ctX2_size (l : Launch) (G : xG) (A : Nat → Prop) (M : xM) {bg : Int32} {cn a4 a6 a7 a8 a9 a10 a11 a12 : Nat} {zs os ab bl od sp pr : Nat → Nat} (hcL : M 4 = some (a4, .inr (4, [.int bg, .int (nI cn), .ref a6, .ref a7, .ref a8, .ref a9, .ref a10, .ref a11, .ref a12]))) (hc6 : M 6 = some (a6, .inl (G.2 0, 625, .inl (fun k => nI (zs k))))) (hc7 : M 7 = some (a7, .inl (G.2 0, 625, .inl (fun k => nI (os k))))) (hc8 : M 8 = some (a8, .inl (G.2 1, 625, .inr (.inl (fun k => lN (ab k)))))) (hc9 : M 9 = some (a9, .inl (G.2 1, 625, .inr (.inl (fun k => lN (bl k)))))) (hc10 : M 10 = some (a10, .inl (G.2 0, 625, .inl (fun k => nI (od k))))) (hc11 : M 11 = some (a11, .inl (G.2 0, 625, .inl (fun k => nI (sp k))))) (hc12 : M 12 = some (a12, .inl (G.2 2, 51, .inl (fun k => nI (pr k))))) (hcn : cn ≤ 625) : Met l yX2_size wsX2_size rmX2_size (va_Pc ([.ref a4] : List Value) (xPc G A M)) (va_Qi (fun r M1 => M1 = M ∧ r = nI cn) (xPc G A) A) 0 0 A := by
  refine x_met (cc := cX2_size) (maxL := 1) (ret := (some .int)) RX2 (by decide) rfl (Nat.le_of_ble_eq_true rfl) rfl ?_
  intro p e s m below meth c hx hb hr hts hown hlocks hml hin hK hA hX ls hl
  have inX2 : ∀ w ∈ wsX20, w ∈ wsX2_size := by decide +kernel
  have lk_fieldLink_15 := hts (.fieldLink RX2 15 "Reconcile$Listing" "count" "I") (by decide +kernel)
  have hS : va_S A s.heap s.heap [] := va_S.rf
  have hl : lv_has ls 1 [(0, .ref a4)] := hl
  refine lv_aload_n hx hb dX2_size_0 rfl (lv_at hl 0 rfl) ?_
  refine x_get (ci := 4) (v := .int (nI cn)) (C := RX2) (T := TX2) (N := 9) hx hb hts inX2 hown hK hX hcL rfl 1 (by decide) lk_fieldLink_15 (fun _ h9 => h9) rfl dX2_size_1 ?_
  exact x_iret hx hb hr hlocks hK hA hX hS dX2_size_4 (⟨rfl, rfl⟩)

abbrev rmX2_holds : Room := { frames := 0, cells := 0, slots := 0, locals := 0 }
set_option maxHeartbeats 4000000 in
set_option maxRecDepth 100000 in
/-- Listing.holds -/
theorem ctX2_holds (l : Launch) (G : xG) (A : Nat → Prop) (M : xM) {bg : Int32} {cn a4 a6 a7 a8 a9 a10 a11 a12 : Nat} {zs os ab bl od sp pr : Nat → Nat} (hcL : M 4 = some (a4, .inr (4, [.int bg, .int (nI cn), .ref a6, .ref a7, .ref a8, .ref a9, .ref a10, .ref a11, .ref a12]))) (hc6 : M 6 = some (a6, .inl (G.2 0, 625, .inl (fun k => nI (zs k))))) (hc7 : M 7 = some (a7, .inl (G.2 0, 625, .inl (fun k => nI (os k))))) (hc8 : M 8 = some (a8, .inl (G.2 1, 625, .inr (.inl (fun k => lN (ab k)))))) (hc9 : M 9 = some (a9, .inl (G.2 1, 625, .inr (.inl (fun k => lN (bl k)))))) (hc10 : M 10 = some (a10, .inl (G.2 0, 625, .inl (fun k => nI (od k))))) (hc11 : M 11 = some (a11, .inl (G.2 0, 625, .inl (fun k => nI (sp k))))) (hc12 : M 12 = some (a12, .inl (G.2 2, 51, .inl (fun k => nI (pr k))))) (hcn : cn ≤ 625) (p0 : Int32) : Met l yX2_holds wsX2_holds rmX2_holds (va_Pc ([.ref a4, .int p0] : List Value) (xPc G A M)) (va_Qi (fun r M1 => M1 = M ∧ r = if ¬ p0 < 0 ∧ ¬ nI cn ≤ p0 then 1 else 0) (xPc G A) A) 0 0 A := by
  refine x_met (cc := cX2_holds) (maxL := 2) (ret := (some .boolean)) RX2 (by decide) rfl (Nat.le_of_ble_eq_true rfl) rfl ?_
  intro p e s m below meth c hx hb hr hts hown hlocks hml hin hK hA hX ls hl
  have inX2 : ∀ w ∈ wsX20, w ∈ wsX2_holds := by decide +kernel
  have lk_fieldLink_15 := hts (.fieldLink RX2 15 "Reconcile$Listing" "count" "I") (by decide +kernel)
  have hS : va_S A s.heap s.heap [] := va_S.rf
  have hl : lv_has ls 2 [(0, .ref a4), (1, .int p0)] := hl
  refine lv_iload_n hx hb dX2_holds_0 rfl (lv_at hl 1 rfl) ?_
  refine lv_if_lt (tgt := 16) hx hb dX2_holds_1 (by decide) (fun c_1 => ?_) (fun c_1 => ?_)
  · refine lv_iconst (v := nI 0) hx hb dX2_holds_16 (by decide) ?_
    exact x_zret hx hb hr hlocks hK hA hX hS dX2_holds_17 rfl (⟨rfl, by split <;> first | rfl | (rename_i q; exfalso; first | omega | exact q (by and_intros <;> first | assumption | omega) | exact absurd q.1 (by assumption) | exact absurd q.2 (by assumption) | exact absurd q.2.1 (by assumption) | exact absurd q.2.2 (by assumption) | exact absurd (by assumption) q.1 | exact absurd (by assumption) q.2 | exact absurd (by assumption) q.2.1 | exact absurd (by assumption) q.2.2 | exact absurd q.1.1 (by assumption) | exact absurd q.1.2 (by assumption))⟩)
  · refine lv_iload_n hx hb dX2_holds_4 rfl (lv_at hl 1 rfl) ?_
    refine lv_aload_n hx hb dX2_holds_5 rfl (lv_at hl 0 rfl) ?_
    refine x_get (ci := 4) (v := .int (nI cn)) (C := RX2) (T := TX2) (N := 9) hx hb hts inX2 hown hK hX hcL rfl 1 (by decide) lk_fieldLink_15 (fun _ h9 => h9) rfl dX2_holds_6 ?_
    refine lv_icmp_ge (tgt := 16) hx hb dX2_holds_9 (by decide) (fun c_2 => ?_) (fun c_2 => ?_)
    · refine lv_iconst (v := nI 0) hx hb dX2_holds_16 (by decide) ?_
      exact x_zret hx hb hr hlocks hK hA hX hS dX2_holds_17 rfl (⟨rfl, by split <;> first | rfl | (rename_i q; exfalso; first | omega | exact q (by and_intros <;> first | assumption | omega) | exact absurd q.1 (by assumption) | exact absurd q.2 (by assumption) | exact absurd q.2.1 (by assumption) | exact absurd q.2.2 (by assumption) | exact absurd (by assumption) q.1 | exact absurd (by assumption) q.2 | exact absurd (by assumption) q.2.1 | exact absurd (by assumption) q.2.2 | exact absurd q.1.1 (by assumption) | exact absurd q.1.2 (by assumption))⟩)
    · refine lv_iconst (v := nI 1) hx hb dX2_holds_12 (by decide) ?_
      refine lv_goto (tgt := 17) hx hb dX2_holds_13 (by decide) ?_
      exact x_zret hx hb hr hlocks hK hA hX hS dX2_holds_17 rfl (⟨rfl, by split <;> first | rfl | (rename_i q; exfalso; first | omega | exact q (by and_intros <;> first | assumption | omega) | exact absurd q.1 (by assumption) | exact absurd q.2 (by assumption) | exact absurd q.2.1 (by assumption) | exact absurd q.2.2 (by assumption) | exact absurd (by assumption) q.1 | exact absurd (by assumption) q.2 | exact absurd (by assumption) q.2.1 | exact absurd (by assumption) q.2.2 | exact absurd q.1.1 (by assumption) | exact absurd q.1.2 (by assumption))⟩)

abbrev rmX2_hasName : Room := { frames := 0, cells := 0, slots := 0, locals := 0 }
set_option maxHeartbeats 4000000 in
set_option maxRecDepth 100000 in
/-- Listing.hasName -/
theorem ctX2_hasName (l : Launch) (G : xG) (A : Nat → Prop) (M : xM) {bg : Int32} {cn a4 a6 a7 a8 a9 a10 a11 a12 : Nat} {zs os ab bl od sp pr : Nat → Nat} (hcL : M 4 = some (a4, .inr (4, [.int bg, .int (nI cn), .ref a6, .ref a7, .ref a8, .ref a9, .ref a10, .ref a11, .ref a12]))) (hc6 : M 6 = some (a6, .inl (G.2 0, 625, .inl (fun k => nI (zs k))))) (hc7 : M 7 = some (a7, .inl (G.2 0, 625, .inl (fun k => nI (os k))))) (hc8 : M 8 = some (a8, .inl (G.2 1, 625, .inr (.inl (fun k => lN (ab k)))))) (hc9 : M 9 = some (a9, .inl (G.2 1, 625, .inr (.inl (fun k => lN (bl k)))))) (hc10 : M 10 = some (a10, .inl (G.2 0, 625, .inl (fun k => nI (od k))))) (hc11 : M 11 = some (a11, .inl (G.2 0, 625, .inl (fun k => nI (sp k))))) (hc12 : M 12 = some (a12, .inl (G.2 2, 51, .inl (fun k => nI (pr k))))) (hcn : cn ≤ 625) (nn : Nat) (hnn : nn ≤ 50) (hpr : ∀ j, j ≤ 50 → pr j ≤ 1) : Met l yX2_hasName wsX2_hasName rmX2_hasName (va_Pc ([.ref a4, .int (nI nn)] : List Value) (xPc G A M)) (va_Qi (fun r M1 => M1 = M ∧ r = if pr nn = 0 then 0 else 1) (xPc G A) A) 0 0 A := by
  refine x_met (cc := cX2_hasName) (maxL := 2) (ret := (some .boolean)) RX2 (by decide) rfl (Nat.le_of_ble_eq_true rfl) rfl ?_
  intro p e s m below meth c hx hb hr hts hown hlocks hml hin hK hA hX ls hl
  have inX2 : ∀ w ∈ wsX20, w ∈ wsX2_hasName := by decide +kernel
  have lk_fieldLink_39 := hts (.fieldLink RX2 39 "Reconcile$Listing" "paired" "[Z") (by decide +kernel)
  have hS : va_S A s.heap s.heap [] := va_S.rf
  have hl : lv_has ls 2 [(0, .ref a4), (1, .int (nI nn))] := hl
  have hprn := hpr nn hnn
  refine lv_iload_n hx hb dX2_hasName_0 rfl (lv_at hl 1 rfl) ?_
  refine lv_if_lt (tgt := 23) hx hb dX2_hasName_1 (by decide) (fun c_1 => ?_) (fun c_1 => ?_)
  · have c_1 : nn < 0 := (nI_ltI (a := nn) (b := 0) (by omega) (by omega)).mp c_1
    exact absurd c_1 (by omega)
  · have c_1 : ¬ (nn < 0) := fun q => c_1 ((nI_ltI (a := nn) (b := 0) (by omega) (by omega)).mpr q)
    refine lv_iload_n hx hb dX2_hasName_4 rfl (lv_at hl 1 rfl) ?_
    refine lv_bipush (v := nI 50) hx hb dX2_hasName_5 (by decide) ?_
    refine lv_icmp_gt (tgt := 23) hx hb dX2_hasName_7 (by decide) (fun c_2 => ?_) (fun c_2 => ?_)
    · have c_2 : 50 < nn := (nI_ltI (by omega) (by omega)).mp c_2
      exact absurd c_2 (by omega)
    · have c_2 : ¬ (50 < nn) := fun q => c_2 ((nI_ltI (by omega) (by omega)).mpr q)
      refine lv_aload_n hx hb dX2_hasName_10 rfl (lv_at hl 0 rfl) ?_
      refine x_get (ci := 4) (v := .ref a12) (C := RX2) (T := TX2) (N := 9) hx hb hts inX2 hown hK hX hcL rfl 8 (by decide) lk_fieldLink_39 (fun _ h9 => h9) rfl dX2_hasName_11 ?_
      refine lv_iload_n hx hb dX2_hasName_14 rfl (lv_at hl 1 rfl) ?_
      refine x_zN hx hb hK hX hc12 (by omega) (by decide) dX2_hasName_15 ?_
      refine lv_if_eq (tgt := 23) hx hb dX2_hasName_16 (by decide) (fun c_3 => ?_) (fun c_3 => ?_)
      · have c_3 : (pr nn) = 0 := (nI_eq (a := (pr nn)) (b := 0) (by omega) (by omega)).mp c_3
        refine lv_iconst (v := nI 0) hx hb dX2_hasName_23 (by decide) ?_
        exact x_zret hx hb hr hlocks hK hA hX hS dX2_hasName_24 rfl (⟨rfl, by split <;> first | rfl | (rename_i q; exfalso; omega)⟩)
      · have c_3 : ¬ ((pr nn) = 0) := fun q => c_3 ((nI_eq (a := (pr nn)) (b := 0) (by omega) (by omega)).mpr q)
        refine lv_iconst (v := nI 1) hx hb dX2_hasName_19 (by decide) ?_
        refine lv_goto (tgt := 24) hx hb dX2_hasName_20 (by decide) ?_
        exact x_zret hx hb hr hlocks hK hA hX hS dX2_hasName_24 rfl (⟨rfl, by split <;> first | rfl | (rename_i q; exfalso; omega)⟩)

abbrev rmX2_nameAt : Room := { frames := 0, cells := 0, slots := 0, locals := 0 }
set_option maxHeartbeats 4000000 in
set_option maxRecDepth 100000 in
/-- Listing.nameAt -/
theorem ctX2_nameAt (l : Launch) (G : xG) (A : Nat → Prop) (M : xM) {bg : Int32} {cn a4 a6 a7 a8 a9 a10 a11 a12 : Nat} {zs os ab bl od sp pr : Nat → Nat} (hcL : M 4 = some (a4, .inr (4, [.int bg, .int (nI cn), .ref a6, .ref a7, .ref a8, .ref a9, .ref a10, .ref a11, .ref a12]))) (hc6 : M 6 = some (a6, .inl (G.2 0, 625, .inl (fun k => nI (zs k))))) (hc7 : M 7 = some (a7, .inl (G.2 0, 625, .inl (fun k => nI (os k))))) (hc8 : M 8 = some (a8, .inl (G.2 1, 625, .inr (.inl (fun k => lN (ab k)))))) (hc9 : M 9 = some (a9, .inl (G.2 1, 625, .inr (.inl (fun k => lN (bl k)))))) (hc10 : M 10 = some (a10, .inl (G.2 0, 625, .inl (fun k => nI (od k))))) (hc11 : M 11 = some (a11, .inl (G.2 0, 625, .inl (fun k => nI (sp k))))) (hc12 : M 12 = some (a12, .inl (G.2 2, 51, .inl (fun k => nI (pr k))))) (hcn : cn ≤ 625) (ip : Nat) (p1 : Int32) (hip : ip < 625) (hod : od ip < 625) : Met l yX2_nameAt wsX2_nameAt rmX2_nameAt (va_Pc ([.ref a4, .int (nI ip), .int p1] : List Value) (xPc G A M)) (va_Qi (fun r M1 => M1 = M ∧ r = if p1 = nI 1 then nI (os (od ip)) else nI (zs (od ip))) (xPc G A) A) 0 0 A := by
  refine x_met (cc := cX2_nameAt) (maxL := 4) (ret := (some .int)) RX2 (by decide) rfl (Nat.le_of_ble_eq_true rfl) rfl ?_
  intro p e s m below meth c hx hb hr hts hown hlocks hml hin hK hA hX ls hl
  have inX2 : ∀ w ∈ wsX20, w ∈ wsX2_nameAt := by decide +kernel
  have lk_fieldLink_33 := hts (.fieldLink RX2 33 "Reconcile$Listing" "order" "[I") (by decide +kernel)
  have lk_fieldLink_19 := hts (.fieldLink RX2 19 "Reconcile$Listing" "zeros" "[I") (by decide +kernel)
  have lk_fieldLink_23 := hts (.fieldLink RX2 23 "Reconcile$Listing" "ones" "[I") (by decide +kernel)
  have hS : va_S A s.heap s.heap [] := va_S.rf
  have hl : lv_has ls 4 [(0, .ref a4), (1, .int (nI ip)), (2, .int p1)] := hl
  have hod2 : od ip < 625 := hod
  refine lv_aload_n hx hb dX2_nameAt_0 rfl (lv_at hl 0 rfl) ?_
  refine x_get (ci := 4) (v := .ref a10) (C := RX2) (T := TX2) (N := 9) hx hb hts inX2 hown hK hX hcL rfl 6 (by decide) lk_fieldLink_33 (fun _ h9 => h9) rfl dX2_nameAt_1 ?_
  refine lv_iload_n hx hb dX2_nameAt_4 rfl (lv_at hl 1 rfl) ?_
  refine x_iN hx hb hK hX hc10 (by omega) (by decide) dX2_nameAt_5 ?_
  refine lv_istore_n (lv' := [(3, .int (nI (od ip))), (0, .ref a4), (1, .int (nI ip)), (2, .int p1)]) hx hb dX2_nameAt_6 rfl hl (by decide) rfl (fun ls hl => ?_)
  refine lv_iload_n hx hb dX2_nameAt_7 rfl (lv_at hl 3 rfl) ?_
  refine lv_iconst (v := nI 1) hx hb dX2_nameAt_8 (by decide) ?_
  refine lv_icmp_ne (tgt := 21) hx hb dX2_nameAt_9 (by decide) (fun c_1 => ?_) (fun c_1 => ?_)
  · refine lv_aload_n hx hb dX2_nameAt_21 rfl (lv_at hl 1 rfl) ?_
    refine x_get (ci := 4) (v := .ref a6) (C := RX2) (T := TX2) (N := 9) hx hb hts inX2 hown hK hX hcL rfl 2 (by decide) lk_fieldLink_19 (fun _ h9 => h9) rfl dX2_nameAt_22 ?_
    refine lv_iload_n hx hb dX2_nameAt_25 rfl (lv_at hl 0 rfl) ?_
    refine x_iN hx hb hK hX hc6 (by omega) (by decide) dX2_nameAt_26 ?_
    exact x_iret hx hb hr hlocks hK hA hX hS dX2_nameAt_27 (⟨rfl, by rw [if_neg c_1]⟩)
  · refine lv_aload_n hx hb dX2_nameAt_12 rfl (lv_at hl 1 rfl) ?_
    refine x_get (ci := 4) (v := .ref a7) (C := RX2) (T := TX2) (N := 9) hx hb hts inX2 hown hK hX hcL rfl 3 (by decide) lk_fieldLink_23 (fun _ h9 => h9) rfl dX2_nameAt_13 ?_
    refine lv_iload_n hx hb dX2_nameAt_16 rfl (lv_at hl 0 rfl) ?_
    refine x_iN hx hb hK hX hc7 (by omega) (by decide) dX2_nameAt_17 ?_
    refine lv_goto (tgt := 27) hx hb dX2_nameAt_18 (by decide) ?_
    exact x_iret hx hb hr hlocks hK hA hX hS dX2_nameAt_27 (⟨rfl, by rw [if_pos c_1]⟩)

abbrev rmX2_isGreater : Room := { frames := 0, cells := 0, slots := 0, locals := 0 }
set_option maxHeartbeats 4000000 in
set_option maxRecDepth 100000 in
/-- Listing.isGreater -/
theorem ctX2_isGreater (l : Launch) (G : xG) (A : Nat → Prop) (M : xM) {bg : Int32} {cn a4 a6 a7 a8 a9 a10 a11 a12 : Nat} {zs os ab bl od sp pr : Nat → Nat} (hcL : M 4 = some (a4, .inr (4, [.int bg, .int (nI cn), .ref a6, .ref a7, .ref a8, .ref a9, .ref a10, .ref a11, .ref a12]))) (hc6 : M 6 = some (a6, .inl (G.2 0, 625, .inl (fun k => nI (zs k))))) (hc7 : M 7 = some (a7, .inl (G.2 0, 625, .inl (fun k => nI (os k))))) (hc8 : M 8 = some (a8, .inl (G.2 1, 625, .inr (.inl (fun k => lN (ab k)))))) (hc9 : M 9 = some (a9, .inl (G.2 1, 625, .inr (.inl (fun k => lN (bl k)))))) (hc10 : M 10 = some (a10, .inl (G.2 0, 625, .inl (fun k => nI (od k))))) (hc11 : M 11 = some (a11, .inl (G.2 0, 625, .inl (fun k => nI (sp k))))) (hc12 : M 12 = some (a12, .inl (G.2 2, 51, .inl (fun k => nI (pr k))))) (hcn : cn ≤ 625) (ra rb : Nat) (hra : ra < 625) (hrb : rb < 625) (hA1 : ab ra < 1000000000) (hA2 : ab rb < 1000000000) (hB1 : bl ra < 1000000000) (hB2 : bl rb < 1000000000) : Met l yX2_isGreater wsX2_isGreater rmX2_isGreater (va_Pc ([.ref a4, .int (nI ra), .int (nI rb)] : List Value) (xPc G A M)) (va_Qi (fun r M1 => M1 = M ∧ (r = 0 ∧ ¬ xGt ab bl ra rb ∨ r = 1 ∧ xGt ab bl ra rb)) (xPc G A) A) 0 0 A := by
  refine x_met (cc := cX2_isGreater) (maxL := 3) (ret := (some .boolean)) RX2 (by decide) rfl (Nat.le_of_ble_eq_true rfl) rfl ?_
  intro p e s m below meth c hx hb hr hts hown hlocks hml hin hK hA hX ls hl
  have inX2 : ∀ w ∈ wsX20, w ∈ wsX2_isGreater := by decide +kernel
  have lk_fieldLink_26 := hts (.fieldLink RX2 26 "Reconcile$Listing" "aboves" "[J") (by decide +kernel)
  have lk_fieldLink_30 := hts (.fieldLink RX2 30 "Reconcile$Listing" "belows" "[J") (by decide +kernel)
  have hS : va_S A s.heap s.heap [] := va_S.rf
  have hl : lv_has ls 3 [(0, .ref a4), (1, .int (nI ra)), (2, .int (nI rb))] := hl
  have hm1 := x_mulb hA1 hB2
  have hm2 := x_mulb hA2 hB1
  refine lv_aload_n hx hb dX2_isGreater_0 rfl (lv_at hl 0 rfl) ?_
  refine x_get (ci := 4) (v := .ref a8) (C := RX2) (T := TX2) (N := 9) hx hb hts inX2 hown hK hX hcL rfl 4 (by decide) lk_fieldLink_26 (fun _ h9 => h9) rfl dX2_isGreater_1 ?_
  refine lv_iload_n hx hb dX2_isGreater_4 rfl (lv_at hl 1 rfl) ?_
  refine x_lN hx hb hK hX hc8 (by omega) (by decide) dX2_isGreater_5 ?_
  refine lv_aload_n hx hb dX2_isGreater_6 rfl (lv_at hl 0 rfl) ?_
  refine x_get (ci := 4) (v := .ref a9) (C := RX2) (T := TX2) (N := 9) hx hb hts inX2 hown hK hX hcL rfl 5 (by decide) lk_fieldLink_30 (fun _ h9 => h9) rfl dX2_isGreater_7 ?_
  refine lv_iload_n hx hb dX2_isGreater_10 rfl (lv_at hl 2 rfl) ?_
  refine x_lN hx hb hK hX hc9 (by omega) (by decide) dX2_isGreater_11 ?_
  refine lv_lmul hx hb dX2_isGreater_12 ?_
  refine x_rl (lN_mul _ _) ?_
  refine lv_aload_n hx hb dX2_isGreater_13 rfl (lv_at hl 0 rfl) ?_
  refine x_get (ci := 4) (v := .ref a8) (C := RX2) (T := TX2) (N := 9) hx hb hts inX2 hown hK hX hcL rfl 4 (by decide) lk_fieldLink_26 (fun _ h9 => h9) rfl dX2_isGreater_14 ?_
  refine lv_iload_n hx hb dX2_isGreater_17 rfl (lv_at hl 2 rfl) ?_
  refine x_lN hx hb hK hX hc8 (by omega) (by decide) dX2_isGreater_18 ?_
  refine lv_aload_n hx hb dX2_isGreater_19 rfl (lv_at hl 0 rfl) ?_
  refine x_get (ci := 4) (v := .ref a9) (C := RX2) (T := TX2) (N := 9) hx hb hts inX2 hown hK hX hcL rfl 5 (by decide) lk_fieldLink_30 (fun _ h9 => h9) rfl dX2_isGreater_20 ?_
  refine lv_iload_n hx hb dX2_isGreater_23 rfl (lv_at hl 1 rfl) ?_
  refine x_lN hx hb hK hX hc9 (by omega) (by decide) dX2_isGreater_24 ?_
  refine lv_lmul hx hb dX2_isGreater_25 ?_
  refine x_rl (lN_mul _ _) ?_
  refine W.lcmp hx hb dX2_isGreater_26 ?_
  refine x_lc_le (tgt := 34) hx hb dX2_isGreater_27 (by decide) (fun c_1 => ?_) (fun c_1 => ?_)
  · have c_1 : ((ab ra) * (bl rb)) ≤ ((ab rb) * (bl ra)) := (pk_lLE (by omega) (by omega)).mp c_1
    refine lv_iconst (v := nI 0) hx hb dX2_isGreater_34 (by decide) ?_
    exact x_zret hx hb hr hlocks hK hA hX hS dX2_isGreater_35 rfl (⟨rfl, Or.inl ⟨rfl, fun q => by unfold xGt at q; omega⟩⟩)
  · have c_1 : ¬ (((ab ra) * (bl rb)) ≤ ((ab rb) * (bl ra))) := fun q => c_1 ((pk_lLE (by omega) (by omega)).mpr q)
    refine lv_iconst (v := nI 1) hx hb dX2_isGreater_30 (by decide) ?_
    refine lv_goto (tgt := 35) hx hb dX2_isGreater_31 (by decide) ?_
    exact x_zret hx hb hr hlocks hK hA hX hS dX2_isGreater_35 rfl (⟨rfl, Or.inr ⟨rfl, by unfold xGt; omega⟩⟩)

abbrev rmX2_begin : Room := { frames := 0, cells := 0, slots := 0, locals := 0 }
set_option maxHeartbeats 4000000 in
set_option maxRecDepth 100000 in
/-- Listing.begin -/
theorem ctX2_begin (l : Launch) (G : xG) (A : Nat → Prop) (M : xM) {bg : Int32} {cn a4 a6 a7 a8 a9 a10 a11 a12 : Nat} {zs os ab bl od sp pr : Nat → Nat} (hcL : M 4 = some (a4, .inr (4, [.int bg, .int (nI cn), .ref a6, .ref a7, .ref a8, .ref a9, .ref a10, .ref a11, .ref a12]))) (hc6 : M 6 = some (a6, .inl (G.2 0, 625, .inl (fun k => nI (zs k))))) (hc7 : M 7 = some (a7, .inl (G.2 0, 625, .inl (fun k => nI (os k))))) (hc8 : M 8 = some (a8, .inl (G.2 1, 625, .inr (.inl (fun k => lN (ab k)))))) (hc9 : M 9 = some (a9, .inl (G.2 1, 625, .inr (.inl (fun k => lN (bl k)))))) (hc10 : M 10 = some (a10, .inl (G.2 0, 625, .inl (fun k => nI (od k))))) (hc11 : M 11 = some (a11, .inl (G.2 0, 625, .inl (fun k => nI (sp k))))) (hc12 : M 12 = some (a12, .inl (G.2 2, 51, .inl (fun k => nI (pr k))))) (hcn : cn ≤ 625) : Met l yX2_begin wsX2_begin rmX2_begin (va_Pc ([.ref a4] : List Value) (xPc G A M)) (va_Qv (fun M1 => M1 = xu (xu M 4 (a4, .inr (4, [.int (nI 1), .int (nI 0), .ref a6, .ref a7, .ref a8, .ref a9, .ref a10, .ref a11, .ref a12]))) 12 (a12, .inl (G.2 2, 51, .inl (fun k => nI (xClr pr 51 k))))) (xPc G A) A) 0 0 A := by
  refine x_met (cc := cX2_begin) (maxL := 2) (ret := none) RX2 (by decide) rfl (Nat.le_of_ble_eq_true rfl) rfl ?_
  intro p e s m below meth c hx hb hr hts hown hlocks hml hin hK hA hX ls hl
  have inX2 : ∀ w ∈ wsX20, w ∈ wsX2_begin := by decide +kernel
  have lk_fieldLink_9 := hts (.fieldLink RX2 9 "Reconcile$Listing" "begun" "Z") (by decide +kernel)
  have lk_fieldLink_15 := hts (.fieldLink RX2 15 "Reconcile$Listing" "count" "I") (by decide +kernel)
  have lk_fieldLink_39 := hts (.fieldLink RX2 39 "Reconcile$Listing" "paired" "[Z") (by decide +kernel)
  have hS : va_S A s.heap s.heap [] := va_S.rf
  have hl : lv_has ls 2 [(0, .ref a4)] := hl
  refine lv_aload_n hx hb dX2_begin_0 rfl (lv_at hl 0 rfl) ?_
  refine lv_iconst (v := nI 1) hx hb dX2_begin_1 (by decide) ?_
  refine x_put (ci := 4) (v := .int (nI 1)) (C := RX2) (T := TX2) (N := 9) hx hb hts inX2 tyX2 tyX2_ok nmX2 hown hK hX hS hcL rfl 0 (by decide) lk_fieldLink_9 (fun _ h9 => h9) rfl (tyX2_ok 0 (by decide)) rfl rfl (Nat.le_of_ble_eq_true rfl) dX2_begin_2 (fun H locs hX hS => ?_)
  obtain ⟨M_1, hM_1⟩ : ∃ zM : xM, zM = xu M 4 (a4, .inr (4, [.int (nI 1), .int (nI cn), .ref a6, .ref a7, .ref a8, .ref a9, .ref a10, .ref a11, .ref a12])) := ⟨_, rfl⟩
  have hX : xw G.1 vwCl A M_1 H := by rw [hM_1]; exact hX
  have hc6 : M_1 6 = some (a6, .inl (G.2 0, 625, .inl (fun k => nI (zs k)))) := by rw [hM_1, xu_n (by omega)]; exact hc6
  have hc7 : M_1 7 = some (a7, .inl (G.2 0, 625, .inl (fun k => nI (os k)))) := by rw [hM_1, xu_n (by omega)]; exact hc7
  have hc8 : M_1 8 = some (a8, .inl (G.2 1, 625, .inr (.inl (fun k => lN (ab k))))) := by rw [hM_1, xu_n (by omega)]; exact hc8
  have hc9 : M_1 9 = some (a9, .inl (G.2 1, 625, .inr (.inl (fun k => lN (bl k))))) := by rw [hM_1, xu_n (by omega)]; exact hc9
  have hc10 : M_1 10 = some (a10, .inl (G.2 0, 625, .inl (fun k => nI (od k)))) := by rw [hM_1, xu_n (by omega)]; exact hc10
  have hc11 : M_1 11 = some (a11, .inl (G.2 0, 625, .inl (fun k => nI (sp k)))) := by rw [hM_1, xu_n (by omega)]; exact hc11
  have hc12 : M_1 12 = some (a12, .inl (G.2 2, 51, .inl (fun k => nI (pr k)))) := by rw [hM_1, xu_n (by omega)]; exact hc12
  have hcL : M_1 4 = some (a4, .inr (4, [.int (nI 1), .int (nI cn), .ref a6, .ref a7, .ref a8, .ref a9, .ref a10, .ref a11, .ref a12])) := by rw [hM_1]; exact xu_s
  refine lv_aload_n hx hb dX2_begin_5 rfl (lv_at hl 0 rfl) ?_
  refine lv_iconst (v := nI 0) hx hb dX2_begin_6 (by decide) ?_
  refine x_put (ci := 4) (v := .int (nI 0)) (C := RX2) (T := TX2) (N := 9) hx hb hts inX2 tyX2 tyX2_ok nmX2 hown hK hX hS hcL rfl 1 (by decide) lk_fieldLink_15 (fun _ h9 => h9) rfl (tyX2_ok 1 (by decide)) rfl rfl (Nat.le_of_ble_eq_true rfl) dX2_begin_7 (fun H locs hX hS => ?_)
  obtain ⟨M_2, hM_2⟩ : ∃ zM : xM, zM = xu M_1 4 (a4, .inr (4, [.int (nI 1), .int (nI 0), .ref a6, .ref a7, .ref a8, .ref a9, .ref a10, .ref a11, .ref a12])) := ⟨_, rfl⟩
  have hX : xw G.1 vwCl A M_2 H := by rw [hM_2]; exact hX
  have hc6 : M_2 6 = some (a6, .inl (G.2 0, 625, .inl (fun k => nI (zs k)))) := by rw [hM_2, xu_n (by omega)]; exact hc6
  have hc7 : M_2 7 = some (a7, .inl (G.2 0, 625, .inl (fun k => nI (os k)))) := by rw [hM_2, xu_n (by omega)]; exact hc7
  have hc8 : M_2 8 = some (a8, .inl (G.2 1, 625, .inr (.inl (fun k => lN (ab k))))) := by rw [hM_2, xu_n (by omega)]; exact hc8
  have hc9 : M_2 9 = some (a9, .inl (G.2 1, 625, .inr (.inl (fun k => lN (bl k))))) := by rw [hM_2, xu_n (by omega)]; exact hc9
  have hc10 : M_2 10 = some (a10, .inl (G.2 0, 625, .inl (fun k => nI (od k)))) := by rw [hM_2, xu_n (by omega)]; exact hc10
  have hc11 : M_2 11 = some (a11, .inl (G.2 0, 625, .inl (fun k => nI (sp k)))) := by rw [hM_2, xu_n (by omega)]; exact hc11
  have hc12 : M_2 12 = some (a12, .inl (G.2 2, 51, .inl (fun k => nI (pr k)))) := by rw [hM_2, xu_n (by omega)]; exact hc12
  have hcL : M_2 4 = some (a4, .inr (4, [.int (nI 1), .int (nI 0), .ref a6, .ref a7, .ref a8, .ref a9, .ref a10, .ref a11, .ref a12])) := by rw [hM_2]; exact xu_s
  refine lv_iconst (v := nI 0) hx hb dX2_begin_10 (by decide) ?_
  refine lv_istore_n (lv' := [(1, .int (nI 0)), (0, .ref a4)]) hx hb dX2_begin_11 rfl hl (by decide) rfl (fun ls hl => ?_)
  have loop : ∀ (n : Nat) (i : Nat) (M9 : xM) (H : Heap) (locs : List Loc) (ls : Array Slot), 51 < i + n → (i ≤ 51) → M9 = xu M_2 12 (a12, .inl (G.2 2, 51, .inl (fun k => nI (xClr pr i k)))) → xw G.1 vwCl A M9 H → va_S A s.heap H locs → lv_has ls 2 [(1, .int (nI i)), (0, .ref a4)] → W p l e rmX2_begin s m ([.ref a4] : List Value).toArray below meth c H locs 0 0 (MQ below (va_Qv (fun M1 => M1 = xu (xu M 4 (a4, .inr (4, [.int (nI 1), .int (nI 0), .ref a6, .ref a7, .ref a8, .ref a9, .ref a10, .ref a11, .ref a12]))) 12 (a12, .inl (G.2 2, 51, .inl (fun k => nI (xClr pr 51 k))))) (xPc G A) A) ([.ref a4] : List Value).toArray s 0 0 A) (F0 m 12 ls []) := by
    intro n
    induction n with
    | zero => intro i M9 H locs ls hn0 hi; exact absurd hn0 (by omega)
    | succ n ih =>
      intro i M9 H locs ls hn0 hi hM9 hX hS hl
      have hcL : M9 4 = some (a4, .inr (4, [.int (nI 1), .int (nI 0), .ref a6, .ref a7, .ref a8, .ref a9, .ref a10, .ref a11, .ref a12])) := by rw [hM9, xu_n (by omega)]; exact hcL
      have hc6 : M9 6 = some (a6, .inl (G.2 0, 625, .inl (fun k => nI (zs k)))) := by rw [hM9, xu_n (by omega)]; exact hc6
      have hc7 : M9 7 = some (a7, .inl (G.2 0, 625, .inl (fun k => nI (os k)))) := by rw [hM9, xu_n (by omega)]; exact hc7
      have hc8 : M9 8 = some (a8, .inl (G.2 1, 625, .inr (.inl (fun k => lN (ab k))))) := by rw [hM9, xu_n (by omega)]; exact hc8
      have hc9 : M9 9 = some (a9, .inl (G.2 1, 625, .inr (.inl (fun k => lN (bl k))))) := by rw [hM9, xu_n (by omega)]; exact hc9
      have hc10 : M9 10 = some (a10, .inl (G.2 0, 625, .inl (fun k => nI (od k)))) := by rw [hM9, xu_n (by omega)]; exact hc10
      have hc11 : M9 11 = some (a11, .inl (G.2 0, 625, .inl (fun k => nI (sp k)))) := by rw [hM9, xu_n (by omega)]; exact hc11
      have hc12 : M9 12 = some (a12, .inl (G.2 2, 51, .inl (fun k => nI (xClr pr i k)))) := by rw [hM9]; exact xu_s
      refine lv_iload_n hx hb dX2_begin_12 rfl (lv_at hl 0 rfl) ?_
      refine lv_bipush (v := nI 50) hx hb dX2_begin_13 (by decide) ?_
      refine lv_icmp_gt (tgt := 31) hx hb dX2_begin_15 (by decide) (fun c_3 => ?_) (fun c_3 => ?_)
      · have c_3 : 50 < i := (nI_ltI (by omega) (by omega)).mp c_3
        exact x_vret hx hb hr hlocks hK hA hX hS dX2_begin_31 (by rw [hM9, show i = 51 by omega, hM_2, hM_1, x_uu])
      · have c_3 : ¬ (50 < i) := fun q => c_3 ((nI_ltI (by omega) (by omega)).mpr q)
        refine lv_aload_n hx hb dX2_begin_18 rfl (lv_at hl 1 rfl) ?_
        refine x_get (ci := 4) (v := .ref a12) (C := RX2) (T := TX2) (N := 9) hx hb hts inX2 hown hK hX hcL rfl 8 (by decide) lk_fieldLink_39 (fun _ h9 => h9) rfl dX2_begin_19 ?_
        refine lv_iload_n hx hb dX2_begin_22 rfl (lv_at hl 0 rfl) ?_
        refine lv_iconst (v := nI 0) hx hb dX2_begin_23 (by decide) ?_
        refine x_zsN (x' := nI 0) hx hb hK hX hS (by decide) hc12 (by omega) (by decide) dX2_begin_24 (fun H locs hX hS => ?_)
        rw [upd_n] at hX
        obtain ⟨M_4, hM_4⟩ : ∃ zM : xM, zM = xu M9 12 (a12, .inl (G.2 2, 51, .inl (fun k => nI ((va_up (xClr pr i) i 0) k)))) := ⟨_, rfl⟩
        have hX : xw G.1 vwCl A M_4 H := by rw [hM_4]; exact hX
        have hcL : M_4 4 = some (a4, .inr (4, [.int (nI 1), .int (nI 0), .ref a6, .ref a7, .ref a8, .ref a9, .ref a10, .ref a11, .ref a12])) := by rw [hM_4, xu_n (by omega)]; exact hcL
        have hc6 : M_4 6 = some (a6, .inl (G.2 0, 625, .inl (fun k => nI (zs k)))) := by rw [hM_4, xu_n (by omega)]; exact hc6
        have hc7 : M_4 7 = some (a7, .inl (G.2 0, 625, .inl (fun k => nI (os k)))) := by rw [hM_4, xu_n (by omega)]; exact hc7
        have hc8 : M_4 8 = some (a8, .inl (G.2 1, 625, .inr (.inl (fun k => lN (ab k))))) := by rw [hM_4, xu_n (by omega)]; exact hc8
        have hc9 : M_4 9 = some (a9, .inl (G.2 1, 625, .inr (.inl (fun k => lN (bl k))))) := by rw [hM_4, xu_n (by omega)]; exact hc9
        have hc10 : M_4 10 = some (a10, .inl (G.2 0, 625, .inl (fun k => nI (od k)))) := by rw [hM_4, xu_n (by omega)]; exact hc10
        have hc11 : M_4 11 = some (a11, .inl (G.2 0, 625, .inl (fun k => nI (sp k)))) := by rw [hM_4, xu_n (by omega)]; exact hc11
        have hc12 : M_4 12 = some (a12, .inl (G.2 2, 51, .inl (fun k => nI ((va_up (xClr pr i) i 0) k)))) := by rw [hM_4]; exact xu_s
        refine lv_iinc (v := nI (i + 1)) (lv' := [(1, .int (nI (i + 1))), (0, .ref a4)]) hx hb dX2_begin_25 hl (k := 0) rfl (show nI i + Int32.ofInt 1 = _ from nI_add _ 1) (by decide) rfl (fun ls hl => ?_)
        refine lv_goto (tgt := 12) hx hb dX2_begin_28 (by decide) ?_
        exact ih (i + 1) M_4 _ _ ls (by omega) (by omega) (by rw [hM_4, hM9, x_uu, xClr_s]) hX hS (lv_sub hl [0, 1] rfl)
  exact loop 52 0 M_2 _ _ ls (by omega) (by omega) (by rw [xClr_0]; exact (x_us hc12).symm) hX hS (lv_sub hl [0, 1] rfl)

abbrev rmX2_add : Room := { frames := 0, cells := 0, slots := 0, locals := 0 }
set_option maxHeartbeats 4000000 in
set_option maxRecDepth 100000 in
/-- Listing.add -/
theorem ctX2_add (l : Launch) (G : xG) (A : Nat → Prop) (M : xM) {bg : Int32} {cn a4 a6 a7 a8 a9 a10 a11 a12 : Nat} {zs os ab bl od sp pr : Nat → Nat} (hcL : M 4 = some (a4, .inr (4, [.int bg, .int (nI cn), .ref a6, .ref a7, .ref a8, .ref a9, .ref a10, .ref a11, .ref a12]))) (hc6 : M 6 = some (a6, .inl (G.2 0, 625, .inl (fun k => nI (zs k))))) (hc7 : M 7 = some (a7, .inl (G.2 0, 625, .inl (fun k => nI (os k))))) (hc8 : M 8 = some (a8, .inl (G.2 1, 625, .inr (.inl (fun k => lN (ab k)))))) (hc9 : M 9 = some (a9, .inl (G.2 1, 625, .inr (.inl (fun k => lN (bl k)))))) (hc10 : M 10 = some (a10, .inl (G.2 0, 625, .inl (fun k => nI (od k))))) (hc11 : M 11 = some (a11, .inl (G.2 0, 625, .inl (fun k => nI (sp k))))) (hc12 : M 12 = some (a12, .inl (G.2 2, 51, .inl (fun k => nI (pr k))))) (hcn : cn ≤ 625) {a5 an bn : Nat} (hcF : M 5 = some (a5, .inr (2, [.long (lN an), .long (lN bn)]))) (z o : Nat) (hz : z ≤ 50) (ho : o ≤ 50) (hlt : cn < 625) : Met l yX2_add wsX2_add rmX2_add (va_Pc ([.ref a4, .int (nI z), .int (nI o), .ref a5] : List Value) (xPc G A M)) (va_Qv (fun M1 => M1 = xu (xu (xu (xu (xu (xu (xu M 6 (a6, .inl (G.2 0, 625, .inl (fun k => nI ((va_up zs cn z) k))))) 7 (a7, .inl (G.2 0, 625, .inl (fun k => nI ((va_up os cn o) k))))) 8 (a8, .inl (G.2 1, 625, .inr (.inl (fun k => lN ((va_up ab cn an) k)))))) 9 (a9, .inl (G.2 1, 625, .inr (.inl (fun k => lN ((va_up bl cn bn) k)))))) 10 (a10, .inl (G.2 0, 625, .inl (fun k => nI ((va_up od cn cn) k))))) 12 (a12, .inl (G.2 2, 51, .inl (fun k => nI ((va_up (va_up pr z 1) o 1) k))))) 4 (a4, .inr (4, [.int bg, .int (nI (cn + 1)), .ref a6, .ref a7, .ref a8, .ref a9, .ref a10, .ref a11, .ref a12]))) (xPc G A) A) 0 0 A := by
  refine x_met (cc := cX2_add) (maxL := 4) (ret := none) RX2 (by decide) rfl (Nat.le_of_ble_eq_true rfl) rfl ?_
  intro p e s m below meth c hx hb hr hts hown hlocks hml hin hK hA hX ls hl
  have inX0 : ∀ w ∈ wsX00, w ∈ wsX2_add := by decide +kernel
  have inX2 : ∀ w ∈ wsX20, w ∈ wsX2_add := by decide +kernel
  have lk_fieldLink_15 := hts (.fieldLink RX2 15 "Reconcile$Listing" "count" "I") (by decide +kernel)
  have lk_fieldLink_19 := hts (.fieldLink RX2 19 "Reconcile$Listing" "zeros" "[I") (by decide +kernel)
  have lk_fieldLink_23 := hts (.fieldLink RX2 23 "Reconcile$Listing" "ones" "[I") (by decide +kernel)
  have lk_fieldLink_26 := hts (.fieldLink RX2 26 "Reconcile$Listing" "aboves" "[J") (by decide +kernel)
  have lk_fieldLink_43 := hts (.fieldLink RX2 43 "Reconcile$Fraction" "above" "J") (by decide +kernel)
  have lk_fieldLink_30 := hts (.fieldLink RX2 30 "Reconcile$Listing" "belows" "[J") (by decide +kernel)
  have lk_fieldLink_49 := hts (.fieldLink RX2 49 "Reconcile$Fraction" "below" "J") (by decide +kernel)
  have lk_fieldLink_33 := hts (.fieldLink RX2 33 "Reconcile$Listing" "order" "[I") (by decide +kernel)
  have lk_fieldLink_39 := hts (.fieldLink RX2 39 "Reconcile$Listing" "paired" "[Z") (by decide +kernel)
  have hS : va_S A s.heap s.heap [] := va_S.rf
  have hl : lv_has ls 4 [(0, .ref a4), (1, .int (nI z)), (2, .int (nI o)), (3, .ref a5)] := hl
  refine lv_aload_n hx hb dX2_add_0 rfl (lv_at hl 0 rfl) ?_
  refine x_get (ci := 4) (v := .int (nI cn)) (C := RX2) (T := TX2) (N := 9) hx hb hts inX2 hown hK hX hcL rfl 1 (by decide) lk_fieldLink_15 (fun _ h9 => h9) rfl dX2_add_1 ?_
  refine lv_sipush (v := nI 625) hx hb dX2_add_4 (by decide) ?_
  refine lv_icmp_lt (tgt := 11) hx hb dX2_add_7 (by decide) (fun c_1 => ?_) (fun c_1 => ?_)
  · have c_1 : cn < 625 := (nI_ltI (by omega) (by omega)).mp c_1
    refine lv_aload_n hx hb dX2_add_11 rfl (lv_at hl 0 rfl) ?_
    refine x_get (ci := 4) (v := .ref a6) (C := RX2) (T := TX2) (N := 9) hx hb hts inX2 hown hK hX hcL rfl 2 (by decide) lk_fieldLink_19 (fun _ h9 => h9) rfl dX2_add_12 ?_
    refine lv_aload_n hx hb dX2_add_15 rfl (lv_at hl 0 rfl) ?_
    refine x_get (ci := 4) (v := .int (nI cn)) (C := RX2) (T := TX2) (N := 9) hx hb hts inX2 hown hK hX hcL rfl 1 (by decide) lk_fieldLink_15 (fun _ h9 => h9) rfl dX2_add_16 ?_
    refine lv_iload_n hx hb dX2_add_19 rfl (lv_at hl 1 rfl) ?_
    refine x_isN hx hb hK hX hS hc6 (by omega) (by decide) dX2_add_20 (fun H locs hX hS => ?_)
    rw [upd_n] at hX
    obtain ⟨M_2, hM_2⟩ : ∃ zM : xM, zM = xu M 6 (a6, .inl (G.2 0, 625, .inl (fun k => nI ((va_up zs cn z) k)))) := ⟨_, rfl⟩
    have hX : xw G.1 vwCl A M_2 H := by rw [hM_2]; exact hX
    have hcL : M_2 4 = some (a4, .inr (4, [.int bg, .int (nI cn), .ref a6, .ref a7, .ref a8, .ref a9, .ref a10, .ref a11, .ref a12])) := by rw [hM_2, xu_n (by omega)]; exact hcL
    have hc7 : M_2 7 = some (a7, .inl (G.2 0, 625, .inl (fun k => nI (os k)))) := by rw [hM_2, xu_n (by omega)]; exact hc7
    have hc8 : M_2 8 = some (a8, .inl (G.2 1, 625, .inr (.inl (fun k => lN (ab k))))) := by rw [hM_2, xu_n (by omega)]; exact hc8
    have hc9 : M_2 9 = some (a9, .inl (G.2 1, 625, .inr (.inl (fun k => lN (bl k))))) := by rw [hM_2, xu_n (by omega)]; exact hc9
    have hc10 : M_2 10 = some (a10, .inl (G.2 0, 625, .inl (fun k => nI (od k)))) := by rw [hM_2, xu_n (by omega)]; exact hc10
    have hc11 : M_2 11 = some (a11, .inl (G.2 0, 625, .inl (fun k => nI (sp k)))) := by rw [hM_2, xu_n (by omega)]; exact hc11
    have hc12 : M_2 12 = some (a12, .inl (G.2 2, 51, .inl (fun k => nI (pr k)))) := by rw [hM_2, xu_n (by omega)]; exact hc12
    have hcF : M_2 5 = some (a5, .inr (2, [.long (lN an), .long (lN bn)])) := by rw [hM_2, xu_n (by omega)]; exact hcF
    have hc6 : M_2 6 = some (a6, .inl (G.2 0, 625, .inl (fun k => nI ((va_up zs cn z) k)))) := by rw [hM_2]; exact xu_s
    refine lv_aload_n hx hb dX2_add_21 rfl (lv_at hl 0 rfl) ?_
    refine x_get (ci := 4) (v := .ref a7) (C := RX2) (T := TX2) (N := 9) hx hb hts inX2 hown hK hX hcL rfl 3 (by decide) lk_fieldLink_23 (fun _ h9 => h9) rfl dX2_add_22 ?_
    refine lv_aload_n hx hb dX2_add_25 rfl (lv_at hl 0 rfl) ?_
    refine x_get (ci := 4) (v := .int (nI cn)) (C := RX2) (T := TX2) (N := 9) hx hb hts inX2 hown hK hX hcL rfl 1 (by decide) lk_fieldLink_15 (fun _ h9 => h9) rfl dX2_add_26 ?_
    refine lv_iload_n hx hb dX2_add_29 rfl (lv_at hl 2 rfl) ?_
    refine x_isN hx hb hK hX hS hc7 (by omega) (by decide) dX2_add_30 (fun H locs hX hS => ?_)
    rw [upd_n] at hX
    obtain ⟨M_3, hM_3⟩ : ∃ zM : xM, zM = xu M_2 7 (a7, .inl (G.2 0, 625, .inl (fun k => nI ((va_up os cn o) k)))) := ⟨_, rfl⟩
    have hX : xw G.1 vwCl A M_3 H := by rw [hM_3]; exact hX
    have hcL : M_3 4 = some (a4, .inr (4, [.int bg, .int (nI cn), .ref a6, .ref a7, .ref a8, .ref a9, .ref a10, .ref a11, .ref a12])) := by rw [hM_3, xu_n (by omega)]; exact hcL
    have hc6 : M_3 6 = some (a6, .inl (G.2 0, 625, .inl (fun k => nI ((va_up zs cn z) k)))) := by rw [hM_3, xu_n (by omega)]; exact hc6
    have hc8 : M_3 8 = some (a8, .inl (G.2 1, 625, .inr (.inl (fun k => lN (ab k))))) := by rw [hM_3, xu_n (by omega)]; exact hc8
    have hc9 : M_3 9 = some (a9, .inl (G.2 1, 625, .inr (.inl (fun k => lN (bl k))))) := by rw [hM_3, xu_n (by omega)]; exact hc9
    have hc10 : M_3 10 = some (a10, .inl (G.2 0, 625, .inl (fun k => nI (od k)))) := by rw [hM_3, xu_n (by omega)]; exact hc10
    have hc11 : M_3 11 = some (a11, .inl (G.2 0, 625, .inl (fun k => nI (sp k)))) := by rw [hM_3, xu_n (by omega)]; exact hc11
    have hc12 : M_3 12 = some (a12, .inl (G.2 2, 51, .inl (fun k => nI (pr k)))) := by rw [hM_3, xu_n (by omega)]; exact hc12
    have hcF : M_3 5 = some (a5, .inr (2, [.long (lN an), .long (lN bn)])) := by rw [hM_3, xu_n (by omega)]; exact hcF
    have hc7 : M_3 7 = some (a7, .inl (G.2 0, 625, .inl (fun k => nI ((va_up os cn o) k)))) := by rw [hM_3]; exact xu_s
    refine lv_aload_n hx hb dX2_add_31 rfl (lv_at hl 0 rfl) ?_
    refine x_get (ci := 4) (v := .ref a8) (C := RX2) (T := TX2) (N := 9) hx hb hts inX2 hown hK hX hcL rfl 4 (by decide) lk_fieldLink_26 (fun _ h9 => h9) rfl dX2_add_32 ?_
    refine lv_aload_n hx hb dX2_add_35 rfl (lv_at hl 0 rfl) ?_
    refine x_get (ci := 4) (v := .int (nI cn)) (C := RX2) (T := TX2) (N := 9) hx hb hts inX2 hown hK hX hcL rfl 1 (by decide) lk_fieldLink_15 (fun _ h9 => h9) rfl dX2_add_36 ?_
    refine lv_aload_n hx hb dX2_add_39 rfl (lv_at hl 3 rfl) ?_
    refine x_get (ci := 2) (v := .long (lN an)) (C := RX0) (T := TX0) (N := 2) hx hb hts inX0 hown hK hX hcF rfl 0 (by decide) lk_fieldLink_43 (fun _ h9 => h9) rfl dX2_add_40 ?_
    refine x_lsN hx hb hK hX hS hc8 (by omega) (by decide) dX2_add_43 (fun H locs hX hS => ?_)
    rw [updL_n] at hX
    obtain ⟨M_4, hM_4⟩ : ∃ zM : xM, zM = xu M_3 8 (a8, .inl (G.2 1, 625, .inr (.inl (fun k => lN ((va_up ab cn an) k))))) := ⟨_, rfl⟩
    have hX : xw G.1 vwCl A M_4 H := by rw [hM_4]; exact hX
    have hcL : M_4 4 = some (a4, .inr (4, [.int bg, .int (nI cn), .ref a6, .ref a7, .ref a8, .ref a9, .ref a10, .ref a11, .ref a12])) := by rw [hM_4, xu_n (by omega)]; exact hcL
    have hc6 : M_4 6 = some (a6, .inl (G.2 0, 625, .inl (fun k => nI ((va_up zs cn z) k)))) := by rw [hM_4, xu_n (by omega)]; exact hc6
    have hc7 : M_4 7 = some (a7, .inl (G.2 0, 625, .inl (fun k => nI ((va_up os cn o) k)))) := by rw [hM_4, xu_n (by omega)]; exact hc7
    have hc9 : M_4 9 = some (a9, .inl (G.2 1, 625, .inr (.inl (fun k => lN (bl k))))) := by rw [hM_4, xu_n (by omega)]; exact hc9
    have hc10 : M_4 10 = some (a10, .inl (G.2 0, 625, .inl (fun k => nI (od k)))) := by rw [hM_4, xu_n (by omega)]; exact hc10
    have hc11 : M_4 11 = some (a11, .inl (G.2 0, 625, .inl (fun k => nI (sp k)))) := by rw [hM_4, xu_n (by omega)]; exact hc11
    have hc12 : M_4 12 = some (a12, .inl (G.2 2, 51, .inl (fun k => nI (pr k)))) := by rw [hM_4, xu_n (by omega)]; exact hc12
    have hcF : M_4 5 = some (a5, .inr (2, [.long (lN an), .long (lN bn)])) := by rw [hM_4, xu_n (by omega)]; exact hcF
    have hc8 : M_4 8 = some (a8, .inl (G.2 1, 625, .inr (.inl (fun k => lN ((va_up ab cn an) k))))) := by rw [hM_4]; exact xu_s
    refine lv_aload_n hx hb dX2_add_44 rfl (lv_at hl 0 rfl) ?_
    refine x_get (ci := 4) (v := .ref a9) (C := RX2) (T := TX2) (N := 9) hx hb hts inX2 hown hK hX hcL rfl 5 (by decide) lk_fieldLink_30 (fun _ h9 => h9) rfl dX2_add_45 ?_
    refine lv_aload_n hx hb dX2_add_48 rfl (lv_at hl 0 rfl) ?_
    refine x_get (ci := 4) (v := .int (nI cn)) (C := RX2) (T := TX2) (N := 9) hx hb hts inX2 hown hK hX hcL rfl 1 (by decide) lk_fieldLink_15 (fun _ h9 => h9) rfl dX2_add_49 ?_
    refine lv_aload_n hx hb dX2_add_52 rfl (lv_at hl 3 rfl) ?_
    refine x_get (ci := 2) (v := .long (lN bn)) (C := RX0) (T := TX0) (N := 2) hx hb hts inX0 hown hK hX hcF rfl 1 (by decide) lk_fieldLink_49 (fun _ h9 => h9) rfl dX2_add_53 ?_
    refine x_lsN hx hb hK hX hS hc9 (by omega) (by decide) dX2_add_56 (fun H locs hX hS => ?_)
    rw [updL_n] at hX
    obtain ⟨M_5, hM_5⟩ : ∃ zM : xM, zM = xu M_4 9 (a9, .inl (G.2 1, 625, .inr (.inl (fun k => lN ((va_up bl cn bn) k))))) := ⟨_, rfl⟩
    have hX : xw G.1 vwCl A M_5 H := by rw [hM_5]; exact hX
    have hcL : M_5 4 = some (a4, .inr (4, [.int bg, .int (nI cn), .ref a6, .ref a7, .ref a8, .ref a9, .ref a10, .ref a11, .ref a12])) := by rw [hM_5, xu_n (by omega)]; exact hcL
    have hc6 : M_5 6 = some (a6, .inl (G.2 0, 625, .inl (fun k => nI ((va_up zs cn z) k)))) := by rw [hM_5, xu_n (by omega)]; exact hc6
    have hc7 : M_5 7 = some (a7, .inl (G.2 0, 625, .inl (fun k => nI ((va_up os cn o) k)))) := by rw [hM_5, xu_n (by omega)]; exact hc7
    have hc8 : M_5 8 = some (a8, .inl (G.2 1, 625, .inr (.inl (fun k => lN ((va_up ab cn an) k))))) := by rw [hM_5, xu_n (by omega)]; exact hc8
    have hc10 : M_5 10 = some (a10, .inl (G.2 0, 625, .inl (fun k => nI (od k)))) := by rw [hM_5, xu_n (by omega)]; exact hc10
    have hc11 : M_5 11 = some (a11, .inl (G.2 0, 625, .inl (fun k => nI (sp k)))) := by rw [hM_5, xu_n (by omega)]; exact hc11
    have hc12 : M_5 12 = some (a12, .inl (G.2 2, 51, .inl (fun k => nI (pr k)))) := by rw [hM_5, xu_n (by omega)]; exact hc12
    have hcF : M_5 5 = some (a5, .inr (2, [.long (lN an), .long (lN bn)])) := by rw [hM_5, xu_n (by omega)]; exact hcF
    have hc9 : M_5 9 = some (a9, .inl (G.2 1, 625, .inr (.inl (fun k => lN ((va_up bl cn bn) k))))) := by rw [hM_5]; exact xu_s
    refine lv_aload_n hx hb dX2_add_57 rfl (lv_at hl 0 rfl) ?_
    refine x_get (ci := 4) (v := .ref a10) (C := RX2) (T := TX2) (N := 9) hx hb hts inX2 hown hK hX hcL rfl 6 (by decide) lk_fieldLink_33 (fun _ h9 => h9) rfl dX2_add_58 ?_
    refine lv_aload_n hx hb dX2_add_61 rfl (lv_at hl 0 rfl) ?_
    refine x_get (ci := 4) (v := .int (nI cn)) (C := RX2) (T := TX2) (N := 9) hx hb hts inX2 hown hK hX hcL rfl 1 (by decide) lk_fieldLink_15 (fun _ h9 => h9) rfl dX2_add_62 ?_
    refine lv_aload_n hx hb dX2_add_65 rfl (lv_at hl 0 rfl) ?_
    refine x_get (ci := 4) (v := .int (nI cn)) (C := RX2) (T := TX2) (N := 9) hx hb hts inX2 hown hK hX hcL rfl 1 (by decide) lk_fieldLink_15 (fun _ h9 => h9) rfl dX2_add_66 ?_
    refine x_isN hx hb hK hX hS hc10 (by omega) (by decide) dX2_add_69 (fun H locs hX hS => ?_)
    rw [upd_n] at hX
    obtain ⟨M_6, hM_6⟩ : ∃ zM : xM, zM = xu M_5 10 (a10, .inl (G.2 0, 625, .inl (fun k => nI ((va_up od cn cn) k)))) := ⟨_, rfl⟩
    have hX : xw G.1 vwCl A M_6 H := by rw [hM_6]; exact hX
    have hcL : M_6 4 = some (a4, .inr (4, [.int bg, .int (nI cn), .ref a6, .ref a7, .ref a8, .ref a9, .ref a10, .ref a11, .ref a12])) := by rw [hM_6, xu_n (by omega)]; exact hcL
    have hc6 : M_6 6 = some (a6, .inl (G.2 0, 625, .inl (fun k => nI ((va_up zs cn z) k)))) := by rw [hM_6, xu_n (by omega)]; exact hc6
    have hc7 : M_6 7 = some (a7, .inl (G.2 0, 625, .inl (fun k => nI ((va_up os cn o) k)))) := by rw [hM_6, xu_n (by omega)]; exact hc7
    have hc8 : M_6 8 = some (a8, .inl (G.2 1, 625, .inr (.inl (fun k => lN ((va_up ab cn an) k))))) := by rw [hM_6, xu_n (by omega)]; exact hc8
    have hc9 : M_6 9 = some (a9, .inl (G.2 1, 625, .inr (.inl (fun k => lN ((va_up bl cn bn) k))))) := by rw [hM_6, xu_n (by omega)]; exact hc9
    have hc11 : M_6 11 = some (a11, .inl (G.2 0, 625, .inl (fun k => nI (sp k)))) := by rw [hM_6, xu_n (by omega)]; exact hc11
    have hc12 : M_6 12 = some (a12, .inl (G.2 2, 51, .inl (fun k => nI (pr k)))) := by rw [hM_6, xu_n (by omega)]; exact hc12
    have hcF : M_6 5 = some (a5, .inr (2, [.long (lN an), .long (lN bn)])) := by rw [hM_6, xu_n (by omega)]; exact hcF
    have hc10 : M_6 10 = some (a10, .inl (G.2 0, 625, .inl (fun k => nI ((va_up od cn cn) k)))) := by rw [hM_6]; exact xu_s
    refine lv_aload_n hx hb dX2_add_70 rfl (lv_at hl 0 rfl) ?_
    refine x_get (ci := 4) (v := .ref a12) (C := RX2) (T := TX2) (N := 9) hx hb hts inX2 hown hK hX hcL rfl 8 (by decide) lk_fieldLink_39 (fun _ h9 => h9) rfl dX2_add_71 ?_
    refine lv_iload_n hx hb dX2_add_74 rfl (lv_at hl 1 rfl) ?_
    refine lv_iconst (v := nI 1) hx hb dX2_add_75 (by decide) ?_
    refine x_zsN (x' := nI 1) hx hb hK hX hS (by decide) hc12 (by omega) (by decide) dX2_add_76 (fun H locs hX hS => ?_)
    rw [upd_n] at hX
    obtain ⟨M_7, hM_7⟩ : ∃ zM : xM, zM = xu M_6 12 (a12, .inl (G.2 2, 51, .inl (fun k => nI ((va_up pr z 1) k)))) := ⟨_, rfl⟩
    have hX : xw G.1 vwCl A M_7 H := by rw [hM_7]; exact hX
    have hcL : M_7 4 = some (a4, .inr (4, [.int bg, .int (nI cn), .ref a6, .ref a7, .ref a8, .ref a9, .ref a10, .ref a11, .ref a12])) := by rw [hM_7, xu_n (by omega)]; exact hcL
    have hc6 : M_7 6 = some (a6, .inl (G.2 0, 625, .inl (fun k => nI ((va_up zs cn z) k)))) := by rw [hM_7, xu_n (by omega)]; exact hc6
    have hc7 : M_7 7 = some (a7, .inl (G.2 0, 625, .inl (fun k => nI ((va_up os cn o) k)))) := by rw [hM_7, xu_n (by omega)]; exact hc7
    have hc8 : M_7 8 = some (a8, .inl (G.2 1, 625, .inr (.inl (fun k => lN ((va_up ab cn an) k))))) := by rw [hM_7, xu_n (by omega)]; exact hc8
    have hc9 : M_7 9 = some (a9, .inl (G.2 1, 625, .inr (.inl (fun k => lN ((va_up bl cn bn) k))))) := by rw [hM_7, xu_n (by omega)]; exact hc9
    have hc10 : M_7 10 = some (a10, .inl (G.2 0, 625, .inl (fun k => nI ((va_up od cn cn) k)))) := by rw [hM_7, xu_n (by omega)]; exact hc10
    have hc11 : M_7 11 = some (a11, .inl (G.2 0, 625, .inl (fun k => nI (sp k)))) := by rw [hM_7, xu_n (by omega)]; exact hc11
    have hcF : M_7 5 = some (a5, .inr (2, [.long (lN an), .long (lN bn)])) := by rw [hM_7, xu_n (by omega)]; exact hcF
    have hc12 : M_7 12 = some (a12, .inl (G.2 2, 51, .inl (fun k => nI ((va_up pr z 1) k)))) := by rw [hM_7]; exact xu_s
    refine lv_aload_n hx hb dX2_add_77 rfl (lv_at hl 0 rfl) ?_
    refine x_get (ci := 4) (v := .ref a12) (C := RX2) (T := TX2) (N := 9) hx hb hts inX2 hown hK hX hcL rfl 8 (by decide) lk_fieldLink_39 (fun _ h9 => h9) rfl dX2_add_78 ?_
    refine lv_iload_n hx hb dX2_add_81 rfl (lv_at hl 2 rfl) ?_
    refine lv_iconst (v := nI 1) hx hb dX2_add_82 (by decide) ?_
    refine x_zsN (x' := nI 1) hx hb hK hX hS (by decide) hc12 (by omega) (by decide) dX2_add_83 (fun H locs hX hS => ?_)
    rw [upd_n] at hX
    obtain ⟨M_8, hM_8⟩ : ∃ zM : xM, zM = xu M_7 12 (a12, .inl (G.2 2, 51, .inl (fun k => nI ((va_up (va_up pr z 1) o 1) k)))) := ⟨_, rfl⟩
    have hX : xw G.1 vwCl A M_8 H := by rw [hM_8]; exact hX
    have hcL : M_8 4 = some (a4, .inr (4, [.int bg, .int (nI cn), .ref a6, .ref a7, .ref a8, .ref a9, .ref a10, .ref a11, .ref a12])) := by rw [hM_8, xu_n (by omega)]; exact hcL
    have hc6 : M_8 6 = some (a6, .inl (G.2 0, 625, .inl (fun k => nI ((va_up zs cn z) k)))) := by rw [hM_8, xu_n (by omega)]; exact hc6
    have hc7 : M_8 7 = some (a7, .inl (G.2 0, 625, .inl (fun k => nI ((va_up os cn o) k)))) := by rw [hM_8, xu_n (by omega)]; exact hc7
    have hc8 : M_8 8 = some (a8, .inl (G.2 1, 625, .inr (.inl (fun k => lN ((va_up ab cn an) k))))) := by rw [hM_8, xu_n (by omega)]; exact hc8
    have hc9 : M_8 9 = some (a9, .inl (G.2 1, 625, .inr (.inl (fun k => lN ((va_up bl cn bn) k))))) := by rw [hM_8, xu_n (by omega)]; exact hc9
    have hc10 : M_8 10 = some (a10, .inl (G.2 0, 625, .inl (fun k => nI ((va_up od cn cn) k)))) := by rw [hM_8, xu_n (by omega)]; exact hc10
    have hc11 : M_8 11 = some (a11, .inl (G.2 0, 625, .inl (fun k => nI (sp k)))) := by rw [hM_8, xu_n (by omega)]; exact hc11
    have hcF : M_8 5 = some (a5, .inr (2, [.long (lN an), .long (lN bn)])) := by rw [hM_8, xu_n (by omega)]; exact hcF
    have hc12 : M_8 12 = some (a12, .inl (G.2 2, 51, .inl (fun k => nI ((va_up (va_up pr z 1) o 1) k)))) := by rw [hM_8]; exact xu_s
    refine lv_aload_n hx hb dX2_add_84 rfl (lv_at hl 0 rfl) ?_
    refine lv_dup hx hb dX2_add_85 rfl ?_
    refine x_get (ci := 4) (v := .int (nI cn)) (C := RX2) (T := TX2) (N := 9) hx hb hts inX2 hown hK hX hcL rfl 1 (by decide) lk_fieldLink_15 (fun _ h9 => h9) rfl dX2_add_86 ?_
    refine lv_iconst (v := nI 1) hx hb dX2_add_89 (by decide) ?_
    refine lv_iadd hx hb dX2_add_90 ?_
    refine x_ri (nI_add _ _) ?_
    refine x_put (ci := 4) (v := .int (nI (cn + 1))) (C := RX2) (T := TX2) (N := 9) hx hb hts inX2 tyX2 tyX2_ok nmX2 hown hK hX hS hcL rfl 1 (by decide) lk_fieldLink_15 (fun _ h9 => h9) rfl (tyX2_ok 1 (by decide)) rfl rfl (Nat.le_of_ble_eq_true rfl) dX2_add_91 (fun H locs hX hS => ?_)
    obtain ⟨M_9, hM_9⟩ : ∃ zM : xM, zM = xu M_8 4 (a4, .inr (4, [.int bg, .int (nI (cn + 1)), .ref a6, .ref a7, .ref a8, .ref a9, .ref a10, .ref a11, .ref a12])) := ⟨_, rfl⟩
    have hX : xw G.1 vwCl A M_9 H := by rw [hM_9]; exact hX
    have hc6 : M_9 6 = some (a6, .inl (G.2 0, 625, .inl (fun k => nI ((va_up zs cn z) k)))) := by rw [hM_9, xu_n (by omega)]; exact hc6
    have hc7 : M_9 7 = some (a7, .inl (G.2 0, 625, .inl (fun k => nI ((va_up os cn o) k)))) := by rw [hM_9, xu_n (by omega)]; exact hc7
    have hc8 : M_9 8 = some (a8, .inl (G.2 1, 625, .inr (.inl (fun k => lN ((va_up ab cn an) k))))) := by rw [hM_9, xu_n (by omega)]; exact hc8
    have hc9 : M_9 9 = some (a9, .inl (G.2 1, 625, .inr (.inl (fun k => lN ((va_up bl cn bn) k))))) := by rw [hM_9, xu_n (by omega)]; exact hc9
    have hc10 : M_9 10 = some (a10, .inl (G.2 0, 625, .inl (fun k => nI ((va_up od cn cn) k)))) := by rw [hM_9, xu_n (by omega)]; exact hc10
    have hc11 : M_9 11 = some (a11, .inl (G.2 0, 625, .inl (fun k => nI (sp k)))) := by rw [hM_9, xu_n (by omega)]; exact hc11
    have hc12 : M_9 12 = some (a12, .inl (G.2 2, 51, .inl (fun k => nI ((va_up (va_up pr z 1) o 1) k)))) := by rw [hM_9, xu_n (by omega)]; exact hc12
    have hcF : M_9 5 = some (a5, .inr (2, [.long (lN an), .long (lN bn)])) := by rw [hM_9, xu_n (by omega)]; exact hcF
    have hcL : M_9 4 = some (a4, .inr (4, [.int bg, .int (nI (cn + 1)), .ref a6, .ref a7, .ref a8, .ref a9, .ref a10, .ref a11, .ref a12])) := by rw [hM_9]; exact xu_s
    exact x_vret hx hb hr hlocks hK hA hX hS dX2_add_94 (by rw [hM_9, hM_8, hM_7, hM_6, hM_5, hM_4, hM_3, hM_2, x_uu])
  · have c_1 : ¬ (cn < 625) := fun q => c_1 ((nI_ltI (by omega) (by omega)).mpr q)
    exact absurd hlt c_1

abbrev rmX2_isBestOfBoth : Room := { frames := 1, cells := 0, slots := 0, locals := 22 }
set_option maxHeartbeats 4000000 in
set_option maxRecDepth 100000 in
/-- Listing.isBestOfBoth -/
theorem ctX2_isBestOfBoth (l : Launch) (G : xG) (A : Nat → Prop) (M : xM) {bg : Int32} {cn a4 a6 a7 a8 a9 a10 a11 a12 : Nat} {zs os ab bl od sp pr : Nat → Nat} (hcL : M 4 = some (a4, .inr (4, [.int bg, .int (nI cn), .ref a6, .ref a7, .ref a8, .ref a9, .ref a10, .ref a11, .ref a12]))) (hc6 : M 6 = some (a6, .inl (G.2 0, 625, .inl (fun k => nI (zs k))))) (hc7 : M 7 = some (a7, .inl (G.2 0, 625, .inl (fun k => nI (os k))))) (hc8 : M 8 = some (a8, .inl (G.2 1, 625, .inr (.inl (fun k => lN (ab k)))))) (hc9 : M 9 = some (a9, .inl (G.2 1, 625, .inr (.inl (fun k => lN (bl k)))))) (hc10 : M 10 = some (a10, .inl (G.2 0, 625, .inl (fun k => nI (od k))))) (hc11 : M 11 = some (a11, .inl (G.2 0, 625, .inl (fun k => nI (sp k))))) (hc12 : M 12 = some (a12, .inl (G.2 2, 51, .inl (fun k => nI (pr k))))) (hcn : cn ≤ 625) (ip : Nat) (hip : ip < cn) (hod : ∀ j, j < cn → od j < 625 ∧ ab (od j) < 1000000000 ∧ bl (od j) < 1000000000) (hzs : ∀ j, j < 625 → zs j < 1000) (hos : ∀ j, j < 625 → os j < 1000) : Met l yX2_isBestOfBoth wsX2_isBestOfBoth rmX2_isBestOfBoth (va_Pc ([.ref a4, .int (nI ip)] : List Value) (xPc G A M)) (va_Qi (fun r M1 => M1 = M ∧ (r = 0 ∧ ¬ xBest zs os ab bl od ip ip ∨ r = 1 ∧ xBest zs os ab bl od ip ip)) (xPc G A) A) 0 0 A := by
  refine x_met (cc := cX2_isBestOfBoth) (maxL := 6) (ret := (some .boolean)) RX2 (by decide) rfl (Nat.le_of_ble_eq_true rfl) rfl ?_
  intro p e s m below meth c hx hb hr hts hown hlocks hml hin hK hA hX ls hl
  have inX2 : ∀ w ∈ wsX20, w ∈ wsX2_isBestOfBoth := by decide +kernel
  have lk_fieldLink_33 := hts (.fieldLink RX2 33 "Reconcile$Listing" "order" "[I") (by decide +kernel)
  have lk_fieldLink_19 := hts (.fieldLink RX2 19 "Reconcile$Listing" "zeros" "[I") (by decide +kernel)
  have lk_fieldLink_23 := hts (.fieldLink RX2 23 "Reconcile$Listing" "ones" "[I") (by decide +kernel)
  have hS : va_S A s.heap s.heap [] := va_S.rf
  have hl : lv_has ls 6 [(0, .ref a4), (1, .int (nI ip))] := hl
  have ho1 := hod ip (by omega)
  have hzo := hzs (od ip) ho1.1
  have hoo := hos (od ip) ho1.1
  refine lv_aload_n hx hb dX2_isBestOfBoth_0 rfl (lv_at hl 0 rfl) ?_
  refine x_get (ci := 4) (v := .ref a10) (C := RX2) (T := TX2) (N := 9) hx hb hts inX2 hown hK hX hcL rfl 6 (by decide) lk_fieldLink_33 (fun _ h9 => h9) rfl dX2_isBestOfBoth_1 ?_
  refine lv_iload_n hx hb dX2_isBestOfBoth_4 rfl (lv_at hl 1 rfl) ?_
  refine x_iN hx hb hK hX hc10 (by omega) (by decide) dX2_isBestOfBoth_5 ?_
  refine lv_istore_n (lv' := [(2, .int (nI (od ip))), (0, .ref a4), (1, .int (nI ip))]) hx hb dX2_isBestOfBoth_6 rfl hl (by decide) rfl (fun ls hl => ?_)
  refine lv_iconst (v := nI 0) hx hb dX2_isBestOfBoth_7 (by decide) ?_
  refine lv_istore_n (lv' := [(3, .int (nI 0)), (2, .int (nI (od ip))), (0, .ref a4), (1, .int (nI ip))]) hx hb dX2_isBestOfBoth_8 rfl hl (by decide) rfl (fun ls hl => ?_)
  have loop : ∀ (n : Nat) (i : Nat) (H : Heap) (locs : List Loc) (ls : Array Slot), ip < i + n → (i ≤ ip) → (xBest zs os ab bl od ip i) → xw G.1 vwCl A M H → va_S A s.heap H locs → lv_has ls 6 [(3, .int (nI i)), (2, .int (nI (od ip))), (0, .ref a4), (1, .int (nI ip))] → W p l e rmX2_isBestOfBoth s m ([.ref a4, .int (nI ip)] : List Value).toArray below meth c H locs 0 0 (MQ below (va_Qi (fun r M1 => M1 = M ∧ (r = 0 ∧ ¬ xBest zs os ab bl od ip ip ∨ r = 1 ∧ xBest zs os ab bl od ip ip)) (xPc G A) A) ([.ref a4, .int (nI ip)] : List Value).toArray s 0 0 A) (F0 m 9 ls []) := by
    intro n
    induction n with
    | zero => intro i H locs ls hn0 hi hv; exact absurd hn0 (by omega)
    | succ n ih =>
      intro i H locs ls hn0 hi hv hX hS hl
      refine lv_iload_n hx hb dX2_isBestOfBoth_9 rfl (lv_at hl 0 rfl) ?_
      refine lv_iload_n hx hb dX2_isBestOfBoth_10 rfl (lv_at hl 3 rfl) ?_
      refine lv_icmp_ge (tgt := 84) hx hb dX2_isBestOfBoth_11 (by decide) (fun c_1 => ?_) (fun c_1 => ?_)
      · have c_1 : ip ≤ i := (nI_leI (by omega) (by omega)).mp c_1
        refine lv_iconst (v := nI 1) hx hb dX2_isBestOfBoth_84 (by decide) ?_
        exact x_zret hx hb hr hlocks hK hA hX hS dX2_isBestOfBoth_85 rfl (⟨rfl, Or.inr ⟨rfl, by rw [show i = ip by omega] at hv; exact hv⟩⟩)
      · have c_1 : ¬ (ip ≤ i) := fun q => c_1 ((nI_leI (by omega) (by omega)).mpr q)
        have ho2 := hod i (by omega)
        have hzi := hzs (od i) ho2.1
        have hoi := hos (od i) ho2.1
        refine lv_aload_n hx hb dX2_isBestOfBoth_14 rfl (lv_at hl 2 rfl) ?_
        refine x_get (ci := 4) (v := .ref a10) (C := RX2) (T := TX2) (N := 9) hx hb hts inX2 hown hK hX hcL rfl 6 (by decide) lk_fieldLink_33 (fun _ h9 => h9) rfl dX2_isBestOfBoth_15 ?_
        refine lv_iload_n hx hb dX2_isBestOfBoth_18 rfl (lv_at hl 0 rfl) ?_
        refine x_iN hx hb hK hX hc10 (by omega) (by decide) dX2_isBestOfBoth_19 ?_
        refine lv_istore (lv' := [(4, .int (nI (od i))), (3, .int (nI i)), (2, .int (nI (od ip))), (0, .ref a4), (1, .int (nI ip))]) hx hb dX2_isBestOfBoth_20 hl (by decide) rfl (fun ls hl => ?_)
        refine lv_aload_n hx hb dX2_isBestOfBoth_22 rfl (lv_at hl 3 rfl) ?_
        refine x_get (ci := 4) (v := .ref a6) (C := RX2) (T := TX2) (N := 9) hx hb hts inX2 hown hK hX hcL rfl 2 (by decide) lk_fieldLink_19 (fun _ h9 => h9) rfl dX2_isBestOfBoth_23 ?_
        refine lv_iload hx hb dX2_isBestOfBoth_26 (lv_at hl 0 rfl) ?_
        refine x_iN hx hb hK hX hc6 (by omega) (by decide) dX2_isBestOfBoth_28 ?_
        refine lv_aload_n hx hb dX2_isBestOfBoth_29 rfl (lv_at hl 3 rfl) ?_
        refine x_get (ci := 4) (v := .ref a6) (C := RX2) (T := TX2) (N := 9) hx hb hts inX2 hown hK hX hcL rfl 2 (by decide) lk_fieldLink_19 (fun _ h9 => h9) rfl dX2_isBestOfBoth_30 ?_
        refine lv_iload_n hx hb dX2_isBestOfBoth_33 rfl (lv_at hl 2 rfl) ?_
        refine x_iN hx hb hK hX hc6 (by omega) (by decide) dX2_isBestOfBoth_34 ?_
        refine lv_icmp_eq (tgt := 54) hx hb dX2_isBestOfBoth_35 (by decide) (fun c_2 => ?_) (fun c_2 => ?_)
        · have c_2 : (zs (od i)) = (zs (od ip)) := (nI_eq (by omega) (by omega)).mp c_2
          refine lv_iconst (v := nI 1) hx hb dX2_isBestOfBoth_54 (by decide) ?_
          refine lv_goto (tgt := 59) hx hb dX2_isBestOfBoth_55 (by decide) ?_
          refine lv_istore (lv' := [(5, .int (nI 1)), (4, .int (nI (od i))), (3, .int (nI i)), (2, .int (nI (od ip))), (0, .ref a4), (1, .int (nI ip))]) hx hb dX2_isBestOfBoth_59 hl (by decide) rfl (fun ls hl => ?_)
          refine lv_iload hx hb dX2_isBestOfBoth_61 (lv_at hl 0 rfl) ?_
          refine lv_if_eq (tgt := 78) hx hb dX2_isBestOfBoth_63 (by decide) (fun c_3 => ?_) (fun c_3 => ?_)
          · have c_3 : 1 = 0 := (nI_eq (a := 1) (b := 0) (by omega) (by omega)).mp c_3
            exact absurd c_3 (by decide)
          · have c_3 : ¬ (1 = 0) := fun q => c_3 ((nI_eq (a := 1) (b := 0) (by omega) (by omega)).mpr q)
            refine lv_aload_n hx hb dX2_isBestOfBoth_66 rfl (lv_at hl 4 rfl) ?_
            refine lv_iload hx hb dX2_isBestOfBoth_67 (lv_at hl 1 rfl) ?_
            refine lv_iload_n hx hb dX2_isBestOfBoth_69 rfl (lv_at hl 3 rfl) ?_
            refine x_calli (x_runV (q := (RX2, TX2, 9)) (As := [.int (nI (od i)), .int (nI (od ip))]) (rest := []) ⟨hx, hb, hml, hown, hts⟩ (ctX2_isGreater l G A M hcL hc6 hc7 hc8 hc9 hc10 hc11 hc12 hcn (od i) (od ip) ho2.1 ho1.1 ho2.2.1 ho1.2.1 ho2.2.2 ho1.2.2) (cwV 2 hts gX2_isBestOfBoth_X2_isGreater rfl rfl rfl (by decide +kernel) ⟨Nat.le_of_ble_eq_true rfl, Nat.le_of_ble_eq_true rfl⟩) hK hA hX hS hcL rfl rfl hl.1 rfl (lv_room (Nat.le_of_ble_eq_true rfl)) dX2_isBestOfBoth_70 ⟨by decide, by decide⟩) hS (fun r_4 M_5 H locs hp hX hS => ?_)
            obtain ⟨hM_, er_4⟩ := hp
            rw [hM_] at hX
            refine lv_if_eq (tgt := 78) hx hb dX2_isBestOfBoth_73 (by decide) (fun c_6 => ?_) (fun c_6 => ?_)
            · have hng : ¬ xGt ab bl (od i) (od ip) := by rcases er_4 with ⟨_, q⟩ | ⟨q, _⟩; exact q; rw [q] at c_6; exact absurd c_6 (by decide)
              refine lv_iinc (v := nI (i + 1)) (lv' := [(3, .int (nI (i + 1))), (5, .int (nI 1)), (4, .int (nI (od i))), (2, .int (nI (od ip))), (0, .ref a4), (1, .int (nI ip))]) hx hb dX2_isBestOfBoth_78 hl (k := 2) rfl (show nI i + Int32.ofInt 1 = _ from nI_add _ 1) (by decide) rfl (fun ls hl => ?_)
              refine lv_goto (tgt := 9) hx hb dX2_isBestOfBoth_81 (by decide) ?_
              exact ih (i + 1) _ _ ls (by omega) (by omega) (lt_s hv (fun q => hng q.2)) hX hS (lv_sub hl [0, 3, 4, 5] rfl)
            · have hg : xGt ab bl (od i) (od ip) := by rcases er_4 with ⟨q, _⟩ | ⟨_, q⟩; exact absurd q c_6; exact q
              refine lv_iconst (v := nI 0) hx hb dX2_isBestOfBoth_76 (by decide) ?_
              exact x_zret hx hb hr hlocks hK hA hX hS dX2_isBestOfBoth_77 rfl (⟨rfl, Or.inl ⟨rfl, fun q => q i (by omega) ⟨Or.inl c_2, hg⟩⟩⟩)
        · have c_2 : ¬ ((zs (od i)) = (zs (od ip))) := fun q => c_2 ((nI_eq (by omega) (by omega)).mpr q)
          refine lv_aload_n hx hb dX2_isBestOfBoth_38 rfl (lv_at hl 3 rfl) ?_
          refine x_get (ci := 4) (v := .ref a7) (C := RX2) (T := TX2) (N := 9) hx hb hts inX2 hown hK hX hcL rfl 3 (by decide) lk_fieldLink_23 (fun _ h9 => h9) rfl dX2_isBestOfBoth_39 ?_
          refine lv_iload hx hb dX2_isBestOfBoth_42 (lv_at hl 0 rfl) ?_
          refine x_iN hx hb hK hX hc7 (by omega) (by decide) dX2_isBestOfBoth_44 ?_
          refine lv_aload_n hx hb dX2_isBestOfBoth_45 rfl (lv_at hl 3 rfl) ?_
          refine x_get (ci := 4) (v := .ref a7) (C := RX2) (T := TX2) (N := 9) hx hb hts inX2 hown hK hX hcL rfl 3 (by decide) lk_fieldLink_23 (fun _ h9 => h9) rfl dX2_isBestOfBoth_46 ?_
          refine lv_iload_n hx hb dX2_isBestOfBoth_49 rfl (lv_at hl 2 rfl) ?_
          refine x_iN hx hb hK hX hc7 (by omega) (by decide) dX2_isBestOfBoth_50 ?_
          refine lv_icmp_ne (tgt := 58) hx hb dX2_isBestOfBoth_51 (by decide) (fun c_7 => ?_) (fun c_7 => ?_)
          · have c_7 : ¬ ((os (od i)) = (os (od ip))) := fun q => c_7 ((nI_eq (by omega) (by omega)).mpr q)
            refine lv_iconst (v := nI 0) hx hb dX2_isBestOfBoth_58 (by decide) ?_
            refine lv_istore (lv' := [(5, .int (nI 0)), (4, .int (nI (od i))), (3, .int (nI i)), (2, .int (nI (od ip))), (0, .ref a4), (1, .int (nI ip))]) hx hb dX2_isBestOfBoth_59 hl (by decide) rfl (fun ls hl => ?_)
            refine lv_iload hx hb dX2_isBestOfBoth_61 (lv_at hl 0 rfl) ?_
            refine lv_if_eq (tgt := 78) hx hb dX2_isBestOfBoth_63 (by decide) (fun c_8 => ?_) (fun c_8 => ?_)
            · have c_8 : 0 = 0 := (nI_eq (a := 0) (b := 0) (by omega) (by omega)).mp c_8
              refine lv_iinc (v := nI (i + 1)) (lv' := [(3, .int (nI (i + 1))), (5, .int (nI 0)), (4, .int (nI (od i))), (2, .int (nI (od ip))), (0, .ref a4), (1, .int (nI ip))]) hx hb dX2_isBestOfBoth_78 hl (k := 2) rfl (show nI i + Int32.ofInt 1 = _ from nI_add _ 1) (by decide) rfl (fun ls hl => ?_)
              refine lv_goto (tgt := 9) hx hb dX2_isBestOfBoth_81 (by decide) ?_
              exact ih (i + 1) _ _ ls (by omega) (by omega) (lt_s hv (fun q => q.1.elim (fun z => c_2 z) (fun z => c_7 z))) hX hS (lv_sub hl [0, 3, 4, 5] rfl)
            · have c_8 : ¬ (0 = 0) := fun q => c_8 ((nI_eq (a := 0) (b := 0) (by omega) (by omega)).mpr q)
              exact absurd c_8 (by decide)
          · have c_7 : (os (od i)) = (os (od ip)) := (nI_eq (by omega) (by omega)).mp c_7
            refine lv_iconst (v := nI 1) hx hb dX2_isBestOfBoth_54 (by decide) ?_
            refine lv_goto (tgt := 59) hx hb dX2_isBestOfBoth_55 (by decide) ?_
            refine lv_istore (lv' := [(5, .int (nI 1)), (4, .int (nI (od i))), (3, .int (nI i)), (2, .int (nI (od ip))), (0, .ref a4), (1, .int (nI ip))]) hx hb dX2_isBestOfBoth_59 hl (by decide) rfl (fun ls hl => ?_)
            refine lv_iload hx hb dX2_isBestOfBoth_61 (lv_at hl 0 rfl) ?_
            refine lv_if_eq (tgt := 78) hx hb dX2_isBestOfBoth_63 (by decide) (fun c_9 => ?_) (fun c_9 => ?_)
            · have c_9 : 1 = 0 := (nI_eq (a := 1) (b := 0) (by omega) (by omega)).mp c_9
              exact absurd c_9 (by decide)
            · have c_9 : ¬ (1 = 0) := fun q => c_9 ((nI_eq (a := 1) (b := 0) (by omega) (by omega)).mpr q)
              refine lv_aload_n hx hb dX2_isBestOfBoth_66 rfl (lv_at hl 4 rfl) ?_
              refine lv_iload hx hb dX2_isBestOfBoth_67 (lv_at hl 1 rfl) ?_
              refine lv_iload_n hx hb dX2_isBestOfBoth_69 rfl (lv_at hl 3 rfl) ?_
              refine x_calli (x_runV (q := (RX2, TX2, 9)) (As := [.int (nI (od i)), .int (nI (od ip))]) (rest := []) ⟨hx, hb, hml, hown, hts⟩ (ctX2_isGreater l G A M hcL hc6 hc7 hc8 hc9 hc10 hc11 hc12 hcn (od i) (od ip) ho2.1 ho1.1 ho2.2.1 ho1.2.1 ho2.2.2 ho1.2.2) (cwV 2 hts gX2_isBestOfBoth_X2_isGreater rfl rfl rfl (by decide +kernel) ⟨Nat.le_of_ble_eq_true rfl, Nat.le_of_ble_eq_true rfl⟩) hK hA hX hS hcL rfl rfl hl.1 rfl (lv_room (Nat.le_of_ble_eq_true rfl)) dX2_isBestOfBoth_70 ⟨by decide, by decide⟩) hS (fun r_10 M_11 H locs hp hX hS => ?_)
              obtain ⟨hM_, er_10⟩ := hp
              rw [hM_] at hX
              refine lv_if_eq (tgt := 78) hx hb dX2_isBestOfBoth_73 (by decide) (fun c_12 => ?_) (fun c_12 => ?_)
              · have hng : ¬ xGt ab bl (od i) (od ip) := by rcases er_10 with ⟨_, q⟩ | ⟨q, _⟩; exact q; rw [q] at c_12; exact absurd c_12 (by decide)
                refine lv_iinc (v := nI (i + 1)) (lv' := [(3, .int (nI (i + 1))), (5, .int (nI 1)), (4, .int (nI (od i))), (2, .int (nI (od ip))), (0, .ref a4), (1, .int (nI ip))]) hx hb dX2_isBestOfBoth_78 hl (k := 2) rfl (show nI i + Int32.ofInt 1 = _ from nI_add _ 1) (by decide) rfl (fun ls hl => ?_)
                refine lv_goto (tgt := 9) hx hb dX2_isBestOfBoth_81 (by decide) ?_
                exact ih (i + 1) _ _ ls (by omega) (by omega) (lt_s hv (fun q => hng q.2)) hX hS (lv_sub hl [0, 3, 4, 5] rfl)
              · have hg : xGt ab bl (od i) (od ip) := by rcases er_10 with ⟨q, _⟩ | ⟨_, q⟩; exact absurd q c_12; exact q
                refine lv_iconst (v := nI 0) hx hb dX2_isBestOfBoth_76 (by decide) ?_
                exact x_zret hx hb hr hlocks hK hA hX hS dX2_isBestOfBoth_77 rfl (⟨rfl, Or.inl ⟨rfl, fun q => q i (by omega) ⟨Or.inr c_7, hg⟩⟩⟩)
  exact loop (ip + 1) 0 _ _ ls (by omega) (by omega) (fun q hq => absurd hq (by omega)) hX hS (lv_sub hl [0, 1, 2, 3] rfl)

abbrev rmX2_partner : Room := { frames := 1, cells := 0, slots := 0, locals := 23 }
set_option maxHeartbeats 4000000 in
set_option maxRecDepth 100000 in
/-- Listing.partner -/
theorem ctX2_partner (l : Launch) (G : xG) (A : Nat → Prop) (M : xM) {bg : Int32} {cn a4 a6 a7 a8 a9 a10 a11 a12 : Nat} {zs os ab bl od sp pr : Nat → Nat} (hcL : M 4 = some (a4, .inr (4, [.int bg, .int (nI cn), .ref a6, .ref a7, .ref a8, .ref a9, .ref a10, .ref a11, .ref a12]))) (hc6 : M 6 = some (a6, .inl (G.2 0, 625, .inl (fun k => nI (zs k))))) (hc7 : M 7 = some (a7, .inl (G.2 0, 625, .inl (fun k => nI (os k))))) (hc8 : M 8 = some (a8, .inl (G.2 1, 625, .inr (.inl (fun k => lN (ab k)))))) (hc9 : M 9 = some (a9, .inl (G.2 1, 625, .inr (.inl (fun k => lN (bl k)))))) (hc10 : M 10 = some (a10, .inl (G.2 0, 625, .inl (fun k => nI (od k))))) (hc11 : M 11 = some (a11, .inl (G.2 0, 625, .inl (fun k => nI (sp k))))) (hc12 : M 12 = some (a12, .inl (G.2 2, 51, .inl (fun k => nI (pr k))))) (hcn : cn ≤ 625) (sd : Nat) (hsd : sd ≤ 1) (p1 p2 : Int32) (hod : ∀ j, j < cn → od j < 625) : Met l yX2_partner wsX2_partner rmX2_partner (va_Pc ([.ref a4, .int (nI sd), .int p1, .int p2] : List Value) (xPc G A M)) (va_Qi (fun r M1 => M1 = M ∧ r = xScan (fun j => decide ((if sd = 1 then nI (os (od j)) else nI (zs (od j))) = p1)) (fun j => if sd = 1 then nI (zs (od j)) else nI (os (od j))) p2 cn 0 0) (xPc G A) A) 0 0 A := by
  refine x_met (cc := cX2_partner) (maxL := 6) (ret := (some .int)) RX2 (by decide) rfl (Nat.le_of_ble_eq_true rfl) rfl ?_
  intro p e s m below meth c hx hb hr hts hown hlocks hml hin hK hA hX ls hl
  have inX2 : ∀ w ∈ wsX20, w ∈ wsX2_partner := by decide +kernel
  have lk_fieldLink_15 := hts (.fieldLink RX2 15 "Reconcile$Listing" "count" "I") (by decide +kernel)
  have hS : va_S A s.heap s.heap [] := va_S.rf
  have hl : lv_has ls 6 [(0, .ref a4), (1, .int (nI sd)), (2, .int p1), (3, .int p2)] := hl
  have esd : (nI sd = nI 1) = (sd = 1) := propext (nI_eq (by omega) (by omega))
  have esd2 : (nI (1 - sd) = nI 1) = ¬ (sd = 1) := propext ((nI_eq (by omega) (by omega)).trans (by omega))
  refine lv_iconst (v := nI 0) hx hb dX2_partner_0 (by decide) ?_
  refine lv_istore (lv' := [(4, .int (nI 0)), (0, .ref a4), (1, .int (nI sd)), (2, .int p1), (3, .int p2)]) hx hb dX2_partner_1 hl (by decide) rfl (fun ls hl => ?_)
  refine lv_iconst (v := nI 0) hx hb dX2_partner_3 (by decide) ?_
  refine lv_istore (lv' := [(5, .int (nI 0)), (4, .int (nI 0)), (0, .ref a4), (1, .int (nI sd)), (2, .int p1), (3, .int p2)]) hx hb dX2_partner_4 hl (by decide) rfl (fun ls hl => ?_)
  have loop : ∀ (n : Nat) (i : Nat) (b : Nat) (H : Heap) (locs : List Loc) (ls : Array Slot), cn < i + n → (i ≤ cn) → (b ≤ i) → (xScan (fun j => decide ((if sd = 1 then nI (os (od j)) else nI (zs (od j))) = p1)) (fun j => if sd = 1 then nI (zs (od j)) else nI (os (od j))) p2 (cn - i) i b = xScan (fun j => decide ((if sd = 1 then nI (os (od j)) else nI (zs (od j))) = p1)) (fun j => if sd = 1 then nI (zs (od j)) else nI (os (od j))) p2 cn 0 0) → xw G.1 vwCl A M H → va_S A s.heap H locs → lv_has ls 6 [(5, .int (nI i)), (4, .int (nI b)), (0, .ref a4), (1, .int (nI sd)), (2, .int p1), (3, .int p2)] → W p l e rmX2_partner s m ([.ref a4, .int (nI sd), .int p1, .int p2] : List Value).toArray below meth c H locs 0 0 (MQ below (va_Qi (fun r M1 => M1 = M ∧ r = xScan (fun j => decide ((if sd = 1 then nI (os (od j)) else nI (zs (od j))) = p1)) (fun j => if sd = 1 then nI (zs (od j)) else nI (os (od j))) p2 cn 0 0) (xPc G A) A) ([.ref a4, .int (nI sd), .int p1, .int p2] : List Value).toArray s 0 0 A) (F0 m 6 ls []) := by
    intro n
    induction n with
    | zero => intro i b H locs ls hn0 hi hb9 hv; exact absurd hn0 (by omega)
    | succ n ih =>
      intro i b H locs ls hn0 hi hb9 hv hX hS hl
      refine lv_iload hx hb dX2_partner_6 (lv_at hl 0 rfl) ?_
      refine lv_aload_n hx hb dX2_partner_8 rfl (lv_at hl 2 rfl) ?_
      refine x_get (ci := 4) (v := .int (nI cn)) (C := RX2) (T := TX2) (N := 9) hx hb hts inX2 hown hK hX hcL rfl 1 (by decide) lk_fieldLink_15 (fun _ h9 => h9) rfl dX2_partner_9 ?_
      refine lv_icmp_ge (tgt := 51) hx hb dX2_partner_12 (by decide) (fun c_1 => ?_) (fun c_1 => ?_)
      · have c_1 : cn ≤ i := (nI_leI (by omega) (by omega)).mp c_1
        refine lv_iconst (v := nI 0) hx hb dX2_partner_51 (by decide) ?_
        exact x_iret hx hb hr hlocks hK hA hX hS dX2_partner_52 (⟨rfl, by rw [← hv, xScan_0 (by omega)]; rfl⟩)
      · have c_1 : ¬ (cn ≤ i) := fun q => c_1 ((nI_leI (by omega) (by omega)).mpr q)
        refine lv_aload_n hx hb dX2_partner_15 rfl (lv_at hl 2 rfl) ?_
        refine lv_iload hx hb dX2_partner_16 (lv_at hl 0 rfl) ?_
        refine lv_iload_n hx hb dX2_partner_18 rfl (lv_at hl 3 rfl) ?_
        refine x_calli (x_runV (q := (RX2, TX2, 9)) (As := [.int (nI i), .int (nI sd)]) (rest := []) ⟨hx, hb, hml, hown, hts⟩ (ctX2_nameAt l G A M hcL hc6 hc7 hc8 hc9 hc10 hc11 hc12 hcn i (nI sd) (by omega) (hod i (by omega))) (cwV 2 hts gX2_partner_X2_nameAt rfl rfl rfl (by decide +kernel) ⟨Nat.le_of_ble_eq_true rfl, Nat.le_of_ble_eq_true rfl⟩) hK hA hX hS hcL rfl rfl hl.1 rfl (lv_room (Nat.le_of_ble_eq_true rfl)) dX2_partner_19 ⟨by decide, by decide⟩) hS (fun r_2 M_3 H locs hp hX hS => ?_)
        obtain ⟨hM_, er_2⟩ := hp
        rw [hM_] at hX
        simp only [esd] at er_2
        refine lv_iload_n hx hb dX2_partner_22 rfl (lv_at hl 4 rfl) ?_
        refine lv_icmp_ne (tgt := 45) hx hb dX2_partner_23 (by decide) (fun c_4 => ?_) (fun c_4 => ?_)
        · have hP : (fun j => decide ((if sd = 1 then nI (os (od j)) else nI (zs (od j))) = p1)) i = false := by show decide _ = false; rw [← er_2]; exact decide_eq_false c_4
          refine lv_iinc (v := nI (i + 1)) (lv' := [(5, .int (nI (i + 1))), (4, .int (nI b)), (0, .ref a4), (1, .int (nI sd)), (2, .int p1), (3, .int p2)]) hx hb dX2_partner_45 hl (k := 0) rfl (show nI i + Int32.ofInt 1 = _ from nI_add _ 1) (by decide) rfl (fun ls hl => ?_)
          refine lv_goto (tgt := 6) hx hb dX2_partner_48 (by decide) ?_
          exact ih (i + 1) b _ _ ls (by omega) (by omega) (by omega) (by have q := xScan_pass (P := (fun j => decide ((if sd = 1 then nI (os (od j)) else nI (zs (od j))) = p1))) (i := i) (v := (fun j => if sd = 1 then nI (zs (od j)) else nI (os (od j)))) (k := p2) (f := cn - i) (b := b) hP (by omega); rw [Nat.sub_sub] at q; exact q.symm.trans hv) hX hS (lv_sub hl [0, 1, 2, 3, 4, 5] rfl)
        · have hP : (fun j => decide ((if sd = 1 then nI (os (od j)) else nI (zs (od j))) = p1)) i = true := by show decide _ = true; rw [← er_2]; exact decide_eq_true c_4
          refine lv_iload hx hb dX2_partner_26 (lv_at hl 1 rfl) ?_
          refine lv_iload_n hx hb dX2_partner_28 rfl (lv_at hl 5 rfl) ?_
          refine lv_icmp_ne (tgt := 42) hx hb dX2_partner_29 (by decide) (fun c_5 => ?_) (fun c_5 => ?_)
          · refine lv_iinc (v := nI (b + 1)) (lv' := [(4, .int (nI (b + 1))), (5, .int (nI i)), (0, .ref a4), (1, .int (nI sd)), (2, .int p1), (3, .int p2)]) hx hb dX2_partner_42 hl (k := 1) rfl (show nI b + Int32.ofInt 1 = _ from nI_add _ 1) (by decide) rfl (fun ls hl => ?_)
            refine lv_iinc (v := nI (i + 1)) (lv' := [(5, .int (nI (i + 1))), (4, .int (nI (b + 1))), (0, .ref a4), (1, .int (nI sd)), (2, .int p1), (3, .int p2)]) hx hb dX2_partner_45 hl (k := 1) rfl (show nI i + Int32.ofInt 1 = _ from nI_add _ 1) (by decide) rfl (fun ls hl => ?_)
            refine lv_goto (tgt := 6) hx hb dX2_partner_48 (by decide) ?_
            exact ih (i + 1) (b + 1) _ _ ls (by omega) (by omega) (by omega) (by have q := xScan_miss (P := (fun j => decide ((if sd = 1 then nI (os (od j)) else nI (zs (od j))) = p1))) (i := i) (v := (fun j => if sd = 1 then nI (zs (od j)) else nI (os (od j)))) (k := p2) (f := cn - i) (b := b) hP c_5 (by omega); rw [Nat.sub_sub] at q; exact q.symm.trans hv) hX hS (lv_sub hl [0, 1, 2, 3, 4, 5] rfl)
          · refine lv_aload_n hx hb dX2_partner_32 rfl (lv_at hl 2 rfl) ?_
            refine lv_iload hx hb dX2_partner_33 (lv_at hl 0 rfl) ?_
            refine lv_iconst (v := nI 1) hx hb dX2_partner_35 (by decide) ?_
            refine lv_iload_n hx hb dX2_partner_36 rfl (lv_at hl 3 rfl) ?_
            refine lv_isub hx hb dX2_partner_37 ?_
            refine x_ri (pk_sub (by omega)) ?_
            refine x_calli (x_runV (q := (RX2, TX2, 9)) (As := [.int (nI i), .int (nI (1 - sd))]) (rest := []) ⟨hx, hb, hml, hown, hts⟩ (ctX2_nameAt l G A M hcL hc6 hc7 hc8 hc9 hc10 hc11 hc12 hcn i (nI (1 - sd)) (by omega) (hod i (by omega))) (cwV 2 hts gX2_partner_X2_nameAt rfl rfl rfl (by decide +kernel) ⟨Nat.le_of_ble_eq_true rfl, Nat.le_of_ble_eq_true rfl⟩) hK hA hX hS hcL rfl rfl hl.1 rfl (lv_room (Nat.le_of_ble_eq_true rfl)) dX2_partner_38 ⟨by decide, by decide⟩) hS (fun r_6 M_7 H locs hp hX hS => ?_)
            obtain ⟨hM_, er_6⟩ := hp
            rw [hM_] at hX
            simp only [esd2] at er_6
            exact x_iret hx hb hr hlocks hK hA hX hS dX2_partner_41 (⟨rfl, by rw [← hv, xScan_hit hP c_5 (by omega), er_6, ite_not]⟩)
  exact loop (cn + 1) 0 0 _ _ ls (by omega) (by omega) (by omega) rfl hX hS (lv_sub hl [0, 1, 2, 3, 4, 5] rfl)
end
section
/-! the order of pairs, merging: pure -/
def seg (f : Nat → Nat) : Nat → Nat → List Nat
  | _, 0 => []
  | a, n + 1 => f a :: seg f (a + 1) n
theorem seg_cons {f : Nat → Nat} {a n : Nat} (h : 0 < n) : seg f a n = f a :: seg f (a + 1) (n - 1) := by
  obtain ⟨k, rfl⟩ : ∃ k, n = k + 1 := ⟨n - 1, by omega⟩
  rfl
theorem seg_snoc {f : Nat → Nat} : ∀ {n a : Nat}, seg f a (n + 1) = seg f a n ++ [f (a + n)]
  | 0, a => rfl
  | n + 1, a => by
    show f a :: seg f (a + 1) (n + 1) = _
    rw [seg_snoc (n := n) (a := a + 1), show a + 1 + n = a + (n + 1) by omega]
    rfl
theorem seg_congr {f g : Nat → Nat} : ∀ {n a : Nat}, (∀ j, a ≤ j → j < a + n → f j = g j) → seg f a n = seg g a n
  | 0, _, _ => rfl
  | n + 1, a, h => by
    show f a :: seg f (a + 1) n = g a :: seg g (a + 1) n
    rw [h a (by omega) (by omega), seg_congr (n := n) (a := a + 1) (fun j h1 h2 => h j (by omega) (by omega))]
theorem seg_append {f : Nat → Nat} : ∀ {n a m : Nat}, seg f a (n + m) = seg f a n ++ seg f (a + n) m
  | 0, a, m => by rw [Nat.zero_add]; rfl
  | n + 1, a, m => by
    rw [show n + 1 + m = (n + m) + 1 by omega]
    show f a :: seg f (a + 1) (n + m) = f a :: (seg f (a + 1) n ++ seg f (a + (n + 1)) m)
    rw [seg_append (n := n) (a := a + 1), show a + 1 + n = a + (n + 1) by omega]
theorem seg_mem {f : Nat → Nat} {x : Nat} : ∀ {n a : Nat}, x ∈ seg f a n → ∃ j, a ≤ j ∧ j < a + n ∧ f j = x
  | 0, _, h => by cases h
  | n + 1, a, h => by
    rcases List.mem_cons.mp h with q | q
    · exact ⟨a, by omega, by omega, q.symm⟩
    · obtain ⟨j, h1, h2, h3⟩ := seg_mem (n := n) (a := a + 1) q
      exact ⟨j, by omega, by omega, h3⟩
theorem seg_in {f : Nat → Nat} {j : Nat} : ∀ {n a : Nat}, a ≤ j → j < a + n → f j ∈ seg f a n
  | 0, _, h1, h2 => absurd h2 (by omega)
  | n + 1, a, h1, h2 => by
    rcases Nat.eq_or_lt_of_le h1 with q | q
    · subst q; exact List.mem_cons_self
    · exact List.mem_cons_of_mem _ (seg_in (n := n) (a := a + 1) (by omega) (by omega))
theorem seg_len {f : Nat → Nat} : ∀ {n a : Nat}, (seg f a n).length = n
  | 0, _ => rfl
  | n + 1, a => by show (seg f (a + 1) n).length + 1 = n + 1; rw [seg_len]
theorem seg_get {f : Nat → Nat} : ∀ {n a j : Nat}, j < n → (seg f a n)[j]? = some (f (a + j))
  | 0, _, _, h => absurd h (by omega)
  | n + 1, a, 0, _ => rfl
  | n + 1, a, j + 1, h => by
    show (seg f (a + 1) n)[j]? = _
    rw [seg_get (n := n) (a := a + 1) (by omega), show a + 1 + j = a + (j + 1) by omega]
/-- before: by score, the greater first, then by place -/
def xB (ab bl : Nat → Nat) (a b : Nat) : Prop := xGt ab bl a b ∨ (¬ xGt ab bl b a ∧ a < b)
theorem gt_tr {ab bl : Nat → Nat} {a b c : Nat} (hb : 0 < bl b) (hc : 0 < bl c) (ha : 0 < bl a) (h1 : ¬ xGt ab bl b a) (h2 : xGt ab bl b c) : xGt ab bl a c := by
  unfold xGt at *
  have h1 : ab b * bl a ≤ ab a * bl b := by omega
  have e1 : ab c * bl b * bl a < ab b * bl c * bl a := (Nat.mul_lt_mul_right ha).mpr h2
  have e2 : ab b * bl a * bl c ≤ ab a * bl b * bl c := Nat.mul_le_mul_right _ h1
  have e3 : (ab c * bl a) * bl b < (ab a * bl c) * bl b := by
    calc (ab c * bl a) * bl b = ab c * bl b * bl a := by ac_rfl
      _ < ab b * bl c * bl a := e1
      _ = ab b * bl a * bl c := by ac_rfl
      _ ≤ ab a * bl b * bl c := e2
      _ = (ab a * bl c) * bl b := by ac_rfl
  exact Nat.lt_of_mul_lt_mul_right e3
theorem gt_tr2 {ab bl : Nat → Nat} {a b c : Nat} (hb : 0 < bl b) (hc : 0 < bl c) (ha : 0 < bl a) (h1 : xGt ab bl a b) (h2 : ¬ xGt ab bl c b) : xGt ab bl a c := by
  unfold xGt at *
  have h2 : ab c * bl b ≤ ab b * bl c := by omega
  have e1 : ab c * bl b * bl a ≤ ab b * bl c * bl a := Nat.mul_le_mul_right _ h2
  have e2 : ab b * bl a * bl c < ab a * bl b * bl c := (Nat.mul_lt_mul_right hc).mpr h1
  have e3 : (ab c * bl a) * bl b < (ab a * bl c) * bl b := by
    calc (ab c * bl a) * bl b = ab c * bl b * bl a := by ac_rfl
      _ ≤ ab b * bl c * bl a := e1
      _ = ab b * bl a * bl c := by ac_rfl
      _ < ab a * bl b * bl c := e2
      _ = (ab a * bl c) * bl b := by ac_rfl
  exact Nat.lt_of_mul_lt_mul_right e3
theorem ngt_tr {ab bl : Nat → Nat} {a b c : Nat} (hb : 0 < bl b) (h1 : ¬ xGt ab bl b a) (h2 : ¬ xGt ab bl c b) : ¬ xGt ab bl c a := by
  unfold xGt at *
  have h1 : ab b * bl a ≤ ab a * bl b := by omega
  have h2 : ab c * bl b ≤ ab b * bl c := by omega
  have e1 : ab c * bl b * bl a ≤ ab b * bl c * bl a := Nat.mul_le_mul_right _ h2
  have e2 : ab b * bl a * bl c ≤ ab a * bl b * bl c := Nat.mul_le_mul_right _ h1
  have e3 : (ab c * bl a) * bl b ≤ (ab a * bl c) * bl b := by
    calc (ab c * bl a) * bl b = ab c * bl b * bl a := by ac_rfl
      _ ≤ ab b * bl c * bl a := e1
      _ = ab b * bl a * bl c := by ac_rfl
      _ ≤ ab a * bl b * bl c := e2
      _ = (ab a * bl c) * bl b := by ac_rfl
  have := Nat.le_of_mul_le_mul_right e3 hb
  omega
theorem gt_as {ab bl : Nat → Nat} {a b : Nat} (h : xGt ab bl a b) : ¬ xGt ab bl b a := by unfold xGt at *; omega
theorem xB_tr {ab bl : Nat → Nat} {a b c : Nat} (ha : 0 < bl a) (hb : 0 < bl b) (hc : 0 < bl c) (h1 : xB ab bl a b) (h2 : xB ab bl b c) : xB ab bl a c := by
  rcases h1 with p | ⟨p, p2⟩ <;> rcases h2 with q | ⟨q, q2⟩
  · exact Or.inl (gt_tr hb hc ha (gt_as p) q)
  · exact Or.inl (gt_tr2 hb hc ha p q)
  · exact Or.inl (gt_tr hb hc ha p q)
  · exact Or.inr ⟨ngt_tr hb p q, by omega⟩
theorem xB_as {ab bl : Nat → Nat} {a b : Nat} (h1 : xB ab bl a b) (h2 : xB ab bl b a) : False := by
  rcases h1 with p | ⟨p, p2⟩ <;> rcases h2 with q | ⟨q, q2⟩
  · exact gt_as p q
  · exact q p
  · exact p q
  · omega
theorem mem_merge {le : Nat → Nat → Bool} {x : Nat} {xs ys : List Nat} (h : x ∈ List.merge xs ys le) : x ∈ xs ∨ x ∈ ys := List.mem_append.mp ((List.merge_perm_append (le := le)).mem_iff.mp h)
/-- rows in a row: apart, each before the next ones -/
theorem merge_good {ab bl : Nat → Nat} {le : Nat → Nat → Bool} (hle : ∀ a b, le a b = true ↔ ¬ xGt ab bl b a) : ∀ (xs ys : List Nat), (∀ x ∈ xs, 0 < bl x) → (∀ y ∈ ys, 0 < bl y) → (∀ x ∈ xs, ∀ y ∈ ys, x < y) → xs.Pairwise (xB ab bl) → ys.Pairwise (xB ab bl) → (List.merge xs ys le).Pairwise (xB ab bl)
  | [], ys, _, _, _, _, h => by rw [List.nil_merge]; exact h
  | x :: xs, [], _, _, _, h, _ => by rw [List.merge_right]; exact h
  | x :: xs, y :: ys, hx, hy, hxy, hp, hq => by
    have hbx := hx x List.mem_cons_self
    have hby := hy y List.mem_cons_self
    obtain ⟨p1, p2⟩ := List.pairwise_cons.mp hp
    obtain ⟨q1, q2⟩ := List.pairwise_cons.mp hq
    by_cases h : le x y = true
    · rw [List.cons_merge_cons_pos _ _ _ h]
      refine List.pairwise_cons.mpr ⟨fun z hz => ?_, merge_good hle xs (y :: ys) (fun a ha => hx a (List.mem_cons_of_mem _ ha)) hy (fun a ha b hb => hxy a (List.mem_cons_of_mem _ ha) b hb) p2 hq⟩
      have h0 : xB ab bl x y := Or.inr ⟨(hle x y).mp h, hxy x List.mem_cons_self y List.mem_cons_self⟩
      rcases mem_merge hz with q | q
      · exact p1 z q
      · rcases List.mem_cons.mp q with q | q
        · rw [q]; exact h0
        · exact xB_tr hbx hby (hy z (List.mem_cons_of_mem _ q)) h0 (q1 z q)
    · rw [List.cons_merge_cons_neg _ _ _ h]
      refine List.pairwise_cons.mpr ⟨fun z hz => ?_, merge_good hle (x :: xs) ys hx (fun a ha => hy a (List.mem_cons_of_mem _ ha)) (fun a ha b hb => hxy a ha b (List.mem_cons_of_mem _ hb)) hp q2⟩
      have hg : xGt ab bl y x := by
        refine Classical.byContradiction fun q => h ((hle x y).mpr q)
      rcases mem_merge hz with q | q
      · rcases List.mem_cons.mp q with q | q
        · rw [q]; exact Or.inl hg
        · exact xB_tr hby hbx (hx z (List.mem_cons_of_mem _ q)) (Or.inl hg) (p1 z q)
      · exact q1 z q
/-- the places lo .. hi hold their own numbers, in order -/
def xGood (ab bl od : Nat → Nat) (lo hi : Nat) : Prop := (seg od lo (hi - lo)).Pairwise (xB ab bl) ∧ (seg od lo (hi - lo)).Perm (seg (fun k => k) lo (hi - lo))
theorem xGood_in {ab bl od : Nat → Nat} {lo hi j : Nat} (h : xGood ab bl od lo hi) (h1 : lo ≤ j) (h2 : j < hi) : lo ≤ od j ∧ od j < hi := by
  obtain ⟨k, a, b, c⟩ := seg_mem (h.2.mem_iff.mp (seg_in (f := od) h1 (show j < lo + (hi - lo) by omega)))
  have c : k = _ := c
  omega
theorem xGood_mem {ab bl od : Nat → Nat} {lo hi x : Nat} (h : xGood ab bl od lo hi) (hx : x ∈ seg od lo (hi - lo)) : lo ≤ x ∧ x < hi := by
  obtain ⟨k, a, b, c⟩ := seg_mem (h.2.mem_iff.mp hx)
  have c : k = _ := c
  omega
theorem xGood_congr {ab bl od od' : Nat → Nat} {lo hi : Nat} (h : ∀ j, lo ≤ j → j < hi → od' j = od j) (hg : xGood ab bl od lo hi) : xGood ab bl od' lo hi := by
  have e : seg od' lo (hi - lo) = seg od lo (hi - lo) := seg_congr (fun j h1 h2 => h j h1 (by omega))
  unfold xGood
  rw [e]
  exact hg
theorem xGood_merge {ab bl od sp : Nat → Nat} {le : Nat → Nat → Bool} (hle : ∀ a b, le a b = true ↔ ¬ xGt ab bl b a) {lo mid hi cn : Nat} (h1 : lo ≤ mid) (h2 : mid ≤ hi) (h3 : hi ≤ cn) (hbl : ∀ j, j < cn → 0 < bl j) (g1 : xGood ab bl od lo mid) (g2 : xGood ab bl od mid hi) (hm : seg sp lo (hi - lo) = List.merge (seg od lo (mid - lo)) (seg od mid (hi - mid)) le) : xGood ab bl sp lo hi := by
  unfold xGood
  rw [hm]
  refine ⟨merge_good hle _ _ (fun x hx => hbl x ?_) (fun x hx => hbl x ?_) (fun x hx y hy => ?_) g1.1 g2.1, ?_⟩
  · have := xGood_mem g1 hx; omega
  · have := xGood_mem g2 hx; omega
  · have q1 := xGood_mem g1 hx
    have q2 := xGood_mem g2 hy
    omega
  · refine (List.merge_perm_append (le := le)).trans ((g1.2.append g2.2).trans ?_)
    rw [show hi - lo = (mid - lo) + (hi - mid) by omega, seg_append, show lo + (mid - lo) = mid by omega]
theorem xGood_uniq {ab bl f g : Nat → Nat} {n : Nat} (h1 : xGood ab bl f 0 n) (h2 : xGood ab bl g 0 n) : ∀ j, j < n → f j = g j := by
  have e : seg f 0 (n - 0) = seg g 0 (n - 0) := (h1.2.trans h2.2.symm).eq_of_pairwise (fun a b _ _ p q => (xB_as p q).elim) h1.1 h2.1
  intro j hj
  have a := seg_get (f := f) (n := n - 0) (a := 0) (j := j) (by omega)
  have b := seg_get (f := g) (n := n - 0) (a := 0) (j := j) (by omega)
  rw [e] at a
  have := Option.some.inj (a.symm.trans b)
  rw [Nat.zero_add] at this
  exact this
end
section
/-! Listing: merge, sort -/
def xLe (ab bl : Nat → Nat) (a b : Nat) : Bool := decide (ab b * bl a ≤ ab a * bl b)
theorem xLe_iff {ab bl : Nat → Nat} : ∀ a b, xLe ab bl a b = true ↔ ¬ xGt ab bl b a := fun a b => by
  unfold xLe xGt
  rw [decide_eq_true_iff]
  omega
theorem seg_up {s : Nat → Nat} {lo to x : Nat} (h : lo ≤ to) : seg (va_up s to x) lo (to + 1 - lo) = seg s lo (to - lo) ++ [x] := by
  rw [show to + 1 - lo = (to - lo) + 1 by omega, seg_snoc, show lo + (to - lo) = to by omega, va_up_self]
  congr 1
  exact seg_congr (fun j h1 h2 => va_up_ne _ _ (by omega))
theorem mgL {ab bl od : Nat → Nat} {i mid j hi : Nat} (h1 : i < mid) (h2 : hi ≤ j ∨ (j < hi ∧ ¬ xGt ab bl (od j) (od i))) : List.merge (seg od i (mid - i)) (seg od j (hi - j)) (xLe ab bl) = od i :: List.merge (seg od (i + 1) (mid - (i + 1))) (seg od j (hi - j)) (xLe ab bl) := by
  rw [seg_cons (f := od) (a := i) (n := mid - i) (by omega), Nat.sub_sub]
  rcases h2 with q | ⟨q, q2⟩
  · rw [show hi - j = 0 by omega]
    show List.merge _ [] _ = _ :: List.merge _ [] _
    rw [List.merge_right, List.merge_right]
  · rw [seg_cons (f := od) (a := j) (n := hi - j) (by omega), List.cons_merge_cons_pos _ _ _ ((xLe_iff _ _).mpr q2)]
theorem mgR {ab bl od : Nat → Nat} {i mid j hi : Nat} (h1 : j < hi) (h2 : mid ≤ i ∨ (i < mid ∧ xGt ab bl (od j) (od i))) : List.merge (seg od i (mid - i)) (seg od j (hi - j)) (xLe ab bl) = od j :: List.merge (seg od i (mid - i)) (seg od (j + 1) (hi - (j + 1))) (xLe ab bl) := by
  rw [seg_cons (f := od) (a := j) (n := hi - j) (by omega), Nat.sub_sub]
  rcases h2 with q | ⟨q, q2⟩
  · rw [show mid - i = 0 by omega]
    show List.merge [] _ _ = _ :: List.merge [] _ _
    rw [List.nil_merge, List.nil_merge]
  · rw [seg_cons (f := od) (a := i) (n := mid - i) (by omega), List.cons_merge_cons_neg _ _ _ (fun z => (xLe_iff _ _).mp z q2)]
theorem mg_put {S T T' R : List Nat} {x : Nat} (h : S ++ T = R) (hT : T = x :: T') : S ++ [x] ++ T' = R := by
  rw [List.append_assoc, ← h, hT]
  rfl
theorem xGood_0 {ab bl od : Nat → Nat} {lo hi : Nat} (h : hi ≤ lo) : xGood ab bl od lo hi := by
  unfold xGood
  rw [show hi - lo = 0 by omega]
  exact ⟨List.Pairwise.nil, List.Perm.refl _⟩
theorem so_in {ab bl o : Nat → Nat} {cn w : Nat} (hw : 1 ≤ w) (h : ∀ k, k * w < cn → xGood ab bl o (k * w) (min (k * w + w) cn)) : ∀ j, j < cn → o j < cn := by
  intro j hj
  have h1 : j / w * w ≤ j := Nat.div_mul_le_self j w
  have h2 : j < j / w * w + w := by
    have := Nat.lt_div_mul_add (a := j) (b := w) (by omega)
    omega
  have h3 := xGood_in (h (j / w) (by omega)) h1 (by omega)
  omega
theorem so_one {ab bl o : Nat → Nat} {cn : Nat} (h : ∀ j, j < cn → o j = j) : ∀ k, k * 1 < cn → xGood ab bl o (k * 1) (min (k * 1 + 1) cn) := by
  intro k hk
  rw [Nat.mul_one] at hk ⊢
  rw [show min (k + 1) cn = k + 1 by omega]
  unfold xGood
  rw [show k + 1 - k = 1 by omega]
  show ([o k] : List Nat).Pairwise _ ∧ List.Perm [o k] [k]
  rw [h k hk]
  exact ⟨List.pairwise_singleton _ _, List.Perm.refl _⟩
theorem so_step {ab bl o s8 s7 : Nat → Nat} {cn w kk lo : Nat} (hlo : lo = kk * (2 * w)) (hlt : lo < cn) (hw : 1 ≤ w) (hbl : ∀ j, j < cn → 0 < bl j) (hSB : ∀ k, k * w < cn → xGood ab bl o (k * w) (min (k * w + w) cn)) (hin : ∀ k, k < kk → k * (2 * w) < cn → xGood ab bl s8 (k * (2 * w)) (min (k * (2 * w) + 2 * w) cn))
    (hf : ∀ k, k < lo ∨ min (lo + 2 * w) cn ≤ k → s7 k = s8 k) (hs : seg s7 lo (min (lo + 2 * w) cn - lo) = List.merge (seg o lo (min (lo + w) cn - lo)) (seg o (min (lo + w) cn) (min (lo + 2 * w) cn - min (lo + w) cn)) (xLe ab bl)) : ∀ k, k < kk + 1 → k * (2 * w) < cn → xGood ab bl s7 (k * (2 * w)) (min (k * (2 * w) + 2 * w) cn) := by
  intro k hk hkc
  rcases Nat.lt_or_ge k kk with q | q
  · refine xGood_congr (fun j h1 h2 => hf j (Or.inl ?_)) (hin k q hkc)
    have h3 : (k + 1) * (2 * w) ≤ kk * (2 * w) := Nat.mul_le_mul_right _ q
    rw [Nat.succ_mul] at h3
    omega
  · rw [show k = kk by omega, ← hlo]
    have e1 : 2 * kk * w = lo := by rw [hlo]; ac_rfl
    have g1 := hSB (2 * kk) (by omega)
    rw [e1] at g1
    refine xGood_merge xLe_iff (by omega) (by omega) (by omega) hbl g1 ?_ hs
    rcases Nat.lt_or_ge (lo + w) cn with r | r
    · have e2 : (2 * kk + 1) * w = lo + w := by rw [Nat.succ_mul, e1]
      have g2 := hSB (2 * kk + 1) (by omega)
      rw [e2] at g2
      rw [show min (lo + w) cn = lo + w by omega, show lo + 2 * w = lo + w + w by omega]
      exact g2
    · exact xGood_0 (by omega)
theorem so_copy {ab bl o s8 : Nat → Nat} {cn w kk lo : Nat} (hlo : lo = kk * (2 * w)) (hge : cn ≤ lo) (hin : ∀ k, k < kk → k * (2 * w) < cn → xGood ab bl s8 (k * (2 * w)) (min (k * (2 * w) + 2 * w) cn)) : ∀ k, k * (w * 2) < cn → xGood ab bl (va_cpy s8 o 0 0 cn) (k * (w * 2)) (min (k * (w * 2) + w * 2) cn) := by
  intro k hk
  rw [Nat.mul_comm w 2] at hk ⊢
  have hkk : k < kk := by
    rcases Nat.lt_or_ge k kk with q | q
    · exact q
    · have := Nat.mul_le_mul_right (2 * w) q
      omega
  refine xGood_congr (fun j h1 h2 => ?_) (hin k hkk hk)
  rw [pk_cpy_in (by omega) (by omega), Nat.zero_add, Nat.sub_zero]
theorem so_end {ab bl o : Nat → Nat} {cn w : Nat} (hge : cn ≤ w) (h : ∀ k, k * w < cn → xGood ab bl o (k * w) (min (k * w + w) cn)) : xGood ab bl o 0 cn := by
  rcases Nat.eq_zero_or_pos cn with q | q
  · exact xGood_0 (by omega)
  · have g := h 0 (by omega)
    rw [Nat.zero_mul, Nat.zero_add, show min w cn = cn by omega] at g
    exact g
theorem cpy_n {f g : Nat → Nat} {n : Nat} : va_cpy (fun k => nI (f k)) (fun k => nI (g k)) 0 0 n = fun k => nI (va_cpy f g 0 0 n k) := by
  funext k
  simp only [va_cpy]
  split <;> rfl
theorem x_min {a b : Nat} (ha : a < 2 ^ 31) (hb : b < 2 ^ 31) : (if nI b < nI a then nI b else nI a) = nI (min a b) := by
  by_cases h : b < a
  · rw [if_pos ((nI_ltI hb ha).mpr h), show min a b = b by omega]
  · rw [if_neg (fun q => h ((nI_ltI hb ha).mp q)), show min a b = a by omega]
section XCP
variable {p : Program} {l : Launch} {e : Env} {R : Room} {s : State} {m : MethodId} {args : Array Value} {below : List Frame} {meth : Method} {c : Code} {H : Heap} {locs : List Loc} {cells slots : Nat} {Q : State → Prop}
variable {cc : ByteArray} {pc : Nat} {ls : Array Slot} {rest : List Value} {A : Nat → Prop} {M : xM} {G : xG} {H0 : Heap}
theorem x_copy (hx : p.tables.exec = Jvm.exec) (hb : c.code = cc) (hml : c.maxLocals = ls.size) {own : String} {index : Nat} (hown : s.vm.findClass own = some m.cls) (hlink : (Cond.methodLink own index arraycopyName).before args s = true) (hnat : (Cond.native arraycopyName).before args s = true) (hstat : (Cond.static arraycopyName).before args s = true) (hini : (Cond.initialized "java/lang/System").before args s = true)
    (hK : va_K G.1 vwCl (xT G) s) (hX : xw G.1 vwCl A M H) (hS : va_S A H0 H locs) {t0 t1 a0 a1 n0 n1 n : Nat} {f g : Nat → Int32} (ha0 : M t0 = some (a0, .inl (G.2 0, n0, .inl f))) (ha1 : M t1 = some (a1, .inl (G.2 0, n1, .inl g))) (h4 : n ≤ n0) (h5 : n ≤ n1) (hn : n < 2 ^ 31)
    (hframes : 1 ≤ R.frames) (hlocals : (rest.map fun v => v.category).sum + (nativeFrameWords "java/lang/System" "arraycopy" 5 + 11) ≤ R.locals) (hdg : decode cc pc = .ok (.invokestatic index, 3))
    (kk : ∀ (H1 : Heap) (locs1 : List Loc), xw G.1 vwCl A (xu M t1 (a1, .inl (G.2 0, n1, .inl (va_cpy f g 0 0 n)))) H1 → va_S A H0 H1 locs1 → W p l e R s m args below meth c H1 locs1 cells slots Q (F0 m (pc + 3) ls rest)) : W p l e R s m args below meth c H locs cells slots Q (F0 m pc ls (.int (nI n) :: .int (nI 0) :: .ref a1 :: .int (nI 0) :: .ref a0 :: rest)) := by
  obtain ⟨ws, hP, hD, h3, h9⟩ := hX
  obtain ⟨q0, hq0⟩ := h3 t0 _ ha0
  obtain ⟨q1, hq1⟩ := h3 t1 _ ha1
  have z0 : (nI 0).toNatClampNeg = 0 := nI_clamp (by omega)
  refine va_copyi hx hb hml hown hlink hnat hstat hini hK hP hD hS q0 q1 0 0 hq0 hq1 rfl rfl rfl (nI_pos (by omega)) (nI_pos (by omega)) (nI_pos hn) (by rw [z0, nI_clamp hn]; omega) (by rw [z0, nI_clamp hn]; omega) (fun _ _ => rfl) hframes hlocals hdg (fun H1 locs1 hP1 hD1 hS1 => ?_)
  rw [z0, nI_clamp hn] at hP1 hD1
  exact kk H1 locs1 (xw_set hP1 hD1 h3 h9 hq1 ha1) hS1
end XCP

abbrev rmX2_merge : Room := { frames := 1, cells := 0, slots := 0, locals := 22 }
set_option maxHeartbeats 4000000 in
set_option maxRecDepth 100000 in
/-- Listing.merge -/
theorem ctX2_merge (l : Launch) (G : xG) (A : Nat → Prop) (M : xM) {bg : Int32} {cn a4 a6 a7 a8 a9 a10 a11 a12 : Nat} {zs os ab bl od sp pr : Nat → Nat} (hcL : M 4 = some (a4, .inr (4, [.int bg, .int (nI cn), .ref a6, .ref a7, .ref a8, .ref a9, .ref a10, .ref a11, .ref a12]))) (hc6 : M 6 = some (a6, .inl (G.2 0, 625, .inl (fun k => nI (zs k))))) (hc7 : M 7 = some (a7, .inl (G.2 0, 625, .inl (fun k => nI (os k))))) (hc8 : M 8 = some (a8, .inl (G.2 1, 625, .inr (.inl (fun k => lN (ab k)))))) (hc9 : M 9 = some (a9, .inl (G.2 1, 625, .inr (.inl (fun k => lN (bl k)))))) (hc10 : M 10 = some (a10, .inl (G.2 0, 625, .inl (fun k => nI (od k))))) (hc11 : M 11 = some (a11, .inl (G.2 0, 625, .inl (fun k => nI (sp k))))) (hc12 : M 12 = some (a12, .inl (G.2 2, 51, .inl (fun k => nI (pr k))))) (hcn : cn ≤ 625) (lo mid hi : Nat) (h1 : lo ≤ mid) (h2 : mid ≤ hi) (h3 : hi ≤ cn) (hod : ∀ j, j < cn → od j < 625 ∧ ab (od j) < 1000000000 ∧ bl (od j) < 1000000000) : Met l yX2_merge wsX2_merge rmX2_merge (va_Pc ([.ref a4, .int (nI lo), .int (nI mid), .int (nI hi)] : List Value) (xPc G A M)) (va_Qv (fun M1 => ∃ s7 : Nat → Nat, M1 = xu M 11 (a11, .inl (G.2 0, 625, .inl (fun k => nI (s7 k)))) ∧ (∀ k, k < lo ∨ hi ≤ k → s7 k = sp k) ∧ seg s7 lo (hi - lo) = List.merge (seg od lo (mid - lo)) (seg od mid (hi - mid)) (xLe ab bl)) (xPc G A) A) 0 0 A := by
  refine x_met (cc := cX2_merge) (maxL := 7) (ret := none) RX2 (by decide) rfl (Nat.le_of_ble_eq_true rfl) rfl ?_
  intro p e s m below meth c hx hb hr hts hown hlocks hml hin hK hA hX ls hl
  have inX2 : ∀ w ∈ wsX20, w ∈ wsX2_merge := by decide +kernel
  have lk_fieldLink_36 := hts (.fieldLink RX2 36 "Reconcile$Listing" "spare" "[I") (by decide +kernel)
  have lk_fieldLink_33 := hts (.fieldLink RX2 33 "Reconcile$Listing" "order" "[I") (by decide +kernel)
  have hS : va_S A s.heap s.heap [] := va_S.rf
  have hl : lv_has ls 7 [(0, .ref a4), (1, .int (nI lo)), (2, .int (nI mid)), (3, .int (nI hi))] := hl
  refine lv_iload_n hx hb dX2_merge_0 rfl (lv_at hl 1 rfl) ?_
  refine lv_istore (lv' := [(4, .int (nI lo)), (0, .ref a4), (1, .int (nI lo)), (2, .int (nI mid)), (3, .int (nI hi))]) hx hb dX2_merge_1 hl (by decide) rfl (fun ls hl => ?_)
  refine lv_iload_n hx hb dX2_merge_3 rfl (lv_at hl 3 rfl) ?_
  refine lv_istore (lv' := [(5, .int (nI mid)), (4, .int (nI lo)), (0, .ref a4), (1, .int (nI lo)), (2, .int (nI mid)), (3, .int (nI hi))]) hx hb dX2_merge_4 hl (by decide) rfl (fun ls hl => ?_)
  refine lv_iload_n hx hb dX2_merge_6 rfl (lv_at hl 3 rfl) ?_
  refine lv_istore (lv' := [(6, .int (nI lo)), (5, .int (nI mid)), (4, .int (nI lo)), (0, .ref a4), (1, .int (nI lo)), (2, .int (nI mid)), (3, .int (nI hi))]) hx hb dX2_merge_7 hl (by decide) rfl (fun ls hl => ?_)
  have loop : ∀ (n : Nat) (to : Nat) (i : Nat) (j : Nat) (s9 : Nat → Nat) (M9 : xM) (H : Heap) (locs : List Loc) (ls : Array Slot), hi < to + n → (lo ≤ i ∧ i ≤ mid ∧ mid ≤ j ∧ j ≤ hi ∧ to + mid = i + j) → (seg s9 lo (to - lo) ++ List.merge (seg od i (mid - i)) (seg od j (hi - j)) (xLe ab bl) = List.merge (seg od lo (mid - lo)) (seg od mid (hi - mid)) (xLe ab bl)) → (∀ k, k < lo ∨ hi ≤ k → s9 k = sp k) → M9 = xu M 11 (a11, .inl (G.2 0, 625, .inl (fun k => nI (s9 k)))) → xw G.1 vwCl A M9 H → va_S A s.heap H locs → lv_has ls 7 [(6, .int (nI to)), (5, .int (nI j)), (4, .int (nI i)), (0, .ref a4), (1, .int (nI lo)), (2, .int (nI mid)), (3, .int (nI hi))] → W p l e rmX2_merge s m ([.ref a4, .int (nI lo), .int (nI mid), .int (nI hi)] : List Value).toArray below meth c H locs 0 0 (MQ below (va_Qv (fun M1 => ∃ s7 : Nat → Nat, M1 = xu M 11 (a11, .inl (G.2 0, 625, .inl (fun k => nI (s7 k)))) ∧ (∀ k, k < lo ∨ hi ≤ k → s7 k = sp k) ∧ seg s7 lo (hi - lo) = List.merge (seg od lo (mid - lo)) (seg od mid (hi - mid)) (xLe ab bl)) (xPc G A) A) ([.ref a4, .int (nI lo), .int (nI mid), .int (nI hi)] : List Value).toArray s 0 0 A) (F0 m 9 ls []) := by
    intro n
    induction n with
    | zero => intro to i j s9 M9 H locs ls hn0 hb1 hsg hfr; exact absurd hn0 (by omega)
    | succ n ih =>
      intro to i j s9 M9 H locs ls hn0 hb1 hsg hfr hM9 hX hS hl
      have hcL : M9 4 = some (a4, .inr (4, [.int bg, .int (nI cn), .ref a6, .ref a7, .ref a8, .ref a9, .ref a10, .ref a11, .ref a12])) := by rw [hM9, xu_n (by omega)]; exact hcL
      have hc6 : M9 6 = some (a6, .inl (G.2 0, 625, .inl (fun k => nI (zs k)))) := by rw [hM9, xu_n (by omega)]; exact hc6
      have hc7 : M9 7 = some (a7, .inl (G.2 0, 625, .inl (fun k => nI (os k)))) := by rw [hM9, xu_n (by omega)]; exact hc7
      have hc8 : M9 8 = some (a8, .inl (G.2 1, 625, .inr (.inl (fun k => lN (ab k))))) := by rw [hM9, xu_n (by omega)]; exact hc8
      have hc9 : M9 9 = some (a9, .inl (G.2 1, 625, .inr (.inl (fun k => lN (bl k))))) := by rw [hM9, xu_n (by omega)]; exact hc9
      have hc10 : M9 10 = some (a10, .inl (G.2 0, 625, .inl (fun k => nI (od k)))) := by rw [hM9, xu_n (by omega)]; exact hc10
      have hc12 : M9 12 = some (a12, .inl (G.2 2, 51, .inl (fun k => nI (pr k)))) := by rw [hM9, xu_n (by omega)]; exact hc12
      have hc11 : M9 11 = some (a11, .inl (G.2 0, 625, .inl (fun k => nI (s9 k)))) := by rw [hM9]; exact xu_s
      refine lv_iload hx hb dX2_merge_9 (lv_at hl 0 rfl) ?_
      refine lv_iload_n hx hb dX2_merge_11 rfl (lv_at hl 6 rfl) ?_
      refine lv_icmp_ge (tgt := 91) hx hb dX2_merge_12 (by decide) (fun c_1 => ?_) (fun c_1 => ?_)
      · have c_1 : hi ≤ to := (nI_leI (by omega) (by omega)).mp c_1
        exact x_vret hx hb hr hlocks hK hA hX hS dX2_merge_91 (⟨s9, hM9, hfr, by have q := hsg; rw [show mid - i = 0 by omega, show hi - j = 0 by omega, show to = hi by omega] at q; have z : List.merge (seg od i 0) (seg od j 0) (xLe ab bl) = [] := List.nil_merge _; rw [z, List.append_nil] at q; exact q⟩)
      · have c_1 : ¬ (hi ≤ to) := fun q => c_1 ((nI_leI (by omega) (by omega)).mpr q)
        refine lv_iload hx hb dX2_merge_15 (lv_at hl 1 rfl) ?_
        refine lv_iload_n hx hb dX2_merge_17 rfl (lv_at hl 6 rfl) ?_
        refine lv_icmp_ge (tgt := 48) hx hb dX2_merge_18 (by decide) (fun c_2 => ?_) (fun c_2 => ?_)
        · have c_2 : hi ≤ j := (nI_leI (by omega) (by omega)).mp c_2
          have hoi := hod i (by omega)
          refine lv_aload_n hx hb dX2_merge_48 rfl (lv_at hl 3 rfl) ?_
          refine x_get (ci := 4) (v := .ref a11) (C := RX2) (T := TX2) (N := 9) hx hb hts inX2 hown hK hX hcL rfl 7 (by decide) lk_fieldLink_36 (fun _ h9 => h9) rfl dX2_merge_49 ?_
          refine lv_iload hx hb dX2_merge_52 (lv_at hl 0 rfl) ?_
          refine lv_aload_n hx hb dX2_merge_54 rfl (lv_at hl 3 rfl) ?_
          refine x_get (ci := 4) (v := .ref a10) (C := RX2) (T := TX2) (N := 9) hx hb hts inX2 hown hK hX hcL rfl 6 (by decide) lk_fieldLink_33 (fun _ h9 => h9) rfl dX2_merge_55 ?_
          refine lv_iload hx hb dX2_merge_58 (lv_at hl 2 rfl) ?_
          refine x_iN hx hb hK hX hc10 (by omega) (by decide) dX2_merge_60 ?_
          refine x_isN hx hb hK hX hS hc11 (by omega) (by decide) dX2_merge_61 (fun H locs hX hS => ?_)
          rw [upd_n] at hX
          obtain ⟨M_3, hM_3⟩ : ∃ zM : xM, zM = xu M9 11 (a11, .inl (G.2 0, 625, .inl (fun k => nI ((va_up s9 to (od i)) k)))) := ⟨_, rfl⟩
          have hX : xw G.1 vwCl A M_3 H := by rw [hM_3]; exact hX
          have hcL : M_3 4 = some (a4, .inr (4, [.int bg, .int (nI cn), .ref a6, .ref a7, .ref a8, .ref a9, .ref a10, .ref a11, .ref a12])) := by rw [hM_3, xu_n (by omega)]; exact hcL
          have hc6 : M_3 6 = some (a6, .inl (G.2 0, 625, .inl (fun k => nI (zs k)))) := by rw [hM_3, xu_n (by omega)]; exact hc6
          have hc7 : M_3 7 = some (a7, .inl (G.2 0, 625, .inl (fun k => nI (os k)))) := by rw [hM_3, xu_n (by omega)]; exact hc7
          have hc8 : M_3 8 = some (a8, .inl (G.2 1, 625, .inr (.inl (fun k => lN (ab k))))) := by rw [hM_3, xu_n (by omega)]; exact hc8
          have hc9 : M_3 9 = some (a9, .inl (G.2 1, 625, .inr (.inl (fun k => lN (bl k))))) := by rw [hM_3, xu_n (by omega)]; exact hc9
          have hc10 : M_3 10 = some (a10, .inl (G.2 0, 625, .inl (fun k => nI (od k)))) := by rw [hM_3, xu_n (by omega)]; exact hc10
          have hc12 : M_3 12 = some (a12, .inl (G.2 2, 51, .inl (fun k => nI (pr k)))) := by rw [hM_3, xu_n (by omega)]; exact hc12
          have hc11 : M_3 11 = some (a11, .inl (G.2 0, 625, .inl (fun k => nI ((va_up s9 to (od i)) k)))) := by rw [hM_3]; exact xu_s
          refine lv_iinc (v := nI (i + 1)) (lv' := [(4, .int (nI (i + 1))), (6, .int (nI to)), (5, .int (nI j)), (0, .ref a4), (1, .int (nI lo)), (2, .int (nI mid)), (3, .int (nI hi))]) hx hb dX2_merge_62 hl (k := 2) rfl (show nI i + Int32.ofInt 1 = _ from nI_add _ 1) (by decide) rfl (fun ls hl => ?_)
          refine lv_goto (tgt := 85) hx hb dX2_merge_65 (by decide) ?_
          refine lv_iinc (v := nI (to + 1)) (lv' := [(6, .int (nI (to + 1))), (4, .int (nI (i + 1))), (5, .int (nI j)), (0, .ref a4), (1, .int (nI lo)), (2, .int (nI mid)), (3, .int (nI hi))]) hx hb dX2_merge_85 hl (k := 1) rfl (show nI to + Int32.ofInt 1 = _ from nI_add _ 1) (by decide) rfl (fun ls hl => ?_)
          refine lv_goto (tgt := 9) hx hb dX2_merge_88 (by decide) ?_
          exact ih (to + 1) (i + 1) j (va_up s9 to (od i)) M_3 _ _ ls (by omega) (⟨by omega, by omega, by omega, by omega, by omega⟩) (by rw [seg_up (by omega)]; exact mg_put hsg (mgL (by omega) (Or.inl (by omega)))) (fun k hk => by rw [va_up_ne _ _ (by omega)]; exact hfr k hk) (by rw [hM_3, hM9, x_uu]) hX hS (lv_sub hl [0, 2, 1, 3, 4, 5, 6] rfl)
        · have c_2 : ¬ (hi ≤ j) := fun q => c_2 ((nI_leI (by omega) (by omega)).mpr q)
          refine lv_iload hx hb dX2_merge_21 (lv_at hl 2 rfl) ?_
          refine lv_iload_n hx hb dX2_merge_23 rfl (lv_at hl 5 rfl) ?_
          refine lv_icmp_ge (tgt := 68) hx hb dX2_merge_24 (by decide) (fun c_4 => ?_) (fun c_4 => ?_)
          · have c_4 : mid ≤ i := (nI_leI (by omega) (by omega)).mp c_4
            have hoj := hod j (by omega)
            refine lv_aload_n hx hb dX2_merge_68 rfl (lv_at hl 3 rfl) ?_
            refine x_get (ci := 4) (v := .ref a11) (C := RX2) (T := TX2) (N := 9) hx hb hts inX2 hown hK hX hcL rfl 7 (by decide) lk_fieldLink_36 (fun _ h9 => h9) rfl dX2_merge_69 ?_
            refine lv_iload hx hb dX2_merge_72 (lv_at hl 0 rfl) ?_
            refine lv_aload_n hx hb dX2_merge_74 rfl (lv_at hl 3 rfl) ?_
            refine x_get (ci := 4) (v := .ref a10) (C := RX2) (T := TX2) (N := 9) hx hb hts inX2 hown hK hX hcL rfl 6 (by decide) lk_fieldLink_33 (fun _ h9 => h9) rfl dX2_merge_75 ?_
            refine lv_iload hx hb dX2_merge_78 (lv_at hl 1 rfl) ?_
            refine x_iN hx hb hK hX hc10 (by omega) (by decide) dX2_merge_80 ?_
            refine x_isN hx hb hK hX hS hc11 (by omega) (by decide) dX2_merge_81 (fun H locs hX hS => ?_)
            rw [upd_n] at hX
            obtain ⟨M_5, hM_5⟩ : ∃ zM : xM, zM = xu M9 11 (a11, .inl (G.2 0, 625, .inl (fun k => nI ((va_up s9 to (od j)) k)))) := ⟨_, rfl⟩
            have hX : xw G.1 vwCl A M_5 H := by rw [hM_5]; exact hX
            have hcL : M_5 4 = some (a4, .inr (4, [.int bg, .int (nI cn), .ref a6, .ref a7, .ref a8, .ref a9, .ref a10, .ref a11, .ref a12])) := by rw [hM_5, xu_n (by omega)]; exact hcL
            have hc6 : M_5 6 = some (a6, .inl (G.2 0, 625, .inl (fun k => nI (zs k)))) := by rw [hM_5, xu_n (by omega)]; exact hc6
            have hc7 : M_5 7 = some (a7, .inl (G.2 0, 625, .inl (fun k => nI (os k)))) := by rw [hM_5, xu_n (by omega)]; exact hc7
            have hc8 : M_5 8 = some (a8, .inl (G.2 1, 625, .inr (.inl (fun k => lN (ab k))))) := by rw [hM_5, xu_n (by omega)]; exact hc8
            have hc9 : M_5 9 = some (a9, .inl (G.2 1, 625, .inr (.inl (fun k => lN (bl k))))) := by rw [hM_5, xu_n (by omega)]; exact hc9
            have hc10 : M_5 10 = some (a10, .inl (G.2 0, 625, .inl (fun k => nI (od k)))) := by rw [hM_5, xu_n (by omega)]; exact hc10
            have hc12 : M_5 12 = some (a12, .inl (G.2 2, 51, .inl (fun k => nI (pr k)))) := by rw [hM_5, xu_n (by omega)]; exact hc12
            have hc11 : M_5 11 = some (a11, .inl (G.2 0, 625, .inl (fun k => nI ((va_up s9 to (od j)) k)))) := by rw [hM_5]; exact xu_s
            refine lv_iinc (v := nI (j + 1)) (lv' := [(5, .int (nI (j + 1))), (6, .int (nI to)), (4, .int (nI i)), (0, .ref a4), (1, .int (nI lo)), (2, .int (nI mid)), (3, .int (nI hi))]) hx hb dX2_merge_82 hl (k := 1) rfl (show nI j + Int32.ofInt 1 = _ from nI_add _ 1) (by decide) rfl (fun ls hl => ?_)
            refine lv_iinc (v := nI (to + 1)) (lv' := [(6, .int (nI (to + 1))), (5, .int (nI (j + 1))), (4, .int (nI i)), (0, .ref a4), (1, .int (nI lo)), (2, .int (nI mid)), (3, .int (nI hi))]) hx hb dX2_merge_85 hl (k := 1) rfl (show nI to + Int32.ofInt 1 = _ from nI_add _ 1) (by decide) rfl (fun ls hl => ?_)
            refine lv_goto (tgt := 9) hx hb dX2_merge_88 (by decide) ?_
            exact ih (to + 1) i (j + 1) (va_up s9 to (od j)) M_5 _ _ ls (by omega) (⟨by omega, by omega, by omega, by omega, by omega⟩) (by rw [seg_up (by omega)]; exact mg_put hsg (mgR (by omega) (Or.inl (by omega)))) (fun k hk => by rw [va_up_ne _ _ (by omega)]; exact hfr k hk) (by rw [hM_5, hM9, x_uu]) hX hS (lv_sub hl [0, 1, 2, 3, 4, 5, 6] rfl)
          · have c_4 : ¬ (mid ≤ i) := fun q => c_4 ((nI_leI (by omega) (by omega)).mpr q)
            have hoi := hod i (by omega)
            have hoj := hod j (by omega)
            refine lv_aload_n hx hb dX2_merge_27 rfl (lv_at hl 3 rfl) ?_
            refine lv_aload_n hx hb dX2_merge_28 rfl (lv_at hl 3 rfl) ?_
            refine x_get (ci := 4) (v := .ref a10) (C := RX2) (T := TX2) (N := 9) hx hb hts inX2 hown hK hX hcL rfl 6 (by decide) lk_fieldLink_33 (fun _ h9 => h9) rfl dX2_merge_29 ?_
            refine lv_iload hx hb dX2_merge_32 (lv_at hl 1 rfl) ?_
            refine x_iN hx hb hK hX hc10 (by omega) (by decide) dX2_merge_34 ?_
            refine lv_aload_n hx hb dX2_merge_35 rfl (lv_at hl 3 rfl) ?_
            refine x_get (ci := 4) (v := .ref a10) (C := RX2) (T := TX2) (N := 9) hx hb hts inX2 hown hK hX hcL rfl 6 (by decide) lk_fieldLink_33 (fun _ h9 => h9) rfl dX2_merge_36 ?_
            refine lv_iload hx hb dX2_merge_39 (lv_at hl 2 rfl) ?_
            refine x_iN hx hb hK hX hc10 (by omega) (by decide) dX2_merge_41 ?_
            refine x_calli (x_runV (q := (RX2, TX2, 9)) (As := [.int (nI (od j)), .int (nI (od i))]) (rest := []) ⟨hx, hb, hml, hown, hts⟩ (ctX2_isGreater l G A M9 hcL hc6 hc7 hc8 hc9 hc10 hc11 hc12 hcn (od j) (od i) hoj.1 hoi.1 hoj.2.1 hoi.2.1 hoj.2.2 hoi.2.2) (cwV 2 hts gX2_merge_X2_isGreater rfl rfl rfl (by decide +kernel) ⟨Nat.le_of_ble_eq_true rfl, Nat.le_of_ble_eq_true rfl⟩) hK hA hX hS hcL rfl rfl hl.1 rfl (lv_room (Nat.le_of_ble_eq_true rfl)) dX2_merge_42 ⟨by decide, by decide⟩) hS (fun r_6 M_7 H locs hp hX hS => ?_)
            obtain ⟨hM_, er_6⟩ := hp
            rw [hM_] at hX
            refine lv_if_ne (tgt := 68) hx hb dX2_merge_45 (by decide) (fun c_8 => ?_) (fun c_8 => ?_)
            · have hg : xGt ab bl (od j) (od i) := by rcases er_6 with ⟨q, _⟩ | ⟨_, q⟩; exact absurd q c_8; exact q
              have hoj := hod j (by omega)
              refine lv_aload_n hx hb dX2_merge_68 rfl (lv_at hl 3 rfl) ?_
              refine x_get (ci := 4) (v := .ref a11) (C := RX2) (T := TX2) (N := 9) hx hb hts inX2 hown hK hX hcL rfl 7 (by decide) lk_fieldLink_36 (fun _ h9 => h9) rfl dX2_merge_69 ?_
              refine lv_iload hx hb dX2_merge_72 (lv_at hl 0 rfl) ?_
              refine lv_aload_n hx hb dX2_merge_74 rfl (lv_at hl 3 rfl) ?_
              refine x_get (ci := 4) (v := .ref a10) (C := RX2) (T := TX2) (N := 9) hx hb hts inX2 hown hK hX hcL rfl 6 (by decide) lk_fieldLink_33 (fun _ h9 => h9) rfl dX2_merge_75 ?_
              refine lv_iload hx hb dX2_merge_78 (lv_at hl 1 rfl) ?_
              refine x_iN hx hb hK hX hc10 (by omega) (by decide) dX2_merge_80 ?_
              refine x_isN hx hb hK hX hS hc11 (by omega) (by decide) dX2_merge_81 (fun H locs hX hS => ?_)
              rw [upd_n] at hX
              obtain ⟨M_9, hM_9⟩ : ∃ zM : xM, zM = xu M9 11 (a11, .inl (G.2 0, 625, .inl (fun k => nI ((va_up s9 to (od j)) k)))) := ⟨_, rfl⟩
              have hX : xw G.1 vwCl A M_9 H := by rw [hM_9]; exact hX
              have hcL : M_9 4 = some (a4, .inr (4, [.int bg, .int (nI cn), .ref a6, .ref a7, .ref a8, .ref a9, .ref a10, .ref a11, .ref a12])) := by rw [hM_9, xu_n (by omega)]; exact hcL
              have hc6 : M_9 6 = some (a6, .inl (G.2 0, 625, .inl (fun k => nI (zs k)))) := by rw [hM_9, xu_n (by omega)]; exact hc6
              have hc7 : M_9 7 = some (a7, .inl (G.2 0, 625, .inl (fun k => nI (os k)))) := by rw [hM_9, xu_n (by omega)]; exact hc7
              have hc8 : M_9 8 = some (a8, .inl (G.2 1, 625, .inr (.inl (fun k => lN (ab k))))) := by rw [hM_9, xu_n (by omega)]; exact hc8
              have hc9 : M_9 9 = some (a9, .inl (G.2 1, 625, .inr (.inl (fun k => lN (bl k))))) := by rw [hM_9, xu_n (by omega)]; exact hc9
              have hc10 : M_9 10 = some (a10, .inl (G.2 0, 625, .inl (fun k => nI (od k)))) := by rw [hM_9, xu_n (by omega)]; exact hc10
              have hc12 : M_9 12 = some (a12, .inl (G.2 2, 51, .inl (fun k => nI (pr k)))) := by rw [hM_9, xu_n (by omega)]; exact hc12
              have hc11 : M_9 11 = some (a11, .inl (G.2 0, 625, .inl (fun k => nI ((va_up s9 to (od j)) k)))) := by rw [hM_9]; exact xu_s
              refine lv_iinc (v := nI (j + 1)) (lv' := [(5, .int (nI (j + 1))), (6, .int (nI to)), (4, .int (nI i)), (0, .ref a4), (1, .int (nI lo)), (2, .int (nI mid)), (3, .int (nI hi))]) hx hb dX2_merge_82 hl (k := 1) rfl (show nI j + Int32.ofInt 1 = _ from nI_add _ 1) (by decide) rfl (fun ls hl => ?_)
              refine lv_iinc (v := nI (to + 1)) (lv' := [(6, .int (nI (to + 1))), (5, .int (nI (j + 1))), (4, .int (nI i)), (0, .ref a4), (1, .int (nI lo)), (2, .int (nI mid)), (3, .int (nI hi))]) hx hb dX2_merge_85 hl (k := 1) rfl (show nI to + Int32.ofInt 1 = _ from nI_add _ 1) (by decide) rfl (fun ls hl => ?_)
              refine lv_goto (tgt := 9) hx hb dX2_merge_88 (by decide) ?_
              exact ih (to + 1) i (j + 1) (va_up s9 to (od j)) M_9 _ _ ls (by omega) (⟨by omega, by omega, by omega, by omega, by omega⟩) (by rw [seg_up (by omega)]; exact mg_put hsg (mgR (by omega) (Or.inr ⟨by omega, hg⟩))) (fun k hk => by rw [va_up_ne _ _ (by omega)]; exact hfr k hk) (by rw [hM_9, hM9, x_uu]) hX hS (lv_sub hl [0, 1, 2, 3, 4, 5, 6] rfl)
            · have hg : ¬ xGt ab bl (od j) (od i) := by rcases er_6 with ⟨_, q⟩ | ⟨q, _⟩; exact q; rw [q] at c_8; exact absurd c_8 (by decide)
              have hoi := hod i (by omega)
              refine lv_aload_n hx hb dX2_merge_48 rfl (lv_at hl 3 rfl) ?_
              refine x_get (ci := 4) (v := .ref a11) (C := RX2) (T := TX2) (N := 9) hx hb hts inX2 hown hK hX hcL rfl 7 (by decide) lk_fieldLink_36 (fun _ h9 => h9) rfl dX2_merge_49 ?_
              refine lv_iload hx hb dX2_merge_52 (lv_at hl 0 rfl) ?_
              refine lv_aload_n hx hb dX2_merge_54 rfl (lv_at hl 3 rfl) ?_
              refine x_get (ci := 4) (v := .ref a10) (C := RX2) (T := TX2) (N := 9) hx hb hts inX2 hown hK hX hcL rfl 6 (by decide) lk_fieldLink_33 (fun _ h9 => h9) rfl dX2_merge_55 ?_
              refine lv_iload hx hb dX2_merge_58 (lv_at hl 2 rfl) ?_
              refine x_iN hx hb hK hX hc10 (by omega) (by decide) dX2_merge_60 ?_
              refine x_isN hx hb hK hX hS hc11 (by omega) (by decide) dX2_merge_61 (fun H locs hX hS => ?_)
              rw [upd_n] at hX
              obtain ⟨M_10, hM_10⟩ : ∃ zM : xM, zM = xu M9 11 (a11, .inl (G.2 0, 625, .inl (fun k => nI ((va_up s9 to (od i)) k)))) := ⟨_, rfl⟩
              have hX : xw G.1 vwCl A M_10 H := by rw [hM_10]; exact hX
              have hcL : M_10 4 = some (a4, .inr (4, [.int bg, .int (nI cn), .ref a6, .ref a7, .ref a8, .ref a9, .ref a10, .ref a11, .ref a12])) := by rw [hM_10, xu_n (by omega)]; exact hcL
              have hc6 : M_10 6 = some (a6, .inl (G.2 0, 625, .inl (fun k => nI (zs k)))) := by rw [hM_10, xu_n (by omega)]; exact hc6
              have hc7 : M_10 7 = some (a7, .inl (G.2 0, 625, .inl (fun k => nI (os k)))) := by rw [hM_10, xu_n (by omega)]; exact hc7
              have hc8 : M_10 8 = some (a8, .inl (G.2 1, 625, .inr (.inl (fun k => lN (ab k))))) := by rw [hM_10, xu_n (by omega)]; exact hc8
              have hc9 : M_10 9 = some (a9, .inl (G.2 1, 625, .inr (.inl (fun k => lN (bl k))))) := by rw [hM_10, xu_n (by omega)]; exact hc9
              have hc10 : M_10 10 = some (a10, .inl (G.2 0, 625, .inl (fun k => nI (od k)))) := by rw [hM_10, xu_n (by omega)]; exact hc10
              have hc12 : M_10 12 = some (a12, .inl (G.2 2, 51, .inl (fun k => nI (pr k)))) := by rw [hM_10, xu_n (by omega)]; exact hc12
              have hc11 : M_10 11 = some (a11, .inl (G.2 0, 625, .inl (fun k => nI ((va_up s9 to (od i)) k)))) := by rw [hM_10]; exact xu_s
              refine lv_iinc (v := nI (i + 1)) (lv' := [(4, .int (nI (i + 1))), (6, .int (nI to)), (5, .int (nI j)), (0, .ref a4), (1, .int (nI lo)), (2, .int (nI mid)), (3, .int (nI hi))]) hx hb dX2_merge_62 hl (k := 2) rfl (show nI i + Int32.ofInt 1 = _ from nI_add _ 1) (by decide) rfl (fun ls hl => ?_)
              refine lv_goto (tgt := 85) hx hb dX2_merge_65 (by decide) ?_
              refine lv_iinc (v := nI (to + 1)) (lv' := [(6, .int (nI (to + 1))), (4, .int (nI (i + 1))), (5, .int (nI j)), (0, .ref a4), (1, .int (nI lo)), (2, .int (nI mid)), (3, .int (nI hi))]) hx hb dX2_merge_85 hl (k := 1) rfl (show nI to + Int32.ofInt 1 = _ from nI_add _ 1) (by decide) rfl (fun ls hl => ?_)
              refine lv_goto (tgt := 9) hx hb dX2_merge_88 (by decide) ?_
              exact ih (to + 1) (i + 1) j (va_up s9 to (od i)) M_10 _ _ ls (by omega) (⟨by omega, by omega, by omega, by omega, by omega⟩) (by rw [seg_up (by omega)]; exact mg_put hsg (mgL (by omega) (Or.inr ⟨by omega, hg⟩))) (fun k hk => by rw [va_up_ne _ _ (by omega)]; exact hfr k hk) (by rw [hM_10, hM9, x_uu]) hX hS (lv_sub hl [0, 2, 1, 3, 4, 5, 6] rfl)
  exact loop (hi + 1) lo lo mid sp M _ _ ls (by omega) (⟨by omega, by omega, by omega, by omega, by omega⟩) (by rw [Nat.sub_self]; rfl) (fun _ _ => rfl) (by exact (x_us hc11).symm) hX hS (lv_sub hl [0, 1, 2, 3, 4, 5, 6] rfl)
end
section
abbrev rmX2_sort : Room := { frames := 2, cells := 0, slots := 0, locals := 300 }
set_option maxHeartbeats 4000000 in
set_option maxRecDepth 100000 in
/-- Listing.sort -/
theorem ctX2_sort (l : Launch) (G : xG) (A : Nat → Prop) (M : xM) {bg : Int32} {cn a4 a6 a7 a8 a9 a10 a11 a12 : Nat} {zs os ab bl od sp pr : Nat → Nat} (hcL : M 4 = some (a4, .inr (4, [.int bg, .int (nI cn), .ref a6, .ref a7, .ref a8, .ref a9, .ref a10, .ref a11, .ref a12]))) (hc6 : M 6 = some (a6, .inl (G.2 0, 625, .inl (fun k => nI (zs k))))) (hc7 : M 7 = some (a7, .inl (G.2 0, 625, .inl (fun k => nI (os k))))) (hc8 : M 8 = some (a8, .inl (G.2 1, 625, .inr (.inl (fun k => lN (ab k)))))) (hc9 : M 9 = some (a9, .inl (G.2 1, 625, .inr (.inl (fun k => lN (bl k)))))) (hc10 : M 10 = some (a10, .inl (G.2 0, 625, .inl (fun k => nI (od k))))) (hc11 : M 11 = some (a11, .inl (G.2 0, 625, .inl (fun k => nI (sp k))))) (hc12 : M 12 = some (a12, .inl (G.2 2, 51, .inl (fun k => nI (pr k))))) (hcn : cn ≤ 625) (hid : ∀ j, j < cn → od j = j) (hbl : ∀ j, j < cn → 0 < bl j) (hab : ∀ j, j < cn → ab j < 1000000000 ∧ bl j < 1000000000) : Met l yX2_sort wsX2_sort rmX2_sort (va_Pc ([.ref a4] : List Value) (xPc G A M)) (va_Qv (fun M1 => ∃ o9 s9 : Nat → Nat, M1 = xu (xu M 10 (a10, .inl (G.2 0, 625, .inl (fun k => nI (o9 k))))) 11 (a11, .inl (G.2 0, 625, .inl (fun k => nI (s9 k)))) ∧ xGood ab bl o9 0 cn) (xPc G A) A) 0 0 A := by
  refine x_met (cc := cX2_sort) (maxL := 3) (ret := none) RX2 (by decide) rfl (Nat.le_of_ble_eq_true rfl) rfl ?_
  intro p e s m below meth c hx hb hr hts hown hlocks hml hin hK hA hX ls hl
  have inX2 : ∀ w ∈ wsX20, w ∈ wsX2_sort := by decide +kernel
  have lk_fieldLink_15 := hts (.fieldLink RX2 15 "Reconcile$Listing" "count" "I") (by decide +kernel)
  have lk_fieldLink_36 := hts (.fieldLink RX2 36 "Reconcile$Listing" "spare" "[I") (by decide +kernel)
  have lk_fieldLink_33 := hts (.fieldLink RX2 33 "Reconcile$Listing" "order" "[I") (by decide +kernel)
  have lk_cpy := hts (.methodLink RX2 62 arraycopyName) (by decide +kernel)
  have lk_min := hts (.methodLink RX2 52 Lib.Math.min.name) (by decide +kernel)
  have hS : va_S A s.heap s.heap [] := va_S.rf
  have hl : lv_has ls 3 [(0, .ref a4)] := hl
  refine lv_iconst (v := nI 1) hx hb dX2_sort_0 (by decide) ?_
  refine lv_istore_n (lv' := [(1, .int (nI 1)), (0, .ref a4)]) hx hb dX2_sort_1 rfl hl (by decide) rfl (fun ls hl => ?_)
  have loop : ∀ (n : Nat) (w : Nat) (o9 : Nat → Nat) (s9 : Nat → Nat) (M9 : xM) (H : Heap) (locs : List Loc) (ls : Array Slot), cn + 2000 < w + n → (1 ≤ w ∧ w ≤ 1250) → (∀ k, k * w < cn → xGood ab bl o9 (k * w) (min (k * w + w) cn)) → M9 = xu (xu M 10 (a10, .inl (G.2 0, 625, .inl (fun k => nI (o9 k))))) 11 (a11, .inl (G.2 0, 625, .inl (fun k => nI (s9 k)))) → xw G.1 vwCl A M9 H → va_S A s.heap H locs → lv_has ls 3 [(1, .int (nI w)), (0, .ref a4)] → W p l e rmX2_sort s m ([.ref a4] : List Value).toArray below meth c H locs 0 0 (MQ below (va_Qv (fun M1 => ∃ o9 s9 : Nat → Nat, M1 = xu (xu M 10 (a10, .inl (G.2 0, 625, .inl (fun k => nI (o9 k))))) 11 (a11, .inl (G.2 0, 625, .inl (fun k => nI (s9 k)))) ∧ xGood ab bl o9 0 cn) (xPc G A) A) ([.ref a4] : List Value).toArray s 0 0 A) (F0 m 2 ls []) := by
    intro n
    induction n with
    | zero => intro w o9 s9 M9 H locs ls hn0 hw hSB; exact absurd hn0 (by omega)
    | succ n ih =>
      intro w o9 s9 M9 H locs ls hn0 hw hSB hM9 hX hS hl
      have hcL : M9 4 = some (a4, .inr (4, [.int bg, .int (nI cn), .ref a6, .ref a7, .ref a8, .ref a9, .ref a10, .ref a11, .ref a12])) := by rw [hM9, xu_n (by omega), xu_n (by omega)]; exact hcL
      have hc6 : M9 6 = some (a6, .inl (G.2 0, 625, .inl (fun k => nI (zs k)))) := by rw [hM9, xu_n (by omega), xu_n (by omega)]; exact hc6
      have hc7 : M9 7 = some (a7, .inl (G.2 0, 625, .inl (fun k => nI (os k)))) := by rw [hM9, xu_n (by omega), xu_n (by omega)]; exact hc7
      have hc8 : M9 8 = some (a8, .inl (G.2 1, 625, .inr (.inl (fun k => lN (ab k))))) := by rw [hM9, xu_n (by omega), xu_n (by omega)]; exact hc8
      have hc9 : M9 9 = some (a9, .inl (G.2 1, 625, .inr (.inl (fun k => lN (bl k))))) := by rw [hM9, xu_n (by omega), xu_n (by omega)]; exact hc9
      have hc12 : M9 12 = some (a12, .inl (G.2 2, 51, .inl (fun k => nI (pr k)))) := by rw [hM9, xu_n (by omega), xu_n (by omega)]; exact hc12
      have hc10 : M9 10 = some (a10, .inl (G.2 0, 625, .inl (fun k => nI (o9 k)))) := by rw [hM9, xu_n (by omega)]; exact xu_s
      have hc11 : M9 11 = some (a11, .inl (G.2 0, 625, .inl (fun k => nI (s9 k)))) := by rw [hM9]; exact xu_s
      have hoc := so_in hw.1 hSB
      refine lv_iload_n hx hb dX2_sort_2 rfl (lv_at hl 0 rfl) ?_
      refine lv_aload_n hx hb dX2_sort_3 rfl (lv_at hl 1 rfl) ?_
      refine x_get (ci := 4) (v := .int (nI cn)) (C := RX2) (T := TX2) (N := 9) hx hb hts inX2 hown hK hX hcL rfl 1 (by decide) lk_fieldLink_15 (fun _ h9 => h9) rfl dX2_sort_4 ?_
      refine lv_icmp_ge (tgt := 80) hx hb dX2_sort_7 (by decide) (fun c_1 => ?_) (fun c_1 => ?_)
      · have c_1 : cn ≤ w := (nI_leI (by omega) (by omega)).mp c_1
        exact x_vret hx hb hr hlocks hK hA hX hS dX2_sort_80 (⟨o9, s9, hM9, so_end (by omega) hSB⟩)
      · have c_1 : ¬ (cn ≤ w) := fun q => c_1 ((nI_leI (by omega) (by omega)).mpr q)
        refine lv_iconst (v := nI 0) hx hb dX2_sort_10 (by decide) ?_
        refine lv_istore_n (lv' := [(2, .int (nI 0)), (1, .int (nI w)), (0, .ref a4)]) hx hb dX2_sort_11 rfl hl (by decide) rfl (fun ls hl => ?_)
        have loop_2 : ∀ (n_2 : Nat) (lo : Nat) (kk : Nat) (s8 : Nat → Nat) (M9_2 : xM) (H : Heap) (locs : List Loc) (ls : Array Slot), cn + 2000 < lo + n_2 → (lo = kk * (2 * w)) → (lo ≤ cn + 1250) → (∀ k, k < kk → k * (2 * w) < cn → xGood ab bl s8 (k * (2 * w)) (min (k * (2 * w) + 2 * w) cn)) → M9_2 = xu M9 11 (a11, .inl (G.2 0, 625, .inl (fun k => nI (s8 k)))) → xw G.1 vwCl A M9_2 H → va_S A s.heap H locs → lv_has ls 3 [(2, .int (nI lo)), (1, .int (nI w)), (0, .ref a4)] → W p l e rmX2_sort s m ([.ref a4] : List Value).toArray below meth c H locs 0 0 (MQ below (va_Qv (fun M1 => ∃ o9 s9 : Nat → Nat, M1 = xu (xu M 10 (a10, .inl (G.2 0, 625, .inl (fun k => nI (o9 k))))) 11 (a11, .inl (G.2 0, 625, .inl (fun k => nI (s9 k)))) ∧ xGood ab bl o9 0 cn) (xPc G A) A) ([.ref a4] : List Value).toArray s 0 0 A) (F0 m 12 ls []) := by
          intro n_2
          induction n_2 with
          | zero => intro lo kk s8 M9_2 H locs ls hn0_2 hlo hlb hin8; exact absurd hn0_2 (by omega)
          | succ n_2 ih_2 =>
            intro lo kk s8 M9_2 H locs ls hn0_2 hlo hlb hin8 hM9_2 hX hS hl
            have hcL : M9_2 4 = some (a4, .inr (4, [.int bg, .int (nI cn), .ref a6, .ref a7, .ref a8, .ref a9, .ref a10, .ref a11, .ref a12])) := by rw [hM9_2, xu_n (by omega)]; exact hcL
            have hc6 : M9_2 6 = some (a6, .inl (G.2 0, 625, .inl (fun k => nI (zs k)))) := by rw [hM9_2, xu_n (by omega)]; exact hc6
            have hc7 : M9_2 7 = some (a7, .inl (G.2 0, 625, .inl (fun k => nI (os k)))) := by rw [hM9_2, xu_n (by omega)]; exact hc7
            have hc8 : M9_2 8 = some (a8, .inl (G.2 1, 625, .inr (.inl (fun k => lN (ab k))))) := by rw [hM9_2, xu_n (by omega)]; exact hc8
            have hc9 : M9_2 9 = some (a9, .inl (G.2 1, 625, .inr (.inl (fun k => lN (bl k))))) := by rw [hM9_2, xu_n (by omega)]; exact hc9
            have hc10 : M9_2 10 = some (a10, .inl (G.2 0, 625, .inl (fun k => nI (o9 k)))) := by rw [hM9_2, xu_n (by omega)]; exact hc10
            have hc12 : M9_2 12 = some (a12, .inl (G.2 2, 51, .inl (fun k => nI (pr k)))) := by rw [hM9_2, xu_n (by omega)]; exact hc12
            have hc11 : M9_2 11 = some (a11, .inl (G.2 0, 625, .inl (fun k => nI (s8 k)))) := by rw [hM9_2]; exact xu_s
            refine lv_iload_n hx hb dX2_sort_12 rfl (lv_at hl 0 rfl) ?_
            refine lv_aload_n hx hb dX2_sort_13 rfl (lv_at hl 2 rfl) ?_
            refine x_get (ci := 4) (v := .int (nI cn)) (C := RX2) (T := TX2) (N := 9) hx hb hts inX2 hown hK hX hcL rfl 1 (by decide) lk_fieldLink_15 (fun _ h9 => h9) rfl dX2_sort_14 ?_
            refine lv_icmp_ge (tgt := 56) hx hb dX2_sort_17 (by decide) (fun c_2 => ?_) (fun c_2 => ?_)
            · have c_2 : cn ≤ lo := (nI_leI (by omega) (by omega)).mp c_2
              refine lv_aload_n hx hb dX2_sort_56 rfl (lv_at hl 2 rfl) ?_
              refine x_get (ci := 4) (v := .ref a11) (C := RX2) (T := TX2) (N := 9) hx hb hts inX2 hown hK hX hcL rfl 7 (by decide) lk_fieldLink_36 (fun _ h9 => h9) rfl dX2_sort_57 ?_
              refine lv_iconst (v := nI 0) hx hb dX2_sort_60 (by decide) ?_
              refine lv_aload_n hx hb dX2_sort_61 rfl (lv_at hl 2 rfl) ?_
              refine x_get (ci := 4) (v := .ref a10) (C := RX2) (T := TX2) (N := 9) hx hb hts inX2 hown hK hX hcL rfl 6 (by decide) lk_fieldLink_33 (fun _ h9 => h9) rfl dX2_sort_62 ?_
              refine lv_iconst (v := nI 0) hx hb dX2_sort_65 (by decide) ?_
              refine lv_aload_n hx hb dX2_sort_66 rfl (lv_at hl 2 rfl) ?_
              refine x_get (ci := 4) (v := .int (nI cn)) (C := RX2) (T := TX2) (N := 9) hx hb hts inX2 hown hK hX hcL rfl 1 (by decide) lk_fieldLink_15 (fun _ h9 => h9) rfl dX2_sort_67 ?_
              refine x_copy hx hb (hml.trans hl.1.symm) hown lk_cpy (hts (.native arraycopyName) (by decide +kernel)) (hts (.static arraycopyName) (by decide +kernel)) (hts (.initialized "java/lang/System") (by decide +kernel)) hK hX hS hc11 hc10 (by omega) (by omega) (by omega) (Nat.le_of_ble_eq_true rfl) (Nat.le_of_ble_eq_true rfl) dX2_sort_70 (fun H locs hX hS => ?_)
              rw [cpy_n] at hX
              obtain ⟨M_3, hM_3⟩ : ∃ zM : xM, zM = xu M9_2 10 (a10, .inl (G.2 0, 625, .inl (fun k => nI ((va_cpy s8 o9 0 0 cn) k)))) := ⟨_, rfl⟩
              have hX : xw G.1 vwCl A M_3 H := by rw [hM_3]; exact hX
              have hcL : M_3 4 = some (a4, .inr (4, [.int bg, .int (nI cn), .ref a6, .ref a7, .ref a8, .ref a9, .ref a10, .ref a11, .ref a12])) := by rw [hM_3, xu_n (by omega)]; exact hcL
              have hc6 : M_3 6 = some (a6, .inl (G.2 0, 625, .inl (fun k => nI (zs k)))) := by rw [hM_3, xu_n (by omega)]; exact hc6
              have hc7 : M_3 7 = some (a7, .inl (G.2 0, 625, .inl (fun k => nI (os k)))) := by rw [hM_3, xu_n (by omega)]; exact hc7
              have hc8 : M_3 8 = some (a8, .inl (G.2 1, 625, .inr (.inl (fun k => lN (ab k))))) := by rw [hM_3, xu_n (by omega)]; exact hc8
              have hc9 : M_3 9 = some (a9, .inl (G.2 1, 625, .inr (.inl (fun k => lN (bl k))))) := by rw [hM_3, xu_n (by omega)]; exact hc9
              have hc11 : M_3 11 = some (a11, .inl (G.2 0, 625, .inl (fun k => nI (s8 k)))) := by rw [hM_3, xu_n (by omega)]; exact hc11
              have hc12 : M_3 12 = some (a12, .inl (G.2 2, 51, .inl (fun k => nI (pr k)))) := by rw [hM_3, xu_n (by omega)]; exact hc12
              have hc10 : M_3 10 = some (a10, .inl (G.2 0, 625, .inl (fun k => nI ((va_cpy s8 o9 0 0 cn) k)))) := by rw [hM_3]; exact xu_s
              refine lv_iload_n hx hb dX2_sort_73 rfl (lv_at hl 1 rfl) ?_
              refine lv_iconst (v := nI 2) hx hb dX2_sort_74 (by decide) ?_
              refine lv_imul hx hb dX2_sort_75 ?_
              refine x_ri (pk_mul _ _) ?_
              refine lv_istore_n (lv' := [(1, .int (nI (w * 2))), (2, .int (nI lo)), (0, .ref a4)]) hx hb dX2_sort_76 rfl hl (by decide) rfl (fun ls hl => ?_)
              refine lv_goto (tgt := 2) hx hb dX2_sort_77 (by decide) ?_
              exact ih (w * 2) (va_cpy s8 o9 0 0 cn) s8 M_3 _ _ ls (by omega) (⟨by omega, by omega⟩) (so_copy hlo (by omega) hin8) (by rw [hM_3, hM9_2, hM9, x_uu, x_uc (t := 11) (t' := 10) (by omega), x_uu]) hX hS (lv_sub hl [0, 2] rfl)
            · have c_2 : ¬ (cn ≤ lo) := fun q => c_2 ((nI_leI (by omega) (by omega)).mpr q)
              refine lv_aload_n hx hb dX2_sort_20 rfl (lv_at hl 2 rfl) ?_
              refine lv_iload_n hx hb dX2_sort_21 rfl (lv_at hl 0 rfl) ?_
              refine lv_iload_n hx hb dX2_sort_22 rfl (lv_at hl 0 rfl) ?_
              refine lv_iload_n hx hb dX2_sort_23 rfl (lv_at hl 1 rfl) ?_
              refine lv_iadd hx hb dX2_sort_24 ?_
              refine x_ri (nI_add _ _) ?_
              refine lv_aload_n hx hb dX2_sort_25 rfl (lv_at hl 2 rfl) ?_
              refine x_get (ci := 4) (v := .int (nI cn)) (C := RX2) (T := TX2) (N := 9) hx hb hts inX2 hown hK hX hcL rfl 1 (by decide) lk_fieldLink_15 (fun _ h9 => h9) rfl dX2_sort_26 ?_
              refine va_mmin hx hb (hml.trans hl.1.symm) hown lk_min (hts (.static Lib.Math.min.name) (by decide +kernel)) (hts (.initialized "java/lang/Math") (by decide +kernel)) (hts (.code Lib.Math.min.name Lib.Math.min.code 2 (some .int)) (List.mem_of_getElem? (i := 5) rfl)) (Nat.le_of_ble_eq_true rfl) (Nat.le_of_ble_eq_true rfl) (Nat.le_of_ble_eq_true rfl) (Nat.le_of_ble_eq_true rfl) dX2_sort_29 ?_
              refine x_ri (x_min (by omega) (by omega)) ?_
              refine lv_iload_n hx hb dX2_sort_32 rfl (lv_at hl 0 rfl) ?_
              refine lv_iconst (v := nI 2) hx hb dX2_sort_33 (by decide) ?_
              refine lv_iload_n hx hb dX2_sort_34 rfl (lv_at hl 1 rfl) ?_
              refine lv_imul hx hb dX2_sort_35 ?_
              refine x_ri (pk_mul _ _) ?_
              refine lv_iadd hx hb dX2_sort_36 ?_
              refine x_ri (nI_add _ _) ?_
              refine lv_aload_n hx hb dX2_sort_37 rfl (lv_at hl 2 rfl) ?_
              refine x_get (ci := 4) (v := .int (nI cn)) (C := RX2) (T := TX2) (N := 9) hx hb hts inX2 hown hK hX hcL rfl 1 (by decide) lk_fieldLink_15 (fun _ h9 => h9) rfl dX2_sort_38 ?_
              refine va_mmin hx hb (hml.trans hl.1.symm) hown lk_min (hts (.static Lib.Math.min.name) (by decide +kernel)) (hts (.initialized "java/lang/Math") (by decide +kernel)) (hts (.code Lib.Math.min.name Lib.Math.min.code 2 (some .int)) (List.mem_of_getElem? (i := 5) rfl)) (Nat.le_of_ble_eq_true rfl) (Nat.le_of_ble_eq_true rfl) (Nat.le_of_ble_eq_true rfl) (Nat.le_of_ble_eq_true rfl) dX2_sort_41 ?_
              refine x_ri (x_min (by omega) (by omega)) ?_
              refine x_callv (x_runV (q := (RX2, TX2, 9)) (As := [.int (nI lo), .int (nI (min ((lo + w)) cn)), .int (nI (min ((lo + (2 * w))) cn))]) (rest := []) ⟨hx, hb, hml, hown, hts⟩ (ctX2_merge l G A M9_2 hcL hc6 hc7 hc8 hc9 hc10 hc11 hc12 hcn lo (min (lo + w) cn) (min (lo + 2 * w) cn) (by omega) (by omega) (by omega) (fun j hj => ⟨by have := hoc j hj; omega, (hab _ (hoc j hj)).1, (hab _ (hoc j hj)).2⟩)) (cwV 3 hts gX2_sort_X2_merge rfl rfl rfl (by decide +kernel) ⟨Nat.le_of_ble_eq_true rfl, Nat.le_of_ble_eq_true rfl⟩) hK hA hX hS hcL rfl rfl hl.1 rfl (lv_room (Nat.le_of_ble_eq_true rfl)) dX2_sort_44 ⟨by decide, by decide⟩) hS (fun M_5 H locs hp hX hS => ?_)
              obtain ⟨s7, hM7, hf7, hs7⟩ := hp
              have hcL : M_5 4 = some (a4, .inr (4, [.int bg, .int (nI cn), .ref a6, .ref a7, .ref a8, .ref a9, .ref a10, .ref a11, .ref a12])) := by rw [hM7, xu_n (by omega)]; exact hcL
              have hc6 : M_5 6 = some (a6, .inl (G.2 0, 625, .inl (fun k => nI (zs k)))) := by rw [hM7, xu_n (by omega)]; exact hc6
              have hc7 : M_5 7 = some (a7, .inl (G.2 0, 625, .inl (fun k => nI (os k)))) := by rw [hM7, xu_n (by omega)]; exact hc7
              have hc8 : M_5 8 = some (a8, .inl (G.2 1, 625, .inr (.inl (fun k => lN (ab k))))) := by rw [hM7, xu_n (by omega)]; exact hc8
              have hc9 : M_5 9 = some (a9, .inl (G.2 1, 625, .inr (.inl (fun k => lN (bl k))))) := by rw [hM7, xu_n (by omega)]; exact hc9
              have hc10 : M_5 10 = some (a10, .inl (G.2 0, 625, .inl (fun k => nI (o9 k)))) := by rw [hM7, xu_n (by omega)]; exact hc10
              have hc12 : M_5 12 = some (a12, .inl (G.2 2, 51, .inl (fun k => nI (pr k)))) := by rw [hM7, xu_n (by omega)]; exact hc12
              have hc11 : M_5 11 = some (a11, .inl (G.2 0, 625, .inl (fun k => nI (s7 k)))) := by rw [hM7]; exact xu_s
              refine lv_iload_n hx hb dX2_sort_47 rfl (lv_at hl 0 rfl) ?_
              refine lv_iconst (v := nI 2) hx hb dX2_sort_48 (by decide) ?_
              refine lv_iload_n hx hb dX2_sort_49 rfl (lv_at hl 1 rfl) ?_
              refine lv_imul hx hb dX2_sort_50 ?_
              refine x_ri (pk_mul _ _) ?_
              refine lv_iadd hx hb dX2_sort_51 ?_
              refine x_ri (nI_add _ _) ?_
              refine lv_istore_n (lv' := [(2, .int (nI (lo + (2 * w)))), (1, .int (nI w)), (0, .ref a4)]) hx hb dX2_sort_52 rfl hl (by decide) rfl (fun ls hl => ?_)
              refine lv_goto (tgt := 12) hx hb dX2_sort_53 (by decide) ?_
              exact ih_2 (lo + 2 * w) (kk + 1) s7 M_5 _ _ ls (by omega) (by rw [hlo, Nat.add_mul kk 1, Nat.one_mul]) (by omega) (so_step hlo (by omega) hw.1 hbl hSB hin8 hf7 hs7) (by rw [hM7, hM9_2, x_uu]) hX hS (lv_sub hl [0, 1, 2] rfl)
        exact loop_2 (cn + 2001) 0 0 s9 M9 _ _ ls (by omega) (by omega) (by omega) (fun k hk => absurd hk (by omega)) ((x_us hc11).symm) hX hS (lv_sub hl [0, 1, 2] rfl)
  exact loop (cn + 2001) 1 od sp M _ _ ls (by omega) (⟨by omega, by omega⟩) (so_one hid) (by rw [x_us hc10]; exact (x_us hc11).symm) hX hS (lv_sub hl [0, 1] rfl)
end
section
theorem wb_tb (n : Nat) : (lN n).toBitVec = BitVec.ofNat 64 n := rfl
theorem wb_inj {a b : Int64} (h : a.toBitVec = b.toBitVec) : a = b := Int64.toBitVec_inj.mp h
theorem wb_tn {n : Nat} (h : n < 2 ^ 64) : (lN n).toBitVec.toNat = n := by rw [wb_tb, BitVec.toNat_ofNat, Nat.mod_eq_of_lt h]
theorem wb_of (x : Int64) : ∃ n, n < 2 ^ 64 ∧ x = lN n := ⟨x.toBitVec.toNat, x.toBitVec.isLt, wb_inj (by rw [wb_tb]; simp)⟩
theorem wb_of32 (x : Int32) : ∃ n, n < 2 ^ 32 ∧ x = nI n := ⟨x.toBitVec.toNat, x.toBitVec.isLt, Int32.toBitVec_inj.mp (by show _ = BitVec.ofNat 32 _; simp)⟩
theorem wb_c : ∀ k, k < 64 → ((nI k).toInt64 &&& 63) = lN k := by decide +kernel
theorem wb_cu : ∀ k, k < 64 → ((nI k).toInt64.toUInt64 &&& Int64.toUInt64 63) = UInt64.ofNat k := by decide +kernel
theorem wb_sm : ∀ k, k < 64 → (BitVec.ofNat 64 k).smod 64 = BitVec.ofNat 64 k := by decide +kernel
theorem wb_pw {a b : Nat} (h : a ≤ b) : 2 ^ b = 2 ^ a * 2 ^ (b - a) := by rw [← Nat.pow_add]; congr 1; omega
theorem wb_lt2 {a b : Nat} (h : a < b) : 2 ^ a < 2 ^ b := Nat.pow_lt_pow_right (by decide) h
theorem wb_mod (n : Nat) : lN n = lN (n % 2 ^ 64) := wb_inj (by rw [wb_tb, wb_tb]; apply BitVec.eq_of_toNat_eq; rw [BitVec.toNat_ofNat, BitVec.toNat_ofNat, Nat.mod_mod])
theorem wb_shr {n k : Nat} (hn : n < 2 ^ 64) (hk : k < 64) : ((lN n).toUInt64 >>> ((nI k).toInt64.toUInt64 &&& Int64.toUInt64 63)).toInt64 = lN (n / 2 ^ k) := by
  rw [wb_cu k hk]
  apply wb_inj
  apply BitVec.eq_of_toNat_eq
  show ((lN n).toUInt64 >>> UInt64.ofNat k).toNat = (BitVec.ofNat 64 _).toNat
  have h1 : (UInt64.ofNat k).toNat = k := by
    show (BitVec.ofNat 64 k).toNat = k
    rw [BitVec.toNat_ofNat, Nat.mod_eq_of_lt (by omega)]
  have h2 : (lN n).toUInt64.toNat = n := wb_tn hn
  rw [UInt64.toNat_shiftRight, h1, h2, Nat.mod_eq_of_lt hk, Nat.shiftRight_eq_div_pow, BitVec.toNat_ofNat, Nat.mod_eq_of_lt (Nat.lt_of_le_of_lt (Nat.div_le_self _ _) hn)]
/-! mixing by a seed -/
def mixU (x : Int64) : Nat := x.toBitVec.toNat / 2 ^ 33
def mixS (x : Int64) : Int64 := x * lN 6364136223846793005 + lN 1442695040888963407
theorem mix_shr (x : Int64) : (x.toUInt64 >>> ((nI 33).toInt64.toUInt64 &&& Int64.toUInt64 63)).toInt64 = lN (mixU x) := by
  obtain ⟨n, hn, rfl⟩ := wb_of x
  rw [wb_shr hn (by decide)]
  unfold mixU
  rw [wb_tn hn]
theorem mixU_lt (x : Int64) : mixU x < 2147483648 := by
  unfold mixU
  have h := x.toBitVec.isLt
  rw [Nat.div_lt_iff_lt_mul (by decide)]
  exact Nat.lt_of_lt_of_le h (by decide)
def xIota (sp : Nat → Nat) (i : Nat) : Nat → Nat := fun k => if k < i then k else sp k
theorem xIota_0 {sp : Nat → Nat} : xIota sp 0 = sp := by funext k; simp [xIota]
theorem xIota_s {sp : Nat → Nat} {i : Nat} : va_up (xIota sp i) i i = xIota sp (i + 1) := by
  funext k
  simp only [va_up, xIota]
  by_cases h : k = i
  · rw [if_pos h, if_pos (by omega), h]
  · rw [if_neg h]
    by_cases h2 : k < i
    · rw [if_pos h2, if_pos (by omega)]
    · rw [if_neg h2, if_neg (by omega)]
def xMix : Nat → Int64 → (Nat → Nat) → (Nat → Nat)
  | 0, _, f => f
  | k + 1, st, f => xMix k (mixS st) (va_up (va_up f (k + 1) (f (mixU (mixS st) % (k + 1 + 1)))) (mixU (mixS st) % (k + 1 + 1)) (f (k + 1)))
theorem xMix_s {k : Nat} {st : Int64} {f : Nat → Nat} (h : 1 ≤ k) : xMix k st f = xMix (k - 1) (mixS st) (va_up (va_up f k (f (mixU (mixS st) % (k + 1)))) (mixU (mixS st) % (k + 1)) (f k)) := by
  obtain ⟨j, rfl⟩ : ∃ j, k = j + 1 := ⟨k - 1, by omega⟩
  rfl
theorem xMix_congr : ∀ {k n : Nat} {st : Int64} {f g : Nat → Nat}, k < n → (∀ j, j < n → f j = g j) → ∀ j, j < n → xMix k st f j = xMix k st g j
  | 0, _, _, _, _, _, h, j, hj => h j hj
  | k + 1, n, st, f, g, hk, h, j, hj => by
    have hm : mixU (mixS st) % (k + 1 + 1) < k + 1 + 1 := Nat.mod_lt _ (by omega)
    refine xMix_congr (k := k) (n := n) (by omega) (fun i hi => ?_) j hj
    simp only [va_up]
    rw [h (k + 1) (by omega), h _ (show mixU (mixS st) % (k + 1 + 1) < n by omega), h i hi]
end
section
abbrev rmX2_placeAfterMixing : Room := { frames := 0, cells := 0, slots := 0, locals := 0 }
set_option maxHeartbeats 4000000 in
set_option maxRecDepth 100000 in
/-- Listing.placeAfterMixing -/
theorem ctX2_placeAfterMixing (l : Launch) (G : xG) (A : Nat → Prop) (M : xM) {bg : Int32} {cn a4 a6 a7 a8 a9 a10 a11 a12 : Nat} {zs os ab bl od sp pr : Nat → Nat} (hcL : M 4 = some (a4, .inr (4, [.int bg, .int (nI cn), .ref a6, .ref a7, .ref a8, .ref a9, .ref a10, .ref a11, .ref a12]))) (hc6 : M 6 = some (a6, .inl (G.2 0, 625, .inl (fun k => nI (zs k))))) (hc7 : M 7 = some (a7, .inl (G.2 0, 625, .inl (fun k => nI (os k))))) (hc8 : M 8 = some (a8, .inl (G.2 1, 625, .inr (.inl (fun k => lN (ab k)))))) (hc9 : M 9 = some (a9, .inl (G.2 1, 625, .inr (.inl (fun k => lN (bl k)))))) (hc10 : M 10 = some (a10, .inl (G.2 0, 625, .inl (fun k => nI (od k))))) (hc11 : M 11 = some (a11, .inl (G.2 0, 625, .inl (fun k => nI (sp k))))) (hc12 : M 12 = some (a12, .inl (G.2 2, 51, .inl (fun k => nI (pr k))))) (hcn : cn ≤ 625) (seed : Int64) (ip : Nat) (hip : ip < cn) : Met l yX2_placeAfterMixing wsX2_placeAfterMixing rmX2_placeAfterMixing (va_Pc ([.ref a4, .long seed, .int (nI ip)] : List Value) (xPc G A M)) (va_Qi (fun r M1 => ∃ s7 : Nat → Nat, M1 = xu M 11 (a11, .inl (G.2 0, 625, .inl (fun k => nI (s7 k)))) ∧ r = nI (xMix (cn - 1) seed (xIota sp cn) ip)) (xPc G A) A) 0 0 A := by
  refine x_met (cc := cX2_placeAfterMixing) (maxL := 9) (ret := (some .int)) RX2 (by decide) rfl (Nat.le_of_ble_eq_true rfl) rfl ?_
  intro p e s m below meth c hx hb hr hts hown hlocks hml hin hK hA hX ls hl
  have inX2 : ∀ w ∈ wsX20, w ∈ wsX2_placeAfterMixing := by decide +kernel
  have lk_fieldLink_15 := hts (.fieldLink RX2 15 "Reconcile$Listing" "count" "I") (by decide +kernel)
  have lk_fieldLink_36 := hts (.fieldLink RX2 36 "Reconcile$Listing" "spare" "[I") (by decide +kernel)
  have lk_constantLong_72 := hts (.constantLong RX2 72 (6364136223846793005)) (by decide +kernel)
  have lk_constantLong_74 := hts (.constantLong RX2 74 (1442695040888963407)) (by decide +kernel)
  have hS : va_S A s.heap s.heap [] := va_S.rf
  have hl : lv_has ls 9 [(0, .ref a4), (1, .long seed), (3, .int (nI ip))] := hl
  refine lv_iconst (v := nI 0) hx hb dX2_placeAfterMixing_0 (by decide) ?_
  refine lv_istore (lv' := [(4, .int (nI 0)), (0, .ref a4), (1, .long seed), (3, .int (nI ip))]) hx hb dX2_placeAfterMixing_1 hl (by decide) rfl (fun ls hl => ?_)
  have loop : ∀ (n : Nat) (i : Nat) (M9 : xM) (H : Heap) (locs : List Loc) (ls : Array Slot), cn < i + n → (i ≤ cn) → M9 = xu M 11 (a11, .inl (G.2 0, 625, .inl (fun k => nI ((xIota sp i) k)))) → xw G.1 vwCl A M9 H → va_S A s.heap H locs → lv_has ls 9 [(4, .int (nI i)), (0, .ref a4), (1, .long seed), (3, .int (nI ip))] → W p l e rmX2_placeAfterMixing s m ([.ref a4, .long seed, .int (nI ip)] : List Value).toArray below meth c H locs 0 0 (MQ below (va_Qi (fun r M1 => ∃ s7 : Nat → Nat, M1 = xu M 11 (a11, .inl (G.2 0, 625, .inl (fun k => nI (s7 k)))) ∧ r = nI (xMix (cn - 1) seed (xIota sp cn) ip)) (xPc G A) A) ([.ref a4, .long seed, .int (nI ip)] : List Value).toArray s 0 0 A) (F0 m 3 ls []) := by
    intro n
    induction n with
    | zero => intro i M9 H locs ls hn0 hi; exact absurd hn0 (by omega)
    | succ n ih =>
      intro i M9 H locs ls hn0 hi hM9 hX hS hl
      have hcL : M9 4 = some (a4, .inr (4, [.int bg, .int (nI cn), .ref a6, .ref a7, .ref a8, .ref a9, .ref a10, .ref a11, .ref a12])) := by rw [hM9, xu_n (by omega)]; exact hcL
      have hc6 : M9 6 = some (a6, .inl (G.2 0, 625, .inl (fun k => nI (zs k)))) := by rw [hM9, xu_n (by omega)]; exact hc6
      have hc7 : M9 7 = some (a7, .inl (G.2 0, 625, .inl (fun k => nI (os k)))) := by rw [hM9, xu_n (by omega)]; exact hc7
      have hc8 : M9 8 = some (a8, .inl (G.2 1, 625, .inr (.inl (fun k => lN (ab k))))) := by rw [hM9, xu_n (by omega)]; exact hc8
      have hc9 : M9 9 = some (a9, .inl (G.2 1, 625, .inr (.inl (fun k => lN (bl k))))) := by rw [hM9, xu_n (by omega)]; exact hc9
      have hc10 : M9 10 = some (a10, .inl (G.2 0, 625, .inl (fun k => nI (od k)))) := by rw [hM9, xu_n (by omega)]; exact hc10
      have hc12 : M9 12 = some (a12, .inl (G.2 2, 51, .inl (fun k => nI (pr k)))) := by rw [hM9, xu_n (by omega)]; exact hc12
      have hc11 : M9 11 = some (a11, .inl (G.2 0, 625, .inl (fun k => nI ((xIota sp i) k)))) := by rw [hM9]; exact xu_s
      refine lv_iload hx hb dX2_placeAfterMixing_3 (lv_at hl 0 rfl) ?_
      refine lv_aload_n hx hb dX2_placeAfterMixing_5 rfl (lv_at hl 1 rfl) ?_
      refine x_get (ci := 4) (v := .int (nI cn)) (C := RX2) (T := TX2) (N := 9) hx hb hts inX2 hown hK hX hcL rfl 1 (by decide) lk_fieldLink_15 (fun _ h9 => h9) rfl dX2_placeAfterMixing_6 ?_
      refine lv_icmp_ge (tgt := 27) hx hb dX2_placeAfterMixing_9 (by decide) (fun c_1 => ?_) (fun c_1 => ?_)
      · have c_1 : cn ≤ i := (nI_leI (by omega) (by omega)).mp c_1
        refine lv_lload_n hx hb dX2_placeAfterMixing_27 rfl (lv_at hl 2 rfl) ?_
        refine lv_lstore (lv' := [(4, .long seed), (0, .ref a4), (1, .long seed), (3, .int (nI ip))]) hx hb dX2_placeAfterMixing_28 hl (by decide) rfl (fun ls hl => ?_)
        have hic : i = cn := by omega
        rw [hic] at hc11 hM9
        refine lv_aload_n hx hb dX2_placeAfterMixing_30 rfl (lv_at hl 1 rfl) ?_
        refine x_get (ci := 4) (v := .int (nI cn)) (C := RX2) (T := TX2) (N := 9) hx hb hts inX2 hown hK hX hcL rfl 1 (by decide) lk_fieldLink_15 (fun _ h9 => h9) rfl dX2_placeAfterMixing_31 ?_
        refine lv_iconst (v := nI 1) hx hb dX2_placeAfterMixing_34 (by decide) ?_
        refine lv_isub hx hb dX2_placeAfterMixing_35 ?_
        refine x_ri (pk_sub (by omega)) ?_
        refine lv_istore (lv' := [(6, .int (nI (cn - 1))), (4, .long seed), (0, .ref a4), (1, .long seed), (3, .int (nI ip))]) hx hb dX2_placeAfterMixing_36 hl (by decide) rfl (fun ls hl => ?_)
        have loop_2 : ∀ (n_2 : Nat) (kx : Nat) (st : Int64) (f : Nat → Nat) (M9_2 : xM) (H : Heap) (locs : List Loc) (ls : Array Slot), kx < n_2 → (kx < cn) → (∀ j, j < cn → f j < cn) → (xMix kx st f = xMix (cn - 1) seed (xIota sp cn)) → M9_2 = xu M9 11 (a11, .inl (G.2 0, 625, .inl (fun k => nI (f k)))) → xw G.1 vwCl A M9_2 H → va_S A s.heap H locs → lv_has ls 9 [(6, .int (nI kx)), (4, .long st), (0, .ref a4), (1, .long seed), (3, .int (nI ip))] → W p l e rmX2_placeAfterMixing s m ([.ref a4, .long seed, .int (nI ip)] : List Value).toArray below meth c H locs 0 0 (MQ below (va_Qi (fun r M1 => ∃ s7 : Nat → Nat, M1 = xu M 11 (a11, .inl (G.2 0, 625, .inl (fun k => nI (s7 k)))) ∧ r = nI (xMix (cn - 1) seed (xIota sp cn) ip)) (xPc G A) A) ([.ref a4, .long seed, .int (nI ip)] : List Value).toArray s 0 0 A) (F0 m 38 ls []) := by
          intro n_2
          induction n_2 with
          | zero => intro kx st f M9_2 H locs ls hn0_2 hk hf hv; exact absurd hn0_2 (by omega)
          | succ n_2 ih_2 =>
            intro kx st f M9_2 H locs ls hn0_2 hk hf hv hM9_2 hX hS hl
            have hcL : M9_2 4 = some (a4, .inr (4, [.int bg, .int (nI cn), .ref a6, .ref a7, .ref a8, .ref a9, .ref a10, .ref a11, .ref a12])) := by rw [hM9_2, xu_n (by omega)]; exact hcL
            have hc6 : M9_2 6 = some (a6, .inl (G.2 0, 625, .inl (fun k => nI (zs k)))) := by rw [hM9_2, xu_n (by omega)]; exact hc6
            have hc7 : M9_2 7 = some (a7, .inl (G.2 0, 625, .inl (fun k => nI (os k)))) := by rw [hM9_2, xu_n (by omega)]; exact hc7
            have hc8 : M9_2 8 = some (a8, .inl (G.2 1, 625, .inr (.inl (fun k => lN (ab k))))) := by rw [hM9_2, xu_n (by omega)]; exact hc8
            have hc9 : M9_2 9 = some (a9, .inl (G.2 1, 625, .inr (.inl (fun k => lN (bl k))))) := by rw [hM9_2, xu_n (by omega)]; exact hc9
            have hc10 : M9_2 10 = some (a10, .inl (G.2 0, 625, .inl (fun k => nI (od k)))) := by rw [hM9_2, xu_n (by omega)]; exact hc10
            have hc12 : M9_2 12 = some (a12, .inl (G.2 2, 51, .inl (fun k => nI (pr k)))) := by rw [hM9_2, xu_n (by omega)]; exact hc12
            have hc11 : M9_2 11 = some (a11, .inl (G.2 0, 625, .inl (fun k => nI (f k)))) := by rw [hM9_2]; exact xu_s
            refine lv_iload hx hb dX2_placeAfterMixing_38 (lv_at hl 0 rfl) ?_
            refine lv_iconst (v := nI 1) hx hb dX2_placeAfterMixing_40 (by decide) ?_
            refine lv_icmp_lt (tgt := 108) hx hb dX2_placeAfterMixing_41 (by decide) (fun c_2 => ?_) (fun c_2 => ?_)
            · have c_2 : kx < 1 := (nI_ltI (by omega) (by omega)).mp c_2
              refine lv_aload_n hx hb dX2_placeAfterMixing_108 rfl (lv_at hl 2 rfl) ?_
              refine x_get (ci := 4) (v := .ref a11) (C := RX2) (T := TX2) (N := 9) hx hb hts inX2 hown hK hX hcL rfl 7 (by decide) lk_fieldLink_36 (fun _ h9 => h9) rfl dX2_placeAfterMixing_109 ?_
              refine lv_iload_n hx hb dX2_placeAfterMixing_112 rfl (lv_at hl 4 rfl) ?_
              refine x_iN hx hb hK hX hc11 (by omega) (by decide) dX2_placeAfterMixing_113 ?_
              exact x_iret hx hb hr hlocks hK hA hX hS dX2_placeAfterMixing_114 (⟨f, by rw [hM9_2, hM9, x_uu], by rw [← hv, show kx = 0 by omega]; rfl⟩)
            · have c_2 : ¬ (kx < 1) := fun q => c_2 ((nI_ltI (by omega) (by omega)).mpr q)
              refine lv_lload hx hb dX2_placeAfterMixing_44 (lv_at hl 1 rfl) ?_
              refine lv_ldc2 (v := 6364136223846793005) hx hb hown lk_constantLong_72 dX2_placeAfterMixing_46 ?_
              refine x_rl (y := lN 6364136223846793005) rfl ?_
              refine lv_lmul hx hb dX2_placeAfterMixing_49 ?_
              refine lv_ldc2 (v := 1442695040888963407) hx hb hown lk_constantLong_74 dX2_placeAfterMixing_50 ?_
              refine x_rl (y := lN 1442695040888963407) rfl ?_
              refine lv_ladd hx hb dX2_placeAfterMixing_53 ?_
              refine lv_lstore (lv' := [(4, .long (mixS st)), (6, .int (nI kx)), (0, .ref a4), (1, .long seed), (3, .int (nI ip))]) hx hb dX2_placeAfterMixing_54 hl (by decide) rfl (fun ls hl => ?_)
              refine lv_lload hx hb dX2_placeAfterMixing_56 (lv_at hl 0 rfl) ?_
              refine lv_bipush (v := nI 33) hx hb dX2_placeAfterMixing_58 (by decide) ?_
              refine lv_lushr (v := lN (mixU (mixS st))) hx hb dX2_placeAfterMixing_60 (mix_shr _) ?_
              have hmu := mixU_lt (mixS st)
              refine lv_iload hx hb dX2_placeAfterMixing_61 (lv_at hl 1 rfl) ?_
              refine lv_iconst (v := nI 1) hx hb dX2_placeAfterMixing_63 (by decide) ?_
              refine lv_iadd hx hb dX2_placeAfterMixing_64 ?_
              refine x_ri (nI_add _ _) ?_
              refine lv_i2l (v := lN (kx + 1)) hx hb dX2_placeAfterMixing_65 (nI_l (by omega)) ?_
              refine lv_lrem hx hb dX2_placeAfterMixing_66 (by rw [show (0 : Int64) = lN 0 from rfl, pk_lEQ (by omega) (by omega)]; omega) ?_
              refine x_rl (pk_lRem (by omega) (by omega) (by omega)) ?_
              refine lv_l2i (v := nI ((mixU (mixS st)) % (kx + 1))) hx hb dX2_placeAfterMixing_67 (lN_i _) ?_
              refine lv_istore (lv' := [(7, .int (nI ((mixU (mixS st)) % (kx + 1)))), (4, .long (mixS st)), (6, .int (nI kx)), (0, .ref a4), (1, .long seed), (3, .int (nI ip))]) hx hb dX2_placeAfterMixing_68 hl (by decide) rfl (fun ls hl => ?_)
              have hmj : mixU (mixS st) % (kx + 1) < cn := by have := Nat.mod_lt (mixU (mixS st)) (show 0 < kx + 1 by omega); omega
              have hfk := hf kx hk
              have hfm := hf _ hmj
              refine lv_aload_n hx hb dX2_placeAfterMixing_70 rfl (lv_at hl 3 rfl) ?_
              refine x_get (ci := 4) (v := .ref a11) (C := RX2) (T := TX2) (N := 9) hx hb hts inX2 hown hK hX hcL rfl 7 (by decide) lk_fieldLink_36 (fun _ h9 => h9) rfl dX2_placeAfterMixing_71 ?_
              refine lv_iload hx hb dX2_placeAfterMixing_74 (lv_at hl 2 rfl) ?_
              refine x_iN hx hb hK hX hc11 (by omega) (by decide) dX2_placeAfterMixing_76 ?_
              refine lv_istore (lv' := [(8, .int (nI (f kx))), (7, .int (nI ((mixU (mixS st)) % (kx + 1)))), (4, .long (mixS st)), (6, .int (nI kx)), (0, .ref a4), (1, .long seed), (3, .int (nI ip))]) hx hb dX2_placeAfterMixing_77 hl (by decide) rfl (fun ls hl => ?_)
              refine lv_aload_n hx hb dX2_placeAfterMixing_79 rfl (lv_at hl 4 rfl) ?_
              refine x_get (ci := 4) (v := .ref a11) (C := RX2) (T := TX2) (N := 9) hx hb hts inX2 hown hK hX hcL rfl 7 (by decide) lk_fieldLink_36 (fun _ h9 => h9) rfl dX2_placeAfterMixing_80 ?_
              refine lv_iload hx hb dX2_placeAfterMixing_83 (lv_at hl 3 rfl) ?_
              refine lv_aload_n hx hb dX2_placeAfterMixing_85 rfl (lv_at hl 4 rfl) ?_
              refine x_get (ci := 4) (v := .ref a11) (C := RX2) (T := TX2) (N := 9) hx hb hts inX2 hown hK hX hcL rfl 7 (by decide) lk_fieldLink_36 (fun _ h9 => h9) rfl dX2_placeAfterMixing_86 ?_
              refine lv_iload hx hb dX2_placeAfterMixing_89 (lv_at hl 1 rfl) ?_
              refine x_iN hx hb hK hX hc11 (by omega) (by decide) dX2_placeAfterMixing_91 ?_
              refine x_isN hx hb hK hX hS hc11 (by omega) (by decide) dX2_placeAfterMixing_92 (fun H locs hX hS => ?_)
              rw [upd_n] at hX
              obtain ⟨M_3, hM_3⟩ : ∃ zM : xM, zM = xu M9_2 11 (a11, .inl (G.2 0, 625, .inl (fun k => nI ((va_up f kx (f ((mixU (mixS st)) % (kx + 1)))) k)))) := ⟨_, rfl⟩
              have hX : xw G.1 vwCl A M_3 H := by rw [hM_3]; exact hX
              have hcL : M_3 4 = some (a4, .inr (4, [.int bg, .int (nI cn), .ref a6, .ref a7, .ref a8, .ref a9, .ref a10, .ref a11, .ref a12])) := by rw [hM_3, xu_n (by omega)]; exact hcL
              have hc6 : M_3 6 = some (a6, .inl (G.2 0, 625, .inl (fun k => nI (zs k)))) := by rw [hM_3, xu_n (by omega)]; exact hc6
              have hc7 : M_3 7 = some (a7, .inl (G.2 0, 625, .inl (fun k => nI (os k)))) := by rw [hM_3, xu_n (by omega)]; exact hc7
              have hc8 : M_3 8 = some (a8, .inl (G.2 1, 625, .inr (.inl (fun k => lN (ab k))))) := by rw [hM_3, xu_n (by omega)]; exact hc8
              have hc9 : M_3 9 = some (a9, .inl (G.2 1, 625, .inr (.inl (fun k => lN (bl k))))) := by rw [hM_3, xu_n (by omega)]; exact hc9
              have hc10 : M_3 10 = some (a10, .inl (G.2 0, 625, .inl (fun k => nI (od k)))) := by rw [hM_3, xu_n (by omega)]; exact hc10
              have hc12 : M_3 12 = some (a12, .inl (G.2 2, 51, .inl (fun k => nI (pr k)))) := by rw [hM_3, xu_n (by omega)]; exact hc12
              have hc11 : M_3 11 = some (a11, .inl (G.2 0, 625, .inl (fun k => nI ((va_up f kx (f ((mixU (mixS st)) % (kx + 1)))) k)))) := by rw [hM_3]; exact xu_s
              refine lv_aload_n hx hb dX2_placeAfterMixing_93 rfl (lv_at hl 4 rfl) ?_
              refine x_get (ci := 4) (v := .ref a11) (C := RX2) (T := TX2) (N := 9) hx hb hts inX2 hown hK hX hcL rfl 7 (by decide) lk_fieldLink_36 (fun _ h9 => h9) rfl dX2_placeAfterMixing_94 ?_
              refine lv_iload hx hb dX2_placeAfterMixing_97 (lv_at hl 1 rfl) ?_
              refine lv_iload hx hb dX2_placeAfterMixing_99 (lv_at hl 0 rfl) ?_
              refine x_isN hx hb hK hX hS hc11 (by omega) (by decide) dX2_placeAfterMixing_101 (fun H locs hX hS => ?_)
              rw [upd_n] at hX
              obtain ⟨M_4, hM_4⟩ : ∃ zM : xM, zM = xu M_3 11 (a11, .inl (G.2 0, 625, .inl (fun k => nI ((va_up (va_up f kx (f ((mixU (mixS st)) % (kx + 1)))) ((mixU (mixS st)) % (kx + 1)) (f kx)) k)))) := ⟨_, rfl⟩
              have hX : xw G.1 vwCl A M_4 H := by rw [hM_4]; exact hX
              have hcL : M_4 4 = some (a4, .inr (4, [.int bg, .int (nI cn), .ref a6, .ref a7, .ref a8, .ref a9, .ref a10, .ref a11, .ref a12])) := by rw [hM_4, xu_n (by omega)]; exact hcL
              have hc6 : M_4 6 = some (a6, .inl (G.2 0, 625, .inl (fun k => nI (zs k)))) := by rw [hM_4, xu_n (by omega)]; exact hc6
              have hc7 : M_4 7 = some (a7, .inl (G.2 0, 625, .inl (fun k => nI (os k)))) := by rw [hM_4, xu_n (by omega)]; exact hc7
              have hc8 : M_4 8 = some (a8, .inl (G.2 1, 625, .inr (.inl (fun k => lN (ab k))))) := by rw [hM_4, xu_n (by omega)]; exact hc8
              have hc9 : M_4 9 = some (a9, .inl (G.2 1, 625, .inr (.inl (fun k => lN (bl k))))) := by rw [hM_4, xu_n (by omega)]; exact hc9
              have hc10 : M_4 10 = some (a10, .inl (G.2 0, 625, .inl (fun k => nI (od k)))) := by rw [hM_4, xu_n (by omega)]; exact hc10
              have hc12 : M_4 12 = some (a12, .inl (G.2 2, 51, .inl (fun k => nI (pr k)))) := by rw [hM_4, xu_n (by omega)]; exact hc12
              have hc11 : M_4 11 = some (a11, .inl (G.2 0, 625, .inl (fun k => nI ((va_up (va_up f kx (f ((mixU (mixS st)) % (kx + 1)))) ((mixU (mixS st)) % (kx + 1)) (f kx)) k)))) := by rw [hM_4]; exact xu_s
              refine lv_iinc (v := nI (kx - 1)) (lv' := [(6, .int (nI (kx - 1))), (8, .int (nI (f kx))), (7, .int (nI ((mixU (mixS st)) % (kx + 1)))), (4, .long (mixS st)), (0, .ref a4), (1, .long seed), (3, .int (nI ip))]) hx hb dX2_placeAfterMixing_102 hl (k := 3) rfl (x_dec (by omega)) (by decide) rfl (fun ls hl => ?_)
              refine lv_goto (tgt := 38) hx hb dX2_placeAfterMixing_105 (by decide) ?_
              exact ih_2 (kx - 1) (mixS st) (va_up (va_up f kx (f (mixU (mixS st) % (kx + 1)))) (mixU (mixS st) % (kx + 1)) (f kx)) M_4 _ _ ls (by omega) (by omega) (fun j hj => by have q1 := hf _ hmj; have q2 := hf kx hk; simp only [va_up]; split; exact q2; split; exact q1; exact hf j hj) (by rw [← hv, xMix_s (k := kx) (by omega)]) (by rw [hM_4, hM_3, hM9_2, x_uu, x_uu]) hX hS (lv_sub hl [0, 3, 4, 5, 6] rfl)
        exact loop_2 cn (cn - 1) seed (xIota sp cn) M9 _ _ ls (by omega) (by omega) (fun j hj => by unfold xIota; rw [if_pos hj]; exact hj) rfl ((x_us hc11).symm) hX hS (lv_sub hl [0, 1, 2, 3, 4] rfl)
      · have c_1 : ¬ (cn ≤ i) := fun q => c_1 ((nI_leI (by omega) (by omega)).mpr q)
        refine lv_aload_n hx hb dX2_placeAfterMixing_12 rfl (lv_at hl 1 rfl) ?_
        refine x_get (ci := 4) (v := .ref a11) (C := RX2) (T := TX2) (N := 9) hx hb hts inX2 hown hK hX hcL rfl 7 (by decide) lk_fieldLink_36 (fun _ h9 => h9) rfl dX2_placeAfterMixing_13 ?_
        refine lv_iload hx hb dX2_placeAfterMixing_16 (lv_at hl 0 rfl) ?_
        refine lv_iload hx hb dX2_placeAfterMixing_18 (lv_at hl 0 rfl) ?_
        refine x_isN hx hb hK hX hS hc11 (by omega) (by decide) dX2_placeAfterMixing_20 (fun H locs hX hS => ?_)
        rw [upd_n] at hX
        obtain ⟨M_5, hM_5⟩ : ∃ zM : xM, zM = xu M9 11 (a11, .inl (G.2 0, 625, .inl (fun k => nI ((va_up (xIota sp i) i i) k)))) := ⟨_, rfl⟩
        have hX : xw G.1 vwCl A M_5 H := by rw [hM_5]; exact hX
        have hcL : M_5 4 = some (a4, .inr (4, [.int bg, .int (nI cn), .ref a6, .ref a7, .ref a8, .ref a9, .ref a10, .ref a11, .ref a12])) := by rw [hM_5, xu_n (by omega)]; exact hcL
        have hc6 : M_5 6 = some (a6, .inl (G.2 0, 625, .inl (fun k => nI (zs k)))) := by rw [hM_5, xu_n (by omega)]; exact hc6
        have hc7 : M_5 7 = some (a7, .inl (G.2 0, 625, .inl (fun k => nI (os k)))) := by rw [hM_5, xu_n (by omega)]; exact hc7
        have hc8 : M_5 8 = some (a8, .inl (G.2 1, 625, .inr (.inl (fun k => lN (ab k))))) := by rw [hM_5, xu_n (by omega)]; exact hc8
        have hc9 : M_5 9 = some (a9, .inl (G.2 1, 625, .inr (.inl (fun k => lN (bl k))))) := by rw [hM_5, xu_n (by omega)]; exact hc9
        have hc10 : M_5 10 = some (a10, .inl (G.2 0, 625, .inl (fun k => nI (od k)))) := by rw [hM_5, xu_n (by omega)]; exact hc10
        have hc12 : M_5 12 = some (a12, .inl (G.2 2, 51, .inl (fun k => nI (pr k)))) := by rw [hM_5, xu_n (by omega)]; exact hc12
        have hc11 : M_5 11 = some (a11, .inl (G.2 0, 625, .inl (fun k => nI ((va_up (xIota sp i) i i) k)))) := by rw [hM_5]; exact xu_s
        refine lv_iinc (v := nI (i + 1)) (lv' := [(4, .int (nI (i + 1))), (0, .ref a4), (1, .long seed), (3, .int (nI ip))]) hx hb dX2_placeAfterMixing_21 hl (k := 0) rfl (show nI i + Int32.ofInt 1 = _ from nI_add _ 1) (by decide) rfl (fun ls hl => ?_)
        refine lv_goto (tgt := 3) hx hb dX2_placeAfterMixing_24 (by decide) ?_
        exact ih (i + 1) M_5 _ _ ls (by omega) (by omega) (by rw [hM_5, hM9, x_uu, xIota_s]) hX hS (lv_sub hl [0, 1, 2, 3] rfl)
  exact loop (cn + 1) 0 M _ _ ls (by omega) (by omega) (by rw [xIota_0]; exact (x_us hc11).symm) hX hS (lv_sub hl [0, 1, 2, 3] rfl)
end
section
/-! Reconcile: its state, its simple methods -/
def xRec (G : xG) (M : xM) (ad : Nat → Nat) (nc : Nat) (sd : Nat → Int32) (jn : Nat → Int32) (tc : Nat → Nat) (dt : Nat → Int32) (fd : Nat → Int64) (ld : Nat → Int64) (tk : Nat → Nat → Int32) (kd : Nat → Nat → Int32) (wn : Nat → Nat) (jc : Nat) (jz : Nat → Nat) (jo : Nat → Nat) (ju : Nat → Int32) (bg : Int32) (cn : Nat) (zs : Nat → Nat) (os : Nat → Nat) (ab : Nat → Nat) (bl : Nat → Nat) (od : Nat → Nat) (sp : Nat → Nat) (pr : Nat → Nat) (fa : Int64) (fb : Int64) : Prop :=
  M 0 = some (ad 0, .inr (6, [.ref (ad 1), .int (nI nc), .ref (ad 2), .ref (ad 3), .int (nI jc), .ref (ad 4), .ref (ad 5)])) ∧
  M 1 = some (ad 1, .inl (G.2 3, 50, .inr (.inr (.inr (.inr (fun k => if k < nc then some (ad (100 + 3 * k)) else none)))))) ∧
  M 2 = some (ad 2, .inl (G.2 1, 4, .inr (.inl (fun k => lN (wn k))))) ∧
  M 3 = some (ad 3, .inl (G.2 4, 100, .inr (.inr (.inr (.inr (fun k => if k < jc then some (ad (300 + k)) else none)))))) ∧
  M 4 = some (ad 4, .inr (4, [.int bg, .int (nI cn), .ref (ad 6), .ref (ad 7), .ref (ad 8), .ref (ad 9), .ref (ad 10), .ref (ad 11), .ref (ad 12)])) ∧
  M 5 = some (ad 5, .inr (2, [.long fa, .long fb])) ∧
  M 6 = some (ad 6, .inl (G.2 0, 625, .inl (fun k => nI (zs k)))) ∧
  M 7 = some (ad 7, .inl (G.2 0, 625, .inl (fun k => nI (os k)))) ∧
  M 8 = some (ad 8, .inl (G.2 1, 625, .inr (.inl (fun k => lN (ab k))))) ∧
  M 9 = some (ad 9, .inl (G.2 1, 625, .inr (.inl (fun k => lN (bl k))))) ∧
  M 10 = some (ad 10, .inl (G.2 0, 625, .inl (fun k => nI (od k)))) ∧
  M 11 = some (ad 11, .inl (G.2 0, 625, .inl (fun k => nI (sp k)))) ∧
  M 12 = some (ad 12, .inl (G.2 2, 51, .inl (fun k => nI (pr k)))) ∧
  (∀ i, i < nc → M (100 + 3 * i) = some (ad (100 + 3 * i), .inr (5, [.int (sd i), .int (jn i), .ref (ad (100 + 3 * i + 1)), .ref (ad (100 + 3 * i + 2)), .int (nI (tc i)), .int (dt i), .long (fd i), .long (ld i)])) ∧ M (100 + 3 * i + 1) = some (ad (100 + 3 * i + 1), .inl (G.2 0, 8, .inl (tk i))) ∧ M (100 + 3 * i + 2) = some (ad (100 + 3 * i + 2), .inl (G.2 0, 8, .inl (kd i)))) ∧
  (∀ j, j < jc → M (300 + j) = some (ad (300 + j), .inr (3, [.ref (ad (100 + 3 * jz j)), .ref (ad (100 + 3 * jo j)), .int (ju j)])))

theorem x_p1 {x : Int32} {n : Nat} (hn : n < 2 ^ 31) (h1 : ¬ x < nI 1) (h2 : x ≤ nI n) : ∃ i, i < n ∧ x = nI (i + 1) := by
  have h0 : ¬ x < 0 := fun q => h1 (by rw [Int32.lt_iff_toInt_lt] at q ⊢; rw [nI_toInt (by omega)]; have : (0 : Int32).toInt = 0 := rfl; omega)
  obtain ⟨j, hj, rfl⟩ := nI_of h0
  have q2 := (nI_leI hj hn).mp h2
  rcases Nat.eq_zero_or_pos j with z | z
  · subst z
    exact absurd ((nI_ltI (by omega) (by omega)).mpr (by omega)) h1
  · exact ⟨j - 1, by omega, by rw [show j - 1 + 1 = j by omega]⟩
theorem x_in {x : Int32} {n : Nat} (hn : n < 2 ^ 31) (h1 : ¬ x < 0) (h2 : ¬ nI n ≤ x) : ∃ i, i < n ∧ x = nI i := by
  obtain ⟨j, hj, rfl⟩ := nI_of h1
  exact ⟨j, Nat.lt_of_not_le (fun q => h2 ((nI_leI hn hj).mpr q)), rfl⟩

abbrev rmX4_isSide : Room := { frames := 0, cells := 0, slots := 0, locals := 0 }
set_option maxHeartbeats 4000000 in
set_option maxRecDepth 100000 in
/-- isSide -/
theorem ctX4_isSide (l : Launch) (G : xG) (A : Nat → Prop) (M : xM) (p0 : Int32) : Met l yX4_isSide wsX4_isSide rmX4_isSide (va_Pc ([.int p0] : List Value) (xPc G A M)) (va_Qi (fun r M1 => M1 = M ∧ r = if p0 = 0 ∨ p0 = nI 1 then 1 else 0) (xPc G A) A) 0 0 A := by
  refine x_met (cc := cX4_isSide) (maxL := 1) (ret := (some .boolean)) RX4 (by decide) rfl (Nat.le_of_ble_eq_true rfl) rfl ?_
  intro p e s m below meth c hx hb hr hts hown hlocks hml hin hK hA hX ls hl
  have hS : va_S A s.heap s.heap [] := va_S.rf
  have hl : lv_has ls 1 [(0, .int p0)] := hl
  refine lv_iload_n hx hb dX4_isSide_0 rfl (lv_at hl 0 rfl) ?_
  refine lv_if_eq (tgt := 9) hx hb dX4_isSide_1 (by decide) (fun c_1 => ?_) (fun c_1 => ?_)
  · refine lv_iconst (v := nI 1) hx hb dX4_isSide_9 (by decide) ?_
    refine lv_goto (tgt := 14) hx hb dX4_isSide_10 (by decide) ?_
    exact x_zret hx hb hr hlocks hK hA hX hS dX4_isSide_14 rfl (⟨rfl, by split <;> first | rfl | (rename_i q; exfalso; first | exact q (Or.inl (by assumption)) | exact q (Or.inr (by assumption)) | (rcases q with q | q <;> contradiction))⟩)
  · refine lv_iload_n hx hb dX4_isSide_4 rfl (lv_at hl 0 rfl) ?_
    refine lv_iconst (v := nI 1) hx hb dX4_isSide_5 (by decide) ?_
    refine lv_icmp_ne (tgt := 13) hx hb dX4_isSide_6 (by decide) (fun c_2 => ?_) (fun c_2 => ?_)
    · refine lv_iconst (v := nI 0) hx hb dX4_isSide_13 (by decide) ?_
      exact x_zret hx hb hr hlocks hK hA hX hS dX4_isSide_14 rfl (⟨rfl, by split <;> first | rfl | (rename_i q; exfalso; first | exact q (Or.inl (by assumption)) | exact q (Or.inr (by assumption)) | (rcases q with q | q <;> contradiction))⟩)
    · refine lv_iconst (v := nI 1) hx hb dX4_isSide_9 (by decide) ?_
      refine lv_goto (tgt := 14) hx hb dX4_isSide_10 (by decide) ?_
      exact x_zret hx hb hr hlocks hK hA hX hS dX4_isSide_14 rfl (⟨rfl, by split <;> first | rfl | (rename_i q; exfalso; first | exact q (Or.inl (by assumption)) | exact q (Or.inr (by assumption)) | (rcases q with q | q <;> contradiction))⟩)

abbrev rmX4_find : Room := { frames := 0, cells := 0, slots := 0, locals := 0 }
set_option maxHeartbeats 4000000 in
set_option maxRecDepth 100000 in
/-- find -/
theorem ctX4_find (l : Launch) (G : xG) (A : Nat → Prop) (M : xM) {ad : Nat → Nat} {nc : Nat} {sd : Nat → Int32} {jn : Nat → Int32} {tc : Nat → Nat} {dt : Nat → Int32} {fd : Nat → Int64} {ld : Nat → Int64} {tk : Nat → Nat → Int32} {kd : Nat → Nat → Int32} {wn : Nat → Nat} {jc : Nat} {jz : Nat → Nat} {jo : Nat → Nat} {ju : Nat → Int32} {bg : Int32} {cn : Nat} {zs : Nat → Nat} {os : Nat → Nat} {ab : Nat → Nat} {bl : Nat → Nat} {od : Nat → Nat} {sp : Nat → Nat} {pr : Nat → Nat} {fa : Int64} {fb : Int64} (hR : xRec G M ad nc sd jn tc dt fd ld tk kd wn jc jz jo ju bg cn zs os ab bl od sp pr fa fb) (p0 : Int32) (hnc : nc ≤ 50) : Met l yX4_find wsX4_find rmX4_find (va_Pc ([.ref (ad 0), .int p0] : List Value) (xPc G A M)) (va_Qq (fun r M1 => M1 = M ∧ ((∃ i, i < nc ∧ p0 = nI (i + 1) ∧ r = some (ad (100 + 3 * i))) ∨ ((p0 < nI 1 ∨ ¬ p0 ≤ nI nc) ∧ r = none))) (xPc G A) A) 0 0 A := by
  refine x_met (cc := cX4_find) (maxL := 2) (ret := (some (.object "Reconcile$Name"))) RX4 (by decide) rfl (Nat.le_of_ble_eq_true rfl) rfl ?_
  intro p e s m below meth c hx hb hr hts hown hlocks hml hin hK hA hX ls hl
  have inX4 : ∀ w ∈ wsX40, w ∈ wsX4_find := by decide +kernel
  have lk_fieldLink_15 := hts (.fieldLink RX4 15 "Reconcile" "nameCount" "I") (by decide +kernel)
  have lk_fieldLink_11 := hts (.fieldLink RX4 11 "Reconcile" "names" "[LReconcile$Name;") (by decide +kernel)
  have hS : va_S A s.heap s.heap [] := va_S.rf
  have hl : lv_has ls 2 [(0, .ref (ad 0)), (1, .int p0)] := hl
  obtain ⟨hc0, hc1, hc2, hc3, hcL, hc5, hc6, hc7, hc8, hc9, hc10, hc11, hc12, hnm, hjn⟩ := hR
  refine lv_iload_n hx hb dX4_find_0 rfl (lv_at hl 1 rfl) ?_
  refine lv_iconst (v := nI 1) hx hb dX4_find_1 (by decide) ?_
  refine lv_icmp_lt (tgt := 13) hx hb dX4_find_2 (by decide) (fun c_1 => ?_) (fun c_1 => ?_)
  · refine lv_null hx hb dX4_find_13 ?_
    exact x_aret (show _ = va_rf none from rfl) hx hb hr hlocks hK hA hX hS dX4_find_14 (⟨rfl, Or.inr ⟨Or.inl c_1, rfl⟩⟩)
  · refine lv_iload_n hx hb dX4_find_5 rfl (lv_at hl 1 rfl) ?_
    refine lv_aload_n hx hb dX4_find_6 rfl (lv_at hl 0 rfl) ?_
    refine x_get (ci := 6) (v := .int (nI nc)) (C := RX4) (T := TX4) (N := 7) hx hb hts inX4 hown hK hX hc0 rfl 1 (by decide) lk_fieldLink_15 (fun _ h9 => h9) rfl dX4_find_7 ?_
    refine lv_icmp_le (tgt := 15) hx hb dX4_find_10 (by decide) (fun c_2 => ?_) (fun c_2 => ?_)
    · obtain ⟨i, hi, ep⟩ := x_p1 (by omega) c_1 c_2
      subst ep
      refine lv_aload_n hx hb dX4_find_15 rfl (lv_at hl 0 rfl) ?_
      refine x_get (ci := 6) (v := .ref (ad 1)) (C := RX4) (T := TX4) (N := 7) hx hb hts inX4 hown hK hX hc0 rfl 0 (by decide) lk_fieldLink_11 (fun _ h9 => h9) rfl dX4_find_16 ?_
      refine lv_iload_n hx hb dX4_find_19 rfl (lv_at hl 1 rfl) ?_
      refine lv_iconst (v := nI 1) hx hb dX4_find_20 (by decide) ?_
      refine lv_isub hx hb dX4_find_21 ?_
      refine x_ri (pk_sub (by omega)) ?_
      refine x_ri (y := nI i) (congrArg nI (by omega)) ?_
      refine x_aN hx hb hK hX 3 rfl hc1 (by omega) (by decide) dX4_find_22 ?_
      rw [if_pos hi]
      exact x_aret (rfl) hx hb hr hlocks hK hA hX hS dX4_find_23 (⟨rfl, Or.inl ⟨i, hi, rfl, rfl⟩⟩)
    · refine lv_null hx hb dX4_find_13 ?_
      exact x_aret (show _ = va_rf none from rfl) hx hb hr hlocks hK hA hX hS dX4_find_14 (⟨rfl, Or.inr ⟨Or.inr c_2, rfl⟩⟩)

abbrev rmX4_token : Room := { frames := 2, cells := 0, slots := 0, locals := 45 }
set_option maxHeartbeats 4000000 in
set_option maxRecDepth 100000 in
/-- token -/
theorem ctX4_token (l : Launch) (G : xG) (A : Nat → Prop) (M : xM) {ad : Nat → Nat} {nc : Nat} {sd : Nat → Int32} {jn : Nat → Int32} {tc : Nat → Nat} {dt : Nat → Int32} {fd : Nat → Int64} {ld : Nat → Int64} {tk : Nat → Nat → Int32} {kd : Nat → Nat → Int32} {wn : Nat → Nat} {jc : Nat} {jz : Nat → Nat} {jo : Nat → Nat} {ju : Nat → Int32} {bg : Int32} {cn : Nat} {zs : Nat → Nat} {os : Nat → Nat} {ab : Nat → Nat} {bl : Nat → Nat} {od : Nat → Nat} {sp : Nat → Nat} {pr : Nat → Nat} {fa : Int64} {fb : Int64} (hR : xRec G M ad nc sd jn tc dt fd ld tk kd wn jc jz jo ju bg cn zs os ab bl od sp pr fa fb) (p0 p1 p2 : Int32) (hnc : nc ≤ 50) (htk : ∀ i, i < nc → tc i ≤ 8 ∧ ∀ j, j < tc i → vp_in (kd i j) 4) : Met l yX4_token wsX4_token rmX4_token (va_Pc ([.ref (ad 0), .int p0, .int p1, .int p2] : List Value) (xPc G A M)) (va_Qv (fun M1 => (∃ i, i < nc ∧ p0 = nI (i + 1) ∧ (¬ p2 < 0 ∧ p2 < nI 3) ∧ M1 = if tc i < 8 ∧ xHas (tk i) (kd i) p1 p2 (tc i) = false then xu (xu (xu M (100 + 3 * i + 1) (ad (100 + 3 * i + 1), .inl (G.2 0, 8, .inl (upd (tk i) (tc i) p1)))) (100 + 3 * i + 2) (ad (100 + 3 * i + 2), .inl (G.2 0, 8, .inl (upd (kd i) (tc i) p2)))) (100 + 3 * i) (ad (100 + 3 * i), .inr (5, [.int (sd i), .int (jn i), .ref (ad (100 + 3 * i + 1)), .ref (ad (100 + 3 * i + 2)), .int (nI (tc i + 1)), .int (dt i), .long (fd i), .long (ld i)])) else M) ∨ (((p0 < nI 1 ∨ ¬ p0 ≤ nI nc) ∨ ¬ (¬ p2 < 0 ∧ p2 < nI 3)) ∧ M1 = M)) (xPc G A) A) 0 0 A := by
  refine x_met (cc := cX4_token) (maxL := 5) (ret := none) RX4 (by decide) rfl (Nat.le_of_ble_eq_true rfl) rfl ?_
  intro p e s m below meth c hx hb hr hts hown hlocks hml hin hK hA hX ls hl
  have hS : va_S A s.heap s.heap [] := va_S.rf
  have hl : lv_has ls 5 [(0, .ref (ad 0)), (1, .int p0), (2, .int p1), (3, .int p2)] := hl
  have hRR := hR
  obtain ⟨hc0, hc1, hc2, hc3, hcL, hc5, hc6, hc7, hc8, hc9, hc10, hc11, hc12, hnm, hjn⟩ := hR
  refine lv_aload_n hx hb dX4_token_0 rfl (lv_at hl 0 rfl) ?_
  refine lv_iload_n hx hb dX4_token_1 rfl (lv_at hl 1 rfl) ?_
  refine x_callq (x_runV (q := (RX4, TX4, 7)) (As := [.int p0]) (rest := []) ⟨hx, hb, hml, hown, hts⟩ (ctX4_find l G A M hRR p0 hnc) (cwV 1 hts gX4_token_X4_find rfl rfl rfl (by decide +kernel) ⟨Nat.le_of_ble_eq_true rfl, Nat.le_of_ble_eq_true rfl⟩) hK hA hX hS hc0 rfl rfl hl.1 rfl (lv_room (Nat.le_of_ble_eq_true rfl)) dX4_token_2 ⟨by decide, by decide⟩) hS (fun r_1 M_2 H locs hp hX hS => ?_)
  obtain ⟨hM_, hq_r_1⟩ := hp
  rw [hM_] at hX
  rcases hq_r_1 with ⟨i, hi, ep, er⟩ | ⟨ep, er⟩
  · subst er
    obtain ⟨hn0, hn1, hn2⟩ := hnm i hi
    refine x_rv (y := .ref (ad (100 + 3 * i))) rfl ?_
    refine lv_astore (lv' := [(4, .ref (ad (100 + 3 * i))), (0, .ref (ad 0)), (1, .int p0), (2, .int p1), (3, .int p2)]) hx hb dX4_token_5 hl (by decide) rfl (fun ls hl => ?_)
    refine lv_aload hx hb dX4_token_7 (lv_at hl 0 rfl) ?_
    refine lv_ifnull hx hb dX4_token_9 ?_
    refine lv_iload_n hx hb dX4_token_12 rfl (lv_at hl 4 rfl) ?_
    refine lv_if_lt (tgt := 21) hx hb dX4_token_13 (by decide) (fun c_3 => ?_) (fun c_3 => ?_)
    · exact x_vret hx hb hr hlocks hK hA hX hS dX4_token_21 (Or.inr ⟨Or.inr (fun q => q.1 c_3), rfl⟩)
    · refine lv_iload_n hx hb dX4_token_16 rfl (lv_at hl 4 rfl) ?_
      refine lv_iconst (v := nI 3) hx hb dX4_token_17 (by decide) ?_
      refine lv_icmp_lt (tgt := 22) hx hb dX4_token_18 (by decide) (fun c_4 => ?_) (fun c_4 => ?_)
      · refine lv_aload hx hb dX4_token_22 (lv_at hl 0 rfl) ?_
        refine lv_iload_n hx hb dX4_token_24 rfl (lv_at hl 3 rfl) ?_
        refine lv_iload_n hx hb dX4_token_25 rfl (lv_at hl 4 rfl) ?_
        refine x_callv (x_runV (q := (RX3, TX3, 8)) (As := [.int p1, .int p2]) (rest := []) ⟨hx, hb, hml, hown, hts⟩ (ctX3_addToken l G A M hn0 hn1 hn2 (htk i hi).1 p1 p2) (cwV 2 hts gX4_token_X3_addToken rfl rfl rfl (by decide +kernel) ⟨Nat.le_of_ble_eq_true rfl, Nat.le_of_ble_eq_true rfl⟩) hK hA hX hS hn0 rfl rfl hl.1 rfl (lv_room (Nat.le_of_ble_eq_true rfl)) dX4_token_26 ⟨by decide, by decide⟩) hS (fun M_6 H locs hp hX hS => ?_)
        exact x_vret hx hb hr hlocks hK hA hX hS dX4_token_29 (Or.inl ⟨i, hi, ep, ⟨c_3, c_4⟩, hp⟩)
      · exact x_vret hx hb hr hlocks hK hA hX hS dX4_token_21 (Or.inr ⟨Or.inr (fun q => c_4 q.2), rfl⟩)
  · subst er
    refine x_rv (y := .null) rfl ?_
    refine lv_astoreN (lv' := [(4, .null), (0, .ref (ad 0)), (1, .int p0), (2, .int p1), (3, .int p2)]) hx hb dX4_token_5 hl (by decide) rfl (fun ls hl => ?_)
    refine lv_aloadN hx hb dX4_token_7 (lv_at hl 0 rfl) ?_
    refine lv_ifnullN (tgt := 21) hx hb dX4_token_9 (by decide) ?_
    exact x_vret hx hb hr hlocks hK hA hX hS dX4_token_21 (Or.inr ⟨Or.inl ep, rfl⟩)

abbrev rmX4_date : Room := { frames := 1, cells := 0, slots := 0, locals := 24 }
set_option maxHeartbeats 4000000 in
set_option maxRecDepth 100000 in
/-- date -/
theorem ctX4_date (l : Launch) (G : xG) (A : Nat → Prop) (M : xM) {ad : Nat → Nat} {nc : Nat} {sd : Nat → Int32} {jn : Nat → Int32} {tc : Nat → Nat} {dt : Nat → Int32} {fd : Nat → Int64} {ld : Nat → Int64} {tk : Nat → Nat → Int32} {kd : Nat → Nat → Int32} {wn : Nat → Nat} {jc : Nat} {jz : Nat → Nat} {jo : Nat → Nat} {ju : Nat → Int32} {bg : Int32} {cn : Nat} {zs : Nat → Nat} {os : Nat → Nat} {ab : Nat → Nat} {bl : Nat → Nat} {od : Nat → Nat} {sp : Nat → Nat} {pr : Nat → Nat} {fa : Int64} {fb : Int64} (hR : xRec G M ad nc sd jn tc dt fd ld tk kd wn jc jz jo ju bg cn zs os ab bl od sp pr fa fb) (p0 : Int32) (p1 p2 : Int64) (hnc : nc ≤ 50) (htk : ∀ i, i < nc → tc i ≤ 8 ∧ ∀ j, j < tc i → vp_in (kd i j) 4) : Met l yX4_date wsX4_date rmX4_date (va_Pc ([.ref (ad 0), .int p0, .long p1, .long p2] : List Value) (xPc G A M)) (va_Qv (fun M1 => (∃ i, i < nc ∧ p0 = nI (i + 1) ∧ p1 ≤ p2 ∧ M1 = xu M (100 + 3 * i) (ad (100 + 3 * i), .inr (5, [.int (sd i), .int (jn i), .ref (ad (100 + 3 * i + 1)), .ref (ad (100 + 3 * i + 2)), .int (nI (tc i)), .int (nI 1), .long p1, .long p2]))) ∨ (((p0 < nI 1 ∨ ¬ p0 ≤ nI nc) ∨ ¬ p1 ≤ p2) ∧ M1 = M)) (xPc G A) A) 0 0 A := by
  refine x_met (cc := cX4_date) (maxL := 7) (ret := none) RX4 (by decide) rfl (Nat.le_of_ble_eq_true rfl) rfl ?_
  intro p e s m below meth c hx hb hr hts hown hlocks hml hin hK hA hX ls hl
  have hS : va_S A s.heap s.heap [] := va_S.rf
  have hl : lv_has ls 7 [(0, .ref (ad 0)), (1, .int p0), (2, .long p1), (4, .long p2)] := hl
  have hRR := hR
  obtain ⟨hc0, hc1, hc2, hc3, hcL, hc5, hc6, hc7, hc8, hc9, hc10, hc11, hc12, hnm, hjn⟩ := hR
  refine lv_aload_n hx hb dX4_date_0 rfl (lv_at hl 0 rfl) ?_
  refine lv_iload_n hx hb dX4_date_1 rfl (lv_at hl 1 rfl) ?_
  refine x_callq (x_runV (q := (RX4, TX4, 7)) (As := [.int p0]) (rest := []) ⟨hx, hb, hml, hown, hts⟩ (ctX4_find l G A M hRR p0 hnc) (cwV 1 hts gX4_date_X4_find rfl rfl rfl (by decide +kernel) ⟨Nat.le_of_ble_eq_true rfl, Nat.le_of_ble_eq_true rfl⟩) hK hA hX hS hc0 rfl rfl hl.1 rfl (lv_room (Nat.le_of_ble_eq_true rfl)) dX4_date_2 ⟨by decide, by decide⟩) hS (fun r_1 M_2 H locs hp hX hS => ?_)
  obtain ⟨hM_, hq_r_1⟩ := hp
  rw [hM_] at hX
  rcases hq_r_1 with ⟨i, hi, ep, er⟩ | ⟨ep, er⟩
  · subst er
    obtain ⟨hn0, hn1, hn2⟩ := hnm i hi
    refine x_rv (y := .ref (ad (100 + 3 * i))) rfl ?_
    refine lv_astore (lv' := [(6, .ref (ad (100 + 3 * i))), (0, .ref (ad 0)), (1, .int p0), (2, .long p1), (4, .long p2)]) hx hb dX4_date_5 hl (by decide) rfl (fun ls hl => ?_)
    refine lv_aload hx hb dX4_date_7 (lv_at hl 0 rfl) ?_
    refine lv_ifnull hx hb dX4_date_9 ?_
    refine lv_lload hx hb dX4_date_12 (lv_at hl 4 rfl) ?_
    refine lv_lload_n hx hb dX4_date_14 rfl (lv_at hl 3 rfl) ?_
    refine W.lcmp hx hb dX4_date_15 ?_
    refine x_lc_ge (tgt := 20) hx hb dX4_date_16 (by decide) (fun c_3 => ?_) (fun c_3 => ?_)
    · refine lv_aload hx hb dX4_date_20 (lv_at hl 0 rfl) ?_
      refine lv_lload_n hx hb dX4_date_22 rfl (lv_at hl 3 rfl) ?_
      refine lv_lload hx hb dX4_date_23 (lv_at hl 4 rfl) ?_
      refine x_callv (x_runV (q := (RX3, TX3, 8)) (As := [.long p1, .long p2]) (rest := []) ⟨hx, hb, hml, hown, hts⟩ (ctX3_setDates l G A M hn0 hn1 hn2 (htk i hi).1 p1 p2) (cwV 2 hts gX4_date_X3_setDates rfl rfl rfl (by decide +kernel) ⟨Nat.le_of_ble_eq_true rfl, Nat.le_of_ble_eq_true rfl⟩) hK hA hX hS hn0 rfl rfl hl.1 rfl (lv_room (Nat.le_of_ble_eq_true rfl)) dX4_date_25 ⟨by decide, by decide⟩) hS (fun M_5 H locs hp hX hS => ?_)
      exact x_vret hx hb hr hlocks hK hA hX hS dX4_date_28 (Or.inl ⟨i, hi, ep, c_3, hp⟩)
    · exact x_vret hx hb hr hlocks hK hA hX hS dX4_date_19 (Or.inr ⟨Or.inr c_3, rfl⟩)
  · subst er
    refine x_rv (y := .null) rfl ?_
    refine lv_astoreN (lv' := [(6, .null), (0, .ref (ad 0)), (1, .int p0), (2, .long p1), (4, .long p2)]) hx hb dX4_date_5 hl (by decide) rfl (fun ls hl => ?_)
    refine lv_aloadN hx hb dX4_date_7 (lv_at hl 0 rfl) ?_
    refine lv_ifnullN (tgt := 19) hx hb dX4_date_9 (by decide) ?_
    exact x_vret hx hb hr hlocks hK hA hX hS dX4_date_19 (Or.inr ⟨Or.inl ep, rfl⟩)
end
section
/-! Reconcile: weight, pair, mutual, sample, best, undo, none -/
theorem x_l64 {x : Int64} {n : Nat} (hn : n < 2 ^ 62) (h1 : ¬ x < lN 0) (h2 : x ≤ lN n) : ∃ k, k ≤ n ∧ x = lN k := by
  obtain ⟨k, hk, rfl⟩ := pk_lOf (x := x) h1
  exact ⟨k, (pk_lLE hk (by omega)).mp h2, rfl⟩
theorem x_le_nlt {x y : Int64} (h : ¬ y < x) : x ≤ y := lc_n64.mpr h

abbrev rmX4_weight : Room := { frames := 0, cells := 0, slots := 0, locals := 0 }
set_option maxHeartbeats 4000000 in
set_option maxRecDepth 100000 in
/-- weight -/
theorem ctX4_weight (l : Launch) (G : xG) (A : Nat → Prop) (M : xM) {ad : Nat → Nat} {nc : Nat} {sd : Nat → Int32} {jn : Nat → Int32} {tc : Nat → Nat} {dt : Nat → Int32} {fd : Nat → Int64} {ld : Nat → Int64} {tk : Nat → Nat → Int32} {kd : Nat → Nat → Int32} {wn : Nat → Nat} {jc : Nat} {jz : Nat → Nat} {jo : Nat → Nat} {ju : Nat → Int32} {bg : Int32} {cn : Nat} {zs : Nat → Nat} {os : Nat → Nat} {ab : Nat → Nat} {bl : Nat → Nat} {od : Nat → Nat} {sp : Nat → Nat} {pr : Nat → Nat} {fa : Int64} {fb : Int64} (hR : xRec G M ad nc sd jn tc dt fd ld tk kd wn jc jz jo ju bg cn zs os ab bl od sp pr fa fb) (p0 : Int32) (p1 p2 : Int64) : Met l yX4_weight wsX4_weight rmX4_weight (va_Pc ([.ref (ad 0), .int p0, .long p1, .long p2] : List Value) (xPc G A M)) (va_Qi (fun r M1 => (∃ kk u d : Nat, (kk < 4 ∧ u ≤ 100 ∧ 1 ≤ d ∧ d ≤ 10) ∧ (p0 = nI kk ∧ p1 = lN u ∧ p2 = lN d) ∧ r = nI 1 ∧ M1 = xu M 2 (ad 2, .inl (G.2 1, 4, .inr (.inl (fun j => lN (va_up wn kk (u * (2520 / d)) j)))))) ∨ ((p0 < 0 ∨ nI 4 ≤ p0 ∨ p1 < lN 0 ∨ lN 100 < p1 ∨ p2 < lN 1 ∨ ¬ p2 ≤ lN 10) ∧ r = nI 0 ∧ M1 = M)) (xPc G A) A) 0 0 A := by
  refine x_met (cc := cX4_weight) (maxL := 6) (ret := (some .int)) RX4 (by decide) rfl (Nat.le_of_ble_eq_true rfl) rfl ?_
  intro p e s m below meth c hx hb hr hts hown hlocks hml hin hK hA hX ls hl
  have inX4 : ∀ w ∈ wsX40, w ∈ wsX4_weight := by decide +kernel
  have lk_constantLong_67 := hts (.constantLong RX4 67 (100)) (by decide +kernel)
  have lk_constantLong_69 := hts (.constantLong RX4 69 (10)) (by decide +kernel)
  have lk_fieldLink_21 := hts (.fieldLink RX4 21 "Reconcile" "weights" "[J") (by decide +kernel)
  have lk_constantLong_19 := hts (.constantLong RX4 19 (2520)) (by decide +kernel)
  have hS : va_S A s.heap s.heap [] := va_S.rf
  have hl : lv_has ls 6 [(0, .ref (ad 0)), (1, .int p0), (2, .long p1), (4, .long p2)] := hl
  obtain ⟨hc0, hc1, hc2, hc3, hcL, hc5, hc6, hc7, hc8, hc9, hc10, hc11, hc12, hnm, hjn⟩ := hR
  refine lv_iload_n hx hb dX4_weight_0 rfl (lv_at hl 1 rfl) ?_
  refine lv_if_lt (tgt := 39) hx hb dX4_weight_1 (by decide) (fun c_1 => ?_) (fun c_1 => ?_)
  · refine lv_iconst (v := nI 0) hx hb dX4_weight_39 (by decide) ?_
    exact x_iret hx hb hr hlocks hK hA hX hS dX4_weight_40 (Or.inr ⟨Or.inl c_1, rfl, rfl⟩)
  · refine lv_iload_n hx hb dX4_weight_4 rfl (lv_at hl 1 rfl) ?_
    refine lv_iconst (v := nI 4) hx hb dX4_weight_5 (by decide) ?_
    refine lv_icmp_ge (tgt := 39) hx hb dX4_weight_6 (by decide) (fun c_2 => ?_) (fun c_2 => ?_)
    · refine lv_iconst (v := nI 0) hx hb dX4_weight_39 (by decide) ?_
      exact x_iret hx hb hr hlocks hK hA hX hS dX4_weight_40 (Or.inr ⟨Or.inr (Or.inl c_2), rfl, rfl⟩)
    · refine lv_lload_n hx hb dX4_weight_9 rfl (lv_at hl 2 rfl) ?_
      refine lv_lconst (v := lN 0) hx hb dX4_weight_10 rfl ?_
      refine W.lcmp hx hb dX4_weight_11 ?_
      refine x_lc_lt (tgt := 39) hx hb dX4_weight_12 (by decide) (fun c_3 => ?_) (fun c_3 => ?_)
      · refine lv_iconst (v := nI 0) hx hb dX4_weight_39 (by decide) ?_
        exact x_iret hx hb hr hlocks hK hA hX hS dX4_weight_40 (Or.inr ⟨Or.inr (Or.inr (Or.inl c_3)), rfl, rfl⟩)
      · refine lv_lload_n hx hb dX4_weight_15 rfl (lv_at hl 2 rfl) ?_
        refine lv_ldc2 (v := 100) hx hb hown lk_constantLong_67 dX4_weight_16 ?_
        refine x_rl (y := lN 100) rfl ?_
        refine W.lcmp hx hb dX4_weight_19 ?_
        refine x_lc_gt (tgt := 39) hx hb dX4_weight_20 (by decide) (fun c_4 => ?_) (fun c_4 => ?_)
        · refine lv_iconst (v := nI 0) hx hb dX4_weight_39 (by decide) ?_
          exact x_iret hx hb hr hlocks hK hA hX hS dX4_weight_40 (Or.inr ⟨Or.inr (Or.inr (Or.inr (Or.inl c_4))), rfl, rfl⟩)
        · refine lv_lload hx hb dX4_weight_23 (lv_at hl 3 rfl) ?_
          refine lv_lconst (v := lN 1) hx hb dX4_weight_25 rfl ?_
          refine W.lcmp hx hb dX4_weight_26 ?_
          refine x_lc_lt (tgt := 39) hx hb dX4_weight_27 (by decide) (fun c_5 => ?_) (fun c_5 => ?_)
          · refine lv_iconst (v := nI 0) hx hb dX4_weight_39 (by decide) ?_
            exact x_iret hx hb hr hlocks hK hA hX hS dX4_weight_40 (Or.inr ⟨Or.inr (Or.inr (Or.inr (Or.inr (Or.inl c_5)))), rfl, rfl⟩)
          · refine lv_lload hx hb dX4_weight_30 (lv_at hl 3 rfl) ?_
            refine lv_ldc2 (v := 10) hx hb hown lk_constantLong_69 dX4_weight_32 ?_
            refine x_rl (y := lN 10) rfl ?_
            refine W.lcmp hx hb dX4_weight_35 ?_
            refine x_lc_le (tgt := 41) hx hb dX4_weight_36 (by decide) (fun c_6 => ?_) (fun c_6 => ?_)
            · obtain ⟨kk, hk, ek⟩ := x_in (n := 4) (by omega) c_1 c_2
              obtain ⟨u, hu, eu⟩ := x_l64 (n := 100) (by omega) c_3 (x_le_nlt c_4)
              have hd0 : ¬ p2 < lN 0 := fun q => c_5 (by rw [Int64.lt_iff_toInt_lt] at q ⊢; rw [lN_toInt (by omega)] at *; omega)
              obtain ⟨d, hd, ed⟩ := x_l64 (n := 10) (by omega) hd0 c_6
              have hd1 : 1 ≤ d := Nat.le_of_not_lt (fun q => c_5 (by rw [ed]; exact (pk_lLT (by omega) (by omega)).mpr q))
              subst ek eu ed
              refine lv_aload_n hx hb dX4_weight_41 rfl (lv_at hl 0 rfl) ?_
              refine x_get (ci := 6) (v := .ref (ad 2)) (C := RX4) (T := TX4) (N := 7) hx hb hts inX4 hown hK hX hc0 rfl 2 (by decide) lk_fieldLink_21 (fun _ h9 => h9) rfl dX4_weight_42 ?_
              refine lv_iload_n hx hb dX4_weight_45 rfl (lv_at hl 1 rfl) ?_
              refine lv_lload_n hx hb dX4_weight_46 rfl (lv_at hl 2 rfl) ?_
              refine lv_ldc2 (v := 2520) hx hb hown lk_constantLong_19 dX4_weight_47 ?_
              refine x_rl (y := lN 2520) rfl ?_
              refine lv_lload hx hb dX4_weight_50 (lv_at hl 3 rfl) ?_
              refine lv_ldiv hx hb dX4_weight_52 (by rw [show (0 : Int64) = lN 0 from rfl, pk_lEQ (by omega) (by omega)]; omega) ?_
              refine x_rl (pk_lDiv (by omega) (by omega) (by omega)) ?_
              refine lv_lmul hx hb dX4_weight_53 ?_
              refine x_rl (lN_mul _ _) ?_
              refine x_lsN hx hb hK hX hS hc2 (by omega) (by decide) dX4_weight_54 (fun H locs hX hS => ?_)
              rw [updL_n] at hX
              obtain ⟨M_7, hM_7⟩ : ∃ zM : xM, zM = xu M 2 (ad 2, .inl (G.2 1, 4, .inr (.inl (fun k => lN ((va_up wn kk (u * (2520 / d))) k))))) := ⟨_, rfl⟩
              have hX : xw G.1 vwCl A M_7 H := by rw [hM_7]; exact hX
              have hc0 : M_7 0 = some (ad 0, .inr (6, [.ref (ad 1), .int (nI nc), .ref (ad 2), .ref (ad 3), .int (nI jc), .ref (ad 4), .ref (ad 5)])) := by rw [hM_7, xu_n (by omega)]; exact hc0
              have hc1 : M_7 1 = some (ad 1, .inl (G.2 3, 50, .inr (.inr (.inr (.inr (fun k => if k < nc then some (ad (100 + 3 * k)) else none)))))) := by rw [hM_7, xu_n (by omega)]; exact hc1
              have hc3 : M_7 3 = some (ad 3, .inl (G.2 4, 100, .inr (.inr (.inr (.inr (fun k => if k < jc then some (ad (300 + k)) else none)))))) := by rw [hM_7, xu_n (by omega)]; exact hc3
              have hcL : M_7 4 = some (ad 4, .inr (4, [.int bg, .int (nI cn), .ref (ad 6), .ref (ad 7), .ref (ad 8), .ref (ad 9), .ref (ad 10), .ref (ad 11), .ref (ad 12)])) := by rw [hM_7, xu_n (by omega)]; exact hcL
              have hc5 : M_7 5 = some (ad 5, .inr (2, [.long fa, .long fb])) := by rw [hM_7, xu_n (by omega)]; exact hc5
              have hc6 : M_7 6 = some (ad 6, .inl (G.2 0, 625, .inl (fun k => nI (zs k)))) := by rw [hM_7, xu_n (by omega)]; exact hc6
              have hc7 : M_7 7 = some (ad 7, .inl (G.2 0, 625, .inl (fun k => nI (os k)))) := by rw [hM_7, xu_n (by omega)]; exact hc7
              have hc8 : M_7 8 = some (ad 8, .inl (G.2 1, 625, .inr (.inl (fun k => lN (ab k))))) := by rw [hM_7, xu_n (by omega)]; exact hc8
              have hc9 : M_7 9 = some (ad 9, .inl (G.2 1, 625, .inr (.inl (fun k => lN (bl k))))) := by rw [hM_7, xu_n (by omega)]; exact hc9
              have hc10 : M_7 10 = some (ad 10, .inl (G.2 0, 625, .inl (fun k => nI (od k)))) := by rw [hM_7, xu_n (by omega)]; exact hc10
              have hc11 : M_7 11 = some (ad 11, .inl (G.2 0, 625, .inl (fun k => nI (sp k)))) := by rw [hM_7, xu_n (by omega)]; exact hc11
              have hc12 : M_7 12 = some (ad 12, .inl (G.2 2, 51, .inl (fun k => nI (pr k)))) := by rw [hM_7, xu_n (by omega)]; exact hc12
              have hc2 : M_7 2 = some (ad 2, .inl (G.2 1, 4, .inr (.inl (fun k => lN ((va_up wn kk (u * (2520 / d))) k))))) := by rw [hM_7]; exact xu_s
              refine lv_iconst (v := nI 1) hx hb dX4_weight_55 (by decide) ?_
              exact x_iret hx hb hr hlocks hK hA hX hS dX4_weight_56 (Or.inl ⟨kk, u, d, ⟨hk, hu, hd1, hd⟩, ⟨rfl, rfl, rfl⟩, rfl, hM_7⟩)
            · refine lv_iconst (v := nI 0) hx hb dX4_weight_39 (by decide) ?_
              exact x_iret hx hb hr hlocks hK hA hX hS dX4_weight_40 (Or.inr ⟨Or.inr (Or.inr (Or.inr (Or.inr (Or.inr (c_6))))), rfl, rfl⟩)

abbrev rmX4_pair : Room := { frames := 1, cells := 0, slots := 0, locals := 23 }
set_option maxHeartbeats 4000000 in
set_option maxRecDepth 100000 in
/-- pair -/
theorem ctX4_pair (l : Launch) (G : xG) (A : Nat → Prop) (M : xM) {ad : Nat → Nat} {nc : Nat} {sd : Nat → Int32} {jn : Nat → Int32} {tc : Nat → Nat} {dt : Nat → Int32} {fd : Nat → Int64} {ld : Nat → Int64} {tk : Nat → Nat → Int32} {kd : Nat → Nat → Int32} {wn : Nat → Nat} {jc : Nat} {jz : Nat → Nat} {jo : Nat → Nat} {ju : Nat → Int32} {bg : Int32} {cn : Nat} {zs : Nat → Nat} {os : Nat → Nat} {ab : Nat → Nat} {bl : Nat → Nat} {od : Nat → Nat} {sp : Nat → Nat} {pr : Nat → Nat} {fa : Int64} {fb : Int64} (hR : xRec G M ad nc sd jn tc dt fd ld tk kd wn jc jz jo ju bg cn zs os ab bl od sp pr fa fb) (p0 p1 : Int32) (hcn : cn ≤ 625) (hod : ∀ j, j < cn → od j < 625) : Met l yX4_pair wsX4_pair rmX4_pair (va_Pc ([.ref (ad 0), .int p0, .int p1] : List Value) (xPc G A M)) (va_Qi (fun r M1 => M1 = M ∧ ((∃ i, i < cn ∧ p0 = nI i ∧ (p1 = 0 ∨ p1 = nI 1) ∧ r = if p1 = nI 1 then nI (os (od i)) else nI (zs (od i))) ∨ (¬ ((¬ p0 < 0 ∧ ¬ nI cn ≤ p0) ∧ (p1 = 0 ∨ p1 = nI 1)) ∧ r = nI 0))) (xPc G A) A) 0 0 A := by
  refine x_met (cc := cX4_pair) (maxL := 3) (ret := (some .int)) RX4 (by decide) rfl (Nat.le_of_ble_eq_true rfl) rfl ?_
  intro p e s m below meth c hx hb hr hts hown hlocks hml hin hK hA hX ls hl
  have inX4 : ∀ w ∈ wsX40, w ∈ wsX4_pair := by decide +kernel
  have lk_fieldLink_37 := hts (.fieldLink RX4 37 "Reconcile" "latest" "LReconcile$Listing;") (by decide +kernel)
  have hS : va_S A s.heap s.heap [] := va_S.rf
  have hl : lv_has ls 3 [(0, .ref (ad 0)), (1, .int p0), (2, .int p1)] := hl
  obtain ⟨hc0, hc1, hc2, hc3, hcL, hc5, hc6, hc7, hc8, hc9, hc10, hc11, hc12, hnm, hjn⟩ := hR
  refine lv_aload_n hx hb dX4_pair_0 rfl (lv_at hl 0 rfl) ?_
  refine x_get (ci := 6) (v := .ref (ad 4)) (C := RX4) (T := TX4) (N := 7) hx hb hts inX4 hown hK hX hc0 rfl 5 (by decide) lk_fieldLink_37 (fun _ h9 => h9) rfl dX4_pair_1 ?_
  refine lv_iload_n hx hb dX4_pair_4 rfl (lv_at hl 1 rfl) ?_
  refine x_calli (x_runV (q := (RX2, TX2, 9)) (As := [.int p0]) (rest := []) ⟨hx, hb, hml, hown, hts⟩ (ctX2_holds l G A M hcL hc6 hc7 hc8 hc9 hc10 hc11 hc12 hcn p0) (cwV 1 hts gX4_pair_X2_holds rfl rfl rfl (by decide +kernel) ⟨Nat.le_of_ble_eq_true rfl, Nat.le_of_ble_eq_true rfl⟩) hK hA hX hS hcL rfl rfl hl.1 rfl (lv_room (Nat.le_of_ble_eq_true rfl)) dX4_pair_5 ⟨by decide, by decide⟩) hS (fun r_1 M_2 H locs hp hX hS => ?_)
  obtain ⟨hM_, er_1⟩ := hp
  rw [hM_] at hX
  refine lv_if_eq (tgt := 18) hx hb dX4_pair_8 (by decide) (fun c_3 => ?_) (fun c_3 => ?_)
  · have hh := x_if0 er_1 c_3
    refine lv_iconst (v := nI 0) hx hb dX4_pair_18 (by decide) ?_
    exact x_iret hx hb hr hlocks hK hA hX hS dX4_pair_19 (⟨rfl, Or.inr ⟨fun q => hh q.1, rfl⟩⟩)
  · have hh := x_if1 er_1 c_3
    obtain ⟨i, hi, ei⟩ := x_in (by omega) hh.1 hh.2
    subst ei
    refine lv_iload_n hx hb dX4_pair_11 rfl (lv_at hl 2 rfl) ?_
    refine x_calli (x_runS (As := [.int p1]) (rest := []) ⟨hx, hb, hml, hown, hts⟩ (ctX4_isSide l G A M p1) (cwS 1 hts gX4_pair_X4_isSide rfl rfl rfl (by decide +kernel) ⟨Nat.le_of_ble_eq_true rfl, Nat.le_of_ble_eq_true rfl⟩) hK hA hX hS rfl hl.1 rfl (lv_room (Nat.le_of_ble_eq_true rfl)) dX4_pair_12 ⟨by decide, by decide⟩) hS (fun r_4 M_5 H locs hp hX hS => ?_)
    obtain ⟨hM_, er_4⟩ := hp
    rw [hM_] at hX
    refine lv_if_ne (tgt := 20) hx hb dX4_pair_15 (by decide) (fun c_6 => ?_) (fun c_6 => ?_)
    · have hs := x_if1 er_4 c_6
      refine lv_aload_n hx hb dX4_pair_20 rfl (lv_at hl 0 rfl) ?_
      refine x_get (ci := 6) (v := .ref (ad 4)) (C := RX4) (T := TX4) (N := 7) hx hb hts inX4 hown hK hX hc0 rfl 5 (by decide) lk_fieldLink_37 (fun _ h9 => h9) rfl dX4_pair_21 ?_
      refine lv_iload_n hx hb dX4_pair_24 rfl (lv_at hl 1 rfl) ?_
      refine lv_iload_n hx hb dX4_pair_25 rfl (lv_at hl 2 rfl) ?_
      refine x_calli (x_runV (q := (RX2, TX2, 9)) (As := [.int (nI i), .int p1]) (rest := []) ⟨hx, hb, hml, hown, hts⟩ (ctX2_nameAt l G A M hcL hc6 hc7 hc8 hc9 hc10 hc11 hc12 hcn i p1 (by omega) (hod i hi)) (cwV 2 hts gX4_pair_X2_nameAt rfl rfl rfl (by decide +kernel) ⟨Nat.le_of_ble_eq_true rfl, Nat.le_of_ble_eq_true rfl⟩) hK hA hX hS hcL rfl rfl hl.1 rfl (lv_room (Nat.le_of_ble_eq_true rfl)) dX4_pair_26 ⟨by decide, by decide⟩) hS (fun r_7 M_8 H locs hp hX hS => ?_)
      obtain ⟨hM_, er_7⟩ := hp
      rw [hM_] at hX
      exact x_iret hx hb hr hlocks hK hA hX hS dX4_pair_29 (⟨rfl, Or.inl ⟨i, hi, rfl, hs, er_7⟩⟩)
    · have hs := x_if0 er_4 c_6
      refine lv_iconst (v := nI 0) hx hb dX4_pair_18 (by decide) ?_
      exact x_iret hx hb hr hlocks hK hA hX hS dX4_pair_19 (⟨rfl, Or.inr ⟨fun q => hs q.2, rfl⟩⟩)

abbrev rmX4_mutual : Room := { frames := 2, cells := 0, slots := 0, locals := 47 }
set_option maxHeartbeats 4000000 in
set_option maxRecDepth 100000 in
/-- mutual -/
theorem ctX4_mutual (l : Launch) (G : xG) (A : Nat → Prop) (M : xM) {ad : Nat → Nat} {nc : Nat} {sd : Nat → Int32} {jn : Nat → Int32} {tc : Nat → Nat} {dt : Nat → Int32} {fd : Nat → Int64} {ld : Nat → Int64} {tk : Nat → Nat → Int32} {kd : Nat → Nat → Int32} {wn : Nat → Nat} {jc : Nat} {jz : Nat → Nat} {jo : Nat → Nat} {ju : Nat → Int32} {bg : Int32} {cn : Nat} {zs : Nat → Nat} {os : Nat → Nat} {ab : Nat → Nat} {bl : Nat → Nat} {od : Nat → Nat} {sp : Nat → Nat} {pr : Nat → Nat} {fa : Int64} {fb : Int64} (hR : xRec G M ad nc sd jn tc dt fd ld tk kd wn jc jz jo ju bg cn zs os ab bl od sp pr fa fb) (p0 : Int32) (hcn : cn ≤ 625) (hob : ∀ j, j < cn → od j < 625 ∧ ab (od j) < 1000000000 ∧ bl (od j) < 1000000000) (hzs : ∀ j, j < 625 → zs j < 1000) (hos : ∀ j, j < 625 → os j < 1000) : Met l yX4_mutual wsX4_mutual rmX4_mutual (va_Pc ([.ref (ad 0), .int p0] : List Value) (xPc G A M)) (va_Qi (fun r M1 => M1 = M ∧ ((∃ i, i < cn ∧ p0 = nI i ∧ (r = 0 ∧ ¬ xBest zs os ab bl od i i ∨ r = 1 ∧ xBest zs os ab bl od i i)) ∨ (¬ (¬ p0 < 0 ∧ ¬ nI cn ≤ p0) ∧ r = (-1)))) (xPc G A) A) 0 0 A := by
  refine x_met (cc := cX4_mutual) (maxL := 2) (ret := (some .int)) RX4 (by decide) rfl (Nat.le_of_ble_eq_true rfl) rfl ?_
  intro p e s m below meth c hx hb hr hts hown hlocks hml hin hK hA hX ls hl
  have inX4 : ∀ w ∈ wsX40, w ∈ wsX4_mutual := by decide +kernel
  have lk_fieldLink_37 := hts (.fieldLink RX4 37 "Reconcile" "latest" "LReconcile$Listing;") (by decide +kernel)
  have hS : va_S A s.heap s.heap [] := va_S.rf
  have hl : lv_has ls 2 [(0, .ref (ad 0)), (1, .int p0)] := hl
  obtain ⟨hc0, hc1, hc2, hc3, hcL, hc5, hc6, hc7, hc8, hc9, hc10, hc11, hc12, hnm, hjn⟩ := hR
  refine lv_aload_n hx hb dX4_mutual_0 rfl (lv_at hl 0 rfl) ?_
  refine x_get (ci := 6) (v := .ref (ad 4)) (C := RX4) (T := TX4) (N := 7) hx hb hts inX4 hown hK hX hc0 rfl 5 (by decide) lk_fieldLink_37 (fun _ h9 => h9) rfl dX4_mutual_1 ?_
  refine lv_iload_n hx hb dX4_mutual_4 rfl (lv_at hl 1 rfl) ?_
  refine x_calli (x_runV (q := (RX2, TX2, 9)) (As := [.int p0]) (rest := []) ⟨hx, hb, hml, hown, hts⟩ (ctX2_holds l G A M hcL hc6 hc7 hc8 hc9 hc10 hc11 hc12 hcn p0) (cwV 1 hts gX4_mutual_X2_holds rfl rfl rfl (by decide +kernel) ⟨Nat.le_of_ble_eq_true rfl, Nat.le_of_ble_eq_true rfl⟩) hK hA hX hS hcL rfl rfl hl.1 rfl (lv_room (Nat.le_of_ble_eq_true rfl)) dX4_mutual_5 ⟨by decide, by decide⟩) hS (fun r_1 M_2 H locs hp hX hS => ?_)
  obtain ⟨hM_, er_1⟩ := hp
  rw [hM_] at hX
  refine lv_if_ne (tgt := 13) hx hb dX4_mutual_8 (by decide) (fun c_3 => ?_) (fun c_3 => ?_)
  · have hh := x_if1 er_1 c_3
    obtain ⟨i, hi, ei⟩ := x_in (by omega) hh.1 hh.2
    subst ei
    refine lv_aload_n hx hb dX4_mutual_13 rfl (lv_at hl 0 rfl) ?_
    refine x_get (ci := 6) (v := .ref (ad 4)) (C := RX4) (T := TX4) (N := 7) hx hb hts inX4 hown hK hX hc0 rfl 5 (by decide) lk_fieldLink_37 (fun _ h9 => h9) rfl dX4_mutual_14 ?_
    refine lv_iload_n hx hb dX4_mutual_17 rfl (lv_at hl 1 rfl) ?_
    refine x_calli (x_runV (q := (RX2, TX2, 9)) (As := [.int (nI i)]) (rest := []) ⟨hx, hb, hml, hown, hts⟩ (ctX2_isBestOfBoth l G A M hcL hc6 hc7 hc8 hc9 hc10 hc11 hc12 hcn i hi hob hzs hos) (cwV 1 hts gX4_mutual_X2_isBestOfBoth rfl rfl rfl (by decide +kernel) ⟨Nat.le_of_ble_eq_true rfl, Nat.le_of_ble_eq_true rfl⟩) hK hA hX hS hcL rfl rfl hl.1 rfl (lv_room (Nat.le_of_ble_eq_true rfl)) dX4_mutual_18 ⟨by decide, by decide⟩) hS (fun r_4 M_5 H locs hp hX hS => ?_)
    obtain ⟨hM_, er_4⟩ := hp
    rw [hM_] at hX
    refine lv_if_eq (tgt := 28) hx hb dX4_mutual_21 (by decide) (fun c_6 => ?_) (fun c_6 => ?_)
    · refine lv_iconst (v := nI 0) hx hb dX4_mutual_28 (by decide) ?_
      exact x_iret hx hb hr hlocks hK hA hX hS dX4_mutual_29 (⟨rfl, Or.inl ⟨i, hi, rfl, Or.inl ⟨rfl, er_4.elim (fun q => q.2) (fun q => absurd (q.1.symm.trans c_6) (by decide))⟩⟩⟩)
    · refine lv_iconst (v := nI 1) hx hb dX4_mutual_24 (by decide) ?_
      refine lv_goto (tgt := 29) hx hb dX4_mutual_25 (by decide) ?_
      exact x_iret hx hb hr hlocks hK hA hX hS dX4_mutual_29 (⟨rfl, Or.inl ⟨i, hi, rfl, Or.inr ⟨rfl, er_4.elim (fun q => absurd q.1 c_6) (fun q => q.2)⟩⟩⟩)
  · have hh := x_if0 er_1 c_3
    refine lv_iconst (v := (-1)) hx hb dX4_mutual_11 (by decide) ?_
    exact x_iret hx hb hr hlocks hK hA hX hS dX4_mutual_12 (⟨rfl, Or.inr ⟨hh, rfl⟩⟩)

abbrev rmX4_sample : Room := { frames := 1, cells := 0, slots := 0, locals := 28 }
set_option maxHeartbeats 4000000 in
set_option maxRecDepth 100000 in
/-- sample -/
theorem ctX4_sample (l : Launch) (G : xG) (A : Nat → Prop) (M : xM) {ad : Nat → Nat} {nc : Nat} {sd : Nat → Int32} {jn : Nat → Int32} {tc : Nat → Nat} {dt : Nat → Int32} {fd : Nat → Int64} {ld : Nat → Int64} {tk : Nat → Nat → Int32} {kd : Nat → Nat → Int32} {wn : Nat → Nat} {jc : Nat} {jz : Nat → Nat} {jo : Nat → Nat} {ju : Nat → Int32} {bg : Int32} {cn : Nat} {zs : Nat → Nat} {os : Nat → Nat} {ab : Nat → Nat} {bl : Nat → Nat} {od : Nat → Nat} {sp : Nat → Nat} {pr : Nat → Nat} {fa : Int64} {fb : Int64} (hR : xRec G M ad nc sd jn tc dt fd ld tk kd wn jc jz jo ju bg cn zs os ab bl od sp pr fa fb) (p1 : Int64) (p0 : Int32) (hcn : cn ≤ 625) : Met l yX4_sample wsX4_sample rmX4_sample (va_Pc ([.ref (ad 0), .long p1, .int p0] : List Value) (xPc G A M)) (va_Qi (fun r M1 => (∃ i, i < cn ∧ p0 = nI i ∧ r = nI (xMix (cn - 1) p1 (xIota sp cn) i) ∧ ∃ s7 : Nat → Nat, M1 = xu M 11 (ad 11, .inl (G.2 0, 625, .inl (fun k => nI (s7 k))))) ∨ (¬ (¬ p0 < 0 ∧ ¬ nI cn ≤ p0) ∧ r = (-1) ∧ M1 = M)) (xPc G A) A) 0 0 A := by
  refine x_met (cc := cX4_sample) (maxL := 4) (ret := (some .int)) RX4 (by decide) rfl (Nat.le_of_ble_eq_true rfl) rfl ?_
  intro p e s m below meth c hx hb hr hts hown hlocks hml hin hK hA hX ls hl
  have inX4 : ∀ w ∈ wsX40, w ∈ wsX4_sample := by decide +kernel
  have lk_fieldLink_37 := hts (.fieldLink RX4 37 "Reconcile" "latest" "LReconcile$Listing;") (by decide +kernel)
  have hS : va_S A s.heap s.heap [] := va_S.rf
  have hl : lv_has ls 4 [(0, .ref (ad 0)), (1, .long p1), (3, .int p0)] := hl
  obtain ⟨hc0, hc1, hc2, hc3, hcL, hc5, hc6, hc7, hc8, hc9, hc10, hc11, hc12, hnm, hjn⟩ := hR
  refine lv_aload_n hx hb dX4_sample_0 rfl (lv_at hl 0 rfl) ?_
  refine x_get (ci := 6) (v := .ref (ad 4)) (C := RX4) (T := TX4) (N := 7) hx hb hts inX4 hown hK hX hc0 rfl 5 (by decide) lk_fieldLink_37 (fun _ h9 => h9) rfl dX4_sample_1 ?_
  refine lv_iload_n hx hb dX4_sample_4 rfl (lv_at hl 2 rfl) ?_
  refine x_calli (x_runV (q := (RX2, TX2, 9)) (As := [.int p0]) (rest := []) ⟨hx, hb, hml, hown, hts⟩ (ctX2_holds l G A M hcL hc6 hc7 hc8 hc9 hc10 hc11 hc12 hcn p0) (cwV 1 hts gX4_sample_X2_holds rfl rfl rfl (by decide +kernel) ⟨Nat.le_of_ble_eq_true rfl, Nat.le_of_ble_eq_true rfl⟩) hK hA hX hS hcL rfl rfl hl.1 rfl (lv_room (Nat.le_of_ble_eq_true rfl)) dX4_sample_5 ⟨by decide, by decide⟩) hS (fun r_1 M_2 H locs hp hX hS => ?_)
  obtain ⟨hM_, er_1⟩ := hp
  rw [hM_] at hX
  refine lv_if_ne (tgt := 13) hx hb dX4_sample_8 (by decide) (fun c_3 => ?_) (fun c_3 => ?_)
  · have hh := x_if1 er_1 c_3
    obtain ⟨i, hi, ei⟩ := x_in (by omega) hh.1 hh.2
    subst ei
    refine lv_aload_n hx hb dX4_sample_13 rfl (lv_at hl 0 rfl) ?_
    refine x_get (ci := 6) (v := .ref (ad 4)) (C := RX4) (T := TX4) (N := 7) hx hb hts inX4 hown hK hX hc0 rfl 5 (by decide) lk_fieldLink_37 (fun _ h9 => h9) rfl dX4_sample_14 ?_
    refine lv_lload_n hx hb dX4_sample_17 rfl (lv_at hl 1 rfl) ?_
    refine lv_iload_n hx hb dX4_sample_18 rfl (lv_at hl 2 rfl) ?_
    refine x_calli (x_runV (q := (RX2, TX2, 9)) (As := [.long p1, .int (nI i)]) (rest := []) ⟨hx, hb, hml, hown, hts⟩ (ctX2_placeAfterMixing l G A M hcL hc6 hc7 hc8 hc9 hc10 hc11 hc12 hcn p1 i hi) (cwV 2 hts gX4_sample_X2_placeAfterMixing rfl rfl rfl (by decide +kernel) ⟨Nat.le_of_ble_eq_true rfl, Nat.le_of_ble_eq_true rfl⟩) hK hA hX hS hcL rfl rfl hl.1 rfl (lv_room (Nat.le_of_ble_eq_true rfl)) dX4_sample_19 ⟨by decide, by decide⟩) hS (fun r_4 M_5 H locs hp hX hS => ?_)
    obtain ⟨s7, hM7, e7⟩ := hp
    exact x_iret hx hb hr hlocks hK hA hX hS dX4_sample_22 (Or.inl ⟨i, hi, rfl, e7, s7, hM7⟩)
  · have hh := x_if0 er_1 c_3
    refine lv_iconst (v := (-1)) hx hb dX4_sample_11 (by decide) ?_
    exact x_iret hx hb hr hlocks hK hA hX hS dX4_sample_12 (Or.inr ⟨hh, rfl, rfl⟩)

abbrev rmX4_best : Room := { frames := 2, cells := 0, slots := 0, locals := 48 }
set_option maxHeartbeats 4000000 in
set_option maxRecDepth 100000 in
/-- best -/
theorem ctX4_best (l : Launch) (G : xG) (A : Nat → Prop) (M : xM) {ad : Nat → Nat} {nc : Nat} {sd : Nat → Int32} {jn : Nat → Int32} {tc : Nat → Nat} {dt : Nat → Int32} {fd : Nat → Int64} {ld : Nat → Int64} {tk : Nat → Nat → Int32} {kd : Nat → Nat → Int32} {wn : Nat → Nat} {jc : Nat} {jz : Nat → Nat} {jo : Nat → Nat} {ju : Nat → Int32} {bg : Int32} {cn : Nat} {zs : Nat → Nat} {os : Nat → Nat} {ab : Nat → Nat} {bl : Nat → Nat} {od : Nat → Nat} {sp : Nat → Nat} {pr : Nat → Nat} {fa : Int64} {fb : Int64} (hR : xRec G M ad nc sd jn tc dt fd ld tk kd wn jc jz jo ju bg cn zs os ab bl od sp pr fa fb) (p0 p1 p2 : Int32) (hcn : cn ≤ 625) (hod : ∀ j, j < cn → od j < 625) : Met l yX4_best wsX4_best rmX4_best (va_Pc ([.ref (ad 0), .int p0, .int p1, .int p2] : List Value) (xPc G A M)) (va_Qi (fun r M1 => M1 = M ∧ ((∃ sx, sx ≤ 1 ∧ p0 = nI sx ∧ 0 ≤ p2 ∧ r = xScan (fun j => decide ((if sx = 1 then nI (os (od j)) else nI (zs (od j))) = p1)) (fun j => if sx = 1 then nI (zs (od j)) else nI (os (od j))) p2 cn 0 0) ∨ (¬ ((p0 = 0 ∨ p0 = nI 1) ∧ 0 ≤ p2) ∧ r = nI 0))) (xPc G A) A) 0 0 A := by
  refine x_met (cc := cX4_best) (maxL := 4) (ret := (some .int)) RX4 (by decide) rfl (Nat.le_of_ble_eq_true rfl) rfl ?_
  intro p e s m below meth c hx hb hr hts hown hlocks hml hin hK hA hX ls hl
  have inX4 : ∀ w ∈ wsX40, w ∈ wsX4_best := by decide +kernel
  have lk_fieldLink_37 := hts (.fieldLink RX4 37 "Reconcile" "latest" "LReconcile$Listing;") (by decide +kernel)
  have hS : va_S A s.heap s.heap [] := va_S.rf
  have hl : lv_has ls 4 [(0, .ref (ad 0)), (1, .int p0), (2, .int p1), (3, .int p2)] := hl
  obtain ⟨hc0, hc1, hc2, hc3, hcL, hc5, hc6, hc7, hc8, hc9, hc10, hc11, hc12, hnm, hjn⟩ := hR
  refine lv_iload_n hx hb dX4_best_0 rfl (lv_at hl 1 rfl) ?_
  refine x_calli (x_runS (As := [.int p0]) (rest := []) ⟨hx, hb, hml, hown, hts⟩ (ctX4_isSide l G A M p0) (cwS 1 hts gX4_best_X4_isSide rfl rfl rfl (by decide +kernel) ⟨Nat.le_of_ble_eq_true rfl, Nat.le_of_ble_eq_true rfl⟩) hK hA hX hS rfl hl.1 rfl (lv_room (Nat.le_of_ble_eq_true rfl)) dX4_best_1 ⟨by decide, by decide⟩) hS (fun r_1 M_2 H locs hp hX hS => ?_)
  obtain ⟨hM_, er_1⟩ := hp
  rw [hM_] at hX
  refine lv_if_eq (tgt := 11) hx hb dX4_best_4 (by decide) (fun c_3 => ?_) (fun c_3 => ?_)
  · have hs := x_if0 er_1 c_3
    refine lv_iconst (v := nI 0) hx hb dX4_best_11 (by decide) ?_
    exact x_iret hx hb hr hlocks hK hA hX hS dX4_best_12 (⟨rfl, Or.inr ⟨fun q => hs q.1, rfl⟩⟩)
  · have hs := x_if1 er_1 c_3
    refine lv_iload_n hx hb dX4_best_7 rfl (lv_at hl 3 rfl) ?_
    refine lv_if_ge (tgt := 13) hx hb dX4_best_8 (by decide) (fun c_4 => ?_) (fun c_4 => ?_)
    · obtain ⟨sx, hsx, es⟩ : ∃ sx, sx ≤ 1 ∧ p0 = nI sx := by rcases hs with q | q; exact ⟨0, by omega, q⟩; exact ⟨1, by omega, q⟩
      subst es
      refine lv_aload_n hx hb dX4_best_13 rfl (lv_at hl 0 rfl) ?_
      refine x_get (ci := 6) (v := .ref (ad 4)) (C := RX4) (T := TX4) (N := 7) hx hb hts inX4 hown hK hX hc0 rfl 5 (by decide) lk_fieldLink_37 (fun _ h9 => h9) rfl dX4_best_14 ?_
      refine lv_iload_n hx hb dX4_best_17 rfl (lv_at hl 1 rfl) ?_
      refine lv_iload_n hx hb dX4_best_18 rfl (lv_at hl 2 rfl) ?_
      refine lv_iload_n hx hb dX4_best_19 rfl (lv_at hl 3 rfl) ?_
      refine x_calli (x_runV (q := (RX2, TX2, 9)) (As := [.int (nI sx), .int p1, .int p2]) (rest := []) ⟨hx, hb, hml, hown, hts⟩ (ctX2_partner l G A M hcL hc6 hc7 hc8 hc9 hc10 hc11 hc12 hcn sx hsx p1 p2 hod) (cwV 3 hts gX4_best_X2_partner rfl rfl rfl (by decide +kernel) ⟨Nat.le_of_ble_eq_true rfl, Nat.le_of_ble_eq_true rfl⟩) hK hA hX hS hcL rfl rfl hl.1 rfl (lv_room (Nat.le_of_ble_eq_true rfl)) dX4_best_20 ⟨by decide, by decide⟩) hS (fun r_5 M_6 H locs hp hX hS => ?_)
      obtain ⟨hM_, er_5⟩ := hp
      rw [hM_] at hX
      exact x_iret hx hb hr hlocks hK hA hX hS dX4_best_23 (⟨rfl, Or.inl ⟨sx, hsx, rfl, c_4, er_5⟩⟩)
    · refine lv_iconst (v := nI 0) hx hb dX4_best_11 (by decide) ?_
      exact x_iret hx hb hr hlocks hK hA hX hS dX4_best_12 (⟨rfl, Or.inr ⟨fun q => c_4 q.2, rfl⟩⟩)

abbrev rmX4_none : Room := { frames := 1, cells := 0, slots := 0, locals := 21 }
set_option maxHeartbeats 4000000 in
set_option maxRecDepth 100000 in
/-- none -/
theorem ctX4_none (l : Launch) (G : xG) (A : Nat → Prop) (M : xM) {ad : Nat → Nat} {nc : Nat} {sd : Nat → Int32} {jn : Nat → Int32} {tc : Nat → Nat} {dt : Nat → Int32} {fd : Nat → Int64} {ld : Nat → Int64} {tk : Nat → Nat → Int32} {kd : Nat → Nat → Int32} {wn : Nat → Nat} {jc : Nat} {jz : Nat → Nat} {jo : Nat → Nat} {ju : Nat → Int32} {bg : Int32} {cn : Nat} {zs : Nat → Nat} {os : Nat → Nat} {ab : Nat → Nat} {bl : Nat → Nat} {od : Nat → Nat} {sp : Nat → Nat} {pr : Nat → Nat} {fa : Int64} {fb : Int64} (hR : xRec G M ad nc sd jn tc dt fd ld tk kd wn jc jz jo ju bg cn zs os ab bl od sp pr fa fb) (p0 : Int32) (hnc : nc ≤ 50) (hcn : cn ≤ 625) (hpr : ∀ j, j ≤ 50 → pr j ≤ 1) : Met l yX4_none wsX4_none rmX4_none (va_Pc ([.ref (ad 0), .int p0] : List Value) (xPc G A M)) (va_Qi (fun r M1 => M1 = M ∧ r = if p0 < 0 ∨ bg = 0 then nI 0 else xScan (fun j => decide (sd j = 0) && decide (pr (j + 1) = 0)) (fun j => nI (j + 1)) p0 nc 0 0) (xPc G A) A) 0 0 A := by
  refine x_met (cc := cX4_none) (maxL := 5) (ret := (some .int)) RX4 (by decide) rfl (Nat.le_of_ble_eq_true rfl) rfl ?_
  intro p e s m below meth c hx hb hr hts hown hlocks hml hin hK hA hX ls hl
  have inX2 : ∀ w ∈ wsX20, w ∈ wsX4_none := by decide +kernel
  have inX3 : ∀ w ∈ wsX30, w ∈ wsX4_none := by decide +kernel
  have inX4 : ∀ w ∈ wsX40, w ∈ wsX4_none := by decide +kernel
  have lk_fieldLink_37 := hts (.fieldLink RX4 37 "Reconcile" "latest" "LReconcile$Listing;") (by decide +kernel)
  have lk_fieldLink_145 := hts (.fieldLink RX4 145 "Reconcile$Listing" "begun" "Z") (by decide +kernel)
  have lk_fieldLink_15 := hts (.fieldLink RX4 15 "Reconcile" "nameCount" "I") (by decide +kernel)
  have lk_fieldLink_148 := hts (.fieldLink RX4 148 "Reconcile$Name" "side" "I") (by decide +kernel)
  have hS : va_S A s.heap s.heap [] := va_S.rf
  have hl : lv_has ls 5 [(0, .ref (ad 0)), (1, .int p0)] := hl
  have hRR := hR
  obtain ⟨hc0, hc1, hc2, hc3, hcL, hc5, hc6, hc7, hc8, hc9, hc10, hc11, hc12, hnm, hjn⟩ := hR
  refine lv_iload_n hx hb dX4_none_0 rfl (lv_at hl 1 rfl) ?_
  refine lv_if_lt (tgt := 14) hx hb dX4_none_1 (by decide) (fun c_1 => ?_) (fun c_1 => ?_)
  · refine lv_iconst (v := nI 0) hx hb dX4_none_14 (by decide) ?_
    exact x_iret hx hb hr hlocks hK hA hX hS dX4_none_15 (⟨rfl, by rw [if_pos (Or.inl c_1)]⟩)
  · refine lv_aload_n hx hb dX4_none_4 rfl (lv_at hl 0 rfl) ?_
    refine x_get (ci := 6) (v := .ref (ad 4)) (C := RX4) (T := TX4) (N := 7) hx hb hts inX4 hown hK hX hc0 rfl 5 (by decide) lk_fieldLink_37 (fun _ h9 => h9) rfl dX4_none_5 ?_
    refine x_get (ci := 4) (v := .int bg) (C := RX2) (T := TX2) (N := 9) hx hb hts inX2 hown hK hX hcL rfl 0 (by decide) lk_fieldLink_145 (fun _ h9 => h9) rfl dX4_none_8 ?_
    refine lv_if_ne (tgt := 16) hx hb dX4_none_11 (by decide) (fun c_2 => ?_) (fun c_2 => ?_)
    · refine lv_iconst (v := nI 0) hx hb dX4_none_16 (by decide) ?_
      refine lv_istore_n (lv' := [(2, .int (nI 0)), (0, .ref (ad 0)), (1, .int p0)]) hx hb dX4_none_17 rfl hl (by decide) rfl (fun ls hl => ?_)
      refine lv_iconst (v := nI 1) hx hb dX4_none_18 (by decide) ?_
      refine lv_istore_n (lv' := [(3, .int (nI 1)), (2, .int (nI 0)), (0, .ref (ad 0)), (1, .int p0)]) hx hb dX4_none_19 rfl hl (by decide) rfl (fun ls hl => ?_)
      refine W.eq (g2 := F0 m 20 ls []) rfl ?_
      have hng : ¬ (p0 < 0 ∨ bg = 0) := fun q => q.elim c_1 c_2
      have loop : ∀ (n : Nat) (i : Nat) (b : Nat) (H : Heap) (locs : List Loc) (ls : Array Slot), nc < i + n → (i ≤ nc) → (b ≤ i) → (xScan (fun j => decide (sd j = 0) && decide (pr (j + 1) = 0)) (fun j => nI (j + 1)) p0 (nc - i) i b = xScan (fun j => decide (sd j = 0) && decide (pr (j + 1) = 0)) (fun j => nI (j + 1)) p0 nc 0 0) → xw G.1 vwCl A M H → va_S A s.heap H locs → lv_has ls 5 [(3, .int (nI (i + 1))), (2, .int (nI b)), (0, .ref (ad 0)), (1, .int p0)] → W p l e rmX4_none s m ([.ref (ad 0), .int p0] : List Value).toArray below meth c H locs 0 0 (MQ below (va_Qi (fun r M1 => M1 = M ∧ r = if p0 < 0 ∨ bg = 0 then nI 0 else xScan (fun j => decide (sd j = 0) && decide (pr (j + 1) = 0)) (fun j => nI (j + 1)) p0 nc 0 0) (xPc G A) A) ([.ref (ad 0), .int p0] : List Value).toArray s 0 0 A) (F0 m 20 ls []) := by
        intro n
        induction n with
        | zero => intro i b H locs ls hn0 hi9 hb9 hv; exact absurd hn0 (by omega)
        | succ n ih =>
          intro i b H locs ls hn0 hi9 hb9 hv hX hS hl
          refine lv_iload_n hx hb dX4_none_20 rfl (lv_at hl 0 rfl) ?_
          refine lv_aload_n hx hb dX4_none_21 rfl (lv_at hl 2 rfl) ?_
          refine x_get (ci := 6) (v := .int (nI nc)) (C := RX4) (T := TX4) (N := 7) hx hb hts inX4 hown hK hX hc0 rfl 1 (by decide) lk_fieldLink_15 (fun _ h9 => h9) rfl dX4_none_22 ?_
          refine lv_icmp_gt (tgt := 75) hx hb dX4_none_25 (by decide) (fun c_3 => ?_) (fun c_3 => ?_)
          · have c_3 : nc < (i + 1) := (nI_ltI (by omega) (by omega)).mp c_3
            refine lv_iconst (v := nI 0) hx hb dX4_none_75 (by decide) ?_
            exact x_iret hx hb hr hlocks hK hA hX hS dX4_none_76 (⟨rfl, by rw [if_neg hng, ← hv, xScan_0 (by omega)]; rfl⟩)
          · have c_3 : ¬ (nc < (i + 1)) := fun q => c_3 ((nI_ltI (by omega) (by omega)).mpr q)
            refine lv_aload_n hx hb dX4_none_28 rfl (lv_at hl 2 rfl) ?_
            refine lv_iload_n hx hb dX4_none_29 rfl (lv_at hl 0 rfl) ?_
            refine x_callq (x_runV (q := (RX4, TX4, 7)) (As := [.int (nI (i + 1))]) (rest := []) ⟨hx, hb, hml, hown, hts⟩ (ctX4_find l G A M hRR (nI (i + 1)) hnc) (cwV 1 hts gX4_none_X4_find rfl rfl rfl (by decide +kernel) ⟨Nat.le_of_ble_eq_true rfl, Nat.le_of_ble_eq_true rfl⟩) hK hA hX hS hc0 rfl rfl hl.1 rfl (lv_room (Nat.le_of_ble_eq_true rfl)) dX4_none_30 ⟨by decide, by decide⟩) hS (fun r_4 M_5 H locs hp hX hS => ?_)
            obtain ⟨hM_, hq_r_4⟩ := hp
            rw [hM_] at hX
            rcases hq_r_4 with ⟨i2, hi2, ep, er⟩ | ⟨ep, er⟩
            · subst er
              obtain ⟨hn0, hn1, hn2⟩ := hnm i2 hi2
              refine x_rv (y := .ref (ad (100 + 3 * i2))) rfl ?_
              have eii : i = i2 := by have q := (nI_eq (a := i + 1) (b := i2 + 1) (by omega) (by omega)).mp ep; omega
              subst eii
              refine lv_astore (lv' := [(4, .ref (ad (100 + 3 * i))), (3, .int (nI (i + 1))), (2, .int (nI b)), (0, .ref (ad 0)), (1, .int p0)]) hx hb dX4_none_33 hl (by decide) rfl (fun ls hl => ?_)
              refine lv_aload hx hb dX4_none_35 (lv_at hl 0 rfl) ?_
              refine lv_ifnull hx hb dX4_none_37 ?_
              refine lv_aload hx hb dX4_none_40 (lv_at hl 0 rfl) ?_
              refine x_get (ci := 5) (v := .int (sd i)) (C := RX3) (T := TX3) (N := 8) hx hb hts inX3 hown hK hX hn0 rfl 0 (by decide) lk_fieldLink_148 (fun _ h9 => h9) rfl dX4_none_42 ?_
              refine lv_if_ne (tgt := 69) hx hb dX4_none_45 (by decide) (fun c_6 => ?_) (fun c_6 => ?_)
              · have hP : (fun j => decide (sd j = 0) && decide (pr (j + 1) = 0)) i = false := by show (decide (sd i = 0) && _) = false; rw [decide_eq_false c_6]; rfl
                refine lv_iinc (v := nI ((i + 1) + 1)) (lv' := [(3, .int (nI ((i + 1) + 1))), (4, .ref (ad (100 + 3 * i))), (2, .int (nI b)), (0, .ref (ad 0)), (1, .int p0)]) hx hb dX4_none_69 hl (k := 1) rfl (show nI (i + 1) + Int32.ofInt 1 = _ from nI_add _ 1) (by decide) rfl (fun ls hl => ?_)
                refine lv_goto (tgt := 20) hx hb dX4_none_72 (by decide) ?_
                exact ih (i + 1) b _ _ ls (by omega) (by omega) (by omega) (by have q := xScan_pass (P := (fun j => decide (sd j = 0) && decide (pr (j + 1) = 0))) (i := i) (v := (fun j => nI (j + 1))) (k := p0) (f := nc - i) (b := b) hP (by omega); rw [Nat.sub_sub] at q; exact q.symm.trans hv) hX hS (lv_sub hl [0, 2, 3, 4] rfl)
              · refine lv_aload_n hx hb dX4_none_48 rfl (lv_at hl 3 rfl) ?_
                refine x_get (ci := 6) (v := .ref (ad 4)) (C := RX4) (T := TX4) (N := 7) hx hb hts inX4 hown hK hX hc0 rfl 5 (by decide) lk_fieldLink_37 (fun _ h9 => h9) rfl dX4_none_49 ?_
                refine lv_iload_n hx hb dX4_none_52 rfl (lv_at hl 1 rfl) ?_
                refine x_calli (x_runV (q := (RX2, TX2, 9)) (As := [.int (nI (i + 1))]) (rest := []) ⟨hx, hb, hml, hown, hts⟩ (ctX2_hasName l G A M hcL hc6 hc7 hc8 hc9 hc10 hc11 hc12 hcn (i + 1) (by omega) hpr) (cwV 1 hts gX4_none_X2_hasName rfl rfl rfl (by decide +kernel) ⟨Nat.le_of_ble_eq_true rfl, Nat.le_of_ble_eq_true rfl⟩) hK hA hX hS hcL rfl rfl hl.1 rfl (lv_room (Nat.le_of_ble_eq_true rfl)) dX4_none_53 ⟨by decide, by decide⟩) hS (fun r_7 M_8 H locs hp hX hS => ?_)
                obtain ⟨hM_, er_7⟩ := hp
                rw [hM_] at hX
                refine lv_if_ne (tgt := 69) hx hb dX4_none_56 (by decide) (fun c_9 => ?_) (fun c_9 => ?_)
                · have hpz : ¬ pr (i + 1) = 0 := fun q => c_9 (by rw [er_7, if_pos q])
                  have hP : (fun j => decide (sd j = 0) && decide (pr (j + 1) = 0)) i = false := by show (_ && decide (pr (i + 1) = 0)) = false; rw [decide_eq_false hpz, Bool.and_false]
                  refine lv_iinc (v := nI ((i + 1) + 1)) (lv' := [(3, .int (nI ((i + 1) + 1))), (4, .ref (ad (100 + 3 * i))), (2, .int (nI b)), (0, .ref (ad 0)), (1, .int p0)]) hx hb dX4_none_69 hl (k := 1) rfl (show nI (i + 1) + Int32.ofInt 1 = _ from nI_add _ 1) (by decide) rfl (fun ls hl => ?_)
                  refine lv_goto (tgt := 20) hx hb dX4_none_72 (by decide) ?_
                  exact ih (i + 1) b _ _ ls (by omega) (by omega) (by omega) (by have q := xScan_pass (P := (fun j => decide (sd j = 0) && decide (pr (j + 1) = 0))) (i := i) (v := (fun j => nI (j + 1))) (k := p0) (f := nc - i) (b := b) hP (by omega); rw [Nat.sub_sub] at q; exact q.symm.trans hv) hX hS (lv_sub hl [0, 2, 3, 4] rfl)
                · have hpz : pr (i + 1) = 0 := Classical.byContradiction (fun q => absurd (er_7.symm.trans c_9) (by rw [if_neg q]; decide))
                  have hP : (fun j => decide (sd j = 0) && decide (pr (j + 1) = 0)) i = true := by show (decide (sd i = 0) && decide (pr (i + 1) = 0)) = true; rw [decide_eq_true c_6, decide_eq_true hpz]; rfl
                  refine lv_iload_n hx hb dX4_none_59 rfl (lv_at hl 2 rfl) ?_
                  refine lv_iload_n hx hb dX4_none_60 rfl (lv_at hl 4 rfl) ?_
                  refine lv_icmp_ne (tgt := 66) hx hb dX4_none_61 (by decide) (fun c_10 => ?_) (fun c_10 => ?_)
                  · refine lv_iinc (v := nI (b + 1)) (lv' := [(2, .int (nI (b + 1))), (4, .ref (ad (100 + 3 * i))), (3, .int (nI (i + 1))), (0, .ref (ad 0)), (1, .int p0)]) hx hb dX4_none_66 hl (k := 2) rfl (show nI b + Int32.ofInt 1 = _ from nI_add _ 1) (by decide) rfl (fun ls hl => ?_)
                    refine lv_iinc (v := nI ((i + 1) + 1)) (lv' := [(3, .int (nI ((i + 1) + 1))), (2, .int (nI (b + 1))), (4, .ref (ad (100 + 3 * i))), (0, .ref (ad 0)), (1, .int p0)]) hx hb dX4_none_69 hl (k := 2) rfl (show nI (i + 1) + Int32.ofInt 1 = _ from nI_add _ 1) (by decide) rfl (fun ls hl => ?_)
                    refine lv_goto (tgt := 20) hx hb dX4_none_72 (by decide) ?_
                    exact ih (i + 1) (b + 1) _ _ ls (by omega) (by omega) (by omega) (by have q := xScan_miss (P := (fun j => decide (sd j = 0) && decide (pr (j + 1) = 0))) (i := i) (v := (fun j => nI (j + 1))) (k := p0) (f := nc - i) (b := b) hP c_10 (by omega); rw [Nat.sub_sub] at q; exact q.symm.trans hv) hX hS (lv_sub hl [0, 1, 3, 4] rfl)
                  · refine lv_iload_n hx hb dX4_none_64 rfl (lv_at hl 1 rfl) ?_
                    exact x_iret hx hb hr hlocks hK hA hX hS dX4_none_65 (⟨rfl, by rw [if_neg hng, ← hv, xScan_hit (P := (fun j => decide (sd j = 0) && decide (pr (j + 1) = 0))) (i := i) hP c_10 (by omega)]⟩)
            · subst er
              refine x_rv (y := .null) rfl ?_
              exact absurd ep (fun q => q.elim (fun z => by have := (nI_ltI (by omega) (by omega)).mp z; omega) (fun z => z ((nI_leI (by omega) (by omega)).mpr (by omega))))
      exact loop (nc + 1) 0 0 _ _ ls (by omega) (by omega) (by omega) rfl hX hS (lv_sub hl [0, 1, 2, 3] rfl)
    · refine lv_iconst (v := nI 0) hx hb dX4_none_14 (by decide) ?_
      exact x_iret hx hb hr hlocks hK hA hX hS dX4_none_15 (⟨rfl, by rw [if_pos (Or.inr c_2)]⟩)
end
section
/-! Reconcile: name, join, undo -/

abbrev rmX4_name : Room := { frames := 2, cells := 3, slots := 24, locals := 33 }
set_option maxHeartbeats 4000000 in
set_option maxRecDepth 100000 in
/-- name -/
theorem ctX4_name (l : Launch) (G : xG) (A : Nat → Prop) (M : xM) {ad : Nat → Nat} {nc : Nat} {sd : Nat → Int32} {jn : Nat → Int32} {tc : Nat → Nat} {dt : Nat → Int32} {fd : Nat → Int64} {ld : Nat → Int64} {tk : Nat → Nat → Int32} {kd : Nat → Nat → Int32} {wn : Nat → Nat} {jc : Nat} {jz : Nat → Nat} {jo : Nat → Nat} {ju : Nat → Int32} {bg : Int32} {cn : Nat} {zs : Nat → Nat} {os : Nat → Nat} {ab : Nat → Nat} {bl : Nat → Nat} {od : Nat → Nat} {sp : Nat → Nat} {pr : Nat → Nat} {fa : Int64} {fb : Int64} (hR : xRec G M ad nc sd jn tc dt fd ld tk kd wn jc jz jo ju bg cn zs os ab bl od sp pr fa fb) (p0 : Int32) (hnc : nc ≤ 50) : Met l yX4_name wsX4_name rmX4_name (va_Pc ([.ref (ad 0), .int p0] : List Value) (xPc G A M)) (va_Qi (fun r M1 => ((p0 = 0 ∨ p0 = nI 1) ∧ nc < 50 ∧ r = nI (nc + 1) ∧ ∃ q0 q1 q2 : Nat, M1 = xu (xu (xu (xu (xu M (100 + 3 * nc + 1) (q1, .inl (G.2 0, 8, .inl (fun _ => 0)))) (100 + 3 * nc + 2) (q2, .inl (G.2 0, 8, .inl (fun _ => 0)))) (100 + 3 * nc) (q0, .inr (5, [.int p0, .int (nI 0), .ref q1, .ref q2, .int (nI 0), .int (nI 0), .long (lN 0), .long (lN 0)]))) 1 (ad 1, .inl (G.2 3, 50, .inr (.inr (.inr (.inr (va_up (fun k => if k < nc then some (ad (100 + 3 * k)) else none) nc (some q0)))))))) 0 (ad 0, .inr (6, [.ref (ad 1), .int (nI (nc + 1)), .ref (ad 2), .ref (ad 3), .int (nI jc), .ref (ad 4), .ref (ad 5)]))) ∨ (¬ ((p0 = 0 ∨ p0 = nI 1) ∧ nc < 50) ∧ r = nI 0 ∧ M1 = M)) (xPc G A) A) 3 24 A := by
  refine x_met (cc := cX4_name) (maxL := 2) (ret := (some .int)) RX4 (by decide) rfl (Nat.le_of_ble_eq_true rfl) rfl ?_
  intro p e s m below meth c hx hb hr hts hown hlocks hml hin hK hA hX ls hl
  have inX3 : ∀ w ∈ wsX30, w ∈ wsX4_name := by decide +kernel
  have inX4 : ∀ w ∈ wsX40, w ∈ wsX4_name := by decide +kernel
  have lk_fieldLink_15 := hts (.fieldLink RX4 15 "Reconcile" "nameCount" "I") (by decide +kernel)
  have lk_fieldLink_11 := hts (.fieldLink RX4 11 "Reconcile" "names" "[LReconcile$Name;") (by decide +kernel)
  have lk_classLink_9 := hts (.classLink RX4 9 RX3) (by decide +kernel)
  have lk_methodLink_52 := hts (.methodLink RX4 52 yX3_init) (by decide +kernel)
  have hS : va_S A s.heap s.heap [] := va_S.rf
  have hl : lv_has ls 2 [(0, .ref (ad 0)), (1, .int p0)] := hl
  obtain ⟨hc0, hc1, hc2, hc3, hcL, hc5, hc6, hc7, hc8, hc9, hc10, hc11, hc12, hnm, hjn⟩ := hR
  refine lv_iload_n hx hb dX4_name_0 rfl (lv_at hl 1 rfl) ?_
  refine x_calli (x_runS (As := [.int p0]) (rest := []) ⟨hx, hb, hml, hown, hts⟩ (ctX4_isSide l G A M p0) (cwS 1 hts gX4_name_X4_isSide rfl rfl rfl (by decide +kernel) ⟨Nat.le_of_ble_eq_true rfl, Nat.le_of_ble_eq_true rfl⟩) hK hA hX hS rfl hl.1 rfl (lv_room (Nat.le_of_ble_eq_true rfl)) dX4_name_1 ⟨by decide, by decide⟩) hS (fun r_1 M_2 H locs hp hX hS => ?_)
  obtain ⟨hM_, er_1⟩ := hp
  rw [hM_] at hX
  refine lv_if_eq (tgt := 16) hx hb dX4_name_4 (by decide) (fun c_3 => ?_) (fun c_3 => ?_)
  · have hs := x_if0 er_1 c_3
    refine lv_iconst (v := nI 0) hx hb dX4_name_16 (by decide) ?_
    refine W.widen (k := 3) (n := 24) (by omega) (by omega) ?_
    exact x_iret hx hb hr hlocks hK hA hX hS dX4_name_17 (Or.inr ⟨fun q => hs q.1, rfl, rfl⟩)
  · have hs := x_if1 er_1 c_3
    refine lv_aload_n hx hb dX4_name_7 rfl (lv_at hl 0 rfl) ?_
    refine x_get (ci := 6) (v := .int (nI nc)) (C := RX4) (T := TX4) (N := 7) hx hb hts inX4 hown hK hX hc0 rfl 1 (by decide) lk_fieldLink_15 (fun _ h9 => h9) rfl dX4_name_8 ?_
    refine lv_bipush (v := nI 50) hx hb dX4_name_11 (by decide) ?_
    refine lv_icmp_lt (tgt := 18) hx hb dX4_name_13 (by decide) (fun c_4 => ?_) (fun c_4 => ?_)
    · have c_4 : nc < 50 := (nI_ltI (by omega) (by omega)).mp c_4
      refine lv_aload_n hx hb dX4_name_18 rfl (lv_at hl 0 rfl) ?_
      refine x_get (ci := 6) (v := .ref (ad 1)) (C := RX4) (T := TX4) (N := 7) hx hb hts inX4 hown hK hX hc0 rfl 0 (by decide) lk_fieldLink_11 (fun _ h9 => h9) rfl dX4_name_19 ?_
      refine lv_aload_n hx hb dX4_name_22 rfl (lv_at hl 0 rfl) ?_
      refine x_get (ci := 6) (v := .int (nI nc)) (C := RX4) (T := TX4) (N := 7) hx hb hts inX4 hown hK hX hc0 rfl 1 (by decide) lk_fieldLink_15 (fun _ h9 => h9) rfl dX4_name_23 ?_
      refine x_new (ci := 5) (fs := [.int (nI 0), .int (nI 0), .null, .null, .int (nI 0), .int (nI 0), .long (lN 0), .long (lN 0)]) (C := RX3) (T := TX3) (N := 8) hx hb hts inX3 tyX3 tyX3_ok hown lk_classLink_9 (hts (.instantiable RX3 8) (by decide +kernel)) (hts (.initialized RX3) (by decide +kernel)) hK hX hS hA rfl (fun j hj => by rcases (show j = 0 ∨ j = 1 ∨ j = 2 ∨ j = 3 ∨ j = 4 ∨ j = 5 ∨ j = 6 ∨ j = 7 by omega) with rfl | rfl | rfl | rfl | rfl | rfl | rfl | rfl <;> rfl) (Nat.le_of_ble_eq_true rfl) (Nat.le_of_ble_eq_true rfl) dX4_name_26 (100 + 3 * nc) (fun q_5 H hX hS => ?_)
      obtain ⟨M_6, hM_6⟩ : ∃ zM : xM, zM = xu M (100 + 3 * nc) (q_5, .inr (5, [.int (nI 0), .int (nI 0), .null, .null, .int (nI 0), .int (nI 0), .long (lN 0), .long (lN 0)])) := ⟨_, rfl⟩
      have hX : xw G.1 vwCl A M_6 H := by rw [hM_6]; exact hX
      have hc0 : M_6 0 = some (ad 0, .inr (6, [.ref (ad 1), .int (nI nc), .ref (ad 2), .ref (ad 3), .int (nI jc), .ref (ad 4), .ref (ad 5)])) := by rw [hM_6, xu_n (by omega)]; exact hc0
      have hc1 : M_6 1 = some (ad 1, .inl (G.2 3, 50, .inr (.inr (.inr (.inr (fun k => if k < nc then some (ad (100 + 3 * k)) else none)))))) := by rw [hM_6, xu_n (by omega)]; exact hc1
      have hc2 : M_6 2 = some (ad 2, .inl (G.2 1, 4, .inr (.inl (fun k => lN (wn k))))) := by rw [hM_6, xu_n (by omega)]; exact hc2
      have hc3 : M_6 3 = some (ad 3, .inl (G.2 4, 100, .inr (.inr (.inr (.inr (fun k => if k < jc then some (ad (300 + k)) else none)))))) := by rw [hM_6, xu_n (by omega)]; exact hc3
      have hcL : M_6 4 = some (ad 4, .inr (4, [.int bg, .int (nI cn), .ref (ad 6), .ref (ad 7), .ref (ad 8), .ref (ad 9), .ref (ad 10), .ref (ad 11), .ref (ad 12)])) := by rw [hM_6, xu_n (by omega)]; exact hcL
      have hc5 : M_6 5 = some (ad 5, .inr (2, [.long fa, .long fb])) := by rw [hM_6, xu_n (by omega)]; exact hc5
      have hc6 : M_6 6 = some (ad 6, .inl (G.2 0, 625, .inl (fun k => nI (zs k)))) := by rw [hM_6, xu_n (by omega)]; exact hc6
      have hc7 : M_6 7 = some (ad 7, .inl (G.2 0, 625, .inl (fun k => nI (os k)))) := by rw [hM_6, xu_n (by omega)]; exact hc7
      have hc8 : M_6 8 = some (ad 8, .inl (G.2 1, 625, .inr (.inl (fun k => lN (ab k))))) := by rw [hM_6, xu_n (by omega)]; exact hc8
      have hc9 : M_6 9 = some (ad 9, .inl (G.2 1, 625, .inr (.inl (fun k => lN (bl k))))) := by rw [hM_6, xu_n (by omega)]; exact hc9
      have hc10 : M_6 10 = some (ad 10, .inl (G.2 0, 625, .inl (fun k => nI (od k)))) := by rw [hM_6, xu_n (by omega)]; exact hc10
      have hc11 : M_6 11 = some (ad 11, .inl (G.2 0, 625, .inl (fun k => nI (sp k)))) := by rw [hM_6, xu_n (by omega)]; exact hc11
      have hc12 : M_6 12 = some (ad 12, .inl (G.2 2, 51, .inl (fun k => nI (pr k)))) := by rw [hM_6, xu_n (by omega)]; exact hc12
      have hnn : M_6 (100 + 3 * nc) = some (q_5, .inr (5, [.int (nI 0), .int (nI 0), .null, .null, .int (nI 0), .int (nI 0), .long (lN 0), .long (lN 0)])) := by rw [hM_6]; exact xu_s
      refine lv_dup hx hb dX4_name_29 rfl ?_
      refine lv_iload_n hx hb dX4_name_30 rfl (lv_at hl 1 rfl) ?_
      refine x_callv (x_runI (As := [.int p0]) (rest := [.ref q_5, .int (nI nc), .ref (ad 1)]) ⟨hx, hb, hml, hown, hts⟩ (ctX3_init l G A M_6 hnn p0) (cwI 1 hts gX4_name_X3_init rfl rfl rfl (hts (.initialized RX3) (by decide +kernel)) lk_methodLink_52 (hts (.instanceMethod yX3_init) (by decide +kernel)) rfl (by decide +kernel) ⟨Nat.le_of_ble_eq_true rfl, Nat.le_of_ble_eq_true rfl⟩) hK hA hX hS rfl hl.1 rfl (lv_room (Nat.le_of_ble_eq_true rfl)) dX4_name_31 ⟨by decide, by decide⟩) hS (fun M_8 H locs hp hX hS => ?_)
      obtain ⟨q1, q2, hMi⟩ := hp
      have hc0 : M_8 0 = some (ad 0, .inr (6, [.ref (ad 1), .int (nI nc), .ref (ad 2), .ref (ad 3), .int (nI jc), .ref (ad 4), .ref (ad 5)])) := by rw [hMi, xu_n (by omega), xu_n (by omega), xu_n (by omega)]; exact hc0
      have hc1 : M_8 1 = some (ad 1, .inl (G.2 3, 50, .inr (.inr (.inr (.inr (fun k => if k < nc then some (ad (100 + 3 * k)) else none)))))) := by rw [hMi, xu_n (by omega), xu_n (by omega), xu_n (by omega)]; exact hc1
      have hc2 : M_8 2 = some (ad 2, .inl (G.2 1, 4, .inr (.inl (fun k => lN (wn k))))) := by rw [hMi, xu_n (by omega), xu_n (by omega), xu_n (by omega)]; exact hc2
      have hc3 : M_8 3 = some (ad 3, .inl (G.2 4, 100, .inr (.inr (.inr (.inr (fun k => if k < jc then some (ad (300 + k)) else none)))))) := by rw [hMi, xu_n (by omega), xu_n (by omega), xu_n (by omega)]; exact hc3
      have hcL : M_8 4 = some (ad 4, .inr (4, [.int bg, .int (nI cn), .ref (ad 6), .ref (ad 7), .ref (ad 8), .ref (ad 9), .ref (ad 10), .ref (ad 11), .ref (ad 12)])) := by rw [hMi, xu_n (by omega), xu_n (by omega), xu_n (by omega)]; exact hcL
      have hc5 : M_8 5 = some (ad 5, .inr (2, [.long fa, .long fb])) := by rw [hMi, xu_n (by omega), xu_n (by omega), xu_n (by omega)]; exact hc5
      have hc6 : M_8 6 = some (ad 6, .inl (G.2 0, 625, .inl (fun k => nI (zs k)))) := by rw [hMi, xu_n (by omega), xu_n (by omega), xu_n (by omega)]; exact hc6
      have hc7 : M_8 7 = some (ad 7, .inl (G.2 0, 625, .inl (fun k => nI (os k)))) := by rw [hMi, xu_n (by omega), xu_n (by omega), xu_n (by omega)]; exact hc7
      have hc8 : M_8 8 = some (ad 8, .inl (G.2 1, 625, .inr (.inl (fun k => lN (ab k))))) := by rw [hMi, xu_n (by omega), xu_n (by omega), xu_n (by omega)]; exact hc8
      have hc9 : M_8 9 = some (ad 9, .inl (G.2 1, 625, .inr (.inl (fun k => lN (bl k))))) := by rw [hMi, xu_n (by omega), xu_n (by omega), xu_n (by omega)]; exact hc9
      have hc10 : M_8 10 = some (ad 10, .inl (G.2 0, 625, .inl (fun k => nI (od k)))) := by rw [hMi, xu_n (by omega), xu_n (by omega), xu_n (by omega)]; exact hc10
      have hc11 : M_8 11 = some (ad 11, .inl (G.2 0, 625, .inl (fun k => nI (sp k)))) := by rw [hMi, xu_n (by omega), xu_n (by omega), xu_n (by omega)]; exact hc11
      have hc12 : M_8 12 = some (ad 12, .inl (G.2 2, 51, .inl (fun k => nI (pr k)))) := by rw [hMi, xu_n (by omega), xu_n (by omega), xu_n (by omega)]; exact hc12
      have hnt : M_8 (100 + 3 * nc + 1) = some (q1, .inl (G.2 0, 8, .inl (fun _ => 0))) := by rw [hMi, xu_n (by omega), xu_n (by omega)]; exact xu_s
      have hnk : M_8 (100 + 3 * nc + 2) = some (q2, .inl (G.2 0, 8, .inl (fun _ => 0))) := by rw [hMi, xu_n (by omega)]; exact xu_s
      have hnn : M_8 (100 + 3 * nc) = some (q_5, .inr (5, [.int p0, .int (nI 0), .ref q1, .ref q2, .int (nI 0), .int (nI 0), .long (lN 0), .long (lN 0)])) := by rw [hMi]; exact xu_s
      refine x_asN hx hb hK hX hS 3 rfl hc1 hnn rfl (by omega) (by decide) dX4_name_34 (fun H locs hX hS => ?_)
      obtain ⟨M_9, hM_9⟩ : ∃ zM : xM, zM = xu M_8 1 (ad 1, .inl (G.2 3, 50, .inr (.inr (.inr (.inr (va_up (fun k => if k < nc then some (ad (100 + 3 * k)) else none) nc (some q_5))))))) := ⟨_, rfl⟩
      have hX : xw G.1 vwCl A M_9 H := by rw [hM_9]; exact hX
      have hc0 : M_9 0 = some (ad 0, .inr (6, [.ref (ad 1), .int (nI nc), .ref (ad 2), .ref (ad 3), .int (nI jc), .ref (ad 4), .ref (ad 5)])) := by rw [hM_9, xu_n (by omega)]; exact hc0
      have hc2 : M_9 2 = some (ad 2, .inl (G.2 1, 4, .inr (.inl (fun k => lN (wn k))))) := by rw [hM_9, xu_n (by omega)]; exact hc2
      have hc3 : M_9 3 = some (ad 3, .inl (G.2 4, 100, .inr (.inr (.inr (.inr (fun k => if k < jc then some (ad (300 + k)) else none)))))) := by rw [hM_9, xu_n (by omega)]; exact hc3
      have hcL : M_9 4 = some (ad 4, .inr (4, [.int bg, .int (nI cn), .ref (ad 6), .ref (ad 7), .ref (ad 8), .ref (ad 9), .ref (ad 10), .ref (ad 11), .ref (ad 12)])) := by rw [hM_9, xu_n (by omega)]; exact hcL
      have hc5 : M_9 5 = some (ad 5, .inr (2, [.long fa, .long fb])) := by rw [hM_9, xu_n (by omega)]; exact hc5
      have hc6 : M_9 6 = some (ad 6, .inl (G.2 0, 625, .inl (fun k => nI (zs k)))) := by rw [hM_9, xu_n (by omega)]; exact hc6
      have hc7 : M_9 7 = some (ad 7, .inl (G.2 0, 625, .inl (fun k => nI (os k)))) := by rw [hM_9, xu_n (by omega)]; exact hc7
      have hc8 : M_9 8 = some (ad 8, .inl (G.2 1, 625, .inr (.inl (fun k => lN (ab k))))) := by rw [hM_9, xu_n (by omega)]; exact hc8
      have hc9 : M_9 9 = some (ad 9, .inl (G.2 1, 625, .inr (.inl (fun k => lN (bl k))))) := by rw [hM_9, xu_n (by omega)]; exact hc9
      have hc10 : M_9 10 = some (ad 10, .inl (G.2 0, 625, .inl (fun k => nI (od k)))) := by rw [hM_9, xu_n (by omega)]; exact hc10
      have hc11 : M_9 11 = some (ad 11, .inl (G.2 0, 625, .inl (fun k => nI (sp k)))) := by rw [hM_9, xu_n (by omega)]; exact hc11
      have hc12 : M_9 12 = some (ad 12, .inl (G.2 2, 51, .inl (fun k => nI (pr k)))) := by rw [hM_9, xu_n (by omega)]; exact hc12
      have hnn : M_9 (100 + 3 * nc) = some (q_5, .inr (5, [.int p0, .int (nI 0), .ref q1, .ref q2, .int (nI 0), .int (nI 0), .long (lN 0), .long (lN 0)])) := by rw [hM_9, xu_n (by omega)]; exact hnn
      have hnt : M_9 (100 + 3 * nc + 1) = some (q1, .inl (G.2 0, 8, .inl (fun _ => 0))) := by rw [hM_9, xu_n (by omega)]; exact hnt
      have hnk : M_9 (100 + 3 * nc + 2) = some (q2, .inl (G.2 0, 8, .inl (fun _ => 0))) := by rw [hM_9, xu_n (by omega)]; exact hnk
      have hc1 : M_9 1 = some (ad 1, .inl (G.2 3, 50, .inr (.inr (.inr (.inr (va_up (fun k => if k < nc then some (ad (100 + 3 * k)) else none) nc (some q_5))))))) := by rw [hM_9]; exact xu_s
      refine lv_aload_n hx hb dX4_name_35 rfl (lv_at hl 0 rfl) ?_
      refine lv_dup hx hb dX4_name_36 rfl ?_
      refine x_get (ci := 6) (v := .int (nI nc)) (C := RX4) (T := TX4) (N := 7) hx hb hts inX4 hown hK hX hc0 rfl 1 (by decide) lk_fieldLink_15 (fun _ h9 => h9) rfl dX4_name_37 ?_
      refine lv_iconst (v := nI 1) hx hb dX4_name_40 (by decide) ?_
      refine lv_iadd hx hb dX4_name_41 ?_
      refine x_ri (nI_add _ _) ?_
      refine x_put (ci := 6) (v := .int (nI (nc + 1))) (C := RX4) (T := TX4) (N := 7) hx hb hts inX4 tyX4 tyX4_ok nmX4 hown hK hX hS hc0 rfl 1 (by decide) lk_fieldLink_15 (fun _ h9 => h9) rfl (tyX4_ok 1 (by decide)) rfl rfl (Nat.le_of_ble_eq_true rfl) dX4_name_42 (fun H locs hX hS => ?_)
      obtain ⟨M_10, hM_10⟩ : ∃ zM : xM, zM = xu M_9 0 (ad 0, .inr (6, [.ref (ad 1), .int (nI (nc + 1)), .ref (ad 2), .ref (ad 3), .int (nI jc), .ref (ad 4), .ref (ad 5)])) := ⟨_, rfl⟩
      have hX : xw G.1 vwCl A M_10 H := by rw [hM_10]; exact hX
      have hc1 : M_10 1 = some (ad 1, .inl (G.2 3, 50, .inr (.inr (.inr (.inr (va_up (fun k => if k < nc then some (ad (100 + 3 * k)) else none) nc (some q_5))))))) := by rw [hM_10, xu_n (by omega)]; exact hc1
      have hc2 : M_10 2 = some (ad 2, .inl (G.2 1, 4, .inr (.inl (fun k => lN (wn k))))) := by rw [hM_10, xu_n (by omega)]; exact hc2
      have hc3 : M_10 3 = some (ad 3, .inl (G.2 4, 100, .inr (.inr (.inr (.inr (fun k => if k < jc then some (ad (300 + k)) else none)))))) := by rw [hM_10, xu_n (by omega)]; exact hc3
      have hcL : M_10 4 = some (ad 4, .inr (4, [.int bg, .int (nI cn), .ref (ad 6), .ref (ad 7), .ref (ad 8), .ref (ad 9), .ref (ad 10), .ref (ad 11), .ref (ad 12)])) := by rw [hM_10, xu_n (by omega)]; exact hcL
      have hc5 : M_10 5 = some (ad 5, .inr (2, [.long fa, .long fb])) := by rw [hM_10, xu_n (by omega)]; exact hc5
      have hc6 : M_10 6 = some (ad 6, .inl (G.2 0, 625, .inl (fun k => nI (zs k)))) := by rw [hM_10, xu_n (by omega)]; exact hc6
      have hc7 : M_10 7 = some (ad 7, .inl (G.2 0, 625, .inl (fun k => nI (os k)))) := by rw [hM_10, xu_n (by omega)]; exact hc7
      have hc8 : M_10 8 = some (ad 8, .inl (G.2 1, 625, .inr (.inl (fun k => lN (ab k))))) := by rw [hM_10, xu_n (by omega)]; exact hc8
      have hc9 : M_10 9 = some (ad 9, .inl (G.2 1, 625, .inr (.inl (fun k => lN (bl k))))) := by rw [hM_10, xu_n (by omega)]; exact hc9
      have hc10 : M_10 10 = some (ad 10, .inl (G.2 0, 625, .inl (fun k => nI (od k)))) := by rw [hM_10, xu_n (by omega)]; exact hc10
      have hc11 : M_10 11 = some (ad 11, .inl (G.2 0, 625, .inl (fun k => nI (sp k)))) := by rw [hM_10, xu_n (by omega)]; exact hc11
      have hc12 : M_10 12 = some (ad 12, .inl (G.2 2, 51, .inl (fun k => nI (pr k)))) := by rw [hM_10, xu_n (by omega)]; exact hc12
      have hnn : M_10 (100 + 3 * nc) = some (q_5, .inr (5, [.int p0, .int (nI 0), .ref q1, .ref q2, .int (nI 0), .int (nI 0), .long (lN 0), .long (lN 0)])) := by rw [hM_10, xu_n (by omega)]; exact hnn
      have hnt : M_10 (100 + 3 * nc + 1) = some (q1, .inl (G.2 0, 8, .inl (fun _ => 0))) := by rw [hM_10, xu_n (by omega)]; exact hnt
      have hnk : M_10 (100 + 3 * nc + 2) = some (q2, .inl (G.2 0, 8, .inl (fun _ => 0))) := by rw [hM_10, xu_n (by omega)]; exact hnk
      have hc0 : M_10 0 = some (ad 0, .inr (6, [.ref (ad 1), .int (nI (nc + 1)), .ref (ad 2), .ref (ad 3), .int (nI jc), .ref (ad 4), .ref (ad 5)])) := by rw [hM_10]; exact xu_s
      refine lv_aload_n hx hb dX4_name_45 rfl (lv_at hl 0 rfl) ?_
      refine x_get (ci := 6) (v := .int (nI (nc + 1))) (C := RX4) (T := TX4) (N := 7) hx hb hts inX4 hown hK hX hc0 rfl 1 (by decide) lk_fieldLink_15 (fun _ h9 => h9) rfl dX4_name_46 ?_
      refine W.widen (k := 3) (n := 24) (by omega) (by omega) ?_
      exact x_iret hx hb hr hlocks hK hA hX hS dX4_name_49 (Or.inl ⟨hs, c_4, rfl, q_5, q1, q2, by rw [hM_10, hM_9, hMi, hM_6, x_uc (t := 100 + 3 * nc) (t' := 100 + 3 * nc + 1) (by omega), x_uc (t := 100 + 3 * nc) (t' := 100 + 3 * nc + 2) (by omega), x_uu]⟩)
    · have c_4 : ¬ (nc < 50) := fun q => c_4 ((nI_ltI (by omega) (by omega)).mpr q)
      refine lv_iconst (v := nI 0) hx hb dX4_name_16 (by decide) ?_
      refine W.widen (k := 3) (n := 24) (by omega) (by omega) ?_
      exact x_iret hx hb hr hlocks hK hA hX hS dX4_name_17 (Or.inr ⟨fun q => c_4 q.2, rfl, rfl⟩)

abbrev rmX4_join : Room := { frames := 2, cells := 1, slots := 3, locals := 34 }
set_option maxHeartbeats 4000000 in
set_option maxRecDepth 100000 in
/-- join -/
theorem ctX4_join (l : Launch) (G : xG) (A : Nat → Prop) (M : xM) {ad : Nat → Nat} {nc : Nat} {sd : Nat → Int32} {jn : Nat → Int32} {tc : Nat → Nat} {dt : Nat → Int32} {fd : Nat → Int64} {ld : Nat → Int64} {tk : Nat → Nat → Int32} {kd : Nat → Nat → Int32} {wn : Nat → Nat} {jc : Nat} {jz : Nat → Nat} {jo : Nat → Nat} {ju : Nat → Int32} {bg : Int32} {cn : Nat} {zs : Nat → Nat} {os : Nat → Nat} {ab : Nat → Nat} {bl : Nat → Nat} {od : Nat → Nat} {sp : Nat → Nat} {pr : Nat → Nat} {fa : Int64} {fb : Int64} (hR : xRec G M ad nc sd jn tc dt fd ld tk kd wn jc jz jo ju bg cn zs os ab bl od sp pr fa fb) (p0 p1 : Int32) (hnc : nc ≤ 50) (hjc : jc ≤ 100) (htk : ∀ i, i < nc → tc i ≤ 8 ∧ ∀ j, j < tc i → vp_in (kd i j) 4) : Met l yX4_join wsX4_join rmX4_join (va_Pc ([.ref (ad 0), .int p0, .int p1] : List Value) (xPc G A M)) (va_Qi (fun r M1 => (∃ i j, i < nc ∧ j < nc ∧ (p0 = nI (i + 1) ∧ p1 = nI (j + 1)) ∧ jc < 100 ∧ ((sd i = nI 0 ∧ jn i = 0) ∧ (sd j = nI 1 ∧ jn j = 0)) ∧ r = nI (jc + 1) ∧ ∃ q0 : Nat, M1 = xu (xu (xu (xu (xu M (300 + jc) (q0, .inr (3, [.ref (ad (100 + 3 * i)), .ref (ad (100 + 3 * j)), .int (nI 0)]))) 3 (ad 3, .inl (G.2 4, 100, .inr (.inr (.inr (.inr (va_up (fun k => if k < jc then some (ad (300 + k)) else none) jc (some q0)))))))) 0 (ad 0, .inr (6, [.ref (ad 1), .int (nI nc), .ref (ad 2), .ref (ad 3), .int (nI (jc + 1)), .ref (ad 4), .ref (ad 5)]))) (100 + 3 * i) (ad (100 + 3 * i), .inr (5, [.int (sd i), .int (nI 1), .ref (ad (100 + 3 * i + 1)), .ref (ad (100 + 3 * i + 2)), .int (nI (tc i)), .int (dt i), .long (fd i), .long (ld i)]))) (100 + 3 * j) (ad (100 + 3 * j), .inr (5, [.int (sd j), .int (nI 1), .ref (ad (100 + 3 * j + 1)), .ref (ad (100 + 3 * j + 2)), .int (nI (tc j)), .int (dt j), .long (fd j), .long (ld j)]))) ∨ (¬ (∃ i j, i < nc ∧ j < nc ∧ (p0 = nI (i + 1) ∧ p1 = nI (j + 1)) ∧ jc < 100 ∧ ((sd i = nI 0 ∧ jn i = 0) ∧ (sd j = nI 1 ∧ jn j = 0))) ∧ r = nI 0 ∧ M1 = M)) (xPc G A) A) 1 3 A := by
  refine x_met (cc := cX4_join) (maxL := 5) (ret := (some .int)) RX4 (by decide) rfl (Nat.le_of_ble_eq_true rfl) rfl ?_
  intro p e s m below meth c hx hb hr hts hown hlocks hml hin hK hA hX ls hl
  have inX1 : ∀ w ∈ wsX10, w ∈ wsX4_join := by decide +kernel
  have inX3 : ∀ w ∈ wsX30, w ∈ wsX4_join := by decide +kernel
  have inX4 : ∀ w ∈ wsX40, w ∈ wsX4_join := by decide +kernel
  have lk_fieldLink_31 := hts (.fieldLink RX4 31 "Reconcile" "joinCount" "I") (by decide +kernel)
  have lk_fieldLink_27 := hts (.fieldLink RX4 27 "Reconcile" "joins" "[LReconcile$Join;") (by decide +kernel)
  have lk_classLink_25 := hts (.classLink RX4 25 RX1) (by decide +kernel)
  have lk_methodLink_128 := hts (.methodLink RX4 128 yX1_init) (by decide +kernel)
  have lk_fieldLink_131 := hts (.fieldLink RX4 131 "Reconcile$Name" "joined" "Z") (by decide +kernel)
  have hS : va_S A s.heap s.heap [] := va_S.rf
  have hl : lv_has ls 5 [(0, .ref (ad 0)), (1, .int p0), (2, .int p1)] := hl
  have hRR := hR
  obtain ⟨hc0, hc1, hc2, hc3, hcL, hc5, hc6, hc7, hc8, hc9, hc10, hc11, hc12, hnm, hjn⟩ := hR
  refine lv_aload_n hx hb dX4_join_0 rfl (lv_at hl 0 rfl) ?_
  refine lv_iload_n hx hb dX4_join_1 rfl (lv_at hl 1 rfl) ?_
  refine x_callq (x_runV (q := (RX4, TX4, 7)) (As := [.int p0]) (rest := []) ⟨hx, hb, hml, hown, hts⟩ (ctX4_find l G A M hRR p0 hnc) (cwV 1 hts gX4_join_X4_find rfl rfl rfl (by decide +kernel) ⟨Nat.le_of_ble_eq_true rfl, Nat.le_of_ble_eq_true rfl⟩) hK hA hX hS hc0 rfl rfl hl.1 rfl (lv_room (Nat.le_of_ble_eq_true rfl)) dX4_join_2 ⟨by decide, by decide⟩) hS (fun r_1 M_2 H locs hp hX hS => ?_)
  obtain ⟨hM_, hq_r_1⟩ := hp
  rw [hM_] at hX
  rcases hq_r_1 with ⟨i, hi, epi, eri⟩ | ⟨epi, eri⟩
  · subst eri
    obtain ⟨hn0i, hn1i, hn2i⟩ := hnm i hi
    refine x_rv (y := .ref (ad (100 + 3 * i))) rfl ?_
    refine lv_astore_n (lv' := [(3, .ref (ad (100 + 3 * i))), (0, .ref (ad 0)), (1, .int p0), (2, .int p1)]) hx hb dX4_join_5 rfl hl (by decide) rfl (fun ls hl => ?_)
    refine lv_aload_n hx hb dX4_join_6 rfl (lv_at hl 1 rfl) ?_
    refine lv_iload_n hx hb dX4_join_7 rfl (lv_at hl 3 rfl) ?_
    refine x_callq (x_runV (q := (RX4, TX4, 7)) (As := [.int p1]) (rest := []) ⟨hx, hb, hml, hown, hts⟩ (ctX4_find l G A M hRR p1 hnc) (cwV 1 hts gX4_join_X4_find rfl rfl rfl (by decide +kernel) ⟨Nat.le_of_ble_eq_true rfl, Nat.le_of_ble_eq_true rfl⟩) hK hA hX hS hc0 rfl rfl hl.1 rfl (lv_room (Nat.le_of_ble_eq_true rfl)) dX4_join_8 ⟨by decide, by decide⟩) hS (fun r_3 M_4 H locs hp hX hS => ?_)
    obtain ⟨hM_, hq_r_3⟩ := hp
    rw [hM_] at hX
    rcases hq_r_3 with ⟨j, hj, epj, erj⟩ | ⟨epj, erj⟩
    · subst erj
      obtain ⟨hn0j, hn1j, hn2j⟩ := hnm j hj
      refine x_rv (y := .ref (ad (100 + 3 * j))) rfl ?_
      refine lv_astore (lv' := [(4, .ref (ad (100 + 3 * j))), (3, .ref (ad (100 + 3 * i))), (0, .ref (ad 0)), (1, .int p0), (2, .int p1)]) hx hb dX4_join_11 hl (by decide) rfl (fun ls hl => ?_)
      refine lv_aload_n hx hb dX4_join_13 rfl (lv_at hl 1 rfl) ?_
      refine lv_ifnull hx hb dX4_join_14 ?_
      refine lv_aload hx hb dX4_join_17 (lv_at hl 0 rfl) ?_
      refine lv_ifnull hx hb dX4_join_19 ?_
      refine lv_aload_n hx hb dX4_join_22 rfl (lv_at hl 2 rfl) ?_
      refine x_get (ci := 6) (v := .int (nI jc)) (C := RX4) (T := TX4) (N := 7) hx hb hts inX4 hown hK hX hc0 rfl 4 (by decide) lk_fieldLink_31 (fun _ h9 => h9) rfl dX4_join_23 ?_
      refine lv_bipush (v := nI 100) hx hb dX4_join_26 (by decide) ?_
      refine lv_icmp_lt (tgt := 33) hx hb dX4_join_28 (by decide) (fun c_5 => ?_) (fun c_5 => ?_)
      · have c_5 : jc < 100 := (nI_ltI (by omega) (by omega)).mp c_5
        refine lv_aload_n hx hb dX4_join_33 rfl (lv_at hl 1 rfl) ?_
        refine lv_iconst (v := nI 0) hx hb dX4_join_34 (by decide) ?_
        refine x_calli (x_runV (q := (RX3, TX3, 8)) (As := [.int (nI 0)]) (rest := []) ⟨hx, hb, hml, hown, hts⟩ (ctX3_mayJoin l G A M hn0i hn1i hn2i (htk i hi).1 (nI 0)) (cwV 1 hts gX4_join_X3_mayJoin rfl rfl rfl (by decide +kernel) ⟨Nat.le_of_ble_eq_true rfl, Nat.le_of_ble_eq_true rfl⟩) hK hA hX hS hn0i rfl rfl hl.1 rfl (lv_room (Nat.le_of_ble_eq_true rfl)) dX4_join_35 ⟨by decide, by decide⟩) hS (fun r_6 M_7 H locs hp hX hS => ?_)
        obtain ⟨hM_, er_6⟩ := hp
        rw [hM_] at hX
        refine lv_if_eq (tgt := 50) hx hb dX4_join_38 (by decide) (fun c_8 => ?_) (fun c_8 => ?_)
        · have hmi := x_if0 er_6 c_8
          refine lv_iconst (v := nI 0) hx hb dX4_join_50 (by decide) ?_
          refine W.widen (k := 1) (n := 3) (by omega) (by omega) ?_
          exact x_iret hx hb hr hlocks hK hA hX hS dX4_join_51 (Or.inr ⟨fun q => by obtain ⟨i9, j9, hi9, hj9, ⟨e1, e2⟩, hjc9, hh9⟩ := q; have z := (nI_eq (a := i + 1) (b := i9 + 1) (by omega) (by omega)).mp (epi.symm.trans e1); rw [show i = i9 by omega] at hmi; exact hmi hh9.1, rfl, rfl⟩)
        · have hmi := x_if1 er_6 c_8
          refine lv_aload hx hb dX4_join_41 (lv_at hl 0 rfl) ?_
          refine lv_iconst (v := nI 1) hx hb dX4_join_43 (by decide) ?_
          refine x_calli (x_runV (q := (RX3, TX3, 8)) (As := [.int (nI 1)]) (rest := []) ⟨hx, hb, hml, hown, hts⟩ (ctX3_mayJoin l G A M hn0j hn1j hn2j (htk j hj).1 (nI 1)) (cwV 1 hts gX4_join_X3_mayJoin rfl rfl rfl (by decide +kernel) ⟨Nat.le_of_ble_eq_true rfl, Nat.le_of_ble_eq_true rfl⟩) hK hA hX hS hn0j rfl rfl hl.1 rfl (lv_room (Nat.le_of_ble_eq_true rfl)) dX4_join_44 ⟨by decide, by decide⟩) hS (fun r_9 M_10 H locs hp hX hS => ?_)
          obtain ⟨hM_, er_9⟩ := hp
          rw [hM_] at hX
          refine lv_if_ne (tgt := 52) hx hb dX4_join_47 (by decide) (fun c_11 => ?_) (fun c_11 => ?_)
          · have hmj := x_if1 er_9 c_11
            refine lv_aload_n hx hb dX4_join_52 rfl (lv_at hl 2 rfl) ?_
            refine x_get (ci := 6) (v := .ref (ad 3)) (C := RX4) (T := TX4) (N := 7) hx hb hts inX4 hown hK hX hc0 rfl 3 (by decide) lk_fieldLink_27 (fun _ h9 => h9) rfl dX4_join_53 ?_
            refine lv_aload_n hx hb dX4_join_56 rfl (lv_at hl 2 rfl) ?_
            refine x_get (ci := 6) (v := .int (nI jc)) (C := RX4) (T := TX4) (N := 7) hx hb hts inX4 hown hK hX hc0 rfl 4 (by decide) lk_fieldLink_31 (fun _ h9 => h9) rfl dX4_join_57 ?_
            have hij : i ≠ j := fun q => by rw [q] at hmi; exact absurd (hmi.1.symm.trans hmj.1) (by decide)
            refine x_new (ci := 3) (fs := [.null, .null, .int (nI 0)]) (C := RX1) (T := TX1) (N := 3) hx hb hts inX1 tyX1 tyX1_ok hown lk_classLink_25 (hts (.instantiable RX1 3) (by decide +kernel)) (hts (.initialized RX1) (by decide +kernel)) hK hX hS hA rfl (fun j hj => by rcases (show j = 0 ∨ j = 1 ∨ j = 2 by omega) with rfl | rfl | rfl <;> rfl) (Nat.le_of_ble_eq_true rfl) (Nat.le_of_ble_eq_true rfl) dX4_join_60 (300 + jc) (fun q_12 H hX hS => ?_)
            obtain ⟨M_13, hM_13⟩ : ∃ zM : xM, zM = xu M (300 + jc) (q_12, .inr (3, [.null, .null, .int (nI 0)])) := ⟨_, rfl⟩
            have hX : xw G.1 vwCl A M_13 H := by rw [hM_13]; exact hX
            have hc0 : M_13 0 = some (ad 0, .inr (6, [.ref (ad 1), .int (nI nc), .ref (ad 2), .ref (ad 3), .int (nI jc), .ref (ad 4), .ref (ad 5)])) := by rw [hM_13, xu_n (by omega)]; exact hc0
            have hc1 : M_13 1 = some (ad 1, .inl (G.2 3, 50, .inr (.inr (.inr (.inr (fun k => if k < nc then some (ad (100 + 3 * k)) else none)))))) := by rw [hM_13, xu_n (by omega)]; exact hc1
            have hc2 : M_13 2 = some (ad 2, .inl (G.2 1, 4, .inr (.inl (fun k => lN (wn k))))) := by rw [hM_13, xu_n (by omega)]; exact hc2
            have hc3 : M_13 3 = some (ad 3, .inl (G.2 4, 100, .inr (.inr (.inr (.inr (fun k => if k < jc then some (ad (300 + k)) else none)))))) := by rw [hM_13, xu_n (by omega)]; exact hc3
            have hcL : M_13 4 = some (ad 4, .inr (4, [.int bg, .int (nI cn), .ref (ad 6), .ref (ad 7), .ref (ad 8), .ref (ad 9), .ref (ad 10), .ref (ad 11), .ref (ad 12)])) := by rw [hM_13, xu_n (by omega)]; exact hcL
            have hc5 : M_13 5 = some (ad 5, .inr (2, [.long fa, .long fb])) := by rw [hM_13, xu_n (by omega)]; exact hc5
            have hc6 : M_13 6 = some (ad 6, .inl (G.2 0, 625, .inl (fun k => nI (zs k)))) := by rw [hM_13, xu_n (by omega)]; exact hc6
            have hc7 : M_13 7 = some (ad 7, .inl (G.2 0, 625, .inl (fun k => nI (os k)))) := by rw [hM_13, xu_n (by omega)]; exact hc7
            have hc8 : M_13 8 = some (ad 8, .inl (G.2 1, 625, .inr (.inl (fun k => lN (ab k))))) := by rw [hM_13, xu_n (by omega)]; exact hc8
            have hc9 : M_13 9 = some (ad 9, .inl (G.2 1, 625, .inr (.inl (fun k => lN (bl k))))) := by rw [hM_13, xu_n (by omega)]; exact hc9
            have hc10 : M_13 10 = some (ad 10, .inl (G.2 0, 625, .inl (fun k => nI (od k)))) := by rw [hM_13, xu_n (by omega)]; exact hc10
            have hc11 : M_13 11 = some (ad 11, .inl (G.2 0, 625, .inl (fun k => nI (sp k)))) := by rw [hM_13, xu_n (by omega)]; exact hc11
            have hc12 : M_13 12 = some (ad 12, .inl (G.2 2, 51, .inl (fun k => nI (pr k)))) := by rw [hM_13, xu_n (by omega)]; exact hc12
            have hn0i : M_13 (100 + 3 * i) = some (ad (100 + 3 * i), .inr (5, [.int (sd i), .int (jn i), .ref (ad (100 + 3 * i + 1)), .ref (ad (100 + 3 * i + 2)), .int (nI (tc i)), .int (dt i), .long (fd i), .long (ld i)])) := by rw [hM_13, xu_n (by omega)]; exact hn0i
            have hn1i : M_13 (100 + 3 * i + 1) = some (ad (100 + 3 * i + 1), .inl (G.2 0, 8, .inl (tk i))) := by rw [hM_13, xu_n (by omega)]; exact hn1i
            have hn2i : M_13 (100 + 3 * i + 2) = some (ad (100 + 3 * i + 2), .inl (G.2 0, 8, .inl (kd i))) := by rw [hM_13, xu_n (by omega)]; exact hn2i
            have hn0j : M_13 (100 + 3 * j) = some (ad (100 + 3 * j), .inr (5, [.int (sd j), .int (jn j), .ref (ad (100 + 3 * j + 1)), .ref (ad (100 + 3 * j + 2)), .int (nI (tc j)), .int (dt j), .long (fd j), .long (ld j)])) := by rw [hM_13, xu_n (by omega)]; exact hn0j
            have hn1j : M_13 (100 + 3 * j + 1) = some (ad (100 + 3 * j + 1), .inl (G.2 0, 8, .inl (tk j))) := by rw [hM_13, xu_n (by omega)]; exact hn1j
            have hn2j : M_13 (100 + 3 * j + 2) = some (ad (100 + 3 * j + 2), .inl (G.2 0, 8, .inl (kd j))) := by rw [hM_13, xu_n (by omega)]; exact hn2j
            have hjj : M_13 (300 + jc) = some (q_12, .inr (3, [.null, .null, .int (nI 0)])) := by rw [hM_13]; exact xu_s
            refine lv_dup hx hb dX4_join_63 rfl ?_
            refine lv_aload_n hx hb dX4_join_64 rfl (lv_at hl 1 rfl) ?_
            refine lv_aload hx hb dX4_join_65 (lv_at hl 0 rfl) ?_
            refine x_callv (x_runI (As := [.ref (ad (100 + 3 * i)), .ref (ad (100 + 3 * j))]) (rest := [.ref q_12, .int (nI jc), .ref (ad 3)]) ⟨hx, hb, hml, hown, hts⟩ (ctX1_init l G A M_13 hjj (ad (100 + 3 * i)) (ad (100 + 3 * j))) (cwI 2 hts gX4_join_X1_init rfl rfl rfl (hts (.initialized RX1) (by decide +kernel)) lk_methodLink_128 (hts (.instanceMethod yX1_init) (by decide +kernel)) rfl (by decide +kernel) ⟨Nat.le_of_ble_eq_true rfl, Nat.le_of_ble_eq_true rfl⟩) hK hA hX hS rfl hl.1 rfl (lv_room (Nat.le_of_ble_eq_true rfl)) dX4_join_67 ⟨by decide, by decide⟩) hS (fun M_15 H locs hp hX hS => ?_)
            have hMi := hp
            have hc0 : M_15 0 = some (ad 0, .inr (6, [.ref (ad 1), .int (nI nc), .ref (ad 2), .ref (ad 3), .int (nI jc), .ref (ad 4), .ref (ad 5)])) := by rw [hMi, xu_n (by omega)]; exact hc0
            have hc1 : M_15 1 = some (ad 1, .inl (G.2 3, 50, .inr (.inr (.inr (.inr (fun k => if k < nc then some (ad (100 + 3 * k)) else none)))))) := by rw [hMi, xu_n (by omega)]; exact hc1
            have hc2 : M_15 2 = some (ad 2, .inl (G.2 1, 4, .inr (.inl (fun k => lN (wn k))))) := by rw [hMi, xu_n (by omega)]; exact hc2
            have hc3 : M_15 3 = some (ad 3, .inl (G.2 4, 100, .inr (.inr (.inr (.inr (fun k => if k < jc then some (ad (300 + k)) else none)))))) := by rw [hMi, xu_n (by omega)]; exact hc3
            have hcL : M_15 4 = some (ad 4, .inr (4, [.int bg, .int (nI cn), .ref (ad 6), .ref (ad 7), .ref (ad 8), .ref (ad 9), .ref (ad 10), .ref (ad 11), .ref (ad 12)])) := by rw [hMi, xu_n (by omega)]; exact hcL
            have hc5 : M_15 5 = some (ad 5, .inr (2, [.long fa, .long fb])) := by rw [hMi, xu_n (by omega)]; exact hc5
            have hc6 : M_15 6 = some (ad 6, .inl (G.2 0, 625, .inl (fun k => nI (zs k)))) := by rw [hMi, xu_n (by omega)]; exact hc6
            have hc7 : M_15 7 = some (ad 7, .inl (G.2 0, 625, .inl (fun k => nI (os k)))) := by rw [hMi, xu_n (by omega)]; exact hc7
            have hc8 : M_15 8 = some (ad 8, .inl (G.2 1, 625, .inr (.inl (fun k => lN (ab k))))) := by rw [hMi, xu_n (by omega)]; exact hc8
            have hc9 : M_15 9 = some (ad 9, .inl (G.2 1, 625, .inr (.inl (fun k => lN (bl k))))) := by rw [hMi, xu_n (by omega)]; exact hc9
            have hc10 : M_15 10 = some (ad 10, .inl (G.2 0, 625, .inl (fun k => nI (od k)))) := by rw [hMi, xu_n (by omega)]; exact hc10
            have hc11 : M_15 11 = some (ad 11, .inl (G.2 0, 625, .inl (fun k => nI (sp k)))) := by rw [hMi, xu_n (by omega)]; exact hc11
            have hc12 : M_15 12 = some (ad 12, .inl (G.2 2, 51, .inl (fun k => nI (pr k)))) := by rw [hMi, xu_n (by omega)]; exact hc12
            have hn0i : M_15 (100 + 3 * i) = some (ad (100 + 3 * i), .inr (5, [.int (sd i), .int (jn i), .ref (ad (100 + 3 * i + 1)), .ref (ad (100 + 3 * i + 2)), .int (nI (tc i)), .int (dt i), .long (fd i), .long (ld i)])) := by rw [hMi, xu_n (by omega)]; exact hn0i
            have hn1i : M_15 (100 + 3 * i + 1) = some (ad (100 + 3 * i + 1), .inl (G.2 0, 8, .inl (tk i))) := by rw [hMi, xu_n (by omega)]; exact hn1i
            have hn2i : M_15 (100 + 3 * i + 2) = some (ad (100 + 3 * i + 2), .inl (G.2 0, 8, .inl (kd i))) := by rw [hMi, xu_n (by omega)]; exact hn2i
            have hn0j : M_15 (100 + 3 * j) = some (ad (100 + 3 * j), .inr (5, [.int (sd j), .int (jn j), .ref (ad (100 + 3 * j + 1)), .ref (ad (100 + 3 * j + 2)), .int (nI (tc j)), .int (dt j), .long (fd j), .long (ld j)])) := by rw [hMi, xu_n (by omega)]; exact hn0j
            have hn1j : M_15 (100 + 3 * j + 1) = some (ad (100 + 3 * j + 1), .inl (G.2 0, 8, .inl (tk j))) := by rw [hMi, xu_n (by omega)]; exact hn1j
            have hn2j : M_15 (100 + 3 * j + 2) = some (ad (100 + 3 * j + 2), .inl (G.2 0, 8, .inl (kd j))) := by rw [hMi, xu_n (by omega)]; exact hn2j
            have hjj : M_15 (300 + jc) = some (q_12, .inr (3, [.ref (ad (100 + 3 * i)), .ref (ad (100 + 3 * j)), .int (nI 0)])) := by rw [hMi]; exact xu_s
            refine x_asN hx hb hK hX hS 4 rfl hc3 hjj rfl (by omega) (by decide) dX4_join_70 (fun H locs hX hS => ?_)
            obtain ⟨M_16, hM_16⟩ : ∃ zM : xM, zM = xu M_15 3 (ad 3, .inl (G.2 4, 100, .inr (.inr (.inr (.inr (va_up (fun k => if k < jc then some (ad (300 + k)) else none) jc (some q_12))))))) := ⟨_, rfl⟩
            have hX : xw G.1 vwCl A M_16 H := by rw [hM_16]; exact hX
            have hc0 : M_16 0 = some (ad 0, .inr (6, [.ref (ad 1), .int (nI nc), .ref (ad 2), .ref (ad 3), .int (nI jc), .ref (ad 4), .ref (ad 5)])) := by rw [hM_16, xu_n (by omega)]; exact hc0
            have hc1 : M_16 1 = some (ad 1, .inl (G.2 3, 50, .inr (.inr (.inr (.inr (fun k => if k < nc then some (ad (100 + 3 * k)) else none)))))) := by rw [hM_16, xu_n (by omega)]; exact hc1
            have hc2 : M_16 2 = some (ad 2, .inl (G.2 1, 4, .inr (.inl (fun k => lN (wn k))))) := by rw [hM_16, xu_n (by omega)]; exact hc2
            have hcL : M_16 4 = some (ad 4, .inr (4, [.int bg, .int (nI cn), .ref (ad 6), .ref (ad 7), .ref (ad 8), .ref (ad 9), .ref (ad 10), .ref (ad 11), .ref (ad 12)])) := by rw [hM_16, xu_n (by omega)]; exact hcL
            have hc5 : M_16 5 = some (ad 5, .inr (2, [.long fa, .long fb])) := by rw [hM_16, xu_n (by omega)]; exact hc5
            have hc6 : M_16 6 = some (ad 6, .inl (G.2 0, 625, .inl (fun k => nI (zs k)))) := by rw [hM_16, xu_n (by omega)]; exact hc6
            have hc7 : M_16 7 = some (ad 7, .inl (G.2 0, 625, .inl (fun k => nI (os k)))) := by rw [hM_16, xu_n (by omega)]; exact hc7
            have hc8 : M_16 8 = some (ad 8, .inl (G.2 1, 625, .inr (.inl (fun k => lN (ab k))))) := by rw [hM_16, xu_n (by omega)]; exact hc8
            have hc9 : M_16 9 = some (ad 9, .inl (G.2 1, 625, .inr (.inl (fun k => lN (bl k))))) := by rw [hM_16, xu_n (by omega)]; exact hc9
            have hc10 : M_16 10 = some (ad 10, .inl (G.2 0, 625, .inl (fun k => nI (od k)))) := by rw [hM_16, xu_n (by omega)]; exact hc10
            have hc11 : M_16 11 = some (ad 11, .inl (G.2 0, 625, .inl (fun k => nI (sp k)))) := by rw [hM_16, xu_n (by omega)]; exact hc11
            have hc12 : M_16 12 = some (ad 12, .inl (G.2 2, 51, .inl (fun k => nI (pr k)))) := by rw [hM_16, xu_n (by omega)]; exact hc12
            have hn0i : M_16 (100 + 3 * i) = some (ad (100 + 3 * i), .inr (5, [.int (sd i), .int (jn i), .ref (ad (100 + 3 * i + 1)), .ref (ad (100 + 3 * i + 2)), .int (nI (tc i)), .int (dt i), .long (fd i), .long (ld i)])) := by rw [hM_16, xu_n (by omega)]; exact hn0i
            have hn1i : M_16 (100 + 3 * i + 1) = some (ad (100 + 3 * i + 1), .inl (G.2 0, 8, .inl (tk i))) := by rw [hM_16, xu_n (by omega)]; exact hn1i
            have hn2i : M_16 (100 + 3 * i + 2) = some (ad (100 + 3 * i + 2), .inl (G.2 0, 8, .inl (kd i))) := by rw [hM_16, xu_n (by omega)]; exact hn2i
            have hn0j : M_16 (100 + 3 * j) = some (ad (100 + 3 * j), .inr (5, [.int (sd j), .int (jn j), .ref (ad (100 + 3 * j + 1)), .ref (ad (100 + 3 * j + 2)), .int (nI (tc j)), .int (dt j), .long (fd j), .long (ld j)])) := by rw [hM_16, xu_n (by omega)]; exact hn0j
            have hn1j : M_16 (100 + 3 * j + 1) = some (ad (100 + 3 * j + 1), .inl (G.2 0, 8, .inl (tk j))) := by rw [hM_16, xu_n (by omega)]; exact hn1j
            have hn2j : M_16 (100 + 3 * j + 2) = some (ad (100 + 3 * j + 2), .inl (G.2 0, 8, .inl (kd j))) := by rw [hM_16, xu_n (by omega)]; exact hn2j
            have hjj : M_16 (300 + jc) = some (q_12, .inr (3, [.ref (ad (100 + 3 * i)), .ref (ad (100 + 3 * j)), .int (nI 0)])) := by rw [hM_16, xu_n (by omega)]; exact hjj
            have hc3 : M_16 3 = some (ad 3, .inl (G.2 4, 100, .inr (.inr (.inr (.inr (va_up (fun k => if k < jc then some (ad (300 + k)) else none) jc (some q_12))))))) := by rw [hM_16]; exact xu_s
            refine lv_aload_n hx hb dX4_join_71 rfl (lv_at hl 2 rfl) ?_
            refine lv_dup hx hb dX4_join_72 rfl ?_
            refine x_get (ci := 6) (v := .int (nI jc)) (C := RX4) (T := TX4) (N := 7) hx hb hts inX4 hown hK hX hc0 rfl 4 (by decide) lk_fieldLink_31 (fun _ h9 => h9) rfl dX4_join_73 ?_
            refine lv_iconst (v := nI 1) hx hb dX4_join_76 (by decide) ?_
            refine lv_iadd hx hb dX4_join_77 ?_
            refine x_ri (nI_add _ _) ?_
            refine x_put (ci := 6) (v := .int (nI (jc + 1))) (C := RX4) (T := TX4) (N := 7) hx hb hts inX4 tyX4 tyX4_ok nmX4 hown hK hX hS hc0 rfl 4 (by decide) lk_fieldLink_31 (fun _ h9 => h9) rfl (tyX4_ok 4 (by decide)) rfl rfl (Nat.le_of_ble_eq_true rfl) dX4_join_78 (fun H locs hX hS => ?_)
            obtain ⟨M_17, hM_17⟩ : ∃ zM : xM, zM = xu M_16 0 (ad 0, .inr (6, [.ref (ad 1), .int (nI nc), .ref (ad 2), .ref (ad 3), .int (nI (jc + 1)), .ref (ad 4), .ref (ad 5)])) := ⟨_, rfl⟩
            have hX : xw G.1 vwCl A M_17 H := by rw [hM_17]; exact hX
            have hc1 : M_17 1 = some (ad 1, .inl (G.2 3, 50, .inr (.inr (.inr (.inr (fun k => if k < nc then some (ad (100 + 3 * k)) else none)))))) := by rw [hM_17, xu_n (by omega)]; exact hc1
            have hc2 : M_17 2 = some (ad 2, .inl (G.2 1, 4, .inr (.inl (fun k => lN (wn k))))) := by rw [hM_17, xu_n (by omega)]; exact hc2
            have hc3 : M_17 3 = some (ad 3, .inl (G.2 4, 100, .inr (.inr (.inr (.inr (va_up (fun k => if k < jc then some (ad (300 + k)) else none) jc (some q_12))))))) := by rw [hM_17, xu_n (by omega)]; exact hc3
            have hcL : M_17 4 = some (ad 4, .inr (4, [.int bg, .int (nI cn), .ref (ad 6), .ref (ad 7), .ref (ad 8), .ref (ad 9), .ref (ad 10), .ref (ad 11), .ref (ad 12)])) := by rw [hM_17, xu_n (by omega)]; exact hcL
            have hc5 : M_17 5 = some (ad 5, .inr (2, [.long fa, .long fb])) := by rw [hM_17, xu_n (by omega)]; exact hc5
            have hc6 : M_17 6 = some (ad 6, .inl (G.2 0, 625, .inl (fun k => nI (zs k)))) := by rw [hM_17, xu_n (by omega)]; exact hc6
            have hc7 : M_17 7 = some (ad 7, .inl (G.2 0, 625, .inl (fun k => nI (os k)))) := by rw [hM_17, xu_n (by omega)]; exact hc7
            have hc8 : M_17 8 = some (ad 8, .inl (G.2 1, 625, .inr (.inl (fun k => lN (ab k))))) := by rw [hM_17, xu_n (by omega)]; exact hc8
            have hc9 : M_17 9 = some (ad 9, .inl (G.2 1, 625, .inr (.inl (fun k => lN (bl k))))) := by rw [hM_17, xu_n (by omega)]; exact hc9
            have hc10 : M_17 10 = some (ad 10, .inl (G.2 0, 625, .inl (fun k => nI (od k)))) := by rw [hM_17, xu_n (by omega)]; exact hc10
            have hc11 : M_17 11 = some (ad 11, .inl (G.2 0, 625, .inl (fun k => nI (sp k)))) := by rw [hM_17, xu_n (by omega)]; exact hc11
            have hc12 : M_17 12 = some (ad 12, .inl (G.2 2, 51, .inl (fun k => nI (pr k)))) := by rw [hM_17, xu_n (by omega)]; exact hc12
            have hn0i : M_17 (100 + 3 * i) = some (ad (100 + 3 * i), .inr (5, [.int (sd i), .int (jn i), .ref (ad (100 + 3 * i + 1)), .ref (ad (100 + 3 * i + 2)), .int (nI (tc i)), .int (dt i), .long (fd i), .long (ld i)])) := by rw [hM_17, xu_n (by omega)]; exact hn0i
            have hn1i : M_17 (100 + 3 * i + 1) = some (ad (100 + 3 * i + 1), .inl (G.2 0, 8, .inl (tk i))) := by rw [hM_17, xu_n (by omega)]; exact hn1i
            have hn2i : M_17 (100 + 3 * i + 2) = some (ad (100 + 3 * i + 2), .inl (G.2 0, 8, .inl (kd i))) := by rw [hM_17, xu_n (by omega)]; exact hn2i
            have hn0j : M_17 (100 + 3 * j) = some (ad (100 + 3 * j), .inr (5, [.int (sd j), .int (jn j), .ref (ad (100 + 3 * j + 1)), .ref (ad (100 + 3 * j + 2)), .int (nI (tc j)), .int (dt j), .long (fd j), .long (ld j)])) := by rw [hM_17, xu_n (by omega)]; exact hn0j
            have hn1j : M_17 (100 + 3 * j + 1) = some (ad (100 + 3 * j + 1), .inl (G.2 0, 8, .inl (tk j))) := by rw [hM_17, xu_n (by omega)]; exact hn1j
            have hn2j : M_17 (100 + 3 * j + 2) = some (ad (100 + 3 * j + 2), .inl (G.2 0, 8, .inl (kd j))) := by rw [hM_17, xu_n (by omega)]; exact hn2j
            have hjj : M_17 (300 + jc) = some (q_12, .inr (3, [.ref (ad (100 + 3 * i)), .ref (ad (100 + 3 * j)), .int (nI 0)])) := by rw [hM_17, xu_n (by omega)]; exact hjj
            have hc0 : M_17 0 = some (ad 0, .inr (6, [.ref (ad 1), .int (nI nc), .ref (ad 2), .ref (ad 3), .int (nI (jc + 1)), .ref (ad 4), .ref (ad 5)])) := by rw [hM_17]; exact xu_s
            refine lv_aload_n hx hb dX4_join_81 rfl (lv_at hl 1 rfl) ?_
            refine lv_iconst (v := nI 1) hx hb dX4_join_82 (by decide) ?_
            refine x_put (ci := 5) (v := .int (nI 1)) (C := RX3) (T := TX3) (N := 8) hx hb hts inX3 tyX3 tyX3_ok nmX3 hown hK hX hS hn0i rfl 1 (by decide) lk_fieldLink_131 (fun _ h9 => h9) rfl (tyX3_ok 1 (by decide)) rfl rfl (Nat.le_of_ble_eq_true rfl) dX4_join_83 (fun H locs hX hS => ?_)
            obtain ⟨M_18, hM_18⟩ : ∃ zM : xM, zM = xu M_17 (100 + 3 * i) (ad (100 + 3 * i), .inr (5, [.int (sd i), .int (nI 1), .ref (ad (100 + 3 * i + 1)), .ref (ad (100 + 3 * i + 2)), .int (nI (tc i)), .int (dt i), .long (fd i), .long (ld i)])) := ⟨_, rfl⟩
            have hX : xw G.1 vwCl A M_18 H := by rw [hM_18]; exact hX
            have hc0 : M_18 0 = some (ad 0, .inr (6, [.ref (ad 1), .int (nI nc), .ref (ad 2), .ref (ad 3), .int (nI (jc + 1)), .ref (ad 4), .ref (ad 5)])) := by rw [hM_18, xu_n (by omega)]; exact hc0
            have hc1 : M_18 1 = some (ad 1, .inl (G.2 3, 50, .inr (.inr (.inr (.inr (fun k => if k < nc then some (ad (100 + 3 * k)) else none)))))) := by rw [hM_18, xu_n (by omega)]; exact hc1
            have hc2 : M_18 2 = some (ad 2, .inl (G.2 1, 4, .inr (.inl (fun k => lN (wn k))))) := by rw [hM_18, xu_n (by omega)]; exact hc2
            have hc3 : M_18 3 = some (ad 3, .inl (G.2 4, 100, .inr (.inr (.inr (.inr (va_up (fun k => if k < jc then some (ad (300 + k)) else none) jc (some q_12))))))) := by rw [hM_18, xu_n (by omega)]; exact hc3
            have hcL : M_18 4 = some (ad 4, .inr (4, [.int bg, .int (nI cn), .ref (ad 6), .ref (ad 7), .ref (ad 8), .ref (ad 9), .ref (ad 10), .ref (ad 11), .ref (ad 12)])) := by rw [hM_18, xu_n (by omega)]; exact hcL
            have hc5 : M_18 5 = some (ad 5, .inr (2, [.long fa, .long fb])) := by rw [hM_18, xu_n (by omega)]; exact hc5
            have hc6 : M_18 6 = some (ad 6, .inl (G.2 0, 625, .inl (fun k => nI (zs k)))) := by rw [hM_18, xu_n (by omega)]; exact hc6
            have hc7 : M_18 7 = some (ad 7, .inl (G.2 0, 625, .inl (fun k => nI (os k)))) := by rw [hM_18, xu_n (by omega)]; exact hc7
            have hc8 : M_18 8 = some (ad 8, .inl (G.2 1, 625, .inr (.inl (fun k => lN (ab k))))) := by rw [hM_18, xu_n (by omega)]; exact hc8
            have hc9 : M_18 9 = some (ad 9, .inl (G.2 1, 625, .inr (.inl (fun k => lN (bl k))))) := by rw [hM_18, xu_n (by omega)]; exact hc9
            have hc10 : M_18 10 = some (ad 10, .inl (G.2 0, 625, .inl (fun k => nI (od k)))) := by rw [hM_18, xu_n (by omega)]; exact hc10
            have hc11 : M_18 11 = some (ad 11, .inl (G.2 0, 625, .inl (fun k => nI (sp k)))) := by rw [hM_18, xu_n (by omega)]; exact hc11
            have hc12 : M_18 12 = some (ad 12, .inl (G.2 2, 51, .inl (fun k => nI (pr k)))) := by rw [hM_18, xu_n (by omega)]; exact hc12
            have hn1i : M_18 (100 + 3 * i + 1) = some (ad (100 + 3 * i + 1), .inl (G.2 0, 8, .inl (tk i))) := by rw [hM_18, xu_n (by omega)]; exact hn1i
            have hn2i : M_18 (100 + 3 * i + 2) = some (ad (100 + 3 * i + 2), .inl (G.2 0, 8, .inl (kd i))) := by rw [hM_18, xu_n (by omega)]; exact hn2i
            have hn0j : M_18 (100 + 3 * j) = some (ad (100 + 3 * j), .inr (5, [.int (sd j), .int (jn j), .ref (ad (100 + 3 * j + 1)), .ref (ad (100 + 3 * j + 2)), .int (nI (tc j)), .int (dt j), .long (fd j), .long (ld j)])) := by rw [hM_18, xu_n (by omega)]; exact hn0j
            have hn1j : M_18 (100 + 3 * j + 1) = some (ad (100 + 3 * j + 1), .inl (G.2 0, 8, .inl (tk j))) := by rw [hM_18, xu_n (by omega)]; exact hn1j
            have hn2j : M_18 (100 + 3 * j + 2) = some (ad (100 + 3 * j + 2), .inl (G.2 0, 8, .inl (kd j))) := by rw [hM_18, xu_n (by omega)]; exact hn2j
            have hjj : M_18 (300 + jc) = some (q_12, .inr (3, [.ref (ad (100 + 3 * i)), .ref (ad (100 + 3 * j)), .int (nI 0)])) := by rw [hM_18, xu_n (by omega)]; exact hjj
            have hn0i : M_18 (100 + 3 * i) = some (ad (100 + 3 * i), .inr (5, [.int (sd i), .int (nI 1), .ref (ad (100 + 3 * i + 1)), .ref (ad (100 + 3 * i + 2)), .int (nI (tc i)), .int (dt i), .long (fd i), .long (ld i)])) := by rw [hM_18]; exact xu_s
            refine lv_aload hx hb dX4_join_86 (lv_at hl 0 rfl) ?_
            refine lv_iconst (v := nI 1) hx hb dX4_join_88 (by decide) ?_
            refine x_put (ci := 5) (v := .int (nI 1)) (C := RX3) (T := TX3) (N := 8) hx hb hts inX3 tyX3 tyX3_ok nmX3 hown hK hX hS hn0j rfl 1 (by decide) lk_fieldLink_131 (fun _ h9 => h9) rfl (tyX3_ok 1 (by decide)) rfl rfl (Nat.le_of_ble_eq_true rfl) dX4_join_89 (fun H locs hX hS => ?_)
            obtain ⟨M_19, hM_19⟩ : ∃ zM : xM, zM = xu M_18 (100 + 3 * j) (ad (100 + 3 * j), .inr (5, [.int (sd j), .int (nI 1), .ref (ad (100 + 3 * j + 1)), .ref (ad (100 + 3 * j + 2)), .int (nI (tc j)), .int (dt j), .long (fd j), .long (ld j)])) := ⟨_, rfl⟩
            have hX : xw G.1 vwCl A M_19 H := by rw [hM_19]; exact hX
            have hc0 : M_19 0 = some (ad 0, .inr (6, [.ref (ad 1), .int (nI nc), .ref (ad 2), .ref (ad 3), .int (nI (jc + 1)), .ref (ad 4), .ref (ad 5)])) := by rw [hM_19, xu_n (by omega)]; exact hc0
            have hc1 : M_19 1 = some (ad 1, .inl (G.2 3, 50, .inr (.inr (.inr (.inr (fun k => if k < nc then some (ad (100 + 3 * k)) else none)))))) := by rw [hM_19, xu_n (by omega)]; exact hc1
            have hc2 : M_19 2 = some (ad 2, .inl (G.2 1, 4, .inr (.inl (fun k => lN (wn k))))) := by rw [hM_19, xu_n (by omega)]; exact hc2
            have hc3 : M_19 3 = some (ad 3, .inl (G.2 4, 100, .inr (.inr (.inr (.inr (va_up (fun k => if k < jc then some (ad (300 + k)) else none) jc (some q_12))))))) := by rw [hM_19, xu_n (by omega)]; exact hc3
            have hcL : M_19 4 = some (ad 4, .inr (4, [.int bg, .int (nI cn), .ref (ad 6), .ref (ad 7), .ref (ad 8), .ref (ad 9), .ref (ad 10), .ref (ad 11), .ref (ad 12)])) := by rw [hM_19, xu_n (by omega)]; exact hcL
            have hc5 : M_19 5 = some (ad 5, .inr (2, [.long fa, .long fb])) := by rw [hM_19, xu_n (by omega)]; exact hc5
            have hc6 : M_19 6 = some (ad 6, .inl (G.2 0, 625, .inl (fun k => nI (zs k)))) := by rw [hM_19, xu_n (by omega)]; exact hc6
            have hc7 : M_19 7 = some (ad 7, .inl (G.2 0, 625, .inl (fun k => nI (os k)))) := by rw [hM_19, xu_n (by omega)]; exact hc7
            have hc8 : M_19 8 = some (ad 8, .inl (G.2 1, 625, .inr (.inl (fun k => lN (ab k))))) := by rw [hM_19, xu_n (by omega)]; exact hc8
            have hc9 : M_19 9 = some (ad 9, .inl (G.2 1, 625, .inr (.inl (fun k => lN (bl k))))) := by rw [hM_19, xu_n (by omega)]; exact hc9
            have hc10 : M_19 10 = some (ad 10, .inl (G.2 0, 625, .inl (fun k => nI (od k)))) := by rw [hM_19, xu_n (by omega)]; exact hc10
            have hc11 : M_19 11 = some (ad 11, .inl (G.2 0, 625, .inl (fun k => nI (sp k)))) := by rw [hM_19, xu_n (by omega)]; exact hc11
            have hc12 : M_19 12 = some (ad 12, .inl (G.2 2, 51, .inl (fun k => nI (pr k)))) := by rw [hM_19, xu_n (by omega)]; exact hc12
            have hn0i : M_19 (100 + 3 * i) = some (ad (100 + 3 * i), .inr (5, [.int (sd i), .int (nI 1), .ref (ad (100 + 3 * i + 1)), .ref (ad (100 + 3 * i + 2)), .int (nI (tc i)), .int (dt i), .long (fd i), .long (ld i)])) := by rw [hM_19, xu_n (by omega)]; exact hn0i
            have hn1i : M_19 (100 + 3 * i + 1) = some (ad (100 + 3 * i + 1), .inl (G.2 0, 8, .inl (tk i))) := by rw [hM_19, xu_n (by omega)]; exact hn1i
            have hn2i : M_19 (100 + 3 * i + 2) = some (ad (100 + 3 * i + 2), .inl (G.2 0, 8, .inl (kd i))) := by rw [hM_19, xu_n (by omega)]; exact hn2i
            have hn1j : M_19 (100 + 3 * j + 1) = some (ad (100 + 3 * j + 1), .inl (G.2 0, 8, .inl (tk j))) := by rw [hM_19, xu_n (by omega)]; exact hn1j
            have hn2j : M_19 (100 + 3 * j + 2) = some (ad (100 + 3 * j + 2), .inl (G.2 0, 8, .inl (kd j))) := by rw [hM_19, xu_n (by omega)]; exact hn2j
            have hjj : M_19 (300 + jc) = some (q_12, .inr (3, [.ref (ad (100 + 3 * i)), .ref (ad (100 + 3 * j)), .int (nI 0)])) := by rw [hM_19, xu_n (by omega)]; exact hjj
            have hn0j : M_19 (100 + 3 * j) = some (ad (100 + 3 * j), .inr (5, [.int (sd j), .int (nI 1), .ref (ad (100 + 3 * j + 1)), .ref (ad (100 + 3 * j + 2)), .int (nI (tc j)), .int (dt j), .long (fd j), .long (ld j)])) := by rw [hM_19]; exact xu_s
            refine lv_aload_n hx hb dX4_join_92 rfl (lv_at hl 2 rfl) ?_
            refine x_get (ci := 6) (v := .int (nI (jc + 1))) (C := RX4) (T := TX4) (N := 7) hx hb hts inX4 hown hK hX hc0 rfl 4 (by decide) lk_fieldLink_31 (fun _ h9 => h9) rfl dX4_join_93 ?_
            refine W.widen (k := 1) (n := 3) (by omega) (by omega) ?_
            exact x_iret hx hb hr hlocks hK hA hX hS dX4_join_96 (Or.inl ⟨i, j, hi, hj, ⟨epi, epj⟩, c_5, ⟨hmi, hmj⟩, rfl, q_12, by rw [hM_19, hM_18, hM_17, hM_16, hMi, hM_13, x_uu]⟩)
          · have hmj := x_if0 er_9 c_11
            refine lv_iconst (v := nI 0) hx hb dX4_join_50 (by decide) ?_
            refine W.widen (k := 1) (n := 3) (by omega) (by omega) ?_
            exact x_iret hx hb hr hlocks hK hA hX hS dX4_join_51 (Or.inr ⟨fun q => by obtain ⟨i9, j9, hi9, hj9, ⟨e1, e2⟩, hjc9, hh9⟩ := q; have z := (nI_eq (a := j + 1) (b := j9 + 1) (by omega) (by omega)).mp (epj.symm.trans e2); rw [show j = j9 by omega] at hmj; exact hmj hh9.2, rfl, rfl⟩)
      · have c_5 : ¬ (jc < 100) := fun q => c_5 ((nI_ltI (by omega) (by omega)).mpr q)
        refine lv_iconst (v := nI 0) hx hb dX4_join_31 (by decide) ?_
        refine W.widen (k := 1) (n := 3) (by omega) (by omega) ?_
        exact x_iret hx hb hr hlocks hK hA hX hS dX4_join_32 (Or.inr ⟨fun q => by obtain ⟨i9, j9, hi9, hj9, ⟨e1, e2⟩, hjc9, hh9⟩ := q; omega, rfl, rfl⟩)
    · subst erj
      refine x_rv (y := .null) rfl ?_
      refine lv_astoreN (lv' := [(4, .null), (3, .ref (ad (100 + 3 * i))), (0, .ref (ad 0)), (1, .int p0), (2, .int p1)]) hx hb dX4_join_11 hl (by decide) rfl (fun ls hl => ?_)
      refine lv_aload_n hx hb dX4_join_13 rfl (lv_at hl 1 rfl) ?_
      refine lv_ifnull hx hb dX4_join_14 ?_
      refine lv_aloadN hx hb dX4_join_17 (lv_at hl 0 rfl) ?_
      refine lv_ifnullN (tgt := 31) hx hb dX4_join_19 (by decide) ?_
      refine lv_iconst (v := nI 0) hx hb dX4_join_31 (by decide) ?_
      refine W.widen (k := 1) (n := 3) (by omega) (by omega) ?_
      exact x_iret hx hb hr hlocks hK hA hX hS dX4_join_32 (Or.inr ⟨fun q => by obtain ⟨i9, j9, hi9, hj9, ⟨e1, e2⟩, hjc9, hh9⟩ := q; exact epj.elim (fun z => by rw [e2] at z; have := (nI_ltI (by omega) (by omega)).mp z; omega) (fun z => z (by rw [e2]; exact (nI_leI (by omega) (by omega)).mpr (by omega))), rfl, rfl⟩)
  · subst eri
    refine x_rv (y := .null) rfl ?_
    refine lv_astore_nN (lv' := [(3, .null), (0, .ref (ad 0)), (1, .int p0), (2, .int p1)]) hx hb dX4_join_5 rfl hl (by decide) rfl (fun ls hl => ?_)
    refine lv_aload_n hx hb dX4_join_6 rfl (lv_at hl 1 rfl) ?_
    refine lv_iload_n hx hb dX4_join_7 rfl (lv_at hl 3 rfl) ?_
    refine x_callq (x_runV (q := (RX4, TX4, 7)) (As := [.int p1]) (rest := []) ⟨hx, hb, hml, hown, hts⟩ (ctX4_find l G A M hRR p1 hnc) (cwV 1 hts gX4_join_X4_find rfl rfl rfl (by decide +kernel) ⟨Nat.le_of_ble_eq_true rfl, Nat.le_of_ble_eq_true rfl⟩) hK hA hX hS hc0 rfl rfl hl.1 rfl (lv_room (Nat.le_of_ble_eq_true rfl)) dX4_join_8 ⟨by decide, by decide⟩) hS (fun r_20 M_21 H locs hp hX hS => ?_)
    obtain ⟨hM_, hq_r_20⟩ := hp
    rw [hM_] at hX
    rcases hq_r_20 with ⟨j, hj, epj, erj⟩ | ⟨epj, erj⟩
    · subst erj
      obtain ⟨hn0j, hn1j, hn2j⟩ := hnm j hj
      refine x_rv (y := .ref (ad (100 + 3 * j))) rfl ?_
      refine lv_astore (lv' := [(4, .ref (ad (100 + 3 * j))), (3, .null), (0, .ref (ad 0)), (1, .int p0), (2, .int p1)]) hx hb dX4_join_11 hl (by decide) rfl (fun ls hl => ?_)
      refine lv_aload_nN hx hb dX4_join_13 rfl (lv_at hl 1 rfl) ?_
      refine lv_ifnullN (tgt := 31) hx hb dX4_join_14 (by decide) ?_
      refine lv_iconst (v := nI 0) hx hb dX4_join_31 (by decide) ?_
      refine W.widen (k := 1) (n := 3) (by omega) (by omega) ?_
      exact x_iret hx hb hr hlocks hK hA hX hS dX4_join_32 (Or.inr ⟨fun q => by obtain ⟨i9, j9, hi9, hj9, ⟨e1, e2⟩, hjc9, hh9⟩ := q; exact epi.elim (fun z => by rw [e1] at z; have := (nI_ltI (by omega) (by omega)).mp z; omega) (fun z => z (by rw [e1]; exact (nI_leI (by omega) (by omega)).mpr (by omega))), rfl, rfl⟩)
    · subst erj
      refine x_rv (y := .null) rfl ?_
      refine lv_astoreN (lv' := [(4, .null), (3, .null), (0, .ref (ad 0)), (1, .int p0), (2, .int p1)]) hx hb dX4_join_11 hl (by decide) rfl (fun ls hl => ?_)
      refine lv_aload_nN hx hb dX4_join_13 rfl (lv_at hl 1 rfl) ?_
      refine lv_ifnullN (tgt := 31) hx hb dX4_join_14 (by decide) ?_
      refine lv_iconst (v := nI 0) hx hb dX4_join_31 (by decide) ?_
      refine W.widen (k := 1) (n := 3) (by omega) (by omega) ?_
      exact x_iret hx hb hr hlocks hK hA hX hS dX4_join_32 (Or.inr ⟨fun q => by obtain ⟨i9, j9, hi9, hj9, ⟨e1, e2⟩, hjc9, hh9⟩ := q; exact epi.elim (fun z => by rw [e1] at z; have := (nI_ltI (by omega) (by omega)).mp z; omega) (fun z => z (by rw [e1]; exact (nI_leI (by omega) (by omega)).mpr (by omega))), rfl, rfl⟩)

abbrev rmX4_undo : Room := { frames := 1, cells := 0, slots := 0, locals := 20 }
set_option maxHeartbeats 4000000 in
set_option maxRecDepth 100000 in
/-- undo -/
theorem ctX4_undo (l : Launch) (G : xG) (A : Nat → Prop) (M : xM) {ad : Nat → Nat} {nc : Nat} {sd : Nat → Int32} {jn : Nat → Int32} {tc : Nat → Nat} {dt : Nat → Int32} {fd : Nat → Int64} {ld : Nat → Int64} {tk : Nat → Nat → Int32} {kd : Nat → Nat → Int32} {wn : Nat → Nat} {jc : Nat} {jz : Nat → Nat} {jo : Nat → Nat} {ju : Nat → Int32} {bg : Int32} {cn : Nat} {zs : Nat → Nat} {os : Nat → Nat} {ab : Nat → Nat} {bl : Nat → Nat} {od : Nat → Nat} {sp : Nat → Nat} {pr : Nat → Nat} {fa : Int64} {fb : Int64} (hR : xRec G M ad nc sd jn tc dt fd ld tk kd wn jc jz jo ju bg cn zs os ab bl od sp pr fa fb) (p0 : Int32) (hnc : nc ≤ 50) (hjc : jc ≤ 100) (hjk : ∀ j, j < jc → jz j < nc ∧ jo j < nc ∧ jz j ≠ jo j) : Met l yX4_undo wsX4_undo rmX4_undo (va_Pc ([.ref (ad 0), .int p0] : List Value) (xPc G A M)) (va_Qi (fun r M1 => (∃ i, i < jc ∧ p0 = nI (i + 1) ∧ ju i = 0 ∧ r = nI 1 ∧ M1 = xu (xu (xu M (300 + i) (ad (300 + i), .inr (3, [.ref (ad (100 + 3 * jz i)), .ref (ad (100 + 3 * jo i)), .int (nI 1)]))) (100 + 3 * jz i) (ad (100 + 3 * jz i), .inr (5, [.int (sd (jz i)), .int (nI 0), .ref (ad (100 + 3 * (jz i) + 1)), .ref (ad (100 + 3 * (jz i) + 2)), .int (nI (tc (jz i))), .int (dt (jz i)), .long (fd (jz i)), .long (ld (jz i))]))) (100 + 3 * jo i) (ad (100 + 3 * jo i), .inr (5, [.int (sd (jo i)), .int (nI 0), .ref (ad (100 + 3 * (jo i) + 1)), .ref (ad (100 + 3 * (jo i) + 2)), .int (nI (tc (jo i))), .int (dt (jo i)), .long (fd (jo i)), .long (ld (jo i))]))) ∨ (((p0 < nI 1 ∨ ¬ p0 ≤ nI jc) ∨ ∃ i, i < jc ∧ p0 = nI (i + 1) ∧ ¬ ju i = 0) ∧ r = nI 0 ∧ M1 = M)) (xPc G A) A) 0 0 A := by
  refine x_met (cc := cX4_undo) (maxL := 3) (ret := (some .int)) RX4 (by decide) rfl (Nat.le_of_ble_eq_true rfl) rfl ?_
  intro p e s m below meth c hx hb hr hts hown hlocks hml hin hK hA hX ls hl
  have inX1 : ∀ w ∈ wsX10, w ∈ wsX4_undo := by decide +kernel
  have inX4 : ∀ w ∈ wsX40, w ∈ wsX4_undo := by decide +kernel
  have lk_fieldLink_31 := hts (.fieldLink RX4 31 "Reconcile" "joinCount" "I") (by decide +kernel)
  have lk_fieldLink_27 := hts (.fieldLink RX4 27 "Reconcile" "joins" "[LReconcile$Join;") (by decide +kernel)
  have lk_fieldLink_135 := hts (.fieldLink RX4 135 "Reconcile$Join" "undone" "Z") (by decide +kernel)
  have hS : va_S A s.heap s.heap [] := va_S.rf
  have hl : lv_has ls 3 [(0, .ref (ad 0)), (1, .int p0)] := hl
  obtain ⟨hc0, hc1, hc2, hc3, hcL, hc5, hc6, hc7, hc8, hc9, hc10, hc11, hc12, hnm, hjn⟩ := hR
  refine lv_iload_n hx hb dX4_undo_0 rfl (lv_at hl 1 rfl) ?_
  refine lv_iconst (v := nI 1) hx hb dX4_undo_1 (by decide) ?_
  refine lv_icmp_lt (tgt := 13) hx hb dX4_undo_2 (by decide) (fun c_1 => ?_) (fun c_1 => ?_)
  · refine lv_iconst (v := nI 0) hx hb dX4_undo_13 (by decide) ?_
    exact x_iret hx hb hr hlocks hK hA hX hS dX4_undo_14 (Or.inr ⟨Or.inl (Or.inl c_1), rfl, rfl⟩)
  · refine lv_iload_n hx hb dX4_undo_5 rfl (lv_at hl 1 rfl) ?_
    refine lv_aload_n hx hb dX4_undo_6 rfl (lv_at hl 0 rfl) ?_
    refine x_get (ci := 6) (v := .int (nI jc)) (C := RX4) (T := TX4) (N := 7) hx hb hts inX4 hown hK hX hc0 rfl 4 (by decide) lk_fieldLink_31 (fun _ h9 => h9) rfl dX4_undo_7 ?_
    refine lv_icmp_le (tgt := 15) hx hb dX4_undo_10 (by decide) (fun c_2 => ?_) (fun c_2 => ?_)
    · obtain ⟨i, hi, ep⟩ := x_p1 (by omega) c_1 c_2
      subst ep
      refine lv_aload_n hx hb dX4_undo_15 rfl (lv_at hl 0 rfl) ?_
      refine x_get (ci := 6) (v := .ref (ad 3)) (C := RX4) (T := TX4) (N := 7) hx hb hts inX4 hown hK hX hc0 rfl 3 (by decide) lk_fieldLink_27 (fun _ h9 => h9) rfl dX4_undo_16 ?_
      refine lv_iload_n hx hb dX4_undo_19 rfl (lv_at hl 1 rfl) ?_
      refine lv_iconst (v := nI 1) hx hb dX4_undo_20 (by decide) ?_
      refine lv_isub hx hb dX4_undo_21 ?_
      refine x_ri (pk_sub (by omega)) ?_
      refine x_ri (y := nI i) (congrArg nI (by omega)) ?_
      refine x_aN hx hb hK hX 4 rfl hc3 (by omega) (by decide) dX4_undo_22 ?_
      rw [if_pos hi]
      refine x_rv (y := .ref (ad (300 + i))) rfl ?_
      have hj := hjn i hi
      obtain ⟨hz, ho, hzo⟩ := hjk i hi
      obtain ⟨hn0z, hn1z, hn2z⟩ := hnm (jz i) hz
      obtain ⟨hn0o, hn1o, hn2o⟩ := hnm (jo i) ho
      refine lv_astore_n (lv' := [(2, .ref (ad (300 + i))), (0, .ref (ad 0)), (1, .int (nI (i + 1)))]) hx hb dX4_undo_23 rfl hl (by decide) rfl (fun ls hl => ?_)
      refine lv_aload_n hx hb dX4_undo_24 rfl (lv_at hl 0 rfl) ?_
      refine lv_ifnull hx hb dX4_undo_25 ?_
      refine lv_aload_n hx hb dX4_undo_28 rfl (lv_at hl 0 rfl) ?_
      refine x_get (ci := 3) (v := .int (ju i)) (C := RX1) (T := TX1) (N := 3) hx hb hts inX1 hown hK hX hj rfl 2 (by decide) lk_fieldLink_135 (fun _ h9 => h9) rfl dX4_undo_29 ?_
      refine lv_if_eq (tgt := 37) hx hb dX4_undo_32 (by decide) (fun c_3 => ?_) (fun c_3 => ?_)
      · refine lv_aload_n hx hb dX4_undo_37 rfl (lv_at hl 0 rfl) ?_
        refine x_callv (x_runV (q := (RX1, TX1, 3)) (As := []) (rest := []) ⟨hx, hb, hml, hown, hts⟩ (ctX1_takeBack l G A M (tk := tk 0) (kd := kd 0) (tk_ := tk 0) (kd_ := kd 0) hn0z hn0o hj (by omega) (by omega) (by omega)) (cwV 0 hts gX4_undo_X1_takeBack rfl rfl rfl (by decide +kernel) ⟨Nat.le_of_ble_eq_true rfl, Nat.le_of_ble_eq_true rfl⟩) hK hA hX hS hj rfl rfl hl.1 rfl (lv_room (Nat.le_of_ble_eq_true rfl)) dX4_undo_38 ⟨by decide, by decide⟩) hS (fun M_5 H locs hp hX hS => ?_)
        refine lv_iconst (v := nI 1) hx hb dX4_undo_41 (by decide) ?_
        exact x_iret hx hb hr hlocks hK hA hX hS dX4_undo_42 (Or.inl ⟨i, hi, rfl, c_3, rfl, hp⟩)
      · refine lv_iconst (v := nI 0) hx hb dX4_undo_35 (by decide) ?_
        exact x_iret hx hb hr hlocks hK hA hX hS dX4_undo_36 (Or.inr ⟨Or.inr ⟨i, hi, rfl, c_3⟩, rfl, rfl⟩)
    · refine lv_iconst (v := nI 0) hx hb dX4_undo_13 (by decide) ?_
      exact x_iret hx hb hr hlocks hK hA hX hS dX4_undo_14 (Or.inr ⟨Or.inl (Or.inr c_2), rfl, rfl⟩)
end
section
/-! Reconcile: the run -/
abbrev xLi : Type := Nat × (Nat → Nat) × (Nat → Nat) × (Nat → Nat) × (Nat → Nat) × (Nat → Nat) × (Nat → Nat)
def cShr (dt : Nat → Int32) (fd ld : Nat → Int64) (i j : Nat) : Prop := (¬ dt i = 0 ∧ ¬ dt j = 0) ∧ ¬ ld j < fd i ∧ ¬ ld i < fd j
def cU (tc : Nat → Nat) (dt : Nat → Int32) (fd ld : Nat → Int64) (tk kd : Nat → Nat → Int32) (wn : Nat → Nat) (i j : Nat) : Nat := if (¬ dt i = 0 ∧ ¬ dt j = 0) ∧ ¬ ld j < fd i ∧ ¬ ld i < fd j then xSh (tk i) (kd i) (tk j) (kd j) (tc j) wn (tc i) + wn 3 else xSh (tk i) (kd i) (tk j) (kd j) (tc j) wn (tc i)
def cD (tc : Nat → Nat) (dt : Nat → Int32) (tk kd : Nat → Nat → Int32) (wn : Nat → Nat) (i j : Nat) : Nat := if ¬ dt i = 0 ∧ ¬ dt j = 0 then xAll (kd i) wn (tc i) + xAll (kd j) wn (tc j) - xSh (tk i) (kd i) (tk j) (kd j) (tc j) wn (tc i) + wn 3 else xAll (kd i) wn (tc i) + xAll (kd j) wn (tc j) - xSh (tk i) (kd i) (tk j) (kd j) (tc j) wn (tc i)
def cMay (sd jn : Nat → Int32) (tc : Nat → Nat) (p : Int32) (i : Nat) : Prop := sd i = p ∧ 0 < tc i ∧ jn i = 0
/-- a pair is listed -/
def cIs (sd jn : Nat → Int32) (tc : Nat → Nat) (dt : Nat → Int32) (fd ld : Nat → Int64) (tk kd : Nat → Nat → Int32) (wn : Nat → Nat) (i j : Nat) : Prop := (cMay sd jn tc (nI 0) i ∧ cMay sd jn tc (nI 1) j) ∧ 0 < cD tc dt tk kd wn i j ∧ cD tc dt tk kd wn i j ≤ 2 * cU tc dt fd ld tk kd wn i j
def cAdd (U D : Nat → Nat → Nat) (i j : Nat) (L : xLi) : xLi := (L.1 + 1, va_up L.2.1 L.1 (i + 1), va_up L.2.2.1 L.1 (j + 1), va_up L.2.2.2.1 L.1 (U i j), va_up L.2.2.2.2.1 L.1 (D i j), va_up L.2.2.2.2.2.1 L.1 L.1, va_up (va_up L.2.2.2.2.2.2 (i + 1) 1) (j + 1) 1)
noncomputable def cStep (C : Nat → Nat → Prop) (U D : Nat → Nat → Nat) (i j : Nat) (L : xLi) : xLi := @ite _ (C i j) (Classical.propDecidable _) (cAdd U D i j L) L
noncomputable def cRow (C : Nat → Nat → Prop) (U D : Nat → Nat → Nat) (i : Nat) : Nat → xLi → xLi
  | 0, L => L
  | j + 1, L => cStep C U D i j (cRow C U D i j L)
noncomputable def cAll (C : Nat → Nat → Prop) (U D : Nat → Nat → Nat) (n : Nat) : Nat → xLi → xLi
  | 0, L => L
  | i + 1, L => cRow C U D i n (cAll C U D n i L)
theorem cStep_t {C : Nat → Nat → Prop} {U D : Nat → Nat → Nat} {i j : Nat} {L : xLi} (h : C i j) : cStep C U D i j L = cAdd U D i j L := if_pos h
theorem cStep_f {C : Nat → Nat → Prop} {U D : Nat → Nat → Nat} {i j : Nat} {L : xLi} (h : ¬ C i j) : cStep C U D i j L = L := if_neg h
theorem cRow_skip {C : Nat → Nat → Prop} {U D : Nat → Nat → Nat} {i : Nat} {L : xLi} (h : ∀ j, ¬ C i j) : ∀ n, cRow C U D i n L = L
  | 0 => rfl
  | n + 1 => by show cStep C U D i n (cRow C U D i n L) = L; rw [cStep_f (h n), cRow_skip h n]
/-- how many of the first n have a side -/
def cnt (sd : Nat → Int32) (p : Int32) : Nat → Nat
  | 0 => 0
  | n + 1 => cnt sd p n + if sd n = p then 1 else 0
theorem cnt_le {sd : Nat → Int32} : ∀ n, cnt sd (nI 0) n + cnt sd (nI 1) n ≤ n
  | 0 => Nat.le_refl _
  | n + 1 => by
    have h := cnt_le (sd := sd) n
    have hne : ¬ (nI 0 = nI 1) := by decide
    simp only [cnt]
    by_cases h0 : sd n = nI 0
    · rw [if_pos h0, if_neg (fun q => hne (h0.symm.trans q))]; omega
    · rw [if_neg h0]; split <;> omega
theorem cnt_mono {sd : Nat → Int32} {p : Int32} {a b : Nat} (h : a ≤ b) : cnt sd p a ≤ cnt sd p b := by
  induction b with
  | zero => rw [show a = 0 by omega]; exact Nat.le_refl _
  | succ b ih =>
    rcases Nat.lt_or_ge a (b + 1) with q | q
    · have := ih (by omega)
      simp only [cnt]
      omega
    · rw [show a = b + 1 by omega]; exact Nat.le_refl _
theorem cnt_s {sd : Nat → Int32} {p : Int32} {n : Nat} (h : sd n = p) : cnt sd p (n + 1) = cnt sd p n + 1 := by simp only [cnt, if_pos h]
theorem pq_625 : ∀ p, p < 51 → p * (50 - p) ≤ 625 := by decide
theorem cRow_n {C : Nat → Nat → Prop} {U D : Nat → Nat → Nat} {sd : Nat → Int32} (hC : ∀ i j, C i j → sd i = nI 0 ∧ sd j = nI 1) {i : Nat} {L : xLi} : ∀ n, (cRow C U D i n L).1 ≤ L.1 + cnt sd (nI 1) n ∧ (¬ sd i = nI 0 → (cRow C U D i n L).1 = L.1)
  | 0 => ⟨Nat.le_add_right _ _, fun _ => rfl⟩
  | n + 1 => by
    obtain ⟨h1, h2⟩ := cRow_n hC (i := i) (L := L) (U := U) (D := D) n
    show (cStep C U D i n (cRow C U D i n L)).1 ≤ _ ∧ (_ → (cStep C U D i n (cRow C U D i n L)).1 = _)
    by_cases h : C i n
    · rw [cStep_t h, cnt_s (hC i n h).2]
      exact ⟨by show (cRow C U D i n L).1 + 1 ≤ _; omega, fun q => absurd (hC i n h).1 q⟩
    · rw [cStep_f h]
      have := cnt_mono (sd := sd) (p := nI 1) (show n ≤ n + 1 by omega)
      exact ⟨by omega, h2⟩
theorem cAll_n {C : Nat → Nat → Prop} {U D : Nat → Nat → Nat} {sd : Nat → Int32} (hC : ∀ i j, C i j → sd i = nI 0 ∧ sd j = nI 1) {n : Nat} {L : xLi} (h0 : L.1 = 0) : ∀ i, (cAll C U D n i L).1 ≤ cnt sd (nI 0) i * cnt sd (nI 1) n
  | 0 => by show L.1 ≤ _; omega
  | i + 1 => by
    have h := cAll_n hC (n := n) (U := U) (D := D) h0 i
    obtain ⟨h1, h2⟩ := cRow_n hC (i := i) (L := cAll C U D n i L) (U := U) (D := D) n
    show (cRow C U D i n (cAll C U D n i L)).1 ≤ _
    by_cases q : sd i = nI 0
    · rw [cnt_s q, Nat.add_mul, Nat.one_mul]; omega
    · rw [h2 q]
      have := Nat.mul_le_mul_right (cnt sd (nI 1) n) (cnt_mono (sd := sd) (p := nI 0) (show i ≤ i + 1 by omega))
      omega
/-- room for one more -/
theorem cRow_lt {C : Nat → Nat → Prop} {U D : Nat → Nat → Nat} {sd : Nat → Int32} (hC : ∀ i j, C i j → sd i = nI 0 ∧ sd j = nI 1) {n i j : Nat} {L : xLi} (h0 : L.1 = 0) (hn : n ≤ 50) (hi : i < n) (hj : j < n) (h : sd i = nI 0 ∧ sd j = nI 1) : (cRow C U D i j (cAll C U D n i L)).1 < 625 := by
  have h1 := cAll_n hC (n := n) (U := U) (D := D) h0 i
  have h2 := (cRow_n hC (i := i) (L := cAll C U D n i L) (U := U) (D := D) j).1
  have h3 := cnt_mono (sd := sd) (p := nI 1) (show j + 1 ≤ n by omega)
  have h4 := cnt_mono (sd := sd) (p := nI 0) (show i + 1 ≤ n by omega)
  rw [cnt_s h.2] at h3
  rw [cnt_s h.1] at h4
  have h5 := cnt_le (sd := sd) n
  have h6 := pq_625 (cnt sd (nI 0) n) (by omega)
  have h7 : cnt sd (nI 0) n * cnt sd (nI 1) n ≤ cnt sd (nI 0) n * (50 - cnt sd (nI 0) n) := Nat.mul_le_mul_left _ (by omega)
  have h8 : (cnt sd (nI 0) i + 1) * cnt sd (nI 1) n ≤ cnt sd (nI 0) n * cnt sd (nI 1) n := Nat.mul_le_mul_right _ h4
  rw [Nat.add_mul, Nat.one_mul] at h8
  omega
theorem cAll_le {C : Nat → Nat → Prop} {U D : Nat → Nat → Nat} {sd : Nat → Int32} (hC : ∀ i j, C i j → sd i = nI 0 ∧ sd j = nI 1) {n i : Nat} {L : xLi} (h0 : L.1 = 0) (hn : n ≤ 50) (hi : i ≤ n) : (cAll C U D n i L).1 ≤ 625 := by
  have h1 := cAll_n hC (n := n) (U := U) (D := D) h0 i
  have h4 := cnt_mono (sd := sd) (p := nI 0) hi
  have h5 := cnt_le (sd := sd) n
  have h6 := pq_625 (cnt sd (nI 0) n) (by omega)
  have h7 : cnt sd (nI 0) n * cnt sd (nI 1) n ≤ cnt sd (nI 0) n * (50 - cnt sd (nI 0) n) := Nat.mul_le_mul_left _ (by omega)
  have h8 : cnt sd (nI 0) i * cnt sd (nI 1) n ≤ cnt sd (nI 0) n * cnt sd (nI 1) n := Nat.mul_le_mul_right _ h4
  omega
theorem cU_le {tc : Nat → Nat} {dt : Nat → Int32} {fd ld : Nat → Int64} {tk kd : Nat → Nat → Int32} {wn : Nat → Nat} {i j : Nat} (hw : ∀ k, wn k ≤ 252000) (hi : tc i ≤ 8) : cU tc dt fd ld tk kd wn i j < 1000000000 := by
  have h1 := xSh_le (tk := tk i) (kd := kd i) (otk := tk j) (okd := kd j) (otc := tc j) (wn := wn) (tc i)
  have h2 := xAll_le (kd := kd i) hw (tc i)
  have h3 := hw 3
  have h4 : tc i * 252000 ≤ 8 * 252000 := Nat.mul_le_mul_right _ hi
  unfold cU
  split <;> omega
theorem cD_le {tc : Nat → Nat} {dt : Nat → Int32} {tk kd : Nat → Nat → Int32} {wn : Nat → Nat} {i j : Nat} (hw : ∀ k, wn k ≤ 252000) (hi : tc i ≤ 8) (hj : tc j ≤ 8) : cD tc dt tk kd wn i j < 1000000000 := by
  have h2 := xAll_le (kd := kd i) hw (tc i)
  have h5 := xAll_le (kd := kd j) hw (tc j)
  have h3 := hw 3
  have h4 : tc i * 252000 ≤ 8 * 252000 := Nat.mul_le_mul_right _ hi
  have h6 : tc j * 252000 ≤ 8 * 252000 := Nat.mul_le_mul_right _ hj
  unfold cD
  split <;> omega

theorem xRec_add {G : xG} {M : xM} {ad : Nat → Nat} {nc : Nat} {sd : Nat → Int32} {jn : Nat → Int32} {tc : Nat → Nat} {dt : Nat → Int32} {fd : Nat → Int64} {ld : Nat → Int64} {tk : Nat → Nat → Int32} {kd : Nat → Nat → Int32} {wn : Nat → Nat} {jc : Nat} {jz : Nat → Nat} {jo : Nat → Nat} {ju : Nat → Int32} {bg : Int32} {cn : Nat} {zs : Nat → Nat} {os : Nat → Nat} {ab : Nat → Nat} {bl : Nat → Nat} {od : Nat → Nat} {sp : Nat → Nat} {pr : Nat → Nat} {fa : Int64} {fb : Int64} {z o an bn : Nat} (hR : xRec G M ad nc sd jn tc dt fd ld tk kd wn jc jz jo ju bg cn zs os ab bl od sp pr fa fb) : xRec G (xu (xu (xu (xu (xu (xu (xu M 6 (ad 6, .inl (G.2 0, 625, .inl (fun k => nI ((va_up zs cn z) k))))) 7 (ad 7, .inl (G.2 0, 625, .inl (fun k => nI ((va_up os cn o) k))))) 8 (ad 8, .inl (G.2 1, 625, .inr (.inl (fun k => lN ((va_up ab cn an) k)))))) 9 (ad 9, .inl (G.2 1, 625, .inr (.inl (fun k => lN ((va_up bl cn bn) k)))))) 10 (ad 10, .inl (G.2 0, 625, .inl (fun k => nI ((va_up od cn cn) k))))) 12 (ad 12, .inl (G.2 2, 51, .inl (fun k => nI ((va_up (va_up pr z 1) o 1) k))))) 4 (ad 4, .inr (4, [.int bg, .int (nI (cn + 1)), .ref (ad 6), .ref (ad 7), .ref (ad 8), .ref (ad 9), .ref (ad 10), .ref (ad 11), .ref (ad 12)]))) ad nc sd jn tc dt fd ld tk kd wn jc jz jo ju bg (cn + 1) (va_up zs cn z) (va_up os cn o) (va_up ab cn an) (va_up bl cn bn) (va_up od cn cn) sp (va_up (va_up pr z 1) o 1) fa fb := by
  obtain ⟨hc0, hc1, hc2, hc3, hcL, hc5, hc6, hc7, hc8, hc9, hc10, hc11, hc12, hnm, hjn⟩ := hR
  exact ⟨by rw [xu_n (by omega), xu_n (by omega), xu_n (by omega), xu_n (by omega), xu_n (by omega), xu_n (by omega), xu_n (by omega)]; exact hc0,
    by rw [xu_n (by omega), xu_n (by omega), xu_n (by omega), xu_n (by omega), xu_n (by omega), xu_n (by omega), xu_n (by omega)]; exact hc1,
    by rw [xu_n (by omega), xu_n (by omega), xu_n (by omega), xu_n (by omega), xu_n (by omega), xu_n (by omega), xu_n (by omega)]; exact hc2,
    by rw [xu_n (by omega), xu_n (by omega), xu_n (by omega), xu_n (by omega), xu_n (by omega), xu_n (by omega), xu_n (by omega)]; exact hc3,
    by exact xu_s,
    by rw [xu_n (by omega), xu_n (by omega), xu_n (by omega), xu_n (by omega), xu_n (by omega), xu_n (by omega), xu_n (by omega)]; exact hc5,
    by rw [xu_n (by omega), xu_n (by omega), xu_n (by omega), xu_n (by omega), xu_n (by omega), xu_n (by omega)]; exact xu_s,
    by rw [xu_n (by omega), xu_n (by omega), xu_n (by omega), xu_n (by omega), xu_n (by omega)]; exact xu_s,
    by rw [xu_n (by omega), xu_n (by omega), xu_n (by omega), xu_n (by omega)]; exact xu_s,
    by rw [xu_n (by omega), xu_n (by omega), xu_n (by omega)]; exact xu_s,
    by rw [xu_n (by omega), xu_n (by omega)]; exact xu_s,
    by rw [xu_n (by omega), xu_n (by omega), xu_n (by omega), xu_n (by omega), xu_n (by omega), xu_n (by omega), xu_n (by omega)]; exact hc11,
    by rw [xu_n (by omega)]; exact xu_s,
    fun i hi => ⟨by rw [xu_n (by omega), xu_n (by omega), xu_n (by omega), xu_n (by omega), xu_n (by omega), xu_n (by omega), xu_n (by omega)]; exact (hnm i hi).1, by rw [xu_n (by omega), xu_n (by omega), xu_n (by omega), xu_n (by omega), xu_n (by omega), xu_n (by omega), xu_n (by omega)]; exact (hnm i hi).2.1, by rw [xu_n (by omega), xu_n (by omega), xu_n (by omega), xu_n (by omega), xu_n (by omega), xu_n (by omega), xu_n (by omega)]; exact (hnm i hi).2.2⟩,
    fun j hj => by rw [xu_n (by omega), xu_n (by omega), xu_n (by omega), xu_n (by omega), xu_n (by omega), xu_n (by omega), xu_n (by omega)]; exact hjn j hj⟩

theorem xRec_frac {G : xG} {M : xM} {ad : Nat → Nat} {nc : Nat} {sd : Nat → Int32} {jn : Nat → Int32} {tc : Nat → Nat} {dt : Nat → Int32} {fd : Nat → Int64} {ld : Nat → Int64} {tk : Nat → Nat → Int32} {kd : Nat → Nat → Int32} {wn : Nat → Nat} {jc : Nat} {jz : Nat → Nat} {jo : Nat → Nat} {ju : Nat → Int32} {bg : Int32} {cn : Nat} {zs : Nat → Nat} {os : Nat → Nat} {ab : Nat → Nat} {bl : Nat → Nat} {od : Nat → Nat} {sp : Nat → Nat} {pr : Nat → Nat} {fa : Int64} {fb : Int64} {fa9 fb9 : Int64} (hR : xRec G M ad nc sd jn tc dt fd ld tk kd wn jc jz jo ju bg cn zs os ab bl od sp pr fa fb) : xRec G (xu M 5 (ad 5, .inr (2, [.long fa9, .long fb9]))) ad nc sd jn tc dt fd ld tk kd wn jc jz jo ju bg cn zs os ab bl od sp pr fa9 fb9 := by
  obtain ⟨hc0, hc1, hc2, hc3, hcL, hc5, hc6, hc7, hc8, hc9, hc10, hc11, hc12, hnm, hjn⟩ := hR
  exact ⟨by rw [xu_n (by omega)]; exact hc0,
    by rw [xu_n (by omega)]; exact hc1,
    by rw [xu_n (by omega)]; exact hc2,
    by rw [xu_n (by omega)]; exact hc3,
    by rw [xu_n (by omega)]; exact hcL,
    by exact xu_s,
    by rw [xu_n (by omega)]; exact hc6,
    by rw [xu_n (by omega)]; exact hc7,
    by rw [xu_n (by omega)]; exact hc8,
    by rw [xu_n (by omega)]; exact hc9,
    by rw [xu_n (by omega)]; exact hc10,
    by rw [xu_n (by omega)]; exact hc11,
    by rw [xu_n (by omega)]; exact hc12,
    fun i hi => ⟨by rw [xu_n (by omega)]; exact (hnm i hi).1, by rw [xu_n (by omega)]; exact (hnm i hi).2.1, by rw [xu_n (by omega)]; exact (hnm i hi).2.2⟩,
    fun j hj => by rw [xu_n (by omega)]; exact hjn j hj⟩

theorem xRec_begin {G : xG} {M : xM} {ad : Nat → Nat} {nc : Nat} {sd : Nat → Int32} {jn : Nat → Int32} {tc : Nat → Nat} {dt : Nat → Int32} {fd : Nat → Int64} {ld : Nat → Int64} {tk : Nat → Nat → Int32} {kd : Nat → Nat → Int32} {wn : Nat → Nat} {jc : Nat} {jz : Nat → Nat} {jo : Nat → Nat} {ju : Nat → Int32} {bg : Int32} {cn : Nat} {zs : Nat → Nat} {os : Nat → Nat} {ab : Nat → Nat} {bl : Nat → Nat} {od : Nat → Nat} {sp : Nat → Nat} {pr : Nat → Nat} {fa : Int64} {fb : Int64}  (hR : xRec G M ad nc sd jn tc dt fd ld tk kd wn jc jz jo ju bg cn zs os ab bl od sp pr fa fb) : xRec G (xu (xu M 4 (ad 4, .inr (4, [.int (nI 1), .int (nI 0), .ref (ad 6), .ref (ad 7), .ref (ad 8), .ref (ad 9), .ref (ad 10), .ref (ad 11), .ref (ad 12)]))) 12 (ad 12, .inl (G.2 2, 51, .inl (fun k => nI ((xClr pr 51) k))))) ad nc sd jn tc dt fd ld tk kd wn jc jz jo ju (nI 1) 0 zs os ab bl od sp (xClr pr 51) fa fb := by
  obtain ⟨hc0, hc1, hc2, hc3, hcL, hc5, hc6, hc7, hc8, hc9, hc10, hc11, hc12, hnm, hjn⟩ := hR
  exact ⟨by rw [xu_n (by omega), xu_n (by omega)]; exact hc0,
    by rw [xu_n (by omega), xu_n (by omega)]; exact hc1,
    by rw [xu_n (by omega), xu_n (by omega)]; exact hc2,
    by rw [xu_n (by omega), xu_n (by omega)]; exact hc3,
    by rw [xu_n (by omega)]; exact xu_s,
    by rw [xu_n (by omega), xu_n (by omega)]; exact hc5,
    by rw [xu_n (by omega), xu_n (by omega)]; exact hc6,
    by rw [xu_n (by omega), xu_n (by omega)]; exact hc7,
    by rw [xu_n (by omega), xu_n (by omega)]; exact hc8,
    by rw [xu_n (by omega), xu_n (by omega)]; exact hc9,
    by rw [xu_n (by omega), xu_n (by omega)]; exact hc10,
    by rw [xu_n (by omega), xu_n (by omega)]; exact hc11,
    by exact xu_s,
    fun i hi => ⟨by rw [xu_n (by omega), xu_n (by omega)]; exact (hnm i hi).1, by rw [xu_n (by omega), xu_n (by omega)]; exact (hnm i hi).2.1, by rw [xu_n (by omega), xu_n (by omega)]; exact (hnm i hi).2.2⟩,
    fun j hj => by rw [xu_n (by omega), xu_n (by omega)]; exact hjn j hj⟩

theorem xRec_sort {G : xG} {M : xM} {ad : Nat → Nat} {nc : Nat} {sd : Nat → Int32} {jn : Nat → Int32} {tc : Nat → Nat} {dt : Nat → Int32} {fd : Nat → Int64} {ld : Nat → Int64} {tk : Nat → Nat → Int32} {kd : Nat → Nat → Int32} {wn : Nat → Nat} {jc : Nat} {jz : Nat → Nat} {jo : Nat → Nat} {ju : Nat → Int32} {bg : Int32} {cn : Nat} {zs : Nat → Nat} {os : Nat → Nat} {ab : Nat → Nat} {bl : Nat → Nat} {od : Nat → Nat} {sp : Nat → Nat} {pr : Nat → Nat} {fa : Int64} {fb : Int64} {o9 s9 : Nat → Nat} (hR : xRec G M ad nc sd jn tc dt fd ld tk kd wn jc jz jo ju bg cn zs os ab bl od sp pr fa fb) : xRec G (xu (xu M 10 (ad 10, .inl (G.2 0, 625, .inl (fun k => nI (o9 k))))) 11 (ad 11, .inl (G.2 0, 625, .inl (fun k => nI (s9 k))))) ad nc sd jn tc dt fd ld tk kd wn jc jz jo ju bg cn zs os ab bl o9 s9 pr fa fb := by
  obtain ⟨hc0, hc1, hc2, hc3, hcL, hc5, hc6, hc7, hc8, hc9, hc10, hc11, hc12, hnm, hjn⟩ := hR
  exact ⟨by rw [xu_n (by omega), xu_n (by omega)]; exact hc0,
    by rw [xu_n (by omega), xu_n (by omega)]; exact hc1,
    by rw [xu_n (by omega), xu_n (by omega)]; exact hc2,
    by rw [xu_n (by omega), xu_n (by omega)]; exact hc3,
    by rw [xu_n (by omega), xu_n (by omega)]; exact hcL,
    by rw [xu_n (by omega), xu_n (by omega)]; exact hc5,
    by rw [xu_n (by omega), xu_n (by omega)]; exact hc6,
    by rw [xu_n (by omega), xu_n (by omega)]; exact hc7,
    by rw [xu_n (by omega), xu_n (by omega)]; exact hc8,
    by rw [xu_n (by omega), xu_n (by omega)]; exact hc9,
    by rw [xu_n (by omega)]; exact xu_s,
    by exact xu_s,
    by rw [xu_n (by omega), xu_n (by omega)]; exact hc12,
    fun i hi => ⟨by rw [xu_n (by omega), xu_n (by omega)]; exact (hnm i hi).1, by rw [xu_n (by omega), xu_n (by omega)]; exact (hnm i hi).2.1, by rw [xu_n (by omega), xu_n (by omega)]; exact (hnm i hi).2.2⟩,
    fun j hj => by rw [xu_n (by omega), xu_n (by omega)]; exact hjn j hj⟩

theorem xRec_spare {G : xG} {M : xM} {ad : Nat → Nat} {nc : Nat} {sd : Nat → Int32} {jn : Nat → Int32} {tc : Nat → Nat} {dt : Nat → Int32} {fd : Nat → Int64} {ld : Nat → Int64} {tk : Nat → Nat → Int32} {kd : Nat → Nat → Int32} {wn : Nat → Nat} {jc : Nat} {jz : Nat → Nat} {jo : Nat → Nat} {ju : Nat → Int32} {bg : Int32} {cn : Nat} {zs : Nat → Nat} {os : Nat → Nat} {ab : Nat → Nat} {bl : Nat → Nat} {od : Nat → Nat} {sp : Nat → Nat} {pr : Nat → Nat} {fa : Int64} {fb : Int64} {s9 : Nat → Nat} (hR : xRec G M ad nc sd jn tc dt fd ld tk kd wn jc jz jo ju bg cn zs os ab bl od sp pr fa fb) : xRec G (xu M 11 (ad 11, .inl (G.2 0, 625, .inl (fun k => nI (s9 k))))) ad nc sd jn tc dt fd ld tk kd wn jc jz jo ju bg cn zs os ab bl od s9 pr fa fb := by
  obtain ⟨hc0, hc1, hc2, hc3, hcL, hc5, hc6, hc7, hc8, hc9, hc10, hc11, hc12, hnm, hjn⟩ := hR
  exact ⟨by rw [xu_n (by omega)]; exact hc0,
    by rw [xu_n (by omega)]; exact hc1,
    by rw [xu_n (by omega)]; exact hc2,
    by rw [xu_n (by omega)]; exact hc3,
    by rw [xu_n (by omega)]; exact hcL,
    by rw [xu_n (by omega)]; exact hc5,
    by rw [xu_n (by omega)]; exact hc6,
    by rw [xu_n (by omega)]; exact hc7,
    by rw [xu_n (by omega)]; exact hc8,
    by rw [xu_n (by omega)]; exact hc9,
    by rw [xu_n (by omega)]; exact hc10,
    by exact xu_s,
    by rw [xu_n (by omega)]; exact hc12,
    fun i hi => ⟨by rw [xu_n (by omega)]; exact (hnm i hi).1, by rw [xu_n (by omega)]; exact (hnm i hi).2.1, by rw [xu_n (by omega)]; exact (hnm i hi).2.2⟩,
    fun j hj => by rw [xu_n (by omega)]; exact hjn j hj⟩

abbrev rmX4_listPairsOf : Room := { frames := 3, cells := 0, slots := 0, locals := 73 }
set_option maxHeartbeats 4000000 in
set_option maxRecDepth 100000 in
/-- listPairsOf -/
theorem ctX4_listPairsOf (l : Launch) (G : xG) (A : Nat → Prop) (M : xM) {ad : Nat → Nat} {nc : Nat} {sd : Nat → Int32} {jn : Nat → Int32} {tc : Nat → Nat} {dt : Nat → Int32} {fd : Nat → Int64} {ld : Nat → Int64} {tk : Nat → Nat → Int32} {kd : Nat → Nat → Int32} {wn : Nat → Nat} {jc : Nat} {jz : Nat → Nat} {jo : Nat → Nat} {ju : Nat → Int32} {bg : Int32} {cn : Nat} {zs : Nat → Nat} {os : Nat → Nat} {ab : Nat → Nat} {bl : Nat → Nat} {od : Nat → Nat} {sp : Nat → Nat} {pr : Nat → Nat} {fa : Int64} {fb : Int64} (hR : xRec G M ad nc sd jn tc dt fd ld tk kd wn jc jz jo ju bg cn zs os ab bl od sp pr fa fb) (i : Nat) (hi : i < nc) (hmi : cMay sd jn tc (nI 0) i) (hlt : ∀ j, j < nc → sd j = nI 1 → (cRow (cIs sd jn tc dt fd ld tk kd wn) (cU tc dt fd ld tk kd wn) (cD tc dt tk kd wn) i j (cn, zs, os, ab, bl, od, pr)).1 < 625) (hnc : nc ≤ 50) (htk : ∀ i, i < nc → tc i ≤ 8 ∧ ∀ j, j < tc i → vp_in (kd i j) 4) (hwn : ∀ k, wn k ≤ 252000) : Met l yX4_listPairsOf wsX4_listPairsOf rmX4_listPairsOf (va_Pc ([.ref (ad 0), .int (nI (i + 1)), .ref (ad (100 + 3 * i))] : List Value) (xPc G A M)) (va_Qv (fun M1 => ∃ (cn9 : Nat) (zs9 os9 ab9 bl9 od9 pr9 : Nat → Nat) (fa9 fb9 : Int64), xRec G M1 ad nc sd jn tc dt fd ld tk kd wn jc jz jo ju bg cn9 zs9 os9 ab9 bl9 od9 sp pr9 fa9 fb9 ∧ (cn9, zs9, os9, ab9, bl9, od9, pr9) = cRow (cIs sd jn tc dt fd ld tk kd wn) (cU tc dt fd ld tk kd wn) (cD tc dt tk kd wn) i nc (cn, zs, os, ab, bl, od, pr) ∧ ∀ t, 500 ≤ t → M1 t = M t) (xPc G A) A) 0 0 A := by
  refine x_met (cc := cX4_listPairsOf) (maxL := 5) (ret := none) RX4 (by decide) rfl (Nat.le_of_ble_eq_true rfl) rfl ?_
  intro p e s m below meth c hx hb hr hts hown hlocks hml hin hK hA hX ls hl
  have inX4 : ∀ w ∈ wsX40, w ∈ wsX4_listPairsOf := by decide +kernel
  have lk_fieldLink_15 := hts (.fieldLink RX4 15 "Reconcile" "nameCount" "I") (by decide +kernel)
  have lk_fieldLink_44 := hts (.fieldLink RX4 44 "Reconcile" "measured" "LReconcile$Fraction;") (by decide +kernel)
  have lk_fieldLink_21 := hts (.fieldLink RX4 21 "Reconcile" "weights" "[J") (by decide +kernel)
  have lk_fieldLink_37 := hts (.fieldLink RX4 37 "Reconcile" "latest" "LReconcile$Listing;") (by decide +kernel)
  have hS : va_S A s.heap s.heap [] := va_S.rf
  have hl : lv_has ls 5 [(0, .ref (ad 0)), (1, .int (nI (i + 1))), (2, .ref (ad (100 + 3 * i)))] := hl
  have hRR := hR
  obtain ⟨hc0, hc1, hc2, hc3, hcL, hc5, hc6, hc7, hc8, hc9, hc10, hc11, hc12, hnm, hjn⟩ := hR
  refine lv_iconst (v := nI 1) hx hb dX4_listPairsOf_0 (by decide) ?_
  refine lv_istore_n (lv' := [(3, .int (nI 1)), (0, .ref (ad 0)), (1, .int (nI (i + 1))), (2, .ref (ad (100 + 3 * i)))]) hx hb dX4_listPairsOf_1 rfl hl (by decide) rfl (fun ls hl => ?_)
  have loop : ∀ (n : Nat) (j : Nat) (M9 : xM) (cn9 : Nat) (zs9 : Nat → Nat) (os9 : Nat → Nat) (ab9 : Nat → Nat) (bl9 : Nat → Nat) (od9 : Nat → Nat) (pr9 : Nat → Nat) (fa9 : Int64) (fb9 : Int64) (H : Heap) (locs : List Loc) (ls : Array Slot), nc < j + n → (j ≤ nc) → (xRec G M9 ad nc sd jn tc dt fd ld tk kd wn jc jz jo ju bg cn9 zs9 os9 ab9 bl9 od9 sp pr9 fa9 fb9) → ((cn9, zs9, os9, ab9, bl9, od9, pr9) = cRow (cIs sd jn tc dt fd ld tk kd wn) (cU tc dt fd ld tk kd wn) (cD tc dt tk kd wn) i j (cn, zs, os, ab, bl, od, pr)) → (∀ t, 500 ≤ t → M9 t = M t) → xw G.1 vwCl A M9 H → va_S A s.heap H locs → lv_has ls 5 [(3, .int (nI (j + 1))), (0, .ref (ad 0)), (1, .int (nI (i + 1))), (2, .ref (ad (100 + 3 * i)))] → W p l e rmX4_listPairsOf s m ([.ref (ad 0), .int (nI (i + 1)), .ref (ad (100 + 3 * i))] : List Value).toArray below meth c H locs 0 0 (MQ below (va_Qv (fun M1 => ∃ (cn9 : Nat) (zs9 os9 ab9 bl9 od9 pr9 : Nat → Nat) (fa9 fb9 : Int64), xRec G M1 ad nc sd jn tc dt fd ld tk kd wn jc jz jo ju bg cn9 zs9 os9 ab9 bl9 od9 sp pr9 fa9 fb9 ∧ (cn9, zs9, os9, ab9, bl9, od9, pr9) = cRow (cIs sd jn tc dt fd ld tk kd wn) (cU tc dt fd ld tk kd wn) (cD tc dt tk kd wn) i nc (cn, zs, os, ab, bl, od, pr) ∧ ∀ t, 500 ≤ t → M1 t = M t) (xPc G A) A) ([.ref (ad 0), .int (nI (i + 1)), .ref (ad (100 + 3 * i))] : List Value).toArray s 0 0 A) (F0 m 2 ls []) := by
    intro n
    induction n with
    | zero => intro j M9 cn9 zs9 os9 ab9 bl9 od9 pr9 fa9 fb9 H locs ls hn0 hj9 hR9 hL9 hfr9; exact absurd hn0 (by omega)
    | succ n ih =>
      intro j M9 cn9 zs9 os9 ab9 bl9 od9 pr9 fa9 fb9 H locs ls hn0 hj9 hR9 hL9 hfr9 hX hS hl
      obtain ⟨hc0, hc1, hc2, hc3, hcL, hc5, hc6, hc7, hc8, hc9, hc10, hc11, hc12, hnm, hjn⟩ := id hR9
      have hRR := hR9
      refine lv_iload_n hx hb dX4_listPairsOf_2 rfl (lv_at hl 0 rfl) ?_
      refine lv_aload_n hx hb dX4_listPairsOf_3 rfl (lv_at hl 1 rfl) ?_
      refine x_get (ci := 6) (v := .int (nI nc)) (C := RX4) (T := TX4) (N := 7) hx hb hts inX4 hown hK hX hc0 rfl 1 (by decide) lk_fieldLink_15 (fun _ h9 => h9) rfl dX4_listPairsOf_4 ?_
      refine lv_icmp_gt (tgt := 84) hx hb dX4_listPairsOf_7 (by decide) (fun c_1 => ?_) (fun c_1 => ?_)
      · have c_1 : nc < (j + 1) := (nI_ltI (by omega) (by omega)).mp c_1
        exact x_vret hx hb hr hlocks hK hA hX hS dX4_listPairsOf_84 (⟨cn9, zs9, os9, ab9, bl9, od9, pr9, fa9, fb9, hR9, by rw [hL9, show j = nc by omega], hfr9⟩)
      · have c_1 : ¬ (nc < (j + 1)) := fun q => c_1 ((nI_ltI (by omega) (by omega)).mpr q)
        refine lv_aload_n hx hb dX4_listPairsOf_10 rfl (lv_at hl 1 rfl) ?_
        refine lv_iload_n hx hb dX4_listPairsOf_11 rfl (lv_at hl 0 rfl) ?_
        refine x_callq (x_runV (q := (RX4, TX4, 7)) (As := [.int (nI (j + 1))]) (rest := []) ⟨hx, hb, hml, hown, hts⟩ (ctX4_find l G A M9 hRR (nI (j + 1)) hnc) (cwV 1 hts gX4_listPairsOf_X4_find rfl rfl rfl (by decide +kernel) ⟨Nat.le_of_ble_eq_true rfl, Nat.le_of_ble_eq_true rfl⟩) hK hA hX hS hc0 rfl rfl hl.1 rfl (lv_room (Nat.le_of_ble_eq_true rfl)) dX4_listPairsOf_12 ⟨by decide, by decide⟩) hS (fun r_2 M_3 H locs hp hX hS => ?_)
        obtain ⟨hM_, hq_r_2⟩ := hp
        rw [hM_] at hX
        rcases hq_r_2 with ⟨j2, hj2, ep, er⟩ | ⟨ep, er⟩
        · have ejj : j = j2 := by have q := (nI_eq (a := j + 1) (b := j2 + 1) (by omega) (by omega)).mp ep; omega
          subst ejj
          subst er
          obtain ⟨hn0j, hn1j, hn2j⟩ := hnm j hj2
          refine x_rv (y := .ref (ad (100 + 3 * j))) rfl ?_
          refine lv_astore (lv' := [(4, .ref (ad (100 + 3 * j))), (3, .int (nI (j + 1))), (0, .ref (ad 0)), (1, .int (nI (i + 1))), (2, .ref (ad (100 + 3 * i)))]) hx hb dX4_listPairsOf_15 hl (by decide) rfl (fun ls hl => ?_)
          refine lv_aload hx hb dX4_listPairsOf_17 (lv_at hl 0 rfl) ?_
          refine lv_ifnull hx hb dX4_listPairsOf_19 ?_
          refine lv_aload hx hb dX4_listPairsOf_22 (lv_at hl 0 rfl) ?_
          refine lv_iconst (v := nI 1) hx hb dX4_listPairsOf_24 (by decide) ?_
          refine x_calli (x_runV (q := (RX3, TX3, 8)) (As := [.int (nI 1)]) (rest := []) ⟨hx, hb, hml, hown, hts⟩ (ctX3_mayPair l G A M9 hn0j hn1j hn2j (htk j hj2).1 (nI 1)) (cwV 1 hts gX4_listPairsOf_X3_mayPair rfl rfl rfl (by decide +kernel) ⟨Nat.le_of_ble_eq_true rfl, Nat.le_of_ble_eq_true rfl⟩) hK hA hX hS hn0j rfl rfl hl.1 rfl (lv_room (Nat.le_of_ble_eq_true rfl)) dX4_listPairsOf_25 ⟨by decide, by decide⟩) hS (fun r_4 M_5 H locs hp hX hS => ?_)
          obtain ⟨hM_, er_4⟩ := hp
          rw [hM_] at hX
          refine lv_if_eq (tgt := 78) hx hb dX4_listPairsOf_28 (by decide) (fun c_6 => ?_) (fun c_6 => ?_)
          · have hmj := x_if0 er_4 c_6
            refine lv_iinc (v := nI ((j + 1) + 1)) (lv' := [(3, .int (nI ((j + 1) + 1))), (4, .ref (ad (100 + 3 * j))), (0, .ref (ad 0)), (1, .int (nI (i + 1))), (2, .ref (ad (100 + 3 * i)))]) hx hb dX4_listPairsOf_78 hl (k := 1) rfl (show nI (j + 1) + Int32.ofInt 1 = _ from nI_add _ 1) (by decide) rfl (fun ls hl => ?_)
            refine lv_goto (tgt := 2) hx hb dX4_listPairsOf_81 (by decide) ?_
            exact ih (j + 1) M9 cn9 zs9 os9 ab9 bl9 od9 pr9 fa9 fb9 _ _ ls (by omega) (by omega) hR9 (by show _ = cStep _ _ _ i j _; rw [cStep_f (fun q => hmj q.1.2)]; exact hL9) hfr9 hX hS (lv_sub hl [0, 2, 3, 4] rfl)
          · have hmj := x_if1 er_4 c_6
            refine lv_aload_n hx hb dX4_listPairsOf_31 rfl (lv_at hl 2 rfl) ?_
            refine x_get (ci := 6) (v := .ref (ad 5)) (C := RX4) (T := TX4) (N := 7) hx hb hts inX4 hown hK hX hc0 rfl 6 (by decide) lk_fieldLink_44 (fun _ h9 => h9) rfl dX4_listPairsOf_32 ?_
            refine lv_aload_n hx hb dX4_listPairsOf_35 rfl (lv_at hl 4 rfl) ?_
            refine lv_aload hx hb dX4_listPairsOf_36 (lv_at hl 0 rfl) ?_
            refine lv_aload_n hx hb dX4_listPairsOf_38 rfl (lv_at hl 2 rfl) ?_
            refine x_get (ci := 6) (v := .ref (ad 2)) (C := RX4) (T := TX4) (N := 7) hx hb hts inX4 hown hK hX hc0 rfl 2 (by decide) lk_fieldLink_21 (fun _ h9 => h9) rfl dX4_listPairsOf_39 ?_
            have hij : i ≠ j := fun q => by rw [q] at hmi; exact absurd (hmi.1.symm.trans hmj.1) (by decide)
            obtain ⟨hn0i, hn1i, hn2i⟩ := hnm i hi
            have hfa : fa9 = fa9 := rfl
            refine x_callv (x_runV (q := (RX0, TX0, 2)) (As := [.ref (ad (100 + 3 * i)), .ref (ad (100 + 3 * j)), .ref (ad 2)]) (rest := []) ⟨hx, hb, hml, hown, hts⟩ (ctX0_measure l G A M9 hc5 hn0i hn1i hn2i (htk i hi).1 hn0j hn1j hn2j (htk j hj2).1 (htk i hi).2 (htk j hj2).2 hc2 (by omega) (by omega) (by omega) (by omega) (by omega) (by omega) (by omega)) (cwV 3 hts gX4_listPairsOf_X0_measure rfl rfl rfl (by decide +kernel) ⟨Nat.le_of_ble_eq_true rfl, Nat.le_of_ble_eq_true rfl⟩) hK hA hX hS hc5 rfl rfl hl.1 rfl (lv_room (Nat.le_of_ble_eq_true rfl)) dX4_listPairsOf_42 ⟨by decide, by decide⟩) hS (fun M_8 H locs hp hX hS => ?_)
            have hMm : M_8 = xu M9 5 (ad 5, .inr (2, [.long (lN (cU tc dt fd ld tk kd wn i j)), .long (lN (cD tc dt tk kd wn i j))])) := hp
            have hc0 : M_8 0 = some (ad 0, .inr (6, [.ref (ad 1), .int (nI nc), .ref (ad 2), .ref (ad 3), .int (nI jc), .ref (ad 4), .ref (ad 5)])) := by rw [hMm, xu_n (by omega)]; exact hc0
            have hc1 : M_8 1 = some (ad 1, .inl (G.2 3, 50, .inr (.inr (.inr (.inr (fun k => if k < nc then some (ad (100 + 3 * k)) else none)))))) := by rw [hMm, xu_n (by omega)]; exact hc1
            have hc2 : M_8 2 = some (ad 2, .inl (G.2 1, 4, .inr (.inl (fun k => lN (wn k))))) := by rw [hMm, xu_n (by omega)]; exact hc2
            have hc3 : M_8 3 = some (ad 3, .inl (G.2 4, 100, .inr (.inr (.inr (.inr (fun k => if k < jc then some (ad (300 + k)) else none)))))) := by rw [hMm, xu_n (by omega)]; exact hc3
            have hcL : M_8 4 = some (ad 4, .inr (4, [.int bg, .int (nI cn9), .ref (ad 6), .ref (ad 7), .ref (ad 8), .ref (ad 9), .ref (ad 10), .ref (ad 11), .ref (ad 12)])) := by rw [hMm, xu_n (by omega)]; exact hcL
            have hc6 : M_8 6 = some (ad 6, .inl (G.2 0, 625, .inl (fun k => nI (zs9 k)))) := by rw [hMm, xu_n (by omega)]; exact hc6
            have hc7 : M_8 7 = some (ad 7, .inl (G.2 0, 625, .inl (fun k => nI (os9 k)))) := by rw [hMm, xu_n (by omega)]; exact hc7
            have hc8 : M_8 8 = some (ad 8, .inl (G.2 1, 625, .inr (.inl (fun k => lN (ab9 k))))) := by rw [hMm, xu_n (by omega)]; exact hc8
            have hc9 : M_8 9 = some (ad 9, .inl (G.2 1, 625, .inr (.inl (fun k => lN (bl9 k))))) := by rw [hMm, xu_n (by omega)]; exact hc9
            have hc10 : M_8 10 = some (ad 10, .inl (G.2 0, 625, .inl (fun k => nI (od9 k)))) := by rw [hMm, xu_n (by omega)]; exact hc10
            have hc11 : M_8 11 = some (ad 11, .inl (G.2 0, 625, .inl (fun k => nI (sp k)))) := by rw [hMm, xu_n (by omega)]; exact hc11
            have hc12 : M_8 12 = some (ad 12, .inl (G.2 2, 51, .inl (fun k => nI (pr9 k)))) := by rw [hMm, xu_n (by omega)]; exact hc12
            have hn0j : M_8 (100 + 3 * j) = some (ad (100 + 3 * j), .inr (5, [.int (sd j), .int (jn j), .ref (ad (100 + 3 * j + 1)), .ref (ad (100 + 3 * j + 2)), .int (nI (tc j)), .int (dt j), .long (fd j), .long (ld j)])) := by rw [hMm, xu_n (by omega)]; exact hn0j
            have hn1j : M_8 (100 + 3 * j + 1) = some (ad (100 + 3 * j + 1), .inl (G.2 0, 8, .inl (tk j))) := by rw [hMm, xu_n (by omega)]; exact hn1j
            have hn2j : M_8 (100 + 3 * j + 2) = some (ad (100 + 3 * j + 2), .inl (G.2 0, 8, .inl (kd j))) := by rw [hMm, xu_n (by omega)]; exact hn2j
            have hc5 : M_8 5 = some (ad 5, .inr (2, [.long (lN (cU tc dt fd ld tk kd wn i j)), .long (lN (cD tc dt tk kd wn i j))])) := by rw [hMm]; exact xu_s
            have hRm : xRec G M_8 ad nc sd jn tc dt fd ld tk kd wn jc jz jo ju bg cn9 zs9 os9 ab9 bl9 od9 sp pr9 (lN (cU tc dt fd ld tk kd wn i j)) (lN (cD tc dt tk kd wn i j)) := by rw [hMm]; exact xRec_frac hR9
            have hfm : ∀ t, 500 ≤ t → M_8 t = M t := fun t ht => by rw [hMm, xu_n (by omega)]; exact hfr9 t ht
            have hbU := cU_le (dt := dt) (fd := fd) (ld := ld) (tk := tk) (kd := kd) (j := j) hwn (htk i hi).1
            have hbD := cD_le (dt := dt) (tk := tk) (kd := kd) hwn (htk i hi).1 (htk j hj2).1
            refine lv_aload_n hx hb dX4_listPairsOf_45 rfl (lv_at hl 2 rfl) ?_
            refine x_get (ci := 6) (v := .ref (ad 5)) (C := RX4) (T := TX4) (N := 7) hx hb hts inX4 hown hK hX hc0 rfl 6 (by decide) lk_fieldLink_44 (fun _ h9 => h9) rfl dX4_listPairsOf_46 ?_
            refine x_calli (x_runV (q := (RX0, TX0, 2)) (As := []) (rest := []) ⟨hx, hb, hml, hown, hts⟩ (ctX0_exists l G A M_8 hc5 hbU hbD) (cwV 0 hts gX4_listPairsOf_X0_exists rfl rfl rfl (by decide +kernel) ⟨Nat.le_of_ble_eq_true rfl, Nat.le_of_ble_eq_true rfl⟩) hK hA hX hS hc5 rfl rfl hl.1 rfl (lv_room (Nat.le_of_ble_eq_true rfl)) dX4_listPairsOf_49 ⟨by decide, by decide⟩) hS (fun r_9 M_10 H locs hp hX hS => ?_)
            obtain ⟨hM_, er_9⟩ := hp
            rw [hM_] at hX
            refine lv_if_eq (tgt := 78) hx hb dX4_listPairsOf_52 (by decide) (fun c_11 => ?_) (fun c_11 => ?_)
            · have hex := x_if0 er_9 c_11
              refine lv_iinc (v := nI ((j + 1) + 1)) (lv' := [(3, .int (nI ((j + 1) + 1))), (4, .ref (ad (100 + 3 * j))), (0, .ref (ad 0)), (1, .int (nI (i + 1))), (2, .ref (ad (100 + 3 * i)))]) hx hb dX4_listPairsOf_78 hl (k := 1) rfl (show nI (j + 1) + Int32.ofInt 1 = _ from nI_add _ 1) (by decide) rfl (fun ls hl => ?_)
              refine lv_goto (tgt := 2) hx hb dX4_listPairsOf_81 (by decide) ?_
              exact ih (j + 1) M_8 cn9 zs9 os9 ab9 bl9 od9 pr9 (lN (cU tc dt fd ld tk kd wn i j)) (lN (cD tc dt tk kd wn i j)) _ _ ls (by omega) (by omega) hRm (by show _ = cStep _ _ _ i j _; rw [cStep_f (fun q => hex q.2.1)]; exact hL9) hfm hX hS (lv_sub hl [0, 2, 3, 4] rfl)
            · have hex := x_if1 er_9 c_11
              refine lv_aload_n hx hb dX4_listPairsOf_55 rfl (lv_at hl 2 rfl) ?_
              refine x_get (ci := 6) (v := .ref (ad 5)) (C := RX4) (T := TX4) (N := 7) hx hb hts inX4 hown hK hX hc0 rfl 6 (by decide) lk_fieldLink_44 (fun _ h9 => h9) rfl dX4_listPairsOf_56 ?_
              refine x_calli (x_runV (q := (RX0, TX0, 2)) (As := []) (rest := []) ⟨hx, hb, hml, hown, hts⟩ (ctX0_isHalfAtLeast l G A M_8 hc5 hbU hbD) (cwV 0 hts gX4_listPairsOf_X0_isHalfAtLeast rfl rfl rfl (by decide +kernel) ⟨Nat.le_of_ble_eq_true rfl, Nat.le_of_ble_eq_true rfl⟩) hK hA hX hS hc5 rfl rfl hl.1 rfl (lv_room (Nat.le_of_ble_eq_true rfl)) dX4_listPairsOf_59 ⟨by decide, by decide⟩) hS (fun r_12 M_13 H locs hp hX hS => ?_)
              obtain ⟨hM_, er_12⟩ := hp
              rw [hM_] at hX
              refine lv_if_eq (tgt := 78) hx hb dX4_listPairsOf_62 (by decide) (fun c_14 => ?_) (fun c_14 => ?_)
              · have hhf := x_if0 er_12 c_14
                refine lv_iinc (v := nI ((j + 1) + 1)) (lv' := [(3, .int (nI ((j + 1) + 1))), (4, .ref (ad (100 + 3 * j))), (0, .ref (ad 0)), (1, .int (nI (i + 1))), (2, .ref (ad (100 + 3 * i)))]) hx hb dX4_listPairsOf_78 hl (k := 1) rfl (show nI (j + 1) + Int32.ofInt 1 = _ from nI_add _ 1) (by decide) rfl (fun ls hl => ?_)
                refine lv_goto (tgt := 2) hx hb dX4_listPairsOf_81 (by decide) ?_
                exact ih (j + 1) M_8 cn9 zs9 os9 ab9 bl9 od9 pr9 (lN (cU tc dt fd ld tk kd wn i j)) (lN (cD tc dt tk kd wn i j)) _ _ ls (by omega) (by omega) hRm (by show _ = cStep _ _ _ i j _; rw [cStep_f (fun q => hhf q.2.2)]; exact hL9) hfm hX hS (lv_sub hl [0, 2, 3, 4] rfl)
              · have hhf := x_if1 er_12 c_14
                refine lv_aload_n hx hb dX4_listPairsOf_65 rfl (lv_at hl 2 rfl) ?_
                refine x_get (ci := 6) (v := .ref (ad 4)) (C := RX4) (T := TX4) (N := 7) hx hb hts inX4 hown hK hX hc0 rfl 5 (by decide) lk_fieldLink_37 (fun _ h9 => h9) rfl dX4_listPairsOf_66 ?_
                refine lv_iload_n hx hb dX4_listPairsOf_69 rfl (lv_at hl 3 rfl) ?_
                refine lv_iload_n hx hb dX4_listPairsOf_70 rfl (lv_at hl 1 rfl) ?_
                refine lv_aload_n hx hb dX4_listPairsOf_71 rfl (lv_at hl 2 rfl) ?_
                refine x_get (ci := 6) (v := .ref (ad 5)) (C := RX4) (T := TX4) (N := 7) hx hb hts inX4 hown hK hX hc0 rfl 6 (by decide) lk_fieldLink_44 (fun _ h9 => h9) rfl dX4_listPairsOf_72 ?_
                have hlt9 : cn9 < 625 := by have q := hlt j hj2 hmj.1; rw [← hL9] at q; exact q
                refine x_callv (x_runV (q := (RX2, TX2, 9)) (As := [.int (nI (i + 1)), .int (nI (j + 1)), .ref (ad 5)]) (rest := []) ⟨hx, hb, hml, hown, hts⟩ (ctX2_add l G A M_8 hcL hc6 hc7 hc8 hc9 hc10 hc11 hc12 (by omega) hc5 (i + 1) (j + 1) (by omega) (by omega) hlt9) (cwV 3 hts gX4_listPairsOf_X2_add rfl rfl rfl (by decide +kernel) ⟨Nat.le_of_ble_eq_true rfl, Nat.le_of_ble_eq_true rfl⟩) hK hA hX hS hcL rfl rfl hl.1 rfl (lv_room (Nat.le_of_ble_eq_true rfl)) dX4_listPairsOf_75 ⟨by decide, by decide⟩) hS (fun M_16 H locs hp hX hS => ?_)
                have hRa : xRec G M_16 ad nc sd jn tc dt fd ld tk kd wn jc jz jo ju bg (cn9 + 1) (va_up zs9 cn9 (i + 1)) (va_up os9 cn9 (j + 1)) (va_up ab9 cn9 (cU tc dt fd ld tk kd wn i j)) (va_up bl9 cn9 (cD tc dt tk kd wn i j)) (va_up od9 cn9 cn9) sp (va_up (va_up pr9 (i + 1) 1) (j + 1) 1) (lN (cU tc dt fd ld tk kd wn i j)) (lN (cD tc dt tk kd wn i j)) := by rw [hp]; exact xRec_add hRm
                have hfa9 : ∀ t, 500 ≤ t → M_16 t = M t := fun t ht => by rw [hp, xu_n (by omega), xu_n (by omega), xu_n (by omega), xu_n (by omega), xu_n (by omega), xu_n (by omega), xu_n (by omega)]; exact hfm t ht
                refine lv_iinc (v := nI ((j + 1) + 1)) (lv' := [(3, .int (nI ((j + 1) + 1))), (4, .ref (ad (100 + 3 * j))), (0, .ref (ad 0)), (1, .int (nI (i + 1))), (2, .ref (ad (100 + 3 * i)))]) hx hb dX4_listPairsOf_78 hl (k := 1) rfl (show nI (j + 1) + Int32.ofInt 1 = _ from nI_add _ 1) (by decide) rfl (fun ls hl => ?_)
                refine lv_goto (tgt := 2) hx hb dX4_listPairsOf_81 (by decide) ?_
                exact ih (j + 1) M_16 (cn9 + 1) (va_up zs9 cn9 (i + 1)) (va_up os9 cn9 (j + 1)) (va_up ab9 cn9 (cU tc dt fd ld tk kd wn i j)) (va_up bl9 cn9 (cD tc dt tk kd wn i j)) (va_up od9 cn9 cn9) (va_up (va_up pr9 (i + 1) 1) (j + 1) 1) (lN (cU tc dt fd ld tk kd wn i j)) (lN (cD tc dt tk kd wn i j)) _ _ ls (by omega) (by omega) hRa (by show _ = cStep _ _ _ i j _; rw [cStep_t ⟨⟨hmi, hmj⟩, hex, hhf⟩, ← hL9]; rfl) hfa9 hX hS (lv_sub hl [0, 2, 3, 4] rfl)
        · exact absurd ep (fun q => q.elim (fun z => by have := (nI_ltI (by omega) (by omega)).mp z; omega) (fun z => z ((nI_leI (by omega) (by omega)).mpr (by omega))))
  exact loop (nc + 1) 0 M cn zs os ab bl od pr fa fb _ _ ls (by omega) (by omega) hRR rfl (fun _ _ => rfl) hX hS (lv_sub hl [0, 1, 2, 3] rfl)
end
section
/-! what a list of pairs is -/
def cInv (sd : Nat → Int32) (nc : Nat) (L : xLi) : Prop := (∀ k, k < L.1 → L.2.2.2.2.2.1 k = k ∧ (0 < L.2.2.2.2.1 k ∧ L.2.2.2.1 k < 1000000000 ∧ L.2.2.2.2.1 k < 1000000000) ∧ (∃ i, i < nc ∧ L.2.1 k = i + 1 ∧ sd i = nI 0) ∧ (∃ j, j < nc ∧ L.2.2.1 k = j + 1 ∧ sd j = nI 1)) ∧ (∀ n, n ≤ 50 → (L.2.2.2.2.2.2 n = 0 ∨ L.2.2.2.2.2.2 n = 1) ∧ (L.2.2.2.2.2.2 n = 1 ↔ ∃ k, k < L.1 ∧ (L.2.1 k = n ∨ L.2.2.1 k = n)))
theorem cInv_0 {sd : Nat → Int32} {nc : Nat} {zs os ab bl od pr : Nat → Nat} : cInv sd nc (0, zs, os, ab, bl, od, xClr pr 51) := by
  refine ⟨fun k hk => absurd hk (by show ¬ k < 0; omega), fun n hn => ?_⟩
  have e : xClr pr 51 n = 0 := by unfold xClr; rw [if_pos (by omega)]
  refine ⟨Or.inl e, ⟨fun q => ?_, fun ⟨k, hk, _⟩ => absurd hk (by show ¬ k < 0; omega)⟩⟩
  have q : xClr pr 51 n = 1 := q
  omega
theorem cInv_add {sd : Nat → Int32} {nc : Nat} {U D : Nat → Nat → Nat} {L : xLi} {i j : Nat} (h : cInv sd nc L) (hi : i < nc) (hj : j < nc) (h0 : sd i = nI 0) (h1 : sd j = nI 1) (hD : 0 < D i j) (bU : U i j < 1000000000) (bD : D i j < 1000000000) : cInv sd nc (cAdd U D i j L) := by
  obtain ⟨cn, zs, os, ab, bl, od, pr⟩ := L
  obtain ⟨ha, hb⟩ := h
  refine ⟨fun k hk => ?_, fun n hn => ?_⟩
  · have hk : k < cn + 1 := hk
    show va_up od cn cn k = k ∧ (0 < va_up bl cn (D i j) k ∧ va_up ab cn (U i j) k < 1000000000 ∧ va_up bl cn (D i j) k < 1000000000) ∧ (∃ i', i' < nc ∧ va_up zs cn (i + 1) k = i' + 1 ∧ sd i' = nI 0) ∧ (∃ j', j' < nc ∧ va_up os cn (j + 1) k = j' + 1 ∧ sd j' = nI 1)
    by_cases q : k = cn
    · subst q
      rw [va_up_self, va_up_self, va_up_self, va_up_self, va_up_self]
      exact ⟨rfl, ⟨hD, bU, bD⟩, ⟨i, hi, rfl, h0⟩, ⟨j, hj, rfl, h1⟩⟩
    · rw [va_up_ne _ _ q, va_up_ne _ _ q, va_up_ne _ _ q, va_up_ne _ _ q, va_up_ne _ _ q]
      exact ha k (show k < cn by omega)
  · obtain ⟨hc, hd⟩ := hb n hn
    show (va_up (va_up pr (i + 1) 1) (j + 1) 1 n = 0 ∨ va_up (va_up pr (i + 1) 1) (j + 1) 1 n = 1) ∧ (va_up (va_up pr (i + 1) 1) (j + 1) 1 n = 1 ↔ ∃ k, k < cn + 1 ∧ (va_up zs cn (i + 1) k = n ∨ va_up os cn (j + 1) k = n))
    have hc : pr n = 0 ∨ pr n = 1 := hc
    have hd : pr n = 1 ↔ ∃ k, k < cn ∧ (zs k = n ∨ os k = n) := hd
    by_cases q1 : n = j + 1
    · subst q1
      rw [va_up_self]
      exact ⟨Or.inr rfl, fun _ => ⟨cn, by omega, Or.inr (va_up_self _ _ _)⟩, fun _ => rfl⟩
    · rw [va_up_ne _ _ q1]
      by_cases q2 : n = i + 1
      · subst q2
        rw [va_up_self]
        exact ⟨Or.inr rfl, fun _ => ⟨cn, by omega, Or.inl (va_up_self _ _ _)⟩, fun _ => rfl⟩
      · rw [va_up_ne _ _ q2]
        refine ⟨hc, fun z => ?_, fun ⟨k, hk, z⟩ => hd.mpr ?_⟩
        · obtain ⟨k, hk, y⟩ := hd.mp z
          exact ⟨k, by omega, by rw [va_up_ne _ _ (by omega), va_up_ne _ _ (by omega)]; exact y⟩
        · by_cases q3 : k = cn
          · subst q3
            rw [va_up_self, va_up_self] at z
            exact (z.elim (fun y => q2 y.symm) (fun y => q1 y.symm)).elim
          · rw [va_up_ne _ _ q3, va_up_ne _ _ q3] at z
            exact ⟨k, by omega, z⟩
theorem cRow_inv {C : Nat → Nat → Prop} {U D : Nat → Nat → Nat} {sd : Nat → Int32} {nc : Nat} {i : Nat} {L : xLi} (hC : ∀ j, j < nc → C i j → (sd i = nI 0 ∧ sd j = nI 1) ∧ 0 < D i j ∧ U i j < 1000000000 ∧ D i j < 1000000000) (hi : i < nc) (h : cInv sd nc L) : ∀ n, n ≤ nc → cInv sd nc (cRow C U D i n L)
  | 0, _ => h
  | n + 1, hn => by
    have h1 := cRow_inv hC hi h n (by omega)
    show cInv sd nc (cStep C U D i n (cRow C U D i n L))
    by_cases q : C i n
    · rw [cStep_t q]
      obtain ⟨⟨a, b⟩, c, d, e⟩ := hC n (by omega) q
      exact cInv_add h1 hi (by omega) a b c d e
    · rw [cStep_f q]; exact h1
theorem cAll_inv {C : Nat → Nat → Prop} {U D : Nat → Nat → Nat} {sd : Nat → Int32} {nc : Nat} {L : xLi} (hC : ∀ i j, i < nc → j < nc → C i j → (sd i = nI 0 ∧ sd j = nI 1) ∧ 0 < D i j ∧ U i j < 1000000000 ∧ D i j < 1000000000) (h : cInv sd nc L) : ∀ i, i ≤ nc → cInv sd nc (cAll C U D nc i L)
  | 0, _ => h
  | i + 1, hi => cRow_inv (fun j hj => hC i j (by omega) hj) (by omega) (cAll_inv hC h i (by omega)) nc (Nat.le_refl _)
theorem cIs_sd {sd jn : Nat → Int32} {tc : Nat → Nat} {dt : Nat → Int32} {fd ld : Nat → Int64} {tk kd : Nat → Nat → Int32} {wn : Nat → Nat} : ∀ i j, cIs sd jn tc dt fd ld tk kd wn i j → sd i = nI 0 ∧ sd j = nI 1 := fun _ _ h => ⟨h.1.1.1, h.1.2.1⟩
theorem cIs_inv {sd jn : Nat → Int32} {tc : Nat → Nat} {dt : Nat → Int32} {fd ld : Nat → Int64} {tk kd : Nat → Nat → Int32} {wn : Nat → Nat} {nc : Nat} {L : xLi} (htk : ∀ i, i < nc → tc i ≤ 8 ∧ ∀ j, j < tc i → vp_in (kd i j) 4) (hwn : ∀ k, wn k ≤ 252000) (h : cInv sd nc L) : cInv sd nc (cAll (cIs sd jn tc dt fd ld tk kd wn) (cU tc dt fd ld tk kd wn) (cD tc dt tk kd wn) nc nc L) :=
  cAll_inv (C := cIs sd jn tc dt fd ld tk kd wn) (U := cU tc dt fd ld tk kd wn) (D := cD tc dt tk kd wn) (sd := sd) (fun i j hi hj q => ⟨cIs_sd i j q, q.2.1, cU_le hwn (htk i hi).1, cD_le hwn (htk i hi).1 (htk j hj).1⟩) h nc (Nat.le_refl _)

abbrev rmX4_run : Room := { frames := 4, cells := 0, slots := 0, locals := 322 }
set_option maxHeartbeats 4000000 in
set_option maxRecDepth 100000 in
/-- run -/
theorem ctX4_run (l : Launch) (G : xG) (A : Nat → Prop) (M : xM) {ad : Nat → Nat} {nc : Nat} {sd : Nat → Int32} {jn : Nat → Int32} {tc : Nat → Nat} {dt : Nat → Int32} {fd : Nat → Int64} {ld : Nat → Int64} {tk : Nat → Nat → Int32} {kd : Nat → Nat → Int32} {wn : Nat → Nat} {jc : Nat} {jz : Nat → Nat} {jo : Nat → Nat} {ju : Nat → Int32} {bg : Int32} {cn : Nat} {zs : Nat → Nat} {os : Nat → Nat} {ab : Nat → Nat} {bl : Nat → Nat} {od : Nat → Nat} {sp : Nat → Nat} {pr : Nat → Nat} {fa : Int64} {fb : Int64} (hR : xRec G M ad nc sd jn tc dt fd ld tk kd wn jc jz jo ju bg cn zs os ab bl od sp pr fa fb) (hcn : cn ≤ 625) (hnc : nc ≤ 50) (htk : ∀ i, i < nc → tc i ≤ 8 ∧ ∀ j, j < tc i → vp_in (kd i j) 4) (hwn : ∀ k, wn k ≤ 252000) : Met l yX4_run wsX4_run rmX4_run (va_Pc ([.ref (ad 0)] : List Value) (xPc G A M)) (va_Qi (fun r M1 => ∃ (cn9 : Nat) (zs9 os9 ab9 bl9 od9 pr9 o9 s9 : Nat → Nat) (fa9 fb9 : Int64), xRec G M1 ad nc sd jn tc dt fd ld tk kd wn jc jz jo ju (nI 1) cn9 zs9 os9 ab9 bl9 o9 s9 pr9 fa9 fb9 ∧ (cn9, zs9, os9, ab9, bl9, od9, pr9) = cAll (cIs sd jn tc dt fd ld tk kd wn) (cU tc dt fd ld tk kd wn) (cD tc dt tk kd wn) nc nc (0, zs, os, ab, bl, od, xClr pr 51) ∧ r = nI cn9 ∧ xGood ab9 bl9 o9 0 cn9 ∧ ∀ t, 500 ≤ t → M1 t = M t) (xPc G A) A) 0 0 A := by
  refine x_met (cc := cX4_run) (maxL := 3) (ret := (some .int)) RX4 (by decide) rfl (Nat.le_of_ble_eq_true rfl) rfl ?_
  intro p e s m below meth c hx hb hr hts hown hlocks hml hin hK hA hX ls hl
  have inX4 : ∀ w ∈ wsX40, w ∈ wsX4_run := by decide +kernel
  have lk_fieldLink_37 := hts (.fieldLink RX4 37 "Reconcile" "latest" "LReconcile$Listing;") (by decide +kernel)
  have lk_fieldLink_15 := hts (.fieldLink RX4 15 "Reconcile" "nameCount" "I") (by decide +kernel)
  have hS : va_S A s.heap s.heap [] := va_S.rf
  have hl : lv_has ls 3 [(0, .ref (ad 0))] := hl
  have hRR := hR
  obtain ⟨hc0, hc1, hc2, hc3, hcL, hc5, hc6, hc7, hc8, hc9, hc10, hc11, hc12, hnm, hjn⟩ := hR
  refine lv_aload_n hx hb dX4_run_0 rfl (lv_at hl 0 rfl) ?_
  refine x_get (ci := 6) (v := .ref (ad 4)) (C := RX4) (T := TX4) (N := 7) hx hb hts inX4 hown hK hX hc0 rfl 5 (by decide) lk_fieldLink_37 (fun _ h9 => h9) rfl dX4_run_1 ?_
  refine x_callv (x_runV (q := (RX2, TX2, 9)) (As := []) (rest := []) ⟨hx, hb, hml, hown, hts⟩ (ctX2_begin l G A M hcL hc6 hc7 hc8 hc9 hc10 hc11 hc12 hcn) (cwV 0 hts gX4_run_X2_begin rfl rfl rfl (by decide +kernel) ⟨Nat.le_of_ble_eq_true rfl, Nat.le_of_ble_eq_true rfl⟩) hK hA hX hS hcL rfl rfl hl.1 rfl (lv_room (Nat.le_of_ble_eq_true rfl)) dX4_run_4 ⟨by decide, by decide⟩) hS (fun M_2 H locs hp hX hS => ?_)
  have hRb : xRec G M_2 ad nc sd jn tc dt fd ld tk kd wn jc jz jo ju (nI 1) 0 zs os ab bl od sp (xClr pr 51) fa fb := by rw [hp]; exact xRec_begin hRR
  have hfb0 : ∀ t, 500 ≤ t → M_2 t = M t := fun t ht => by rw [hp, xu_n (by omega), xu_n (by omega)]
  refine lv_iconst (v := nI 1) hx hb dX4_run_7 (by decide) ?_
  refine lv_istore_n (lv' := [(1, .int (nI 1)), (0, .ref (ad 0))]) hx hb dX4_run_8 rfl hl (by decide) rfl (fun ls hl => ?_)
  have loop : ∀ (n : Nat) (i : Nat) (M9 : xM) (cn9 : Nat) (zs9 : Nat → Nat) (os9 : Nat → Nat) (ab9 : Nat → Nat) (bl9 : Nat → Nat) (od9 : Nat → Nat) (pr9 : Nat → Nat) (fa9 : Int64) (fb9 : Int64) (H : Heap) (locs : List Loc) (ls : Array Slot), nc < i + n → (i ≤ nc) → (xRec G M9 ad nc sd jn tc dt fd ld tk kd wn jc jz jo ju (nI 1) cn9 zs9 os9 ab9 bl9 od9 sp pr9 fa9 fb9) → ((cn9, zs9, os9, ab9, bl9, od9, pr9) = cAll (cIs sd jn tc dt fd ld tk kd wn) (cU tc dt fd ld tk kd wn) (cD tc dt tk kd wn) nc i (0, zs, os, ab, bl, od, xClr pr 51)) → (∀ t, 500 ≤ t → M9 t = M t) → xw G.1 vwCl A M9 H → va_S A s.heap H locs → lv_has ls 3 [(1, .int (nI (i + 1))), (0, .ref (ad 0))] → W p l e rmX4_run s m ([.ref (ad 0)] : List Value).toArray below meth c H locs 0 0 (MQ below (va_Qi (fun r M1 => ∃ (cn9 : Nat) (zs9 os9 ab9 bl9 od9 pr9 o9 s9 : Nat → Nat) (fa9 fb9 : Int64), xRec G M1 ad nc sd jn tc dt fd ld tk kd wn jc jz jo ju (nI 1) cn9 zs9 os9 ab9 bl9 o9 s9 pr9 fa9 fb9 ∧ (cn9, zs9, os9, ab9, bl9, od9, pr9) = cAll (cIs sd jn tc dt fd ld tk kd wn) (cU tc dt fd ld tk kd wn) (cD tc dt tk kd wn) nc nc (0, zs, os, ab, bl, od, xClr pr 51) ∧ r = nI cn9 ∧ xGood ab9 bl9 o9 0 cn9 ∧ ∀ t, 500 ≤ t → M1 t = M t) (xPc G A) A) ([.ref (ad 0)] : List Value).toArray s 0 0 A) (F0 m 9 ls []) := by
    intro n
    induction n with
    | zero => intro i M9 cn9 zs9 os9 ab9 bl9 od9 pr9 fa9 fb9 H locs ls hn0 hi9 hR9 hL9 hfr9; exact absurd hn0 (by omega)
    | succ n ih =>
      intro i M9 cn9 zs9 os9 ab9 bl9 od9 pr9 fa9 fb9 H locs ls hn0 hi9 hR9 hL9 hfr9 hX hS hl
      obtain ⟨hc0, hc1, hc2, hc3, hcL, hc5, hc6, hc7, hc8, hc9, hc10, hc11, hc12, hnm, hjn⟩ := id hR9
      have hRR := hR9
      refine lv_iload_n hx hb dX4_run_9 rfl (lv_at hl 0 rfl) ?_
      refine lv_aload_n hx hb dX4_run_10 rfl (lv_at hl 1 rfl) ?_
      refine x_get (ci := 6) (v := .int (nI nc)) (C := RX4) (T := TX4) (N := 7) hx hb hts inX4 hown hK hX hc0 rfl 1 (by decide) lk_fieldLink_15 (fun _ h9 => h9) rfl dX4_run_11 ?_
      refine lv_icmp_gt (tgt := 47) hx hb dX4_run_14 (by decide) (fun c_3 => ?_) (fun c_3 => ?_)
      · have c_3 : nc < (i + 1) := (nI_ltI (by omega) (by omega)).mp c_3
        have hin9 := cIs_inv (sd := sd) (L := (0, zs, os, ab, bl, od, xClr pr 51)) (jn := jn) (dt := dt) (fd := fd) (ld := ld) (tk := tk) htk hwn cInv_0
        have hic : i = nc := by omega
        rw [hic] at hL9
        have hle9 : cn9 ≤ 625 := by have q := cAll_le (U := (cU tc dt fd ld tk kd wn)) (D := (cD tc dt tk kd wn)) (L := (0, zs, os, ab, bl, od, xClr pr 51)) (i := nc) (cIs_sd (sd := sd) (jn := jn) (tc := tc) (dt := dt) (fd := fd) (ld := ld) (tk := tk) (kd := kd) (wn := wn)) rfl hnc (Nat.le_refl _); rw [← hL9] at q; exact q
        rw [← hL9] at hin9
        refine lv_aload_n hx hb dX4_run_47 rfl (lv_at hl 1 rfl) ?_
        refine x_get (ci := 6) (v := .ref (ad 4)) (C := RX4) (T := TX4) (N := 7) hx hb hts inX4 hown hK hX hc0 rfl 5 (by decide) lk_fieldLink_37 (fun _ h9 => h9) rfl dX4_run_48 ?_
        refine x_callv (x_runV (q := (RX2, TX2, 9)) (As := []) (rest := []) ⟨hx, hb, hml, hown, hts⟩ (ctX2_sort l G A M9 hcL hc6 hc7 hc8 hc9 hc10 hc11 hc12 hle9 (fun j hj => (hin9.1 j hj).1) (fun j hj => (hin9.1 j hj).2.1.1) (fun j hj => (hin9.1 j hj).2.1.2)) (cwV 0 hts gX4_run_X2_sort rfl rfl rfl (by decide +kernel) ⟨Nat.le_of_ble_eq_true rfl, Nat.le_of_ble_eq_true rfl⟩) hK hA hX hS hcL rfl rfl hl.1 rfl (lv_room (Nat.le_of_ble_eq_true rfl)) dX4_run_51 ⟨by decide, by decide⟩) hS (fun M_5 H locs hp hX hS => ?_)
        obtain ⟨o9, s9, hMs, hgd⟩ := hp
        have hc0 : M_5 0 = some (ad 0, .inr (6, [.ref (ad 1), .int (nI nc), .ref (ad 2), .ref (ad 3), .int (nI jc), .ref (ad 4), .ref (ad 5)])) := by rw [hMs, xu_n (by omega), xu_n (by omega)]; exact hc0
        have hc1 : M_5 1 = some (ad 1, .inl (G.2 3, 50, .inr (.inr (.inr (.inr (fun k => if k < nc then some (ad (100 + 3 * k)) else none)))))) := by rw [hMs, xu_n (by omega), xu_n (by omega)]; exact hc1
        have hc2 : M_5 2 = some (ad 2, .inl (G.2 1, 4, .inr (.inl (fun k => lN (wn k))))) := by rw [hMs, xu_n (by omega), xu_n (by omega)]; exact hc2
        have hc3 : M_5 3 = some (ad 3, .inl (G.2 4, 100, .inr (.inr (.inr (.inr (fun k => if k < jc then some (ad (300 + k)) else none)))))) := by rw [hMs, xu_n (by omega), xu_n (by omega)]; exact hc3
        have hcL : M_5 4 = some (ad 4, .inr (4, [.int (nI 1), .int (nI cn9), .ref (ad 6), .ref (ad 7), .ref (ad 8), .ref (ad 9), .ref (ad 10), .ref (ad 11), .ref (ad 12)])) := by rw [hMs, xu_n (by omega), xu_n (by omega)]; exact hcL
        have hc5 : M_5 5 = some (ad 5, .inr (2, [.long fa9, .long fb9])) := by rw [hMs, xu_n (by omega), xu_n (by omega)]; exact hc5
        have hc6 : M_5 6 = some (ad 6, .inl (G.2 0, 625, .inl (fun k => nI (zs9 k)))) := by rw [hMs, xu_n (by omega), xu_n (by omega)]; exact hc6
        have hc7 : M_5 7 = some (ad 7, .inl (G.2 0, 625, .inl (fun k => nI (os9 k)))) := by rw [hMs, xu_n (by omega), xu_n (by omega)]; exact hc7
        have hc8 : M_5 8 = some (ad 8, .inl (G.2 1, 625, .inr (.inl (fun k => lN (ab9 k))))) := by rw [hMs, xu_n (by omega), xu_n (by omega)]; exact hc8
        have hc9 : M_5 9 = some (ad 9, .inl (G.2 1, 625, .inr (.inl (fun k => lN (bl9 k))))) := by rw [hMs, xu_n (by omega), xu_n (by omega)]; exact hc9
        have hc12 : M_5 12 = some (ad 12, .inl (G.2 2, 51, .inl (fun k => nI (pr9 k)))) := by rw [hMs, xu_n (by omega), xu_n (by omega)]; exact hc12
        have hc10 : M_5 10 = some (ad 10, .inl (G.2 0, 625, .inl (fun k => nI (o9 k)))) := by rw [hMs, xu_n (by omega)]; exact xu_s
        have hc11 : M_5 11 = some (ad 11, .inl (G.2 0, 625, .inl (fun k => nI (s9 k)))) := by rw [hMs]; exact xu_s
        have hRs : xRec G M_5 ad nc sd jn tc dt fd ld tk kd wn jc jz jo ju (nI 1) cn9 zs9 os9 ab9 bl9 o9 s9 pr9 fa9 fb9 := by rw [hMs]; exact xRec_sort hR9
        have hfs : ∀ t, 500 ≤ t → M_5 t = M t := fun t ht => by rw [hMs, xu_n (by omega), xu_n (by omega)]; exact hfr9 t ht
        refine lv_aload_n hx hb dX4_run_54 rfl (lv_at hl 1 rfl) ?_
        refine x_get (ci := 6) (v := .ref (ad 4)) (C := RX4) (T := TX4) (N := 7) hx hb hts inX4 hown hK hX hc0 rfl 5 (by decide) lk_fieldLink_37 (fun _ h9 => h9) rfl dX4_run_55 ?_
        refine x_calli (x_runV (q := (RX2, TX2, 9)) (As := []) (rest := []) ⟨hx, hb, hml, hown, hts⟩ (ctX2_size l G A M_5 hcL hc6 hc7 hc8 hc9 hc10 hc11 hc12 hle9) (cwV 0 hts gX4_run_X2_size rfl rfl rfl (by decide +kernel) ⟨Nat.le_of_ble_eq_true rfl, Nat.le_of_ble_eq_true rfl⟩) hK hA hX hS hcL rfl rfl hl.1 rfl (lv_room (Nat.le_of_ble_eq_true rfl)) dX4_run_58 ⟨by decide, by decide⟩) hS (fun r_6 M_7 H locs hp hX hS => ?_)
        obtain ⟨hM_, er_6⟩ := hp
        rw [hM_] at hX
        exact x_iret hx hb hr hlocks hK hA hX hS dX4_run_61 (⟨cn9, zs9, os9, ab9, bl9, od9, pr9, o9, s9, fa9, fb9, hRs, hL9, er_6, hgd, hfs⟩)
      · have c_3 : ¬ (nc < (i + 1)) := fun q => c_3 ((nI_ltI (by omega) (by omega)).mpr q)
        refine lv_aload_n hx hb dX4_run_17 rfl (lv_at hl 1 rfl) ?_
        refine lv_iload_n hx hb dX4_run_18 rfl (lv_at hl 0 rfl) ?_
        refine x_callq (x_runV (q := (RX4, TX4, 7)) (As := [.int (nI (i + 1))]) (rest := []) ⟨hx, hb, hml, hown, hts⟩ (ctX4_find l G A M9 hRR (nI (i + 1)) hnc) (cwV 1 hts gX4_run_X4_find rfl rfl rfl (by decide +kernel) ⟨Nat.le_of_ble_eq_true rfl, Nat.le_of_ble_eq_true rfl⟩) hK hA hX hS hc0 rfl rfl hl.1 rfl (lv_room (Nat.le_of_ble_eq_true rfl)) dX4_run_19 ⟨by decide, by decide⟩) hS (fun r_8 M_9 H locs hp hX hS => ?_)
        obtain ⟨hM_, hq_r_8⟩ := hp
        rw [hM_] at hX
        rcases hq_r_8 with ⟨j2, hj2, ep, er⟩ | ⟨ep, er⟩
        · have ejj : i = j2 := by have q := (nI_eq (a := i + 1) (b := j2 + 1) (by omega) (by omega)).mp ep; omega
          subst ejj
          subst er
          obtain ⟨hn0j, hn1j, hn2j⟩ := hnm i hj2
          refine x_rv (y := .ref (ad (100 + 3 * i))) rfl ?_
          refine lv_astore_n (lv' := [(2, .ref (ad (100 + 3 * i))), (1, .int (nI (i + 1))), (0, .ref (ad 0))]) hx hb dX4_run_22 rfl hl (by decide) rfl (fun ls hl => ?_)
          refine lv_aload_n hx hb dX4_run_23 rfl (lv_at hl 0 rfl) ?_
          refine lv_ifnull hx hb dX4_run_24 ?_
          refine lv_aload_n hx hb dX4_run_27 rfl (lv_at hl 0 rfl) ?_
          refine lv_iconst (v := nI 0) hx hb dX4_run_28 (by decide) ?_
          refine x_calli (x_runV (q := (RX3, TX3, 8)) (As := [.int (nI 0)]) (rest := []) ⟨hx, hb, hml, hown, hts⟩ (ctX3_mayPair l G A M9 hn0j hn1j hn2j (htk i hj2).1 (nI 0)) (cwV 1 hts gX4_run_X3_mayPair rfl rfl rfl (by decide +kernel) ⟨Nat.le_of_ble_eq_true rfl, Nat.le_of_ble_eq_true rfl⟩) hK hA hX hS hn0j rfl rfl hl.1 rfl (lv_room (Nat.le_of_ble_eq_true rfl)) dX4_run_29 ⟨by decide, by decide⟩) hS (fun r_10 M_11 H locs hp hX hS => ?_)
          obtain ⟨hM_, er_10⟩ := hp
          rw [hM_] at hX
          refine lv_if_eq (tgt := 41) hx hb dX4_run_32 (by decide) (fun c_12 => ?_) (fun c_12 => ?_)
          · have hmi := x_if0 er_10 c_12
            refine lv_iinc (v := nI ((i + 1) + 1)) (lv' := [(1, .int (nI ((i + 1) + 1))), (2, .ref (ad (100 + 3 * i))), (0, .ref (ad 0))]) hx hb dX4_run_41 hl (k := 1) rfl (show nI (i + 1) + Int32.ofInt 1 = _ from nI_add _ 1) (by decide) rfl (fun ls hl => ?_)
            refine lv_goto (tgt := 9) hx hb dX4_run_44 (by decide) ?_
            exact ih (i + 1) M9 cn9 zs9 os9 ab9 bl9 od9 pr9 fa9 fb9 _ _ ls (by omega) (by omega) hR9 (by show _ = cRow _ _ _ i nc _; rw [cRow_skip (fun j q => hmi q.1.1)]; exact hL9) hfr9 hX hS (lv_sub hl [0, 2] rfl)
          · have hmi := x_if1 er_10 c_12
            refine lv_aload_n hx hb dX4_run_35 rfl (lv_at hl 2 rfl) ?_
            refine lv_iload_n hx hb dX4_run_36 rfl (lv_at hl 1 rfl) ?_
            refine lv_aload_n hx hb dX4_run_37 rfl (lv_at hl 0 rfl) ?_
            have hlt : ∀ j, j < nc → sd j = nI 1 → (cRow (cIs sd jn tc dt fd ld tk kd wn) (cU tc dt fd ld tk kd wn) (cD tc dt tk kd wn) i j (cn9, zs9, os9, ab9, bl9, od9, pr9)).1 < 625 := fun j hj hs => by rw [hL9]; exact cRow_lt cIs_sd rfl hnc hj2 hj ⟨hmi.1, hs⟩
            refine x_callv (x_runV (q := (RX4, TX4, 7)) (As := [.int (nI (i + 1)), .ref (ad (100 + 3 * i))]) (rest := []) ⟨hx, hb, hml, hown, hts⟩ (ctX4_listPairsOf l G A M9 hR9 i hj2 hmi hlt hnc htk hwn) (cwV 2 hts gX4_run_X4_listPairsOf rfl rfl rfl (by decide +kernel) ⟨Nat.le_of_ble_eq_true rfl, Nat.le_of_ble_eq_true rfl⟩) hK hA hX hS hc0 rfl rfl hl.1 rfl (lv_room (Nat.le_of_ble_eq_true rfl)) dX4_run_38 ⟨by decide, by decide⟩) hS (fun M_14 H locs hp hX hS => ?_)
            obtain ⟨cn8, zs8, os8, ab8, bl8, od8, pr8, fa8, fb8, hR8, hL8, hfr8⟩ := hp
            refine lv_iinc (v := nI ((i + 1) + 1)) (lv' := [(1, .int (nI ((i + 1) + 1))), (2, .ref (ad (100 + 3 * i))), (0, .ref (ad 0))]) hx hb dX4_run_41 hl (k := 1) rfl (show nI (i + 1) + Int32.ofInt 1 = _ from nI_add _ 1) (by decide) rfl (fun ls hl => ?_)
            refine lv_goto (tgt := 9) hx hb dX4_run_44 (by decide) ?_
            exact ih (i + 1) M_14 cn8 zs8 os8 ab8 bl8 od8 pr8 fa8 fb8 _ _ ls (by omega) (by omega) hR8 (by show _ = cRow _ _ _ i nc _; rw [← hL9]; exact hL8) (fun t ht => (hfr8 t ht).trans (hfr9 t ht)) hX hS (lv_sub hl [0, 2] rfl)
        · exact absurd ep (fun q => q.elim (fun z => by have := (nI_ltI (by omega) (by omega)).mp z; omega) (fun z => z ((nI_leI (by omega) (by omega)).mpr (by omega))))
  exact loop (nc + 1) 0 M_2 0 zs os ab bl od (xClr pr 51) fa fb _ _ ls (by omega) (by omega) hRb rfl hfb0 hX hS (lv_sub hl [0, 1] rfl)
end
