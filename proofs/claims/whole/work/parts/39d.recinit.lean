/-! the constructor of Reconcile: it wants the words on arrays of references -/
def xPcA (G : xG) (A : Nat → Prop) (M : xM) (U : State) : Prop := xPc G A M U ∧ va_AO RX3 U ∧ va_AO RX1 U ∧ va_Nw (.methodLinkNest RX4 36 yX2_init "Reconcile") U ∧ va_Nw (.methodLinkNest RX4 43 yX0_init "Reconcile") U
theorem x_blindA {av : List Value} {G : xG} {A : Nat → Prop} {M : xM} : FrameBlind (va_Pc av (xPcA G A M)) := fun a U g mk q => ⟨q.1, (x_blind (av := av) a U g mk ⟨q.1, q.2.1⟩).2, va_AO.moved (u := U) (U := U.calling g mk a) (Vm.Alike.refl U.vm) q.2.2.1, va_AO.moved (u := U) (U := U.calling g mk a) (Vm.Alike.refl U.vm) q.2.2.2.1, va_Nw.same rfl (u := U) (U := U.calling g mk a) rfl q.2.2.2.2.1, va_Nw.same rfl (u := U) (U := U.calling g mk a) rfl q.2.2.2.2.2⟩
section XCA
variable {p : Program} {l : Launch} {e : Env} {R : Room} {s : State} {m : MethodId} {args : Array Value} {below : List Frame} {meth : Method} {c : Code} {H : Heap} {locs : List Loc} {cells slots : Nat} {Q : State → Prop}
variable {cc : ByteArray} {pc : Nat} {ls : Array Slot} {rest : List Value} {A : Nat → Prop} {M : xM} {G : xG} {H0 : Heap}
variable {Ts ws ws' : List Cond} {nL maxL index n mc ms : Nat} {own C : String} {y : MethodName} {bytes : ByteArray} {ret : Option FieldType} {rm : Room} {Qc : Array Value → State → Outcome → State → Prop} {b : Nat} {As : List Value} {st : List Value} {a : Array Value}
theorem x_metA {av : List Value} {maxL : Nat} (own : String) (hy : plainName y.cls = true) (hw : ws = Cond.code y cc maxL ret :: ws') (hlen : (lg_sl av).length ≤ maxL) (hyo : y.cls = own)
    (body : ∀ (p : Program) (e : Env) (s : State) (m : MethodId) (below : List Frame) (meth : Method) (c : Code), p.tables.exec = Jvm.exec → c.code = cc → meth.sig.returnType = ret → (∀ w ∈ ws, w.before av.toArray s = true) → s.vm.findClass own = some m.cls → meth.locks = false → c.maxLocals = maxL → meth.name = y.name → va_K G.1 vwCl (xT G) s → (∀ q, s.heap.size ≤ q → A q) → xw G.1 vwCl A M s.heap → va_AO RX3 s → va_AO RX1 s → va_Nw (.methodLinkNest RX4 36 yX2_init "Reconcile") s → va_Nw (.methodLinkNest RX4 43 yX0_init "Reconcile") s → ∀ ls : Array Slot, lv_has ls maxL (lv_args 0 av) →
      W p l e rm s m av.toArray below meth c s.heap [] 0 0 (MQ below Qc av.toArray s mc ms A) (F0 m 0 ls [])) : Met l y ws rm (va_Pc av (xPcA G A M)) Qc mc ms A := by
  refine Met.ofW (cc := cc) (maxL := maxL) (ret := ret) hy hw ?_
  intro p e s m args below meth c s₁ B hml hv
  obtain ⟨rfl, ⟨hK, hA, hX⟩, ho1, ho2, ho3, ho4⟩ := hv
  have hl := lv_entry av (n := maxL) hlen
  rw [lg_entry_eq]
  exact body p e s m below meth c B.exec B.bytes B.returns (atoms_spec (ws := ws) B.pre) (by rw [← hyo]; exact findClass_of_methodNamed B.named) B.notSynchronized hml (name_of_methodNamed B.named B.method).1 hK hA hX ho1 ho2 ho3 ho4 _ hl
theorem x_runIA (S : CallFix p m c cc nL s args Ts own) (hM : Met l y ws rm (va_Pc (.ref b :: As) (xPcA G A M)) Qc mc ms A) (cw : CallB R s args own index y bytes maxL none ws rm mc ms n ∧ y.name = "<init>" ∧ (Cond.instanceMethod y).before args s = true) (hK : va_K G.1 vwCl (xT G) s) (hA : ∀ q, s.heap.size ≤ q → A q) (ho1 : va_AO RX3 s) (ho2 : va_AO RX1 s) (ho3 : va_Nw (.methodLinkNest RX4 36 yX2_init "Reconcile") s) (ho4 : va_Nw (.methodLinkNest RX4 43 yX0_init "Reconcile") s) (hX : xw G.1 vwCl A M H) (hS : va_S A s.heap H locs)
    (hn : As.length = n) (hsize : ls.size = nL) (hstack : st = As.reverse ++ .ref b :: rest) (hW : 2 * (F0 m pc ls st).monitorRoom + (rest.map fun v => v.category).sum ≤ 8) (hdg : decode cc pc = .ok (.invokespecial index, 3)) (hf : cells + mc ≤ R.cells ∧ slots + ms ≤ R.slots) :
    va_Run p l e R s m args below meth c H locs cells slots mc ms (F0 m pc ls st) rest (Qc (Value.ref b :: As).toArray) A :=
  va_runI S hM cw ⟨x_blindA, fun U hU hW => ⟨rfl, (x_pre (av := .ref b :: As) hK hA hX hS U hU hW).2, va_AO.moved hW.alike ho1, va_AO.moved hW.alike ho2, va_Nw.warmM hW ho3, va_Nw.warmM hW ho4⟩⟩ rfl hn hsize hstack hW hdg hf
end XCA
theorem x_none {f : Nat → Option Nat} : (fun k => if k < 0 then f k else none) = fun _ => none := by
  funext k
  rw [if_neg (by omega)]

abbrev rmX4_init : Room := { frames := 2, cells := 12, slots := 3966, locals := 32 }
set_option maxHeartbeats 4000000 in
set_option maxRecDepth 100000 in
/-- Reconcile() -/
theorem ctX4_init (l : Launch) (G : xG) (A : Nat → Prop) (M : xM) {a : Nat} (hc0 : M 0 = some (a, .inr (6, [.null, .int (nI 0), .null, .null, .int (nI 0), .null, .null]))) : Met l yX4_init wsX4_init rmX4_init (va_Pc ([.ref a] : List Value) (xPcA G A M)) (va_Qv (fun M1 => ∃ ad : Nat → Nat, ad 0 = a ∧ xRec G M1 ad 0 (fun _ => 0) (fun _ => 0) (fun _ => 0) (fun _ => 0) (fun _ => 0) (fun _ => 0) (fun _ _ => 0) (fun _ _ => 0) wn0 0 (fun _ => 0) (fun _ => 0) (fun _ => 0) (nI 0) 0 (fun _ => 0) (fun _ => 0) (fun _ => 0) (fun _ => 0) (fun _ => 0) (fun _ => 0) (fun _ => 0) (lN 0) (lN 0) ∧ ∀ t, 500 ≤ t → M1 t = M t) (xPc G A) A) 12 3966 A := by
  refine x_metA (cc := cX4_init) (maxL := 1) (ret := none) RX4 (by decide) rfl (Nat.le_of_ble_eq_true rfl) rfl ?_
  intro p e s m below meth c hx hb hr hts hown hlocks hml hin hK hA hX ho1 ho2 ho3 ho4 ls hl
  have inX0 : ∀ w ∈ wsX00, w ∈ wsX4_init := by decide +kernel
  have inX2 : ∀ w ∈ wsX20, w ∈ wsX4_init := by decide +kernel
  have inX4 : ∀ w ∈ wsX40, w ∈ wsX4_init := by decide +kernel
  have lk_methodLink_1 := hts (.methodLink RX4 1 objectInit) (by decide +kernel)
  have lk_classLink_9 := hts (.classLink RX4 9 RX3) (by decide +kernel)
  have lk_fieldLink_11 := hts (.fieldLink RX4 11 "Reconcile" "names" "[LReconcile$Name;") (by decide +kernel)
  have lk_fieldLink_15 := hts (.fieldLink RX4 15 "Reconcile" "nameCount" "I") (by decide +kernel)
  have lk_constantLong_19 := hts (.constantLong RX4 19 (2520)) (by decide +kernel)
  have lk_fieldLink_21 := hts (.fieldLink RX4 21 "Reconcile" "weights" "[J") (by decide +kernel)
  have lk_classLink_25 := hts (.classLink RX4 25 RX1) (by decide +kernel)
  have lk_fieldLink_27 := hts (.fieldLink RX4 27 "Reconcile" "joins" "[LReconcile$Join;") (by decide +kernel)
  have lk_fieldLink_31 := hts (.fieldLink RX4 31 "Reconcile" "joinCount" "I") (by decide +kernel)
  have lk_classLink_34 := hts (.classLink RX4 34 RX2) (by decide +kernel)
  have lk_fieldLink_37 := hts (.fieldLink RX4 37 "Reconcile" "latest" "LReconcile$Listing;") (by decide +kernel)
  have lk_classLink_41 := hts (.classLink RX4 41 RX0) (by decide +kernel)
  have lk_fieldLink_44 := hts (.fieldLink RX4 44 "Reconcile" "measured" "LReconcile$Fraction;") (by decide +kernel)
  have hS : va_S A s.heap s.heap [] := va_S.rf
  have hl : lv_has ls 1 [(0, .ref a)] := hl
  refine lv_aload_n hx hb dX4_init_0 rfl (lv_at hl 0 rfl) ?_
  refine W.objInit hx hb hown lk_methodLink_1 (hts (.instanceMethod objectInit) (by decide +kernel)) (hts (.code objectInit ⟨#[0xb1]⟩ 1 none) (List.mem_of_getElem? (i := 3) rfl)) rfl (by rw [hml]; exact hl.1) rfl dX4_init_1 (Nat.le_of_ble_eq_true rfl) (Nat.le_of_ble_eq_true rfl) ?_
  refine W.eq (g2 := F0 m 4 ls []) rfl ?_
  refine lv_aload_n hx hb dX4_init_4 rfl (lv_at hl 0 rfl) ?_
  refine lv_bipush (v := nI 50) hx hb dX4_init_5 (by decide) ?_
  refine x_newq (k := 3) (N' := 50) hx hb hown lk_classLink_9 ho1 hK hX hS hA rfl rfl (by omega) (Nat.le_of_ble_eq_true rfl) (Nat.le_of_ble_eq_true rfl) dX4_init_7 (1) (fun q_1 H hX hS => ?_)
  obtain ⟨M_2, hM_2⟩ : ∃ zM : xM, zM = xu M 1 (q_1, .inl (G.2 3, 50, .inr (.inr (.inr (.inr (fun _ => none)))))) := ⟨_, rfl⟩
  have hX : xw G.1 vwCl A M_2 H := by rw [hM_2]; exact hX
  have hc0 : M_2 0 = some (a, .inr (6, [.null, .int (nI 0), .null, .null, .int (nI 0), .null, .null])) := by rw [hM_2, xu_n (by omega)]; exact hc0
  have hc1 : M_2 1 = some (q_1, .inl (G.2 3, 50, .inr (.inr (.inr (.inr (fun _ => none)))))) := by rw [hM_2]; exact xu_s
  refine x_putF (ci := 6) (v := .ref q_1) (C := RX4) (T := TX4) (N := 7) hx hb hts inX4 tyX4 tyX4_ok nmX4 hown hK hX hS hc0 rfl 0 (by decide) lk_fieldLink_11 (fun _ h9 => h9) rfl hin rfl (tyX4_ok 0 (by decide)) rfl rfl (Nat.le_of_ble_eq_true rfl) dX4_init_10 (fun H locs hX hS => ?_)
  obtain ⟨M_3, hM_3⟩ : ∃ zM : xM, zM = xu M_2 0 (a, .inr (6, [.ref q_1, .int (nI 0), .null, .null, .int (nI 0), .null, .null])) := ⟨_, rfl⟩
  have hX : xw G.1 vwCl A M_3 H := by rw [hM_3]; exact hX
  have hc1 : M_3 1 = some (q_1, .inl (G.2 3, 50, .inr (.inr (.inr (.inr (fun _ => none)))))) := by rw [hM_3, xu_n (by omega)]; exact hc1
  have hc0 : M_3 0 = some (a, .inr (6, [.ref q_1, .int (nI 0), .null, .null, .int (nI 0), .null, .null])) := by rw [hM_3]; exact xu_s
  refine lv_aload_n hx hb dX4_init_13 rfl (lv_at hl 0 rfl) ?_
  refine lv_iconst (v := nI 0) hx hb dX4_init_14 (by decide) ?_
  refine x_put (ci := 6) (v := .int (nI 0)) (C := RX4) (T := TX4) (N := 7) hx hb hts inX4 tyX4 tyX4_ok nmX4 hown hK hX hS hc0 rfl 1 (by decide) lk_fieldLink_15 (fun _ h9 => h9) rfl (tyX4_ok 1 (by decide)) rfl rfl (Nat.le_of_ble_eq_true rfl) dX4_init_15 (fun H locs hX hS => ?_)
  obtain ⟨M_4, hM_4⟩ : ∃ zM : xM, zM = xu M_3 0 (a, .inr (6, [.ref q_1, .int (nI 0), .null, .null, .int (nI 0), .null, .null])) := ⟨_, rfl⟩
  have hX : xw G.1 vwCl A M_4 H := by rw [hM_4]; exact hX
  have hc1 : M_4 1 = some (q_1, .inl (G.2 3, 50, .inr (.inr (.inr (.inr (fun _ => none)))))) := by rw [hM_4, xu_n (by omega)]; exact hc1
  have hc0 : M_4 0 = some (a, .inr (6, [.ref q_1, .int (nI 0), .null, .null, .int (nI 0), .null, .null])) := by rw [hM_4]; exact xu_s
  refine lv_aload_n hx hb dX4_init_18 rfl (lv_at hl 0 rfl) ?_
  refine lv_iconst (v := nI 4) hx hb dX4_init_19 (by decide) ?_
  refine x_newa (atype := .long) (ty := .long) (k := 1) (N' := 4) (a0 := (4, .inr (.inl (fun k => lN ((fun _ => 0) k))))) hx hb (hts (.arrayClass .long) (by decide +kernel)) rfl (fun _ h => by cases h) hK hX hS hA rfl (fun _ => rfl) rfl (by omega) (Nat.le_of_ble_eq_true rfl) (Nat.le_of_ble_eq_true rfl) (Nat.le_of_ble_eq_true rfl) dX4_init_20 (2) (fun q_5 H hX hS => ?_)
  obtain ⟨M_6, hM_6⟩ : ∃ zM : xM, zM = xu M_4 2 (q_5, .inl (G.2 1, 4, .inr (.inl (fun k => lN ((fun _ => 0) k))))) := ⟨_, rfl⟩
  have hX : xw G.1 vwCl A M_6 H := by rw [hM_6]; exact hX
  have hc0 : M_6 0 = some (a, .inr (6, [.ref q_1, .int (nI 0), .null, .null, .int (nI 0), .null, .null])) := by rw [hM_6, xu_n (by omega)]; exact hc0
  have hc1 : M_6 1 = some (q_1, .inl (G.2 3, 50, .inr (.inr (.inr (.inr (fun _ => none)))))) := by rw [hM_6, xu_n (by omega)]; exact hc1
  have hc2 : M_6 2 = some (q_5, .inl (G.2 1, 4, .inr (.inl (fun k => lN ((fun _ => 0) k))))) := by rw [hM_6]; exact xu_s
  refine lv_dup hx hb dX4_init_22 rfl ?_
  refine lv_iconst (v := nI 0) hx hb dX4_init_23 (by decide) ?_
  refine lv_ldc2 (v := 2520) hx hb hown lk_constantLong_19 dX4_init_24 ?_
  refine x_rl (y := lN 2520) rfl ?_
  refine x_lsN hx hb hK hX hS hc2 (by omega) (by decide) dX4_init_27 (fun H locs hX hS => ?_)
  rw [updL_n] at hX
  obtain ⟨M_7, hM_7⟩ : ∃ zM : xM, zM = xu M_6 2 (q_5, .inl (G.2 1, 4, .inr (.inl (fun k => lN ((va_up (fun _ => 0) 0 2520) k))))) := ⟨_, rfl⟩
  have hX : xw G.1 vwCl A M_7 H := by rw [hM_7]; exact hX
  have hc0 : M_7 0 = some (a, .inr (6, [.ref q_1, .int (nI 0), .null, .null, .int (nI 0), .null, .null])) := by rw [hM_7, xu_n (by omega)]; exact hc0
  have hc1 : M_7 1 = some (q_1, .inl (G.2 3, 50, .inr (.inr (.inr (.inr (fun _ => none)))))) := by rw [hM_7, xu_n (by omega)]; exact hc1
  have hc2 : M_7 2 = some (q_5, .inl (G.2 1, 4, .inr (.inl (fun k => lN ((va_up (fun _ => 0) 0 2520) k))))) := by rw [hM_7]; exact xu_s
  refine lv_dup hx hb dX4_init_28 rfl ?_
  refine lv_iconst (v := nI 1) hx hb dX4_init_29 (by decide) ?_
  refine lv_ldc2 (v := 2520) hx hb hown lk_constantLong_19 dX4_init_30 ?_
  refine x_rl (y := lN 2520) rfl ?_
  refine x_lsN hx hb hK hX hS hc2 (by omega) (by decide) dX4_init_33 (fun H locs hX hS => ?_)
  rw [updL_n] at hX
  obtain ⟨M_8, hM_8⟩ : ∃ zM : xM, zM = xu M_7 2 (q_5, .inl (G.2 1, 4, .inr (.inl (fun k => lN ((va_up (va_up (fun _ => 0) 0 2520) 1 2520) k))))) := ⟨_, rfl⟩
  have hX : xw G.1 vwCl A M_8 H := by rw [hM_8]; exact hX
  have hc0 : M_8 0 = some (a, .inr (6, [.ref q_1, .int (nI 0), .null, .null, .int (nI 0), .null, .null])) := by rw [hM_8, xu_n (by omega)]; exact hc0
  have hc1 : M_8 1 = some (q_1, .inl (G.2 3, 50, .inr (.inr (.inr (.inr (fun _ => none)))))) := by rw [hM_8, xu_n (by omega)]; exact hc1
  have hc2 : M_8 2 = some (q_5, .inl (G.2 1, 4, .inr (.inl (fun k => lN ((va_up (va_up (fun _ => 0) 0 2520) 1 2520) k))))) := by rw [hM_8]; exact xu_s
  refine lv_dup hx hb dX4_init_34 rfl ?_
  refine lv_iconst (v := nI 2) hx hb dX4_init_35 (by decide) ?_
  refine lv_ldc2 (v := 2520) hx hb hown lk_constantLong_19 dX4_init_36 ?_
  refine x_rl (y := lN 2520) rfl ?_
  refine x_lsN hx hb hK hX hS hc2 (by omega) (by decide) dX4_init_39 (fun H locs hX hS => ?_)
  rw [updL_n] at hX
  obtain ⟨M_9, hM_9⟩ : ∃ zM : xM, zM = xu M_8 2 (q_5, .inl (G.2 1, 4, .inr (.inl (fun k => lN ((va_up (va_up (va_up (fun _ => 0) 0 2520) 1 2520) 2 2520) k))))) := ⟨_, rfl⟩
  have hX : xw G.1 vwCl A M_9 H := by rw [hM_9]; exact hX
  have hc0 : M_9 0 = some (a, .inr (6, [.ref q_1, .int (nI 0), .null, .null, .int (nI 0), .null, .null])) := by rw [hM_9, xu_n (by omega)]; exact hc0
  have hc1 : M_9 1 = some (q_1, .inl (G.2 3, 50, .inr (.inr (.inr (.inr (fun _ => none)))))) := by rw [hM_9, xu_n (by omega)]; exact hc1
  have hc2 : M_9 2 = some (q_5, .inl (G.2 1, 4, .inr (.inl (fun k => lN ((va_up (va_up (va_up (fun _ => 0) 0 2520) 1 2520) 2 2520) k))))) := by rw [hM_9]; exact xu_s
  refine lv_dup hx hb dX4_init_40 rfl ?_
  refine lv_iconst (v := nI 3) hx hb dX4_init_41 (by decide) ?_
  refine lv_ldc2 (v := 2520) hx hb hown lk_constantLong_19 dX4_init_42 ?_
  refine x_rl (y := lN 2520) rfl ?_
  refine x_lsN hx hb hK hX hS hc2 (by omega) (by decide) dX4_init_45 (fun H locs hX hS => ?_)
  rw [updL_n] at hX
  obtain ⟨M_10, hM_10⟩ : ∃ zM : xM, zM = xu M_9 2 (q_5, .inl (G.2 1, 4, .inr (.inl (fun k => lN ((va_up (va_up (va_up (va_up (fun _ => 0) 0 2520) 1 2520) 2 2520) 3 2520) k))))) := ⟨_, rfl⟩
  have hX : xw G.1 vwCl A M_10 H := by rw [hM_10]; exact hX
  have hc0 : M_10 0 = some (a, .inr (6, [.ref q_1, .int (nI 0), .null, .null, .int (nI 0), .null, .null])) := by rw [hM_10, xu_n (by omega)]; exact hc0
  have hc1 : M_10 1 = some (q_1, .inl (G.2 3, 50, .inr (.inr (.inr (.inr (fun _ => none)))))) := by rw [hM_10, xu_n (by omega)]; exact hc1
  have hc2 : M_10 2 = some (q_5, .inl (G.2 1, 4, .inr (.inl (fun k => lN ((va_up (va_up (va_up (va_up (fun _ => 0) 0 2520) 1 2520) 2 2520) 3 2520) k))))) := by rw [hM_10]; exact xu_s
  refine x_putF (ci := 6) (v := .ref q_5) (C := RX4) (T := TX4) (N := 7) hx hb hts inX4 tyX4 tyX4_ok nmX4 hown hK hX hS hc0 rfl 2 (by decide) lk_fieldLink_21 (fun _ h9 => h9) rfl hin rfl (tyX4_ok 2 (by decide)) rfl rfl (Nat.le_of_ble_eq_true rfl) dX4_init_46 (fun H locs hX hS => ?_)
  obtain ⟨M_11, hM_11⟩ : ∃ zM : xM, zM = xu M_10 0 (a, .inr (6, [.ref q_1, .int (nI 0), .ref q_5, .null, .int (nI 0), .null, .null])) := ⟨_, rfl⟩
  have hX : xw G.1 vwCl A M_11 H := by rw [hM_11]; exact hX
  have hc1 : M_11 1 = some (q_1, .inl (G.2 3, 50, .inr (.inr (.inr (.inr (fun _ => none)))))) := by rw [hM_11, xu_n (by omega)]; exact hc1
  have hc2 : M_11 2 = some (q_5, .inl (G.2 1, 4, .inr (.inl (fun k => lN ((va_up (va_up (va_up (va_up (fun _ => 0) 0 2520) 1 2520) 2 2520) 3 2520) k))))) := by rw [hM_11, xu_n (by omega)]; exact hc2
  have hc0 : M_11 0 = some (a, .inr (6, [.ref q_1, .int (nI 0), .ref q_5, .null, .int (nI 0), .null, .null])) := by rw [hM_11]; exact xu_s
  refine lv_aload_n hx hb dX4_init_49 rfl (lv_at hl 0 rfl) ?_
  refine lv_bipush (v := nI 100) hx hb dX4_init_50 (by decide) ?_
  refine x_newq (k := 4) (N' := 100) hx hb hown lk_classLink_25 ho2 hK hX hS hA rfl rfl (by omega) (Nat.le_of_ble_eq_true rfl) (Nat.le_of_ble_eq_true rfl) dX4_init_52 (3) (fun q_12 H hX hS => ?_)
  obtain ⟨M_13, hM_13⟩ : ∃ zM : xM, zM = xu M_11 3 (q_12, .inl (G.2 4, 100, .inr (.inr (.inr (.inr (fun _ => none)))))) := ⟨_, rfl⟩
  have hX : xw G.1 vwCl A M_13 H := by rw [hM_13]; exact hX
  have hc0 : M_13 0 = some (a, .inr (6, [.ref q_1, .int (nI 0), .ref q_5, .null, .int (nI 0), .null, .null])) := by rw [hM_13, xu_n (by omega)]; exact hc0
  have hc1 : M_13 1 = some (q_1, .inl (G.2 3, 50, .inr (.inr (.inr (.inr (fun _ => none)))))) := by rw [hM_13, xu_n (by omega)]; exact hc1
  have hc2 : M_13 2 = some (q_5, .inl (G.2 1, 4, .inr (.inl (fun k => lN ((va_up (va_up (va_up (va_up (fun _ => 0) 0 2520) 1 2520) 2 2520) 3 2520) k))))) := by rw [hM_13, xu_n (by omega)]; exact hc2
  have hc3 : M_13 3 = some (q_12, .inl (G.2 4, 100, .inr (.inr (.inr (.inr (fun _ => none)))))) := by rw [hM_13]; exact xu_s
  refine x_putF (ci := 6) (v := .ref q_12) (C := RX4) (T := TX4) (N := 7) hx hb hts inX4 tyX4 tyX4_ok nmX4 hown hK hX hS hc0 rfl 3 (by decide) lk_fieldLink_27 (fun _ h9 => h9) rfl hin rfl (tyX4_ok 3 (by decide)) rfl rfl (Nat.le_of_ble_eq_true rfl) dX4_init_55 (fun H locs hX hS => ?_)
  obtain ⟨M_14, hM_14⟩ : ∃ zM : xM, zM = xu M_13 0 (a, .inr (6, [.ref q_1, .int (nI 0), .ref q_5, .ref q_12, .int (nI 0), .null, .null])) := ⟨_, rfl⟩
  have hX : xw G.1 vwCl A M_14 H := by rw [hM_14]; exact hX
  have hc1 : M_14 1 = some (q_1, .inl (G.2 3, 50, .inr (.inr (.inr (.inr (fun _ => none)))))) := by rw [hM_14, xu_n (by omega)]; exact hc1
  have hc2 : M_14 2 = some (q_5, .inl (G.2 1, 4, .inr (.inl (fun k => lN ((va_up (va_up (va_up (va_up (fun _ => 0) 0 2520) 1 2520) 2 2520) 3 2520) k))))) := by rw [hM_14, xu_n (by omega)]; exact hc2
  have hc3 : M_14 3 = some (q_12, .inl (G.2 4, 100, .inr (.inr (.inr (.inr (fun _ => none)))))) := by rw [hM_14, xu_n (by omega)]; exact hc3
  have hc0 : M_14 0 = some (a, .inr (6, [.ref q_1, .int (nI 0), .ref q_5, .ref q_12, .int (nI 0), .null, .null])) := by rw [hM_14]; exact xu_s
  refine lv_aload_n hx hb dX4_init_58 rfl (lv_at hl 0 rfl) ?_
  refine lv_iconst (v := nI 0) hx hb dX4_init_59 (by decide) ?_
  refine x_put (ci := 6) (v := .int (nI 0)) (C := RX4) (T := TX4) (N := 7) hx hb hts inX4 tyX4 tyX4_ok nmX4 hown hK hX hS hc0 rfl 4 (by decide) lk_fieldLink_31 (fun _ h9 => h9) rfl (tyX4_ok 4 (by decide)) rfl rfl (Nat.le_of_ble_eq_true rfl) dX4_init_60 (fun H locs hX hS => ?_)
  obtain ⟨M_15, hM_15⟩ : ∃ zM : xM, zM = xu M_14 0 (a, .inr (6, [.ref q_1, .int (nI 0), .ref q_5, .ref q_12, .int (nI 0), .null, .null])) := ⟨_, rfl⟩
  have hX : xw G.1 vwCl A M_15 H := by rw [hM_15]; exact hX
  have hc1 : M_15 1 = some (q_1, .inl (G.2 3, 50, .inr (.inr (.inr (.inr (fun _ => none)))))) := by rw [hM_15, xu_n (by omega)]; exact hc1
  have hc2 : M_15 2 = some (q_5, .inl (G.2 1, 4, .inr (.inl (fun k => lN ((va_up (va_up (va_up (va_up (fun _ => 0) 0 2520) 1 2520) 2 2520) 3 2520) k))))) := by rw [hM_15, xu_n (by omega)]; exact hc2
  have hc3 : M_15 3 = some (q_12, .inl (G.2 4, 100, .inr (.inr (.inr (.inr (fun _ => none)))))) := by rw [hM_15, xu_n (by omega)]; exact hc3
  have hc0 : M_15 0 = some (a, .inr (6, [.ref q_1, .int (nI 0), .ref q_5, .ref q_12, .int (nI 0), .null, .null])) := by rw [hM_15]; exact xu_s
  refine lv_aload_n hx hb dX4_init_63 rfl (lv_at hl 0 rfl) ?_
  refine x_new (ci := 4) (fs := [.int (nI 0), .int (nI 0), .null, .null, .null, .null, .null, .null, .null]) (C := RX2) (T := TX2) (N := 9) hx hb hts inX2 tyX2 tyX2_ok hown lk_classLink_34 (hts (.instantiable RX2 9) (by decide +kernel)) (hts (.initialized RX2) (by decide +kernel)) hK hX hS hA rfl (fun j hj => by rcases (show j = 0 ∨ j = 1 ∨ j = 2 ∨ j = 3 ∨ j = 4 ∨ j = 5 ∨ j = 6 ∨ j = 7 ∨ j = 8 by omega) with rfl | rfl | rfl | rfl | rfl | rfl | rfl | rfl | rfl <;> rfl) (Nat.le_of_ble_eq_true rfl) (Nat.le_of_ble_eq_true rfl) dX4_init_64 (4) (fun q_16 H hX hS => ?_)
  obtain ⟨M_17, hM_17⟩ : ∃ zM : xM, zM = xu M_15 4 (q_16, .inr (4, [.int (nI 0), .int (nI 0), .null, .null, .null, .null, .null, .null, .null])) := ⟨_, rfl⟩
  have hX : xw G.1 vwCl A M_17 H := by rw [hM_17]; exact hX
  have hc0 : M_17 0 = some (a, .inr (6, [.ref q_1, .int (nI 0), .ref q_5, .ref q_12, .int (nI 0), .null, .null])) := by rw [hM_17, xu_n (by omega)]; exact hc0
  have hc1 : M_17 1 = some (q_1, .inl (G.2 3, 50, .inr (.inr (.inr (.inr (fun _ => none)))))) := by rw [hM_17, xu_n (by omega)]; exact hc1
  have hc2 : M_17 2 = some (q_5, .inl (G.2 1, 4, .inr (.inl (fun k => lN ((va_up (va_up (va_up (va_up (fun _ => 0) 0 2520) 1 2520) 2 2520) 3 2520) k))))) := by rw [hM_17, xu_n (by omega)]; exact hc2
  have hc3 : M_17 3 = some (q_12, .inl (G.2 4, 100, .inr (.inr (.inr (.inr (fun _ => none)))))) := by rw [hM_17, xu_n (by omega)]; exact hc3
  have hcL : M_17 4 = some (q_16, .inr (4, [.int (nI 0), .int (nI 0), .null, .null, .null, .null, .null, .null, .null])) := by rw [hM_17]; exact xu_s
  refine lv_dup hx hb dX4_init_67 rfl ?_
  refine x_callv (va_runIN (As := []) (rest := [.ref q_16, .ref a]) ⟨hx, hb, hml, hown, hts⟩ (ctX2_init l G A M_17 hcL) ⟨va_cnB 0 hts gX4_init_X2_init_n36 rfl rfl rfl ho3 (hts (.initialized RX2) (by decide +kernel)) (by decide +kernel) ⟨Nat.le_of_ble_eq_true rfl, Nat.le_of_ble_eq_true rfl⟩, rfl, hts (.instanceMethod yX2_init) (by decide +kernel)⟩ ⟨x_blind, x_pre hK hA hX hS⟩ rfl rfl hl.1 rfl (lv_room (Nat.le_of_ble_eq_true rfl)) dX4_init_68 ⟨by decide, by decide⟩) hS (fun M_18 H locs hp hX hS => ?_)
  obtain ⟨q6, q7, q8, q9, q10, q11, q12, hMl⟩ := hp
  have hc0 : M_18 0 = some (a, .inr (6, [.ref q_1, .int (nI 0), .ref q_5, .ref q_12, .int (nI 0), .null, .null])) := by rw [hMl, xu_n (by omega), xu_n (by omega), xu_n (by omega), xu_n (by omega), xu_n (by omega), xu_n (by omega), xu_n (by omega), xu_n (by omega)]; exact hc0
  have hc1 : M_18 1 = some (q_1, .inl (G.2 3, 50, .inr (.inr (.inr (.inr (fun _ => none)))))) := by rw [hMl, xu_n (by omega), xu_n (by omega), xu_n (by omega), xu_n (by omega), xu_n (by omega), xu_n (by omega), xu_n (by omega), xu_n (by omega)]; exact hc1
  have hc2 : M_18 2 = some (q_5, .inl (G.2 1, 4, .inr (.inl (fun k => lN ((va_up (va_up (va_up (va_up (fun _ => 0) 0 2520) 1 2520) 2 2520) 3 2520) k))))) := by rw [hMl, xu_n (by omega), xu_n (by omega), xu_n (by omega), xu_n (by omega), xu_n (by omega), xu_n (by omega), xu_n (by omega), xu_n (by omega)]; exact hc2
  have hc3 : M_18 3 = some (q_12, .inl (G.2 4, 100, .inr (.inr (.inr (.inr (fun _ => none)))))) := by rw [hMl, xu_n (by omega), xu_n (by omega), xu_n (by omega), xu_n (by omega), xu_n (by omega), xu_n (by omega), xu_n (by omega), xu_n (by omega)]; exact hc3
  have hc6 : M_18 6 = some (q6, .inl (G.2 0, 625, .inl (fun k => nI ((fun _ => 0) k)))) := by rw [hMl, xu_n (by omega), xu_n (by omega), xu_n (by omega), xu_n (by omega), xu_n (by omega), xu_n (by omega), xu_n (by omega)]; exact xu_s
  have hc7 : M_18 7 = some (q7, .inl (G.2 0, 625, .inl (fun k => nI ((fun _ => 0) k)))) := by rw [hMl, xu_n (by omega), xu_n (by omega), xu_n (by omega), xu_n (by omega), xu_n (by omega), xu_n (by omega)]; exact xu_s
  have hc8 : M_18 8 = some (q8, .inl (G.2 1, 625, .inr (.inl (fun k => lN ((fun _ => 0) k))))) := by rw [hMl, xu_n (by omega), xu_n (by omega), xu_n (by omega), xu_n (by omega), xu_n (by omega)]; exact xu_s
  have hc9 : M_18 9 = some (q9, .inl (G.2 1, 625, .inr (.inl (fun k => lN ((fun _ => 0) k))))) := by rw [hMl, xu_n (by omega), xu_n (by omega), xu_n (by omega), xu_n (by omega)]; exact xu_s
  have hc10 : M_18 10 = some (q10, .inl (G.2 0, 625, .inl (fun k => nI ((fun _ => 0) k)))) := by rw [hMl, xu_n (by omega), xu_n (by omega), xu_n (by omega)]; exact xu_s
  have hc11 : M_18 11 = some (q11, .inl (G.2 0, 625, .inl (fun k => nI ((fun _ => 0) k)))) := by rw [hMl, xu_n (by omega), xu_n (by omega)]; exact xu_s
  have hc12 : M_18 12 = some (q12, .inl (G.2 2, 51, .inl (fun k => nI ((fun _ => 0) k)))) := by rw [hMl, xu_n (by omega)]; exact xu_s
  have hcL : M_18 4 = some (q_16, .inr (4, [.int (nI 0), .int (nI 0), .ref q6, .ref q7, .ref q8, .ref q9, .ref q10, .ref q11, .ref q12])) := by rw [hMl]; exact xu_s
  refine x_putF (ci := 6) (v := .ref q_16) (C := RX4) (T := TX4) (N := 7) hx hb hts inX4 tyX4 tyX4_ok nmX4 hown hK hX hS hc0 rfl 5 (by decide) lk_fieldLink_37 (fun _ h9 => h9) rfl hin rfl (tyX4_ok 5 (by decide)) rfl rfl (Nat.le_of_ble_eq_true rfl) dX4_init_71 (fun H locs hX hS => ?_)
  obtain ⟨M_19, hM_19⟩ : ∃ zM : xM, zM = xu M_18 0 (a, .inr (6, [.ref q_1, .int (nI 0), .ref q_5, .ref q_12, .int (nI 0), .ref q_16, .null])) := ⟨_, rfl⟩
  have hX : xw G.1 vwCl A M_19 H := by rw [hM_19]; exact hX
  have hc1 : M_19 1 = some (q_1, .inl (G.2 3, 50, .inr (.inr (.inr (.inr (fun _ => none)))))) := by rw [hM_19, xu_n (by omega)]; exact hc1
  have hc2 : M_19 2 = some (q_5, .inl (G.2 1, 4, .inr (.inl (fun k => lN ((va_up (va_up (va_up (va_up (fun _ => 0) 0 2520) 1 2520) 2 2520) 3 2520) k))))) := by rw [hM_19, xu_n (by omega)]; exact hc2
  have hc3 : M_19 3 = some (q_12, .inl (G.2 4, 100, .inr (.inr (.inr (.inr (fun _ => none)))))) := by rw [hM_19, xu_n (by omega)]; exact hc3
  have hcL : M_19 4 = some (q_16, .inr (4, [.int (nI 0), .int (nI 0), .ref q6, .ref q7, .ref q8, .ref q9, .ref q10, .ref q11, .ref q12])) := by rw [hM_19, xu_n (by omega)]; exact hcL
  have hc6 : M_19 6 = some (q6, .inl (G.2 0, 625, .inl (fun k => nI ((fun _ => 0) k)))) := by rw [hM_19, xu_n (by omega)]; exact hc6
  have hc7 : M_19 7 = some (q7, .inl (G.2 0, 625, .inl (fun k => nI ((fun _ => 0) k)))) := by rw [hM_19, xu_n (by omega)]; exact hc7
  have hc8 : M_19 8 = some (q8, .inl (G.2 1, 625, .inr (.inl (fun k => lN ((fun _ => 0) k))))) := by rw [hM_19, xu_n (by omega)]; exact hc8
  have hc9 : M_19 9 = some (q9, .inl (G.2 1, 625, .inr (.inl (fun k => lN ((fun _ => 0) k))))) := by rw [hM_19, xu_n (by omega)]; exact hc9
  have hc10 : M_19 10 = some (q10, .inl (G.2 0, 625, .inl (fun k => nI ((fun _ => 0) k)))) := by rw [hM_19, xu_n (by omega)]; exact hc10
  have hc11 : M_19 11 = some (q11, .inl (G.2 0, 625, .inl (fun k => nI ((fun _ => 0) k)))) := by rw [hM_19, xu_n (by omega)]; exact hc11
  have hc12 : M_19 12 = some (q12, .inl (G.2 2, 51, .inl (fun k => nI ((fun _ => 0) k)))) := by rw [hM_19, xu_n (by omega)]; exact hc12
  have hc0 : M_19 0 = some (a, .inr (6, [.ref q_1, .int (nI 0), .ref q_5, .ref q_12, .int (nI 0), .ref q_16, .null])) := by rw [hM_19]; exact xu_s
  refine lv_aload_n hx hb dX4_init_74 rfl (lv_at hl 0 rfl) ?_
  refine x_new (ci := 2) (fs := [.long (lN 0), .long (lN 0)]) (C := RX0) (T := TX0) (N := 2) hx hb hts inX0 tyX0 tyX0_ok hown lk_classLink_41 (hts (.instantiable RX0 2) (by decide +kernel)) (hts (.initialized RX0) (by decide +kernel)) hK hX hS hA rfl (fun j hj => by rcases (show j = 0 ∨ j = 1 by omega) with rfl | rfl <;> rfl) (Nat.le_of_ble_eq_true rfl) (Nat.le_of_ble_eq_true rfl) dX4_init_75 (5) (fun q_20 H hX hS => ?_)
  obtain ⟨M_21, hM_21⟩ : ∃ zM : xM, zM = xu M_19 5 (q_20, .inr (2, [.long (lN 0), .long (lN 0)])) := ⟨_, rfl⟩
  have hX : xw G.1 vwCl A M_21 H := by rw [hM_21]; exact hX
  have hc0 : M_21 0 = some (a, .inr (6, [.ref q_1, .int (nI 0), .ref q_5, .ref q_12, .int (nI 0), .ref q_16, .null])) := by rw [hM_21, xu_n (by omega)]; exact hc0
  have hc1 : M_21 1 = some (q_1, .inl (G.2 3, 50, .inr (.inr (.inr (.inr (fun _ => none)))))) := by rw [hM_21, xu_n (by omega)]; exact hc1
  have hc2 : M_21 2 = some (q_5, .inl (G.2 1, 4, .inr (.inl (fun k => lN ((va_up (va_up (va_up (va_up (fun _ => 0) 0 2520) 1 2520) 2 2520) 3 2520) k))))) := by rw [hM_21, xu_n (by omega)]; exact hc2
  have hc3 : M_21 3 = some (q_12, .inl (G.2 4, 100, .inr (.inr (.inr (.inr (fun _ => none)))))) := by rw [hM_21, xu_n (by omega)]; exact hc3
  have hcL : M_21 4 = some (q_16, .inr (4, [.int (nI 0), .int (nI 0), .ref q6, .ref q7, .ref q8, .ref q9, .ref q10, .ref q11, .ref q12])) := by rw [hM_21, xu_n (by omega)]; exact hcL
  have hc6 : M_21 6 = some (q6, .inl (G.2 0, 625, .inl (fun k => nI ((fun _ => 0) k)))) := by rw [hM_21, xu_n (by omega)]; exact hc6
  have hc7 : M_21 7 = some (q7, .inl (G.2 0, 625, .inl (fun k => nI ((fun _ => 0) k)))) := by rw [hM_21, xu_n (by omega)]; exact hc7
  have hc8 : M_21 8 = some (q8, .inl (G.2 1, 625, .inr (.inl (fun k => lN ((fun _ => 0) k))))) := by rw [hM_21, xu_n (by omega)]; exact hc8
  have hc9 : M_21 9 = some (q9, .inl (G.2 1, 625, .inr (.inl (fun k => lN ((fun _ => 0) k))))) := by rw [hM_21, xu_n (by omega)]; exact hc9
  have hc10 : M_21 10 = some (q10, .inl (G.2 0, 625, .inl (fun k => nI ((fun _ => 0) k)))) := by rw [hM_21, xu_n (by omega)]; exact hc10
  have hc11 : M_21 11 = some (q11, .inl (G.2 0, 625, .inl (fun k => nI ((fun _ => 0) k)))) := by rw [hM_21, xu_n (by omega)]; exact hc11
  have hc12 : M_21 12 = some (q12, .inl (G.2 2, 51, .inl (fun k => nI ((fun _ => 0) k)))) := by rw [hM_21, xu_n (by omega)]; exact hc12
  have hc5 : M_21 5 = some (q_20, .inr (2, [.long (lN 0), .long (lN 0)])) := by rw [hM_21]; exact xu_s
  refine lv_dup hx hb dX4_init_78 rfl ?_
  refine x_callv (va_runIN (As := []) (rest := [.ref q_20, .ref a]) ⟨hx, hb, hml, hown, hts⟩ (ctX0_init l G A M_21 hc5) ⟨va_cnB 0 hts gX4_init_X0_init_n43 rfl rfl rfl ho4 (hts (.initialized RX0) (by decide +kernel)) (by decide +kernel) ⟨Nat.le_of_ble_eq_true rfl, Nat.le_of_ble_eq_true rfl⟩, rfl, hts (.instanceMethod yX0_init) (by decide +kernel)⟩ ⟨x_blind, x_pre hK hA hX hS⟩ rfl rfl hl.1 rfl (lv_room (Nat.le_of_ble_eq_true rfl)) dX4_init_79 ⟨by decide, by decide⟩) hS (fun M_22 H locs hp hX hS => ?_)
  rw [hp] at hX
  refine x_putF (ci := 6) (v := .ref q_20) (C := RX4) (T := TX4) (N := 7) hx hb hts inX4 tyX4 tyX4_ok nmX4 hown hK hX hS hc0 rfl 6 (by decide) lk_fieldLink_44 (fun _ h9 => h9) rfl hin rfl (tyX4_ok 6 (by decide)) rfl rfl (Nat.le_of_ble_eq_true rfl) dX4_init_82 (fun H locs hX hS => ?_)
  obtain ⟨M_23, hM_23⟩ : ∃ zM : xM, zM = xu M_21 0 (a, .inr (6, [.ref q_1, .int (nI 0), .ref q_5, .ref q_12, .int (nI 0), .ref q_16, .ref q_20])) := ⟨_, rfl⟩
  have hX : xw G.1 vwCl A M_23 H := by rw [hM_23]; exact hX
  have hc1 : M_23 1 = some (q_1, .inl (G.2 3, 50, .inr (.inr (.inr (.inr (fun _ => none)))))) := by rw [hM_23, xu_n (by omega)]; exact hc1
  have hc2 : M_23 2 = some (q_5, .inl (G.2 1, 4, .inr (.inl (fun k => lN ((va_up (va_up (va_up (va_up (fun _ => 0) 0 2520) 1 2520) 2 2520) 3 2520) k))))) := by rw [hM_23, xu_n (by omega)]; exact hc2
  have hc3 : M_23 3 = some (q_12, .inl (G.2 4, 100, .inr (.inr (.inr (.inr (fun _ => none)))))) := by rw [hM_23, xu_n (by omega)]; exact hc3
  have hcL : M_23 4 = some (q_16, .inr (4, [.int (nI 0), .int (nI 0), .ref q6, .ref q7, .ref q8, .ref q9, .ref q10, .ref q11, .ref q12])) := by rw [hM_23, xu_n (by omega)]; exact hcL
  have hc6 : M_23 6 = some (q6, .inl (G.2 0, 625, .inl (fun k => nI ((fun _ => 0) k)))) := by rw [hM_23, xu_n (by omega)]; exact hc6
  have hc7 : M_23 7 = some (q7, .inl (G.2 0, 625, .inl (fun k => nI ((fun _ => 0) k)))) := by rw [hM_23, xu_n (by omega)]; exact hc7
  have hc8 : M_23 8 = some (q8, .inl (G.2 1, 625, .inr (.inl (fun k => lN ((fun _ => 0) k))))) := by rw [hM_23, xu_n (by omega)]; exact hc8
  have hc9 : M_23 9 = some (q9, .inl (G.2 1, 625, .inr (.inl (fun k => lN ((fun _ => 0) k))))) := by rw [hM_23, xu_n (by omega)]; exact hc9
  have hc10 : M_23 10 = some (q10, .inl (G.2 0, 625, .inl (fun k => nI ((fun _ => 0) k)))) := by rw [hM_23, xu_n (by omega)]; exact hc10
  have hc11 : M_23 11 = some (q11, .inl (G.2 0, 625, .inl (fun k => nI ((fun _ => 0) k)))) := by rw [hM_23, xu_n (by omega)]; exact hc11
  have hc12 : M_23 12 = some (q12, .inl (G.2 2, 51, .inl (fun k => nI ((fun _ => 0) k)))) := by rw [hM_23, xu_n (by omega)]; exact hc12
  have hc5 : M_23 5 = some (q_20, .inr (2, [.long (lN 0), .long (lN 0)])) := by rw [hM_23, xu_n (by omega)]; exact hc5
  have hc0 : M_23 0 = some (a, .inr (6, [.ref q_1, .int (nI 0), .ref q_5, .ref q_12, .int (nI 0), .ref q_16, .ref q_20])) := by rw [hM_23]; exact xu_s
  refine W.widen (k := 12) (n := 3966) (by omega) (by omega) ?_
  exact x_vret hx hb hr hlocks hK hA hX hS dX4_init_85 (⟨fun t => if t = 0 then a else if t = 1 then q_1 else if t = 2 then q_5 else if t = 3 then q_12 else if t = 4 then q_16 else if t = 5 then q_20 else if t = 6 then q6 else if t = 7 then q7 else if t = 8 then q8 else if t = 9 then q9 else if t = 10 then q10 else if t = 11 then q11 else if t = 12 then q12 else 0, rfl, ⟨hc0, by rw [x_none]; exact hc1, hc2, by rw [x_none]; exact hc3, hcL, hc5, hc6, hc7, hc8, hc9, hc10, hc11, hc12, fun i hi => absurd hi (by omega), fun j hj => absurd hj (by omega)⟩, fun t ht => by rw [hM_23, xu_n (by omega), hM_21, xu_n (by omega), hM_19, xu_n (by omega), hMl, xu_n (by omega), xu_n (by omega), xu_n (by omega), xu_n (by omega), xu_n (by omega), xu_n (by omega), xu_n (by omega), xu_n (by omega), hM_17, xu_n (by omega), hM_15, xu_n (by omega), hM_14, xu_n (by omega), hM_13, xu_n (by omega), hM_11, xu_n (by omega), hM_10, xu_n (by omega), hM_9, xu_n (by omega), hM_8, xu_n (by omega), hM_7, xu_n (by omega), hM_6, xu_n (by omega), hM_4, xu_n (by omega), hM_3, xu_n (by omega), hM_2, xu_n (by omega)]⟩)
