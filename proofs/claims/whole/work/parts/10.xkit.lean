/-! MY OWN WORLD: cells by tags. M t = some (address, contents). -/
abbrev xM : Type := Nat → Option (Nat × va_E)
def xu (M : xM) (t : Nat) (x : Nat × va_E) : xM := fun j => if j = t then some x else M j
theorem xu_s {M : xM} {t : Nat} {x : Nat × va_E} : xu M t x t = some x := if_pos rfl
theorem xu_n {M : xM} {t j : Nat} {x : Nat × va_E} (h : j ≠ t) : xu M t x j = M j := if_neg h
def xw (D : va_G) (cl : List vw_C) (A : Nat → Prop) (M : xM) (H : Heap) : Prop :=
  ∃ ws : va_W, va_P D cl ws H ∧ va_D A ws ∧ (∀ (t : Nat) (x : Nat × va_E), M t = some x → ∃ k : Nat, ws[k]? = some x) ∧ ∀ (t t' : Nat) (x y : Nat × va_E), M t = some x → M t' = some y → x.1 = y.1 → t = t'
theorem xw_set {D : va_G} {cl : List vw_C} {A : Nat → Prop} {M : xM} {H1 : Heap} {ws : va_W} {k t a : Nat} {e e' : va_E} (hP1 : va_P D cl (ws.set k (a, e')) H1) (hD1 : va_D A (ws.set k (a, e'))) (h3 : ∀ (t : Nat) (x : Nat × va_E), M t = some x → ∃ k : Nat, ws[k]? = some x) (h4 : ∀ (t t' : Nat) (x y : Nat × va_E), M t = some x → M t' = some y → x.1 = y.1 → t = t') (hk : ws[k]? = some (a, e)) (ht : M t = some (a, e)) : xw D cl A (xu M t (a, e')) H1 := by
  have aux : ∀ (j : Nat) (x : Nat × va_E), xu M t (a, e') j = some x → ∃ z : Nat × va_E, M j = some z ∧ z.1 = x.1 := by
    intro j x hj
    by_cases h : j = t
    · subst h
      rw [xu_s] at hj
      cases hj
      exact ⟨_, ht, rfl⟩
    · rw [xu_n h] at hj
      exact ⟨_, hj, rfl⟩
  refine ⟨_, hP1, hD1, ?_, ?_⟩
  · intro j x hj
    by_cases h : j = t
    · subst h
      rw [xu_s] at hj
      cases hj
      exact ⟨k, List.getElem?_set_self (List.getElem?_eq_some_iff.mp hk).1⟩
    · rw [xu_n h] at hj
      obtain ⟨k', hk'⟩ := h3 j x hj
      refine ⟨k', ?_⟩
      rw [List.getElem?_set_ne ?_]
      · exact hk'
      · intro q
        subst q
        rw [hk] at hk'
        cases hk'
        exact h (h4 _ _ _ _ hj ht rfl)
  · intro j j' x y hj hj' hxy
    obtain ⟨z, hz, ez⟩ := aux j x hj
    obtain ⟨z', hz', ez'⟩ := aux j' y hj'
    exact h4 _ _ _ _ hz hz' (by rw [ez, ez', hxy])
theorem xw_push {D : va_G} {cl : List vw_C} {A : Nat → Prop} {M : xM} {H1 : Heap} {ws : va_W} {t q : Nat} {e : va_E} (hP1 : va_P D cl (ws ++ [(q, e)]) H1) (hD1 : va_D A (ws ++ [(q, e)])) (h3 : ∀ (t : Nat) (x : Nat × va_E), M t = some x → ∃ k : Nat, ws[k]? = some x) (h4 : ∀ (t t' : Nat) (x y : Nat × va_E), M t = some x → M t' = some y → x.1 = y.1 → t = t') : xw D cl A (xu M t (q, e)) H1 := by
  have hq : (ws ++ [(q, e)])[ws.length]? = some (q, e) := by rw [List.getElem?_append_right (Nat.le_refl _), Nat.sub_self]; rfl
  have old : ∀ (j : Nat) (x : Nat × va_E), M j = some x → ∃ k : Nat, k < ws.length ∧ (ws ++ [(q, e)])[k]? = some x := by
    intro j x hj
    obtain ⟨k, hk⟩ := h3 j x hj
    have hl := (List.getElem?_eq_some_iff.mp hk).1
    exact ⟨k, hl, by rw [List.getElem?_append_left hl]; exact hk⟩
  have apart : ∀ (j : Nat) (x : Nat × va_E), M j = some x → x.1 = q → False := by
    intro j x hj hx
    obtain ⟨k, hl, hk⟩ := old j x hj
    have := hD1.1 k ws.length x (q, e) hk hq hx
    omega
  refine ⟨_, hP1, hD1, ?_, ?_⟩
  · intro j x hj
    by_cases h : j = t
    · subst h
      rw [xu_s] at hj
      cases hj
      exact ⟨_, hq⟩
    · rw [xu_n h] at hj
      obtain ⟨k, -, hk⟩ := old j x hj
      exact ⟨k, hk⟩
  · intro j j' x y hj hj' hxy
    by_cases h : j = t
    · by_cases h' : j' = t
      · rw [h, h']
      · subst h
        rw [xu_s] at hj
        cases hj
        rw [xu_n h'] at hj'
        exact (apart _ _ hj' hxy.symm).elim
    · by_cases h' : j' = t
      · subst h'
        rw [xu_s] at hj'
        cases hj'
        rw [xu_n h] at hj
        exact (apart _ _ hj hxy).elim
      · rw [xu_n h] at hj
        rw [xu_n h'] at hj'
        exact h4 _ _ _ _ hj hj' hxy
section XK
variable {p : Program} {l : Launch} {e : Env} {R : Room} {s : State} {m : MethodId} {args : Array Value} {below : List Frame} {meth : Method} {c : Code} {H : Heap} {locs : List Loc} {cells slots : Nat} {Q : State → Prop}
variable {cc : ByteArray} {pc : Nat} {ls : Array Slot} {rest : List Value} {D : va_G} {cl : List vw_C} {A : Nat → Prop} {a : Nat} {tys : List (ClassId × FieldType)} {M : xM} {H0 : Heap}
theorem x_get (hexec : p.tables.exec = Jvm.exec) (hb : c.code = cc) {own ref C : String} {T : u_T} {N ci index : Nat} {Ts : List Cond} (hts : ∀ w ∈ Ts, w.before args s = true) (hin : ∀ w ∈ u_ws C T N, w ∈ Ts) (hown : s.vm.findClass own = some m.cls) (hK : va_K D cl tys s) (hX : xw D cl A M H) {t : Nat} {fs : List Value} (he : M t = some (a, .inr (ci, fs))) (hc : cl[ci]? = some (C, T, N)) (k : Nat) (hk : k < N) (hlink : (Cond.fieldLink own index ref (T k).2.1 (T k).2.2.1).before args s = true) (hsame : ∀ x, s.fieldFound? (T k).1 (T k).2.1 (T k).2.2.1 = some x → s.fieldFound? ref (T k).2.1 (T k).2.2.1 = some x) {v : Value} (hv : fs[k]? = some v) (hdg : decode cc pc = .ok (.getfield index, 3))
    (kk : W p l e R s m args below meth c H locs cells slots Q (F0 m (pc + 3) ls (v :: rest))) : W p l e R s m args below meth c H locs cells slots Q (F0 m pc ls (.ref a :: rest)) := by
  obtain ⟨ws, hP, -, h3, -⟩ := hX
  obtain ⟨q0, hq⟩ := h3 t _ he
  exact va_get hexec hb hts hin hown hK hP q0 hq hc k hk hlink hsame hv hdg kk
theorem x_put (hexec : p.tables.exec = Jvm.exec) (hb : c.code = cc) {own ref C : String} {T : u_T} {N ci index : Nat} {Ts : List Cond} (hts : ∀ w ∈ Ts, w.before args s = true) (hin : ∀ w ∈ u_ws C T N, w ∈ Ts) (ty0 : Nat → FieldType) (hty : ∀ k, k < N → parseFieldDescriptor (T k).2.2.1 = some (ty0 k)) (hnm : ∀ a, a < N → ∀ b, b < N → a ≠ b → (T a).2.1 ≠ (T b).2.1) (hown : s.vm.findClass own = some m.cls) (hK : va_K D cl tys s) (hX : xw D cl A M H) (hS0 : va_S A H0 H locs) {t : Nat} {fs : List Value} (he : M t = some (a, .inr (ci, fs))) (hc : cl[ci]? = some (C, T, N)) (k : Nat) (hk : k < N) (hlink : (Cond.fieldLink own index ref (T k).2.1 (T k).2.2.1).before args s = true) (hsame : ∀ x, s.fieldFound? (T k).1 (T k).2.1 (T k).2.2.1 = some x → s.fieldFound? ref (T k).2.1 (T k).2.2.1 = some x) (hfin : (T k).2.2.2 = false) {ty : FieldType} {v : Value} (hd : parseFieldDescriptor (T k).2.2.1 = some ty) (hn : narrow ty v = v) (hfit : fits ty v = true) (hl : k < fs.length)
    (hdg : decode cc pc = .ok (.putfield index, 3)) (kk : ∀ (H1 : Heap) (locs1 : List Loc), xw D cl A (xu M t (a, .inr (ci, fs.set k v))) H1 → va_S A H0 H1 locs1 → W p l e R s m args below meth c H1 locs1 cells slots Q (F0 m (pc + 3) ls rest)) : W p l e R s m args below meth c H locs cells slots Q (F0 m pc ls (v :: .ref a :: rest)) := by
  obtain ⟨ws, hP, hD, h3, h4⟩ := hX
  obtain ⟨q0, hq⟩ := h3 t _ he
  exact va_put hexec hb hts hin ty0 hty hnm hown hK hP hD hS0 q0 hq hc k hk hlink hsame hfin hd hn hfit hl hdg (fun H1 locs1 hP1 hD1 hS1 => kk H1 locs1 (xw_set hP1 hD1 h3 h4 hq he) hS1)
theorem x_putF (hexec : p.tables.exec = Jvm.exec) (hb : c.code = cc) {own ref C : String} {T : u_T} {N ci index : Nat} {Ts : List Cond} (hts : ∀ w ∈ Ts, w.before args s = true) (hin : ∀ w ∈ u_ws C T N, w ∈ Ts) (ty0 : Nat → FieldType) (hty : ∀ k, k < N → parseFieldDescriptor (T k).2.2.1 = some (ty0 k)) (hnm : ∀ a, a < N → ∀ b, b < N → a ≠ b → (T a).2.1 ≠ (T b).2.1) (hown : s.vm.findClass own = some m.cls) (hK : va_K D cl tys s) (hX : xw D cl A M H) (hS0 : va_S A H0 H locs) {t : Nat} {fs : List Value} (he : M t = some (a, .inr (ci, fs))) (hc : cl[ci]? = some (C, T, N)) (k : Nat) (hk : k < N) (hlink : (Cond.fieldLink own index ref (T k).2.1 (T k).2.2.1).before args s = true) (hsame : ∀ x, s.fieldFound? (T k).1 (T k).2.1 (T k).2.2.1 = some x → s.fieldFound? ref (T k).2.1 (T k).2.2.1 = some x) (hfin : (T k).2.2.2 = true) (hin2 : meth.name = "<init>") (hdecl : (T k).1 = own) {ty : FieldType} {v : Value} (hd : parseFieldDescriptor (T k).2.2.1 = some ty) (hn : narrow ty v = v) (hfit : fits ty v = true) (hl : k < fs.length)
    (hdg : decode cc pc = .ok (.putfield index, 3)) (kk : ∀ (H1 : Heap) (locs1 : List Loc), xw D cl A (xu M t (a, .inr (ci, fs.set k v))) H1 → va_S A H0 H1 locs1 → W p l e R s m args below meth c H1 locs1 cells slots Q (F0 m (pc + 3) ls rest)) : W p l e R s m args below meth c H locs cells slots Q (F0 m pc ls (v :: .ref a :: rest)) := by
  obtain ⟨ws, hP, hD, h3, h4⟩ := hX
  obtain ⟨q0, hq⟩ := h3 t _ he
  exact va_putF hexec hb hts hin ty0 hty hnm hown hK hP hD hS0 q0 hq hc k hk hlink hsame hfin hin2 hdecl hd hn hfit hl hdg (fun H1 locs1 hP1 hD1 hS1 => kk H1 locs1 (xw_set hP1 hD1 h3 h4 hq he) hS1)
theorem x_iald (hexec : p.tables.exec = Jvm.exec) (hb : c.code = cc) (hK : va_K D cl tys s) (hX : xw D cl A M H) {t : Nat} (t0 : Nat) {cA : ClassId} {n : Nat} {f : Nat → Int32} (ha : M t = some (a, .inl (cA, n, .inl f))) (ht : tys[t0]? = some (cA, .int)) {i : Int32} (hin : vp_in i n) (hdg : decode cc pc = .ok (.iaload, 1))
    (kk : W p l e R s m args below meth c H locs cells slots Q (F0 m (pc + 1) ls (.int (f i.toNatClampNeg) :: rest))) : W p l e R s m args below meth c H locs cells slots Q (F0 m pc ls (.int i :: .ref a :: rest)) := by
  obtain ⟨ws, hP, -, h3, -⟩ := hX
  obtain ⟨q0, hq⟩ := h3 t _ ha
  exact va_iald hexec hb hK hP q0 t0 hq ht hin hdg kk
theorem x_zald (hexec : p.tables.exec = Jvm.exec) (hb : c.code = cc) (hK : va_K D cl tys s) (hX : xw D cl A M H) {t : Nat} (t0 : Nat) {cA : ClassId} {n : Nat} {f : Nat → Int32} (ha : M t = some (a, .inl (cA, n, .inl f))) (ht : tys[t0]? = some (cA, .boolean)) {i : Int32} (hin : vp_in i n) (hdg : decode cc pc = .ok (.baload, 1))
    (kk : W p l e R s m args below meth c H locs cells slots Q (F0 m (pc + 1) ls (.int (f i.toNatClampNeg) :: rest))) : W p l e R s m args below meth c H locs cells slots Q (F0 m pc ls (.int i :: .ref a :: rest)) := by
  obtain ⟨ws, hP, -, h3, -⟩ := hX
  obtain ⟨q0, hq⟩ := h3 t _ ha
  exact va_zald hexec hb hK hP q0 t0 hq ht hin hdg kk
theorem x_lald (hexec : p.tables.exec = Jvm.exec) (hb : c.code = cc) (hK : va_K D cl tys s) (hX : xw D cl A M H) {t : Nat} (t0 : Nat) {cA : ClassId} {n : Nat} {f : Nat → Int64} (ha : M t = some (a, .inl (cA, n, .inr (.inl f)))) (ht : tys[t0]? = some (cA, .long)) {i : Int32} (hin : vp_in i n) (hdg : decode cc pc = .ok (.laload, 1))
    (kk : W p l e R s m args below meth c H locs cells slots Q (F0 m (pc + 1) ls (.long (f i.toNatClampNeg) :: rest))) : W p l e R s m args below meth c H locs cells slots Q (F0 m pc ls (.int i :: .ref a :: rest)) := by
  obtain ⟨ws, hP, -, h3, -⟩ := hX
  obtain ⟨q0, hq⟩ := h3 t _ ha
  exact va_lald hexec hb hK hP q0 t0 hq ht hin hdg kk
theorem x_aald (hexec : p.tables.exec = Jvm.exec) (hb : c.code = cc) (hK : va_K D cl tys s) (hX : xw D cl A M H) {t : Nat} (t0 : Nat) {cA : ClassId} {C : String} {n : Nat} {f : Nat → Option Nat} (ha : M t = some (a, .inl (cA, n, .inr (.inr (.inr (.inr f)))))) (ht : tys[t0]? = some (cA, .object C)) {i : Int32} (hin : vp_in i n) (hdg : decode cc pc = .ok (.aaload, 1))
    (kk : W p l e R s m args below meth c H locs cells slots Q (F0 m (pc + 1) ls (va_rf (f i.toNatClampNeg) :: rest))) : W p l e R s m args below meth c H locs cells slots Q (F0 m pc ls (.int i :: .ref a :: rest)) := by
  obtain ⟨ws, hP, -, h3, -⟩ := hX
  obtain ⟨q0, hq⟩ := h3 t _ ha
  exact va_aldq hexec hb hK hP q0 t0 hq ht hin hdg kk
theorem x_alen (hexec : p.tables.exec = Jvm.exec) (hb : c.code = cc) (hK : va_K D cl tys s) (hX : xw D cl A M H) {t : Nat} (t0 : Nat) {cA : ClassId} {x : vp_A} (ha : M t = some (a, .inl (cA, x))) {ty : FieldType} (ht : tys[t0]? = some (cA, ty)) {v : Int32} (hv : Int32.ofNat x.1 = v) (hdg : decode cc pc = .ok (.arraylength, 1))
    (kk : W p l e R s m args below meth c H locs cells slots Q (F0 m (pc + 1) ls (.int v :: rest))) : W p l e R s m args below meth c H locs cells slots Q (F0 m pc ls (.ref a :: rest)) := by
  obtain ⟨ws, hP, -, h3, -⟩ := hX
  obtain ⟨q0, hq⟩ := h3 t _ ha
  exact va_alen hexec hb hK hP q0 t0 hq ht hv hdg kk
theorem x_iast (hexec : p.tables.exec = Jvm.exec) (hb : c.code = cc) (hK : va_K D cl tys s) (hX : xw D cl A M H) (hS : va_S A H0 H locs) {t : Nat} (t0 : Nat) {cA : ClassId} {n : Nat} {f : Nat → Int32} (ha : M t = some (a, .inl (cA, n, .inl f))) (ht : tys[t0]? = some (cA, .int)) {i : Int32} {x : Int32} (hin : vp_in i n) (hdg : decode cc pc = .ok (.iastore, 1))
    (kk : ∀ (H1 : Heap) (locs1 : List Loc), xw D cl A (xu M t (a, .inl (cA, n, .inl (upd f i.toNatClampNeg x)))) H1 → va_S A H0 H1 locs1 → W p l e R s m args below meth c H1 locs1 cells slots Q (F0 m (pc + 1) ls rest)) : W p l e R s m args below meth c H locs cells slots Q (F0 m pc ls (.int x :: .int i :: .ref a :: rest)) := by
  obtain ⟨ws, hP, hD, h3, h4⟩ := hX
  obtain ⟨q0, hq⟩ := h3 t _ ha
  exact va_iast hexec hb hK hP hD hS q0 t0 hq ht hin hdg (fun H1 locs1 hP1 hD1 hS1 => kk H1 locs1 (xw_set hP1 hD1 h3 h4 hq ha) hS1)
theorem x_zast (hexec : p.tables.exec = Jvm.exec) (hb : c.code = cc) (hK : va_K D cl tys s) (hX : xw D cl A M H) (hS : va_S A H0 H locs) {t : Nat} (t0 : Nat) {cA : ClassId} {n : Nat} {f : Nat → Int32} (ha : M t = some (a, .inl (cA, n, .inl f))) (ht : tys[t0]? = some (cA, .boolean)) {i : Int32} {x : Int32} (hin : vp_in i n) (hdg : decode cc pc = .ok (.bastore, 1))
    (kk : ∀ (H1 : Heap) (locs1 : List Loc), xw D cl A (xu M t (a, .inl (cA, n, .inl (upd f i.toNatClampNeg (vp_nar .boolean x))))) H1 → va_S A H0 H1 locs1 → W p l e R s m args below meth c H1 locs1 cells slots Q (F0 m (pc + 1) ls rest)) : W p l e R s m args below meth c H locs cells slots Q (F0 m pc ls (.int x :: .int i :: .ref a :: rest)) := by
  obtain ⟨ws, hP, hD, h3, h4⟩ := hX
  obtain ⟨q0, hq⟩ := h3 t _ ha
  exact va_zast hexec hb hK hP hD hS q0 t0 hq ht hin hdg (fun H1 locs1 hP1 hD1 hS1 => kk H1 locs1 (xw_set hP1 hD1 h3 h4 hq ha) hS1)
theorem x_last (hexec : p.tables.exec = Jvm.exec) (hb : c.code = cc) (hK : va_K D cl tys s) (hX : xw D cl A M H) (hS : va_S A H0 H locs) {t : Nat} (t0 : Nat) {cA : ClassId} {n : Nat} {f : Nat → Int64} (ha : M t = some (a, .inl (cA, n, .inr (.inl f)))) (ht : tys[t0]? = some (cA, .long)) {i : Int32} {x : Int64} (hin : vp_in i n) (hdg : decode cc pc = .ok (.lastore, 1))
    (kk : ∀ (H1 : Heap) (locs1 : List Loc), xw D cl A (xu M t (a, .inl (cA, n, .inr (.inl (vp_updL f i.toNatClampNeg x))))) H1 → va_S A H0 H1 locs1 → W p l e R s m args below meth c H1 locs1 cells slots Q (F0 m (pc + 1) ls rest)) : W p l e R s m args below meth c H locs cells slots Q (F0 m pc ls (.long x :: .int i :: .ref a :: rest)) := by
  obtain ⟨ws, hP, hD, h3, h4⟩ := hX
  obtain ⟨q0, hq⟩ := h3 t _ ha
  exact va_last hexec hb hK hP hD hS q0 t0 hq ht hin hdg (fun H1 locs1 hP1 hD1 hS1 => kk H1 locs1 (xw_set hP1 hD1 h3 h4 hq ha) hS1)
theorem x_aast (hexec : p.tables.exec = Jvm.exec) (hb : c.code = cc) (hK : va_K D cl tys s) (hX : xw D cl A M H) (hS : va_S A H0 H locs) {t tv : Nat} (t0 ci : Nat) {cA : ClassId} {r : vw_C} {n v : Nat} {vs : List Value} {f : Nat → Option Nat} (ha : M t = some (a, .inl (cA, n, .inr (.inr (.inr (.inr f)))))) (ht : tys[t0]? = some (cA, .object r.1)) (hv : M tv = some (v, .inr (ci, vs))) (hc : cl[ci]? = some r) {i : Int32} (hin : vp_in i n) (hdg : decode cc pc = .ok (.aastore, 1))
    (kk : ∀ (H1 : Heap) (locs1 : List Loc), xw D cl A (xu M t (a, .inl (cA, n, .inr (.inr (.inr (.inr (va_up f i.toNatClampNeg (some v)))))))) H1 → va_S A H0 H1 locs1 → W p l e R s m args below meth c H1 locs1 cells slots Q (F0 m (pc + 1) ls rest)) : W p l e R s m args below meth c H locs cells slots Q (F0 m pc ls (.ref v :: .int i :: .ref a :: rest)) := by
  obtain ⟨ws, hP, hD, h3, h4⟩ := hX
  obtain ⟨q0, hq⟩ := h3 t _ ha
  obtain ⟨q1, hq1⟩ := h3 tv _ hv
  exact va_astq hexec hb hK hP hD hS q0 t0 q1 ci hq ht hq1 hc hin hdg (fun H1 locs1 hP1 hD1 hS1 => kk H1 locs1 (xw_set hP1 hD1 h3 h4 hq ha) hS1)
theorem x_new {c0 : Code} (hexec : p.tables.exec = Jvm.exec) (hb : c0.code = cc) {own C : String} {T : u_T} {N ci index : Nat} {Ts : List Cond} (hts : ∀ w ∈ Ts, w.before args s = true) (hin : ∀ w ∈ u_ws C T N, w ∈ Ts) (ty : Nat → FieldType) (hty : ∀ k, k < N → parseFieldDescriptor (T k).2.2.1 = some (ty k)) (hown : s.vm.findClass own = some m.cls) (hcl : (Cond.classLink own index C).before args s = true) (hinst : (Cond.instantiable C N).before args s = true) (hini : (Cond.initialized C).before args s = true)
    (hK : va_K D cl tys s) (hX : xw D cl A M H) (hS : va_S A H0 H locs) (hA : ∀ q, H0.size ≤ q → A q) (hc : cl[ci]? = some (C, T, N)) {fs : List Value} (hfs : ∀ j, j < N → defaultValue (ty j) = vp_V fs j) (hcells : cells + 1 ≤ R.cells) (hslots : slots + N ≤ R.slots) (hdg : decode cc pc = .ok (.new index, 3)) (t : Nat)
    (kk : ∀ (q : Nat) (H1 : Heap), xw D cl A (xu M t (q, .inr (ci, fs))) H1 → va_S A H0 H1 locs →
      W p l e R s m args below meth c0 H1 locs (cells + 1) (slots + N) Q (F0 m (pc + 3) ls (.ref q :: rest))) : W p l e R s m args below meth c0 H locs cells slots Q (F0 m pc ls rest) := by
  obtain ⟨ws, hP, hD, h3, h4⟩ := hX
  exact va_new hexec hb hts hin ty hty hown hcl hinst hini hK hP hD hS hA hc hfs hcells hslots hdg (fun q H1 hP1 hD1 hS1 => kk q H1 (xw_push hP1 hD1 h3 h4) hS1)
end XK
