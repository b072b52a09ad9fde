/-! branches on a comparison of longs -/
theorem lc_gt {x y : Int64} : 0 < lg_cmp x y ↔ y < x := by
  unfold lg_cmp
  by_cases h1 : y < x
  · simp [h1]
  · by_cases h2 : x = y <;> simp [h1, h2]
theorem lc_lt {x y : Int64} : lg_cmp x y < 0 ↔ x < y := by
  unfold lg_cmp
  by_cases h1 : y < x
  · have h3 : ¬ x < y := fun q => by
      rw [Int64.lt_iff_toInt_lt] at h1 q; omega
    simp [h1, h3]
  · by_cases h2 : x = y
    · subst h2; simp [h1]
    · have h3 : x < y := by
        rw [Int64.lt_iff_toInt_lt] at h1 ⊢
        have h4 : x.toInt ≠ y.toInt := fun q => h2 (Int64.toInt_inj.mp q)
        omega
      simp [h1, h2, h3]
theorem lc_eq {x y : Int64} : lg_cmp x y = 0 ↔ x = y := by
  unfold lg_cmp
  by_cases h1 : y < x
  · have h3 : ¬ x = y := fun q => by subst q; rw [Int64.lt_iff_toInt_lt] at h1; omega
    simp [h1, h3]
  · by_cases h2 : x = y <;> simp [h1, h2]
theorem lc_n32 {z : Int32} : z ≤ 0 ↔ ¬ 0 < z := by
  rw [Int32.le_iff_toInt_le, Int32.lt_iff_toInt_lt]; omega
theorem lc_m32 {z : Int32} : 0 ≤ z ↔ ¬ z < 0 := by
  rw [Int32.le_iff_toInt_le, Int32.lt_iff_toInt_lt]; omega
theorem lc_n64 {x y : Int64} : x ≤ y ↔ ¬ y < x := by
  rw [Int64.le_iff_toInt_le, Int64.lt_iff_toInt_lt]; omega
theorem lc_le {x y : Int64} : lg_cmp x y ≤ 0 ↔ x ≤ y := by rw [lc_n32, lc_gt, lc_n64]
theorem lc_ge {x y : Int64} : 0 ≤ lg_cmp x y ↔ y ≤ x := by rw [lc_m32, lc_lt, lc_n64]
section XLC
variable {p : Program} {l : Launch} {e : Env} {R : Room} {s : State} {m : MethodId} {args : Array Value} {below : List Frame} {meth : Method} {c : Code} {H : Heap} {locs : List Loc} {cells slots : Nat} {Q : State → Prop}
variable {cc : ByteArray} {pc : Nat} {ls : Array Slot} {rest : List Value} {x y : Int64} {off : Int} {tgt : Nat}
theorem x_lc_gt (hexec : p.tables.exec = Jvm.exec) (hb : c.code = cc) (hdg : decode cc pc = .ok (.ifCond .gt off, 3)) (ht : (pc : Int) + off = (tgt : Int)) (kt : y < x → W p l e R s m args below meth c H locs cells slots Q (F0 m tgt ls rest)) (kf : ¬ y < x → W p l e R s m args below meth c H locs cells slots Q (F0 m (pc + 3) ls rest)) : W p l e R s m args below meth c H locs cells slots Q (F0 m pc ls (.int (lg_cmp x y) :: rest)) :=
  lv_if_gt hexec hb hdg ht (fun h => kt (lc_gt.mp h)) (fun h => kf (fun q => h (lc_gt.mpr q)))
theorem x_lc_lt (hexec : p.tables.exec = Jvm.exec) (hb : c.code = cc) (hdg : decode cc pc = .ok (.ifCond .lt off, 3)) (ht : (pc : Int) + off = (tgt : Int)) (kt : x < y → W p l e R s m args below meth c H locs cells slots Q (F0 m tgt ls rest)) (kf : ¬ x < y → W p l e R s m args below meth c H locs cells slots Q (F0 m (pc + 3) ls rest)) : W p l e R s m args below meth c H locs cells slots Q (F0 m pc ls (.int (lg_cmp x y) :: rest)) :=
  lv_if_lt hexec hb hdg ht (fun h => kt (lc_lt.mp h)) (fun h => kf (fun q => h (lc_lt.mpr q)))
theorem x_lc_le (hexec : p.tables.exec = Jvm.exec) (hb : c.code = cc) (hdg : decode cc pc = .ok (.ifCond .le off, 3)) (ht : (pc : Int) + off = (tgt : Int)) (kt : x ≤ y → W p l e R s m args below meth c H locs cells slots Q (F0 m tgt ls rest)) (kf : ¬ x ≤ y → W p l e R s m args below meth c H locs cells slots Q (F0 m (pc + 3) ls rest)) : W p l e R s m args below meth c H locs cells slots Q (F0 m pc ls (.int (lg_cmp x y) :: rest)) :=
  lv_if_le hexec hb hdg ht (fun h => kt (lc_le.mp h)) (fun h => kf (fun q => h (lc_le.mpr q)))
theorem x_lc_ge (hexec : p.tables.exec = Jvm.exec) (hb : c.code = cc) (hdg : decode cc pc = .ok (.ifCond .ge off, 3)) (ht : (pc : Int) + off = (tgt : Int)) (kt : y ≤ x → W p l e R s m args below meth c H locs cells slots Q (F0 m tgt ls rest)) (kf : ¬ y ≤ x → W p l e R s m args below meth c H locs cells slots Q (F0 m (pc + 3) ls rest)) : W p l e R s m args below meth c H locs cells slots Q (F0 m pc ls (.int (lg_cmp x y) :: rest)) :=
  lv_if_ge hexec hb hdg ht (fun h => kt (lc_ge.mp h)) (fun h => kf (fun q => h (lc_ge.mpr q)))
theorem x_lc_eq (hexec : p.tables.exec = Jvm.exec) (hb : c.code = cc) (hdg : decode cc pc = .ok (.ifCond .eq off, 3)) (ht : (pc : Int) + off = (tgt : Int)) (kt : x = y → W p l e R s m args below meth c H locs cells slots Q (F0 m tgt ls rest)) (kf : ¬ x = y → W p l e R s m args below meth c H locs cells slots Q (F0 m (pc + 3) ls rest)) : W p l e R s m args below meth c H locs cells slots Q (F0 m pc ls (.int (lg_cmp x y) :: rest)) :=
  lv_if_eq hexec hb hdg ht (fun h => kt (lc_eq.mp h)) (fun h => kf (fun q => h (lc_eq.mpr q)))
theorem x_lc_ne (hexec : p.tables.exec = Jvm.exec) (hb : c.code = cc) (hdg : decode cc pc = .ok (.ifCond .ne off, 3)) (ht : (pc : Int) + off = (tgt : Int)) (kt : ¬ x = y → W p l e R s m args below meth c H locs cells slots Q (F0 m tgt ls rest)) (kf : x = y → W p l e R s m args below meth c H locs cells slots Q (F0 m (pc + 3) ls rest)) : W p l e R s m args below meth c H locs cells slots Q (F0 m pc ls (.int (lg_cmp x y) :: rest)) :=
  lv_if_ne hexec hb hdg ht (fun h => kt (fun q => h (lc_eq.mpr q))) (fun h => kf (lc_eq.mp h))
end XLC
/-! new arrays: the class by its name is one -/
theorem x_cA {G : xG} {s : State} {ty : FieldType} {cA cB : ClassId} {k : Nat} (hK : va_K G.1 vwCl (xT G) s) (hk : (xT G)[k]? = some (cB, ty)) (hp : ∀ C, ty ≠ .object C) (hr : va_RA s cA ty) : cA = cB := by
  have h2 := (hK.2 k _ hk).2
  cases ty with
  | object C => exact absurd rfl (hp C)
  | _ => exact Option.some.inj (hr.symm.trans h2)
theorem x_cO {G : xG} {s : State} {C : String} {cA cB : ClassId} {k : Nat} (hK : va_K G.1 vwCl (xT G) s) (hk : (xT G)[k]? = some (cB, .object C)) (hr : va_RA s cA (.object C)) : cA = cB := by
  obtain ⟨_, _, _, _, _, h2⟩ := (hK.2 k _ hk).2
  obtain ⟨_, _, _, _, _, h3⟩ := hr
  exact Option.some.inj (h3.symm.trans h2)
section XNA
variable {p : Program} {l : Launch} {e : Env} {R : Room} {s : State} {m : MethodId} {args : Array Value} {below : List Frame} {meth : Method} {c : Code} {H : Heap} {locs : List Loc} {cells slots : Nat} {Q : State → Prop}
variable {cc : ByteArray} {pc : Nat} {ls : Array Slot} {rest : List Value} {A : Nat → Prop} {M : xM} {G : xG} {H0 : Heap}
theorem x_newa (hx : p.tables.exec = Jvm.exec) (hb : c.code = cc) {atype : ArrayType} (harr : (Cond.arrayClass (newarray.typeOf atype)).before args s = true) {ty : FieldType} (hty : newarray.typeOf atype = ty) (hp : ∀ C, ty ≠ .object C) (hK : va_K G.1 vwCl (xT G) s) (hX : xw G.1 vwCl A M H) (hS : va_S A H0 H locs) (hA : ∀ q, H0.size ≤ q → A q) {k : Nat} {cB : ClassId} (hk : (xT G)[k]? = some (cB, ty))
    {n : Int32} {N' : Nat} {a0 : vp_A} (ha : ∀ cA : ClassId, vp_cell cA a0 = arrV cA N' (fun _ => defaultValue ty)) (hn : n = nI N') (hN : N' < 2 ^ 20) (hcomp : componentBytes ty ≤ 8) (hcells : cells + 1 ≤ R.cells) (hslots : slots + N' ≤ R.slots) (hdg : decode cc pc = .ok (.newarray atype, 2)) (t : Nat)
    (kk : ∀ (q : Nat) (H1 : Heap), xw G.1 vwCl A (xu M t (q, .inl (cB, a0))) H1 → va_S A H0 H1 locs → W p l e R s m args below meth c H1 locs (cells + 1) (slots + N') Q (F0 m (pc + 2) ls (.ref q :: rest))) : W p l e R s m args below meth c H locs cells slots Q (F0 m pc ls (.int n :: rest)) := by
  subst hn
  obtain ⟨ws, hP, hD, h3, h4⟩ := hX
  refine va_newa hx hb harr hty hK hP hD hS hA ha (nI_pos (by omega)) (nI_clamp (by omega)) (Nat.le_trans (Nat.mul_le_mul_left _ hcomp) (by omega)) hcells hslots hdg (fun q cA H1 hK1 hP1 hD1 hS1 => ?_)
  have he : cA = cB := x_cA hK hk hp (hK1.2 (xT G).length (cA, ty) (by rw [List.getElem?_append_right (Nat.le_refl _), Nat.sub_self]; rfl)).2
  subst he
  exact kk q H1 (xw_push hP1 hD1 h3 h4) hS1
theorem x_newq (hx : p.tables.exec = Jvm.exec) (hb : c.code = cc) {own C : String} {index : Nat} (hown : s.vm.findClass own = some m.cls) (hclink : (Cond.classLink own index C).before args s = true) (hover : va_AO C s) (hK : va_K G.1 vwCl (xT G) s) (hX : xw G.1 vwCl A M H) (hS : va_S A H0 H locs) (hA : ∀ q, H0.size ≤ q → A q) {k : Nat} {cB : ClassId} (hk : (xT G)[k]? = some (cB, .object C))
    {n : Int32} {N' : Nat} (hn : n = nI N') (hN : N' < 2 ^ 20) (hcells : cells + 1 ≤ R.cells) (hslots : slots + N' ≤ R.slots) (hdg : decode cc pc = .ok (.anewarray index, 3)) (t : Nat)
    (kk : ∀ (q : Nat) (H1 : Heap), xw G.1 vwCl A (xu M t (q, .inl (cB, N', .inr (.inr (.inr (.inr (fun _ => none))))))) H1 → va_S A H0 H1 locs → W p l e R s m args below meth c H1 locs (cells + 1) (slots + N') Q (F0 m (pc + 3) ls (.ref q :: rest))) : W p l e R s m args below meth c H locs cells slots Q (F0 m pc ls (.int n :: rest)) := by
  subst hn
  obtain ⟨ws, hP, hD, h3, h4⟩ := hX
  refine va_newq hx hb hown hclink hover hK hP hD hS hA (nI_pos (by omega)) (nI_clamp (by omega)) (by omega) hcells hslots hdg (fun q cA H1 hK1 hP1 hD1 hS1 => ?_)
  have he : cA = cB := x_cO hK hk (hK1.2 (xT G).length (cA, .object C) (by rw [List.getElem?_append_right (Nat.le_refl _), Nat.sub_self]; rfl)).2
  subst he
  exact kk q H1 (xw_push hP1 hD1 h3 h4) hS1
end XNA
