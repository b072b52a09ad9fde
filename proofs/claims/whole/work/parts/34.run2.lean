/-! what a list of pairs is -/
def cInv (sd : Nat → Int32) (nc : Nat) (L : xLi) : Prop := (∀ k, k < L.1 → L.2.2.2.2.2.1 k = k ∧ (0 < L.2.2.2.2.1 k ∧ L.2.2.2.1 k < 1000000000 ∧ L.2.2.2.2.1 k < 1000000000) ∧ (∃ i, i < nc ∧ L.2.1 k = i + 1 ∧ sd i = nI 0) ∧ (∃ j, j < nc ∧ L.2.2.1 k = j + 1 ∧ sd j = nI 1)) ∧ (∀ n, n ≤ 50 → (L.2.2.2.2.2.2 n = 0 ∨ L.2.2.2.2.2.2 n = 1) ∧ (L.2.2.2.2.2.2 n = 1 ↔ ∃ k, k < L.1 ∧ (L.2.1 k = n ∨ L.2.2.1 k = n)))
theorem cInv_0 {sd : Nat → Int32} {nc : Nat} {zs os ab bl od pr : Nat → Nat} : cInv sd nc (0, zs, os, ab, bl, od, xClr pr 51) := by
  refine ⟨fun k hk => absurd hk (by show ¬ k < 0; omega), fun n hn => ?_⟩
  have e : xClr pr 51 n = 0 := by unfold xClr; rw [if_pos (by omega)]
  refine ⟨Or.inl e, ⟨fun q => ?_, fun ⟨k, hk, _⟩ => absurd hk (by show ¬ k < 0; omega)⟩⟩
  have q : xClr pr 51 n = 1 := q
  omega
theorem cInv_add {sd : Nat → Int32} {nc : Nat} {U D : Nat → Nat → Nat} {L : xLi} {i j : Nat} (h : cInv sd nc L) (hi : i < nc) (hj : j < nc) (h0 : sd i = nI 0) (h1 : sd j = nI 1) (hD : 0 < D i j) (bU : U i j < 1000000000) (bD : D i j < 1000000000) : cInv sd nc (cAdd U D i j L) := by
  obtain ⟨cn, zs, os, ab, bl, od, pr⟩ := L
  obtain ⟨ha, hb⟩ := h
  refine ⟨fun k hk => ?_, fun n hn => ?_⟩
  · have hk : k < cn + 1 := hk
    show va_up od cn cn k = k ∧ (0 < va_up bl cn (D i j) k ∧ va_up ab cn (U i j) k < 1000000000 ∧ va_up bl cn (D i j) k < 1000000000) ∧ (∃ i', i' < nc ∧ va_up zs cn (i + 1) k = i' + 1 ∧ sd i' = nI 0) ∧ (∃ j', j' < nc ∧ va_up os cn (j + 1) k = j' + 1 ∧ sd j' = nI 1)
    by_cases q : k = cn
    · subst q
      rw [va_up_self, va_up_self, va_up_self, va_up_self, va_up_self]
      exact ⟨rfl, ⟨hD, bU, bD⟩, ⟨i, hi, rfl, h0⟩, ⟨j, hj, rfl, h1⟩⟩
    · rw [va_up_ne _ _ q, va_up_ne _ _ q, va_up_ne _ _ q, va_up_ne _ _ q, va_up_ne _ _ q]
      exact ha k (show k < cn by omega)
  · obtain ⟨hc, hd⟩ := hb n hn
    show (va_up (va_up pr (i + 1) 1) (j + 1) 1 n = 0 ∨ va_up (va_up pr (i + 1) 1) (j + 1) 1 n = 1) ∧ (va_up (va_up pr (i + 1) 1) (j + 1) 1 n = 1 ↔ ∃ k, k < cn + 1 ∧ (va_up zs cn (i + 1) k = n ∨ va_up os cn (j + 1) k = n))
    have hc : pr n = 0 ∨ pr n = 1 := hc
    have hd : pr n = 1 ↔ ∃ k, k < cn ∧ (zs k = n ∨ os k = n) := hd
    by_cases q1 : n = j + 1
    · subst q1
      rw [va_up_self]
      exact ⟨Or.inr rfl, fun _ => ⟨cn, by omega, Or.inr (va_up_self _ _ _)⟩, fun _ => rfl⟩
    · rw [va_up_ne _ _ q1]
      by_cases q2 : n = i + 1
      · subst q2
        rw [va_up_self]
        exact ⟨Or.inr rfl, fun _ => ⟨cn, by omega, Or.inl (va_up_self _ _ _)⟩, fun _ => rfl⟩
      · rw [va_up_ne _ _ q2]
        refine ⟨hc, fun z => ?_, fun ⟨k, hk, z⟩ => hd.mpr ?_⟩
        · obtain ⟨k, hk, y⟩ := hd.mp z
          exact ⟨k, by omega, by rw [va_up_ne _ _ (by omega), va_up_ne _ _ (by omega)]; exact y⟩
        · by_cases q3 : k = cn
          · subst q3
            rw [va_up_self, va_up_self] at z
            exact (z.elim (fun y => q2 y.symm) (fun y => q1 y.symm)).elim
          · rw [va_up_ne _ _ q3, va_up_ne _ _ q3] at z
            exact ⟨k, by omega, z⟩
theorem cRow_inv {C : Nat → Nat → Prop} {U D : Nat → Nat → Nat} {sd : Nat → Int32} {nc : Nat} {i : Nat} {L : xLi} (hC : ∀ j, j < nc → C i j → (sd i = nI 0 ∧ sd j = nI 1) ∧ 0 < D i j ∧ U i j < 1000000000 ∧ D i j < 1000000000) (hi : i < nc) (h : cInv sd nc L) : ∀ n, n ≤ nc → cInv sd nc (cRow C U D i n L)
  | 0, _ => h
  | n + 1, hn => by
    have h1 := cRow_inv hC hi h n (by omega)
    show cInv sd nc (cStep C U D i n (cRow C U D i n L))
    by_cases q : C i n
    · rw [cStep_t q]
      obtain ⟨⟨a, b⟩, c, d, e⟩ := hC n (by omega) q
      exact cInv_add h1 hi (by omega) a b c d e
    · rw [cStep_f q]; exact h1
theorem cAll_inv {C : Nat → Nat → Prop} {U D : Nat → Nat → Nat} {sd : Nat → Int32} {nc : Nat} {L : xLi} (hC : ∀ i j, i < nc → j < nc → C i j → (sd i = nI 0 ∧ sd j = nI 1) ∧ 0 < D i j ∧ U i j < 1000000000 ∧ D i j < 1000000000) (h : cInv sd nc L) : ∀ i, i ≤ nc → cInv sd nc (cAll C U D nc i L)
  | 0, _ => h
  | i + 1, hi => cRow_inv (fun j hj => hC i j (by omega) hj) (by omega) (cAll_inv hC h i (by omega)) nc (Nat.le_refl _)
theorem cIs_sd {sd jn : Nat → Int32} {tc : Nat → Nat} {dt : Nat → Int32} {fd ld : Nat → Int64} {tk kd : Nat → Nat → Int32} {wn : Nat → Nat} : ∀ i j, cIs sd jn tc dt fd ld tk kd wn i j → sd i = nI 0 ∧ sd j = nI 1 := fun _ _ h => ⟨h.1.1.1, h.1.2.1⟩
theorem cIs_inv {sd jn : Nat → Int32} {tc : Nat → Nat} {dt : Nat → Int32} {fd ld : Nat → Int64} {tk kd : Nat → Nat → Int32} {wn : Nat → Nat} {nc : Nat} {L : xLi} (htk : ∀ i, i < nc → tc i ≤ 8 ∧ ∀ j, j < tc i → vp_in (kd i j) 4) (hwn : ∀ k, wn k ≤ 252000) (h : cInv sd nc L) : cInv sd nc (cAll (cIs sd jn tc dt fd ld tk kd wn) (cU tc dt fd ld tk kd wn) (cD tc dt tk kd wn) nc nc L) :=
  cAll_inv (C := cIs sd jn tc dt fd ld tk kd wn) (U := cU tc dt fd ld tk kd wn) (D := cD tc dt tk kd wn) (sd := sd) (fun i j hi hj q => ⟨cIs_sd i j q, q.2.1, cU_le hwn (htk i hi).1, cD_le hwn (htk i hi).1 (htk j hj).1⟩) h nc (Nat.le_refl _)

abbrev rmX4_run : Room := { frames := 4, cells := 0, slots := 0, locals := 322 }
set_option maxHeartbeats 4000000 in
set_option maxRecDepth 100000 in
/-- run -/
theorem ctX4_run (l : Launch) (G : xG) (A : Nat → Prop) (M : xM) {ad : Nat → Nat} {nc : Nat} {sd : Nat → Int32} {jn : Nat → Int32} {tc : Nat → Nat} {dt : Nat → Int32} {fd : Nat → Int64} {ld : Nat → Int64} {tk : Nat → Nat → Int32} {kd : Nat → Nat → Int32} {wn : Nat → Nat} {jc : Nat} {jz : Nat → Nat} {jo : Nat → Nat} {ju : Nat → Int32} {bg : Int32} {cn : Nat} {zs : Nat → Nat} {os : Nat → Nat} {ab : Nat → Nat} {bl : Nat → Nat} {od : Nat → Nat} {sp : Nat → Nat} {pr : Nat → Nat} {fa : Int64} {fb : Int64} (hR : xRec G M ad nc sd jn tc dt fd ld tk kd wn jc jz jo ju bg cn zs os ab bl od sp pr fa fb) (hcn : cn ≤ 625) (hnc : nc ≤ 50) (htk : ∀ i, i < nc → tc i ≤ 8 ∧ ∀ j, j < tc i → vp_in (kd i j) 4) (hwn : ∀ k, wn k ≤ 252000) : Met l yX4_run wsX4_run rmX4_run (va_Pc ([.ref (ad 0)] : List Value) (xPc G A M)) (va_Qi (fun r M1 => ∃ (cn9 : Nat) (zs9 os9 ab9 bl9 od9 pr9 o9 s9 : Nat → Nat) (fa9 fb9 : Int64), xRec G M1 ad nc sd jn tc dt fd ld tk kd wn jc jz jo ju (nI 1) cn9 zs9 os9 ab9 bl9 o9 s9 pr9 fa9 fb9 ∧ (cn9, zs9, os9, ab9, bl9, od9, pr9) = cAll (cIs sd jn tc dt fd ld tk kd wn) (cU tc dt fd ld tk kd wn) (cD tc dt tk kd wn) nc nc (0, zs, os, ab, bl, od, xClr pr 51) ∧ r = nI cn9 ∧ xGood ab9 bl9 o9 0 cn9 ∧ ∀ t, 500 ≤ t → M1 t = M t) (xPc G A) A) 0 0 A := by
  refine x_met (cc := cX4_run) (maxL := 3) (ret := (some .int)) RX4 (by decide) rfl (Nat.le_of_ble_eq_true rfl) rfl ?_
  intro p e s m below meth c hx hb hr hts hown hlocks hml hin hK hA hX ls hl
  have inX4 : ∀ w ∈ wsX40, w ∈ wsX4_run := by decide +kernel
  have lk_fieldLink_37 := hts (.fieldLink RX4 37 "Reconcile" "latest" "LReconcile$Listing;") (by decide +kernel)
  have lk_fieldLink_15 := hts (.fieldLink RX4 15 "Reconcile" "nameCount" "I") (by decide +kernel)
  have hS : va_S A s.heap s.heap [] := va_S.rf
  have hl : lv_has ls 3 [(0, .ref (ad 0))] := hl
  have hRR := hR
  obtain ⟨hc0, hc1, hc2, hc3, hcL, hc5, hc6, hc7, hc8, hc9, hc10, hc11, hc12, hnm, hjn⟩ := hR
  refine lv_aload_n hx hb dX4_run_0 rfl (lv_at hl 0 rfl) ?_
  refine x_get (ci := 6) (v := .ref (ad 4)) (C := RX4) (T := TX4) (N := 7) hx hb hts inX4 hown hK hX hc0 rfl 5 (by decide) lk_fieldLink_37 (fun _ h9 => h9) rfl dX4_run_1 ?_
  refine x_callv (x_runV (q := (RX2, TX2, 9)) (As := []) (rest := []) ⟨hx, hb, hml, hown, hts⟩ (ctX2_begin l G A M hcL hc6 hc7 hc8 hc9 hc10 hc11 hc12 hcn) (cwV 0 hts gX4_run_X2_begin rfl rfl rfl (by decide +kernel) ⟨Nat.le_of_ble_eq_true rfl, Nat.le_of_ble_eq_true rfl⟩) hK hA hX hS hcL rfl rfl hl.1 rfl (lv_room (Nat.le_of_ble_eq_true rfl)) dX4_run_4 ⟨by decide, by decide⟩) hS (fun M_2 H locs hp hX hS => ?_)
  have hRb : xRec G M_2 ad nc sd jn tc dt fd ld tk kd wn jc jz jo ju (nI 1) 0 zs os ab bl od sp (xClr pr 51) fa fb := by rw [hp]; exact xRec_begin hRR
  have hfb0 : ∀ t, 500 ≤ t → M_2 t = M t := fun t ht => by rw [hp, xu_n (by omega), xu_n (by omega)]
  refine lv_iconst (v := nI 1) hx hb dX4_run_7 (by decide) ?_
  refine lv_istore_n (lv' := [(1, .int (nI 1)), (0, .ref (ad 0))]) hx hb dX4_run_8 rfl hl (by decide) rfl (fun ls hl => ?_)
  have loop : ∀ (n : Nat) (i : Nat) (M9 : xM) (cn9 : Nat) (zs9 : Nat → Nat) (os9 : Nat → Nat) (ab9 : Nat → Nat) (bl9 : Nat → Nat) (od9 : Nat → Nat) (pr9 : Nat → Nat) (fa9 : Int64) (fb9 : Int64) (H : Heap) (locs : List Loc) (ls : Array Slot), nc < i + n → (i ≤ nc) → (xRec G M9 ad nc sd jn tc dt fd ld tk kd wn jc jz jo ju (nI 1) cn9 zs9 os9 ab9 bl9 od9 sp pr9 fa9 fb9) → ((cn9, zs9, os9, ab9, bl9, od9, pr9) = cAll (cIs sd jn tc dt fd ld tk kd wn) (cU tc dt fd ld tk kd wn) (cD tc dt tk kd wn) nc i (0, zs, os, ab, bl, od, xClr pr 51)) → (∀ t, 500 ≤ t → M9 t = M t) → xw G.1 vwCl A M9 H → va_S A s.heap H locs → lv_has ls 3 [(1, .int (nI (i + 1))), (0, .ref (ad 0))] → W p l e rmX4_run s m ([.ref (ad 0)] : List Value).toArray below meth c H locs 0 0 (MQ below (va_Qi (fun r M1 => ∃ (cn9 : Nat) (zs9 os9 ab9 bl9 od9 pr9 o9 s9 : Nat → Nat) (fa9 fb9 : Int64), xRec G M1 ad nc sd jn tc dt fd ld tk kd wn jc jz jo ju (nI 1) cn9 zs9 os9 ab9 bl9 o9 s9 pr9 fa9 fb9 ∧ (cn9, zs9, os9, ab9, bl9, od9, pr9) = cAll (cIs sd jn tc dt fd ld tk kd wn) (cU tc dt fd ld tk kd wn) (cD tc dt tk kd wn) nc nc (0, zs, os, ab, bl, od, xClr pr 51) ∧ r = nI cn9 ∧ xGood ab9 bl9 o9 0 cn9 ∧ ∀ t, 500 ≤ t → M1 t = M t) (xPc G A) A) ([.ref (ad 0)] : List Value).toArray s 0 0 A) (F0 m 9 ls []) := by
    intro n
    induction n with
    | zero => intro i M9 cn9 zs9 os9 ab9 bl9 od9 pr9 fa9 fb9 H locs ls hn0 hi9 hR9 hL9 hfr9; exact absurd hn0 (by omega)
    | succ n ih =>
      intro i M9 cn9 zs9 os9 ab9 bl9 od9 pr9 fa9 fb9 H locs ls hn0 hi9 hR9 hL9 hfr9 hX hS hl
      obtain ⟨hc0, hc1, hc2, hc3, hcL, hc5, hc6, hc7, hc8, hc9, hc10, hc11, hc12, hnm, hjn⟩ := id hR9
      have hRR := hR9
      refine lv_iload_n hx hb dX4_run_9 rfl (lv_at hl 0 rfl) ?_
      refine lv_aload_n hx hb dX4_run_10 rfl (lv_at hl 1 rfl) ?_
      refine x_get (ci := 6) (v := .int (nI nc)) (C := RX4) (T := TX4) (N := 7) hx hb hts inX4 hown hK hX hc0 rfl 1 (by decide) lk_fieldLink_15 (fun _ h9 => h9) rfl dX4_run_11 ?_
      refine lv_icmp_gt (tgt := 47) hx hb dX4_run_14 (by decide) (fun c_3 => ?_) (fun c_3 => ?_)
      · have c_3 : nc < (i + 1) := (nI_ltI (by omega) (by omega)).mp c_3
        have hin9 := cIs_inv (sd := sd) (L := (0, zs, os, ab, bl, od, xClr pr 51)) (jn := jn) (dt := dt) (fd := fd) (ld := ld) (tk := tk) htk hwn cInv_0
        have hic : i = nc := by omega
        rw [hic] at hL9
        have hle9 : cn9 ≤ 625 := by have q := cAll_le (U := (cU tc dt fd ld tk kd wn)) (D := (cD tc dt tk kd wn)) (L := (0, zs, os, ab, bl, od, xClr pr 51)) (i := nc) (cIs_sd (sd := sd) (jn := jn) (tc := tc) (dt := dt) (fd := fd) (ld := ld) (tk := tk) (kd := kd) (wn := wn)) rfl hnc (Nat.le_refl _); rw [← hL9] at q; exact q
        rw [← hL9] at hin9
        refine lv_aload_n hx hb dX4_run_47 rfl (lv_at hl 1 rfl) ?_
        refine x_get (ci := 6) (v := .ref (ad 4)) (C := RX4) (T := TX4) (N := 7) hx hb hts inX4 hown hK hX hc0 rfl 5 (by decide) lk_fieldLink_37 (fun _ h9 => h9) rfl dX4_run_48 ?_
        refine x_callv (x_runV (q := (RX2, TX2, 9)) (As := []) (rest := []) ⟨hx, hb, hml, hown, hts⟩ (ctX2_sort l G A M9 hcL hc6 hc7 hc8 hc9 hc10 hc11 hc12 hle9 (fun j hj => (hin9.1 j hj).1) (fun j hj => (hin9.1 j hj).2.1.1) (fun j hj => (hin9.1 j hj).2.1.2)) (cwV 0 hts gX4_run_X2_sort rfl rfl rfl (by decide +kernel) ⟨Nat.le_of_ble_eq_true rfl, Nat.le_of_ble_eq_true rfl⟩) hK hA hX hS hcL rfl rfl hl.1 rfl (lv_room (Nat.le_of_ble_eq_true rfl)) dX4_run_51 ⟨by decide, by decide⟩) hS (fun M_5 H locs hp hX hS => ?_)
        obtain ⟨o9, s9, hMs, hgd⟩ := hp
        have hc0 : M_5 0 = some (ad 0, .inr (6, [.ref (ad 1), .int (nI nc), .ref (ad 2), .ref (ad 3), .int (nI jc), .ref (ad 4), .ref (ad 5)])) := by rw [hMs, xu_n (by omega), xu_n (by omega)]; exact hc0
        have hc1 : M_5 1 = some (ad 1, .inl (G.2 3, 50, .inr (.inr (.inr (.inr (fun k => if k < nc then some (ad (100 + 3 * k)) else none)))))) := by rw [hMs, xu_n (by omega), xu_n (by omega)]; exact hc1
        have hc2 : M_5 2 = some (ad 2, .inl (G.2 1, 4, .inr (.inl (fun k => lN (wn k))))) := by rw [hMs, xu_n (by omega), xu_n (by omega)]; exact hc2
        have hc3 : M_5 3 = some (ad 3, .inl (G.2 4, 100, .inr (.inr (.inr (.inr (fun k => if k < jc then some (ad (300 + k)) else none)))))) := by rw [hMs, xu_n (by omega), xu_n (by omega)]; exact hc3
        have hcL : M_5 4 = some (ad 4, .inr (4, [.int (nI 1), .int (nI cn9), .ref (ad 6), .ref (ad 7), .ref (ad 8), .ref (ad 9), .ref (ad 10), .ref (ad 11), .ref (ad 12)])) := by rw [hMs, xu_n (by omega), xu_n (by omega)]; exact hcL
        have hc5 : M_5 5 = some (ad 5, .inr (2, [.long fa9, .long fb9])) := by rw [hMs, xu_n (by omega), xu_n (by omega)]; exact hc5
        have hc6 : M_5 6 = some (ad 6, .inl (G.2 0, 625, .inl (fun k => nI (zs9 k)))) := by rw [hMs, xu_n (by omega), xu_n (by omega)]; exact hc6
        have hc7 : M_5 7 = some (ad 7, .inl (G.2 0, 625, .inl (fun k => nI (os9 k)))) := by rw [hMs, xu_n (by omega), xu_n (by omega)]; exact hc7
        have hc8 : M_5 8 = some (ad 8, .inl (G.2 1, 625, .inr (.inl (fun k => lN (ab9 k))))) := by rw [hMs, xu_n (by omega), xu_n (by omega)]; exact hc8
        have hc9 : M_5 9 = some (ad 9, .inl (G.2 1, 625, .inr (.inl (fun k => lN (bl9 k))))) := by rw [hMs, xu_n (by omega), xu_n (by omega)]; exact hc9
        have hc12 : M_5 12 = some (ad 12, .inl (G.2 2, 51, .inl (fun k => nI (pr9 k)))) := by rw [hMs, xu_n (by omega), xu_n (by omega)]; exact hc12
        have hc10 : M_5 10 = some (ad 10, .inl (G.2 0, 625, .inl (fun k => nI (o9 k)))) := by rw [hMs, xu_n (by omega)]; exact xu_s
        have hc11 : M_5 11 = some (ad 11, .inl (G.2 0, 625, .inl (fun k => nI (s9 k)))) := by rw [hMs]; exact xu_s
        have hRs : xRec G M_5 ad nc sd jn tc dt fd ld tk kd wn jc jz jo ju (nI 1) cn9 zs9 os9 ab9 bl9 o9 s9 pr9 fa9 fb9 := by rw [hMs]; exact xRec_sort hR9
        have hfs : ∀ t, 500 ≤ t → M_5 t = M t := fun t ht => by rw [hMs, xu_n (by omega), xu_n (by omega)]; exact hfr9 t ht
        refine lv_aload_n hx hb dX4_run_54 rfl (lv_at hl 1 rfl) ?_
        refine x_get (ci := 6) (v := .ref (ad 4)) (C := RX4) (T := TX4) (N := 7) hx hb hts inX4 hown hK hX hc0 rfl 5 (by decide) lk_fieldLink_37 (fun _ h9 => h9) rfl dX4_run_55 ?_
        refine x_calli (x_runV (q := (RX2, TX2, 9)) (As := []) (rest := []) ⟨hx, hb, hml, hown, hts⟩ (ctX2_size l G A M_5 hcL hc6 hc7 hc8 hc9 hc10 hc11 hc12 hle9) (cwV 0 hts gX4_run_X2_size rfl rfl rfl (by decide +kernel) ⟨Nat.le_of_ble_eq_true rfl, Nat.le_of_ble_eq_true rfl⟩) hK hA hX hS hcL rfl rfl hl.1 rfl (lv_room (Nat.le_of_ble_eq_true rfl)) dX4_run_58 ⟨by decide, by decide⟩) hS (fun r_6 M_7 H locs hp hX hS => ?_)
        obtain ⟨hM_, er_6⟩ := hp
        rw [hM_] at hX
        exact x_iret hx hb hr hlocks hK hA hX hS dX4_run_61 (⟨cn9, zs9, os9, ab9, bl9, od9, pr9, o9, s9, fa9, fb9, hRs, hL9, er_6, hgd, hfs⟩)
      · have c_3 : ¬ (nc < (i + 1)) := fun q => c_3 ((nI_ltI (by omega) (by omega)).mpr q)
        refine lv_aload_n hx hb dX4_run_17 rfl (lv_at hl 1 rfl) ?_
        refine lv_iload_n hx hb dX4_run_18 rfl (lv_at hl 0 rfl) ?_
        refine x_callq (x_runV (q := (RX4, TX4, 7)) (As := [.int (nI (i + 1))]) (rest := []) ⟨hx, hb, hml, hown, hts⟩ (ctX4_find l G A M9 hRR (nI (i + 1)) hnc) (cwV 1 hts gX4_run_X4_find rfl rfl rfl (by decide +kernel) ⟨Nat.le_of_ble_eq_true rfl, Nat.le_of_ble_eq_true rfl⟩) hK hA hX hS hc0 rfl rfl hl.1 rfl (lv_room (Nat.le_of_ble_eq_true rfl)) dX4_run_19 ⟨by decide, by decide⟩) hS (fun r_8 M_9 H locs hp hX hS => ?_)
        obtain ⟨hM_, hq_r_8⟩ := hp
        rw [hM_] at hX
        rcases hq_r_8 with ⟨j2, hj2, ep, er⟩ | ⟨ep, er⟩
        · have ejj : i = j2 := by have q := (nI_eq (a := i + 1) (b := j2 + 1) (by omega) (by omega)).mp ep; omega
          subst ejj
          subst er
          obtain ⟨hn0j, hn1j, hn2j⟩ := hnm i hj2
          refine x_rv (y := .ref (ad (100 + 3 * i))) rfl ?_
          refine lv_astore_n (lv' := [(2, .ref (ad (100 + 3 * i))), (1, .int (nI (i + 1))), (0, .ref (ad 0))]) hx hb dX4_run_22 rfl hl (by decide) rfl (fun ls hl => ?_)
          refine lv_aload_n hx hb dX4_run_23 rfl (lv_at hl 0 rfl) ?_
          refine lv_ifnull hx hb dX4_run_24 ?_
          refine lv_aload_n hx hb dX4_run_27 rfl (lv_at hl 0 rfl) ?_
          refine lv_iconst (v := nI 0) hx hb dX4_run_28 (by decide) ?_
          refine x_calli (x_runV (q := (RX3, TX3, 8)) (As := [.int (nI 0)]) (rest := []) ⟨hx, hb, hml, hown, hts⟩ (ctX3_mayPair l G A M9 hn0j hn1j hn2j (htk i hj2).1 (nI 0)) (cwV 1 hts gX4_run_X3_mayPair rfl rfl rfl (by decide +kernel) ⟨Nat.le_of_ble_eq_true rfl, Nat.le_of_ble_eq_true rfl⟩) hK hA hX hS hn0j rfl rfl hl.1 rfl (lv_room (Nat.le_of_ble_eq_true rfl)) dX4_run_29 ⟨by decide, by decide⟩) hS (fun r_10 M_11 H locs hp hX hS => ?_)
          obtain ⟨hM_, er_10⟩ := hp
          rw [hM_] at hX
          refine lv_if_eq (tgt := 41) hx hb dX4_run_32 (by decide) (fun c_12 => ?_) (fun c_12 => ?_)
          · have hmi := x_if0 er_10 c_12
            refine lv_iinc (v := nI ((i + 1) + 1)) (lv' := [(1, .int (nI ((i + 1) + 1))), (2, .ref (ad (100 + 3 * i))), (0, .ref (ad 0))]) hx hb dX4_run_41 hl (k := 1) rfl (show nI (i + 1) + Int32.ofInt 1 = _ from nI_add _ 1) (by decide) rfl (fun ls hl => ?_)
            refine lv_goto (tgt := 9) hx hb dX4_run_44 (by decide) ?_
            exact ih (i + 1) M9 cn9 zs9 os9 ab9 bl9 od9 pr9 fa9 fb9 _ _ ls (by omega) (by omega) hR9 (by show _ = cRow _ _ _ i nc _; rw [cRow_skip (fun j q => hmi q.1.1)]; exact hL9) hfr9 hX hS (lv_sub hl [0, 2] rfl)
          · have hmi := x_if1 er_10 c_12
            refine lv_aload_n hx hb dX4_run_35 rfl (lv_at hl 2 rfl) ?_
            refine lv_iload_n hx hb dX4_run_36 rfl (lv_at hl 1 rfl) ?_
            refine lv_aload_n hx hb dX4_run_37 rfl (lv_at hl 0 rfl) ?_
            have hlt : ∀ j, j < nc → sd j = nI 1 → (cRow (cIs sd jn tc dt fd ld tk kd wn) (cU tc dt fd ld tk kd wn) (cD tc dt tk kd wn) i j (cn9, zs9, os9, ab9, bl9, od9, pr9)).1 < 625 := fun j hj hs => by rw [hL9]; exact cRow_lt cIs_sd rfl hnc hj2 hj ⟨hmi.1, hs⟩
            refine x_callv (x_runV (q := (RX4, TX4, 7)) (As := [.int (nI (i + 1)), .ref (ad (100 + 3 * i))]) (rest := []) ⟨hx, hb, hml, hown, hts⟩ (ctX4_listPairsOf l G A M9 hR9 i hj2 hmi hlt hnc htk hwn) (cwV 2 hts gX4_run_X4_listPairsOf rfl rfl rfl (by decide +kernel) ⟨Nat.le_of_ble_eq_true rfl, Nat.le_of_ble_eq_true rfl⟩) hK hA hX hS hc0 rfl rfl hl.1 rfl (lv_room (Nat.le_of_ble_eq_true rfl)) dX4_run_38 ⟨by decide, by decide⟩) hS (fun M_14 H locs hp hX hS => ?_)
            obtain ⟨cn8, zs8, os8, ab8, bl8, od8, pr8, fa8, fb8, hR8, hL8, hfr8⟩ := hp
            refine lv_iinc (v := nI ((i + 1) + 1)) (lv' := [(1, .int (nI ((i + 1) + 1))), (2, .ref (ad (100 + 3 * i))), (0, .ref (ad 0))]) hx hb dX4_run_41 hl (k := 1) rfl (show nI (i + 1) + Int32.ofInt 1 = _ from nI_add _ 1) (by decide) rfl (fun ls hl => ?_)
            refine lv_goto (tgt := 9) hx hb dX4_run_44 (by decide) ?_
            exact ih (i + 1) M_14 cn8 zs8 os8 ab8 bl8 od8 pr8 fa8 fb8 _ _ ls (by omega) (by omega) hR8 (by show _ = cRow _ _ _ i nc _; rw [← hL9]; exact hL8) (fun t ht => (hfr8 t ht).trans (hfr9 t ht)) hX hS (lv_sub hl [0, 2] rfl)
        · exact absurd ep (fun q => q.elim (fun z => by have := (nI_ltI (by omega) (by omega)).mp z; omega) (fun z => z ((nI_leI (by omega) (by omega)).mpr (by omega))))
  exact loop (nc + 1) 0 M_2 0 zs os ab bl od (xClr pr 51) fa fb _ _ ls (by omega) (by omega) hRb rfl hfb0 hX hS (lv_sub hl [0, 1] rfl)
