abbrev rmX2_sort : Room := { frames := 2, cells := 0, slots := 0, locals := 300 }
set_option maxHeartbeats 4000000 in
set_option maxRecDepth 100000 in
/-- Listing.sort -/
theorem ctX2_sort (l : Launch) (G : xG) (A : Nat → Prop) (M : xM) {bg : Int32} {cn a4 a6 a7 a8 a9 a10 a11 a12 : Nat} {zs os ab bl od sp pr : Nat → Nat} (hcL : M 4 = some (a4, .inr (4, [.int bg, .int (nI cn), .ref a6, .ref a7, .ref a8, .ref a9, .ref a10, .ref a11, .ref a12]))) (hc6 : M 6 = some (a6, .inl (G.2 0, 625, .inl (fun k => nI (zs k))))) (hc7 : M 7 = some (a7, .inl (G.2 0, 625, .inl (fun k => nI (os k))))) (hc8 : M 8 = some (a8, .inl (G.2 1, 625, .inr (.inl (fun k => lN (ab k)))))) (hc9 : M 9 = some (a9, .inl (G.2 1, 625, .inr (.inl (fun k => lN (bl k)))))) (hc10 : M 10 = some (a10, .inl (G.2 0, 625, .inl (fun k => nI (od k))))) (hc11 : M 11 = some (a11, .inl (G.2 0, 625, .inl (fun k => nI (sp k))))) (hc12 : M 12 = some (a12, .inl (G.2 2, 51, .inl (fun k => nI (pr k))))) (hcn : cn ≤ 625) (hid : ∀ j, j < cn → od j = j) (hbl : ∀ j, j < cn → 0 < bl j) (hab : ∀ j, j < cn → ab j < 1000000000 ∧ bl j < 1000000000) : Met l yX2_sort wsX2_sort rmX2_sort (va_Pc ([.ref a4] : List Value) (xPc G A M)) (va_Qv (fun M1 => ∃ o9 s9 : Nat → Nat, M1 = xu (xu M 10 (a10, .inl (G.2 0, 625, .inl (fun k => nI (o9 k))))) 11 (a11, .inl (G.2 0, 625, .inl (fun k => nI (s9 k)))) ∧ xGood ab bl o9 0 cn) (xPc G A) A) 0 0 A := by
  refine x_met (cc := cX2_sort) (maxL := 3) (ret := none) RX2 (by decide) rfl (Nat.le_of_ble_eq_true rfl) rfl ?_
  intro p e s m below meth c hx hb hr hts hown hlocks hml hin hK hA hX ls hl
  have inX2 : ∀ w ∈ wsX20, w ∈ wsX2_sort := by decide +kernel
  have lk_fieldLink_15 := hts (.fieldLink RX2 15 "Reconcile$Listing" "count" "I") (by decide +kernel)
  have lk_fieldLink_36 := hts (.fieldLink RX2 36 "Reconcile$Listing" "spare" "[I") (by decide +kernel)
  have lk_fieldLink_33 := hts (.fieldLink RX2 33 "Reconcile$Listing" "order" "[I") (by decide +kernel)
  have lk_cpy := hts (.methodLink RX2 62 arraycopyName) (by decide +kernel)
  have lk_min := hts (.methodLink RX2 52 Lib.Math.min.name) (by decide +kernel)
  have hS : va_S A s.heap s.heap [] := va_S.rf
  have hl : lv_has ls 3 [(0, .ref a4)] := hl
  refine lv_iconst (v := nI 1) hx hb dX2_sort_0 (by decide) ?_
  refine lv_istore_n (lv' := [(1, .int (nI 1)), (0, .ref a4)]) hx hb dX2_sort_1 rfl hl (by decide) rfl (fun ls hl => ?_)
  have loop : ∀ (n : Nat) (w : Nat) (o9 : Nat → Nat) (s9 : Nat → Nat) (M9 : xM) (H : Heap) (locs : List Loc) (ls : Array Slot), cn + 2000 < w + n → (1 ≤ w ∧ w ≤ 1250) → (∀ k, k * w < cn → xGood ab bl o9 (k * w) (min (k * w + w) cn)) → M9 = xu (xu M 10 (a10, .inl (G.2 0, 625, .inl (fun k => nI (o9 k))))) 11 (a11, .inl (G.2 0, 625, .inl (fun k => nI (s9 k)))) → xw G.1 vwCl A M9 H → va_S A s.heap H locs → lv_has ls 3 [(1, .int (nI w)), (0, .ref a4)] → W p l e rmX2_sort s m ([.ref a4] : List Value).toArray below meth c H locs 0 0 (MQ below (va_Qv (fun M1 => ∃ o9 s9 : Nat → Nat, M1 = xu (xu M 10 (a10, .inl (G.2 0, 625, .inl (fun k => nI (o9 k))))) 11 (a11, .inl (G.2 0, 625, .inl (fun k => nI (s9 k)))) ∧ xGood ab bl o9 0 cn) (xPc G A) A) ([.ref a4] : List Value).toArray s 0 0 A) (F0 m 2 ls []) := by
    intro n
    induction n with
    | zero => intro w o9 s9 M9 H locs ls hn0 hw hSB; exact absurd hn0 (by omega)
    | succ n ih =>
      intro w o9 s9 M9 H locs ls hn0 hw hSB hM9 hX hS hl
      have hcL : M9 4 = some (a4, .inr (4, [.int bg, .int (nI cn), .ref a6, .ref a7, .ref a8, .ref a9, .ref a10, .ref a11, .ref a12])) := by rw [hM9, xu_n (by omega), xu_n (by omega)]; exact hcL
      have hc6 : M9 6 = some (a6, .inl (G.2 0, 625, .inl (fun k => nI (zs k)))) := by rw [hM9, xu_n (by omega), xu_n (by omega)]; exact hc6
      have hc7 : M9 7 = some (a7, .inl (G.2 0, 625, .inl (fun k => nI (os k)))) := by rw [hM9, xu_n (by omega), xu_n (by omega)]; exact hc7
      have hc8 : M9 8 = some (a8, .inl (G.2 1, 625, .inr (.inl (fun k => lN (ab k))))) := by rw [hM9, xu_n (by omega), xu_n (by omega)]; exact hc8
      have hc9 : M9 9 = some (a9, .inl (G.2 1, 625, .inr (.inl (fun k => lN (bl k))))) := by rw [hM9, xu_n (by omega), xu_n (by omega)]; exact hc9
      have hc12 : M9 12 = some (a12, .inl (G.2 2, 51, .inl (fun k => nI (pr k)))) := by rw [hM9, xu_n (by omega), xu_n (by omega)]; exact hc12
      have hc10 : M9 10 = some (a10, .inl (G.2 0, 625, .inl (fun k => nI (o9 k)))) := by rw [hM9, xu_n (by omega)]; exact xu_s
      have hc11 : M9 11 = some (a11, .inl (G.2 0, 625, .inl (fun k => nI (s9 k)))) := by rw [hM9]; exact xu_s
      have hoc := so_in hw.1 hSB
      refine lv_iload_n hx hb dX2_sort_2 rfl (lv_at hl 0 rfl) ?_
      refine lv_aload_n hx hb dX2_sort_3 rfl (lv_at hl 1 rfl) ?_
      refine x_get (ci := 4) (v := .int (nI cn)) (C := RX2) (T := TX2) (N := 9) hx hb hts inX2 hown hK hX hcL rfl 1 (by decide) lk_fieldLink_15 (fun _ h9 => h9) rfl dX2_sort_4 ?_
      refine lv_icmp_ge (tgt := 80) hx hb dX2_sort_7 (by decide) (fun c_1 => ?_) (fun c_1 => ?_)
      · have c_1 : cn ≤ w := (nI_leI (by omega) (by omega)).mp c_1
        exact x_vret hx hb hr hlocks hK hA hX hS dX2_sort_80 (⟨o9, s9, hM9, so_end (by omega) hSB⟩)
      · have c_1 : ¬ (cn ≤ w) := fun q => c_1 ((nI_leI (by omega) (by omega)).mpr q)
        refine lv_iconst (v := nI 0) hx hb dX2_sort_10 (by decide) ?_
        refine lv_istore_n (lv' := [(2, .int (nI 0)), (1, .int (nI w)), (0, .ref a4)]) hx hb dX2_sort_11 rfl hl (by decide) rfl (fun ls hl => ?_)
        have loop_2 : ∀ (n_2 : Nat) (lo : Nat) (kk : Nat) (s8 : Nat → Nat) (M9_2 : xM) (H : Heap) (locs : List Loc) (ls : Array Slot), cn + 2000 < lo + n_2 → (lo = kk * (2 * w)) → (lo ≤ cn + 1250) → (∀ k, k < kk → k * (2 * w) < cn → xGood ab bl s8 (k * (2 * w)) (min (k * (2 * w) + 2 * w) cn)) → M9_2 = xu M9 11 (a11, .inl (G.2 0, 625, .inl (fun k => nI (s8 k)))) → xw G.1 vwCl A M9_2 H → va_S A s.heap H locs → lv_has ls 3 [(2, .int (nI lo)), (1, .int (nI w)), (0, .ref a4)] → W p l e rmX2_sort s m ([.ref a4] : List Value).toArray below meth c H locs 0 0 (MQ below (va_Qv (fun M1 => ∃ o9 s9 : Nat → Nat, M1 = xu (xu M 10 (a10, .inl (G.2 0, 625, .inl (fun k => nI (o9 k))))) 11 (a11, .inl (G.2 0, 625, .inl (fun k => nI (s9 k)))) ∧ xGood ab bl o9 0 cn) (xPc G A) A) ([.ref a4] : List Value).toArray s 0 0 A) (F0 m 12 ls []) := by
          intro n_2
          induction n_2 with
          | zero => intro lo kk s8 M9_2 H locs ls hn0_2 hlo hlb hin8; exact absurd hn0_2 (by omega)
          | succ n_2 ih_2 =>
            intro lo kk s8 M9_2 H locs ls hn0_2 hlo hlb hin8 hM9_2 hX hS hl
            have hcL : M9_2 4 = some (a4, .inr (4, [.int bg, .int (nI cn), .ref a6, .ref a7, .ref a8, .ref a9, .ref a10, .ref a11, .ref a12])) := by rw [hM9_2, xu_n (by omega)]; exact hcL
            have hc6 : M9_2 6 = some (a6, .inl (G.2 0, 625, .inl (fun k => nI (zs k)))) := by rw [hM9_2, xu_n (by omega)]; exact hc6
            have hc7 : M9_2 7 = some (a7, .inl (G.2 0, 625, .inl (fun k => nI (os k)))) := by rw [hM9_2, xu_n (by omega)]; exact hc7
            have hc8 : M9_2 8 = some (a8, .inl (G.2 1, 625, .inr (.inl (fun k => lN (ab k))))) := by rw [hM9_2, xu_n (by omega)]; exact hc8
            have hc9 : M9_2 9 = some (a9, .inl (G.2 1, 625, .inr (.inl (fun k => lN (bl k))))) := by rw [hM9_2, xu_n (by omega)]; exact hc9
            have hc10 : M9_2 10 = some (a10, .inl (G.2 0, 625, .inl (fun k => nI (o9 k)))) := by rw [hM9_2, xu_n (by omega)]; exact hc10
            have hc12 : M9_2 12 = some (a12, .inl (G.2 2, 51, .inl (fun k => nI (pr k)))) := by rw [hM9_2, xu_n (by omega)]; exact hc12
            have hc11 : M9_2 11 = some (a11, .inl (G.2 0, 625, .inl (fun k => nI (s8 k)))) := by rw [hM9_2]; exact xu_s
            refine lv_iload_n hx hb dX2_sort_12 rfl (lv_at hl 0 rfl) ?_
            refine lv_aload_n hx hb dX2_sort_13 rfl (lv_at hl 2 rfl) ?_
            refine x_get (ci := 4) (v := .int (nI cn)) (C := RX2) (T := TX2) (N := 9) hx hb hts inX2 hown hK hX hcL rfl 1 (by decide) lk_fieldLink_15 (fun _ h9 => h9) rfl dX2_sort_14 ?_
            refine lv_icmp_ge (tgt := 56) hx hb dX2_sort_17 (by decide) (fun c_2 => ?_) (fun c_2 => ?_)
            · have c_2 : cn ≤ lo := (nI_leI (by omega) (by omega)).mp c_2
              refine lv_aload_n hx hb dX2_sort_56 rfl (lv_at hl 2 rfl) ?_
              refine x_get (ci := 4) (v := .ref a11) (C := RX2) (T := TX2) (N := 9) hx hb hts inX2 hown hK hX hcL rfl 7 (by decide) lk_fieldLink_36 (fun _ h9 => h9) rfl dX2_sort_57 ?_
              refine lv_iconst (v := nI 0) hx hb dX2_sort_60 (by decide) ?_
              refine lv_aload_n hx hb dX2_sort_61 rfl (lv_at hl 2 rfl) ?_
              refine x_get (ci := 4) (v := .ref a10) (C := RX2) (T := TX2) (N := 9) hx hb hts inX2 hown hK hX hcL rfl 6 (by decide) lk_fieldLink_33 (fun _ h9 => h9) rfl dX2_sort_62 ?_
              refine lv_iconst (v := nI 0) hx hb dX2_sort_65 (by decide) ?_
              refine lv_aload_n hx hb dX2_sort_66 rfl (lv_at hl 2 rfl) ?_
              refine x_get (ci := 4) (v := .int (nI cn)) (C := RX2) (T := TX2) (N := 9) hx hb hts inX2 hown hK hX hcL rfl 1 (by decide) lk_fieldLink_15 (fun _ h9 => h9) rfl dX2_sort_67 ?_
              refine x_copy hx hb (hml.trans hl.1.symm) hown lk_cpy (hts (.native arraycopyName) (by decide +kernel)) (hts (.static arraycopyName) (by decide +kernel)) (hts (.initialized "java/lang/System") (by decide +kernel)) hK hX hS hc11 hc10 (by omega) (by omega) (by omega) (Nat.le_of_ble_eq_true rfl) (Nat.le_of_ble_eq_true rfl) dX2_sort_70 (fun H locs hX hS => ?_)
              rw [cpy_n] at hX
              obtain ⟨M_3, hM_3⟩ : ∃ zM : xM, zM = xu M9_2 10 (a10, .inl (G.2 0, 625, .inl (fun k => nI ((va_cpy s8 o9 0 0 cn) k)))) := ⟨_, rfl⟩
              have hX : xw G.1 vwCl A M_3 H := by rw [hM_3]; exact hX
              have hcL : M_3 4 = some (a4, .inr (4, [.int bg, .int (nI cn), .ref a6, .ref a7, .ref a8, .ref a9, .ref a10, .ref a11, .ref a12])) := by rw [hM_3, xu_n (by omega)]; exact hcL
              have hc6 : M_3 6 = some (a6, .inl (G.2 0, 625, .inl (fun k => nI (zs k)))) := by rw [hM_3, xu_n (by omega)]; exact hc6
              have hc7 : M_3 7 = some (a7, .inl (G.2 0, 625, .inl (fun k => nI (os k)))) := by rw [hM_3, xu_n (by omega)]; exact hc7
              have hc8 : M_3 8 = some (a8, .inl (G.2 1, 625, .inr (.inl (fun k => lN (ab k))))) := by rw [hM_3, xu_n (by omega)]; exact hc8
              have hc9 : M_3 9 = some (a9, .inl (G.2 1, 625, .inr (.inl (fun k => lN (bl k))))) := by rw [hM_3, xu_n (by omega)]; exact hc9
              have hc11 : M_3 11 = some (a11, .inl (G.2 0, 625, .inl (fun k => nI (s8 k)))) := by rw [hM_3, xu_n (by omega)]; exact hc11
              have hc12 : M_3 12 = some (a12, .inl (G.2 2, 51, .inl (fun k => nI (pr k)))) := by rw [hM_3, xu_n (by omega)]; exact hc12
              have hc10 : M_3 10 = some (a10, .inl (G.2 0, 625, .inl (fun k => nI ((va_cpy s8 o9 0 0 cn) k)))) := by rw [hM_3]; exact xu_s
              refine lv_iload_n hx hb dX2_sort_73 rfl (lv_at hl 1 rfl) ?_
              refine lv_iconst (v := nI 2) hx hb dX2_sort_74 (by decide) ?_
              refine lv_imul hx hb dX2_sort_75 ?_
              refine x_ri (pk_mul _ _) ?_
              refine lv_istore_n (lv' := [(1, .int (nI (w * 2))), (2, .int (nI lo)), (0, .ref a4)]) hx hb dX2_sort_76 rfl hl (by decide) rfl (fun ls hl => ?_)
              refine lv_goto (tgt := 2) hx hb dX2_sort_77 (by decide) ?_
              exact ih (w * 2) (va_cpy s8 o9 0 0 cn) s8 M_3 _ _ ls (by omega) (⟨by omega, by omega⟩) (so_copy hlo (by omega) hin8) (by rw [hM_3, hM9_2, hM9, x_uu, x_uc (t := 11) (t' := 10) (by omega), x_uu]) hX hS (lv_sub hl [0, 2] rfl)
            · have c_2 : ¬ (cn ≤ lo) := fun q => c_2 ((nI_leI (by omega) (by omega)).mpr q)
              refine lv_aload_n hx hb dX2_sort_20 rfl (lv_at hl 2 rfl) ?_
              refine lv_iload_n hx hb dX2_sort_21 rfl (lv_at hl 0 rfl) ?_
              refine lv_iload_n hx hb dX2_sort_22 rfl (lv_at hl 0 rfl) ?_
              refine lv_iload_n hx hb dX2_sort_23 rfl (lv_at hl 1 rfl) ?_
              refine lv_iadd hx hb dX2_sort_24 ?_
              refine x_ri (nI_add _ _) ?_
              refine lv_aload_n hx hb dX2_sort_25 rfl (lv_at hl 2 rfl) ?_
              refine x_get (ci := 4) (v := .int (nI cn)) (C := RX2) (T := TX2) (N := 9) hx hb hts inX2 hown hK hX hcL rfl 1 (by decide) lk_fieldLink_15 (fun _ h9 => h9) rfl dX2_sort_26 ?_
              refine va_mmin hx hb (hml.trans hl.1.symm) hown lk_min (hts (.static Lib.Math.min.name) (by decide +kernel)) (hts (.initialized "java/lang/Math") (by decide +kernel)) (hts (.code Lib.Math.min.name Lib.Math.min.code 2 (some .int)) (List.mem_of_getElem? (i := 5) rfl)) (Nat.le_of_ble_eq_true rfl) (Nat.le_of_ble_eq_true rfl) (Nat.le_of_ble_eq_true rfl) (Nat.le_of_ble_eq_true rfl) dX2_sort_29 ?_
              refine x_ri (x_min (by omega) (by omega)) ?_
              refine lv_iload_n hx hb dX2_sort_32 rfl (lv_at hl 0 rfl) ?_
              refine lv_iconst (v := nI 2) hx hb dX2_sort_33 (by decide) ?_
              refine lv_iload_n hx hb dX2_sort_34 rfl (lv_at hl 1 rfl) ?_
              refine lv_imul hx hb dX2_sort_35 ?_
              refine x_ri (pk_mul _ _) ?_
              refine lv_iadd hx hb dX2_sort_36 ?_
              refine x_ri (nI_add _ _) ?_
              refine lv_aload_n hx hb dX2_sort_37 rfl (lv_at hl 2 rfl) ?_
              refine x_get (ci := 4) (v := .int (nI cn)) (C := RX2) (T := TX2) (N := 9) hx hb hts inX2 hown hK hX hcL rfl 1 (by decide) lk_fieldLink_15 (fun _ h9 => h9) rfl dX2_sort_38 ?_
              refine va_mmin hx hb (hml.trans hl.1.symm) hown lk_min (hts (.static Lib.Math.min.name) (by decide +kernel)) (hts (.initialized "java/lang/Math") (by decide +kernel)) (hts (.code Lib.Math.min.name Lib.Math.min.code 2 (some .int)) (List.mem_of_getElem? (i := 5) rfl)) (Nat.le_of_ble_eq_true rfl) (Nat.le_of_ble_eq_true rfl) (Nat.le_of_ble_eq_true rfl) (Nat.le_of_ble_eq_true rfl) dX2_sort_41 ?_
              refine x_ri (x_min (by omega) (by omega)) ?_
              refine x_callv (x_runV (q := (RX2, TX2, 9)) (As := [.int (nI lo), .int (nI (min ((lo + w)) cn)), .int (nI (min ((lo + (2 * w))) cn))]) (rest := []) ⟨hx, hb, hml, hown, hts⟩ (ctX2_merge l G A M9_2 hcL hc6 hc7 hc8 hc9 hc10 hc11 hc12 hcn lo (min (lo + w) cn) (min (lo + 2 * w) cn) (by omega) (by omega) (by omega) (fun j hj => ⟨by have := hoc j hj; omega, (hab _ (hoc j hj)).1, (hab _ (hoc j hj)).2⟩)) (cwV 3 hts gX2_sort_X2_merge rfl rfl rfl (by decide +kernel) ⟨Nat.le_of_ble_eq_true rfl, Nat.le_of_ble_eq_true rfl⟩) hK hA hX hS hcL rfl rfl hl.1 rfl (lv_room (Nat.le_of_ble_eq_true rfl)) dX2_sort_44 ⟨by decide, by decide⟩) hS (fun M_5 H locs hp hX hS => ?_)
              obtain ⟨s7, hM7, hf7, hs7⟩ := hp
              have hcL : M_5 4 = some (a4, .inr (4, [.int bg, .int (nI cn), .ref a6, .ref a7, .ref a8, .ref a9, .ref a10, .ref a11, .ref a12])) := by rw [hM7, xu_n (by omega)]; exact hcL
              have hc6 : M_5 6 = some (a6, .inl (G.2 0, 625, .inl (fun k => nI (zs k)))) := by rw [hM7, xu_n (by omega)]; exact hc6
              have hc7 : M_5 7 = some (a7, .inl (G.2 0, 625, .inl (fun k => nI (os k)))) := by rw [hM7, xu_n (by omega)]; exact hc7
              have hc8 : M_5 8 = some (a8, .inl (G.2 1, 625, .inr (.inl (fun k => lN (ab k))))) := by rw [hM7, xu_n (by omega)]; exact hc8
              have hc9 : M_5 9 = some (a9, .inl (G.2 1, 625, .inr (.inl (fun k => lN (bl k))))) := by rw [hM7, xu_n (by omega)]; exact hc9
              have hc10 : M_5 10 = some (a10, .inl (G.2 0, 625, .inl (fun k => nI (o9 k)))) := by rw [hM7, xu_n (by omega)]; exact hc10
              have hc12 : M_5 12 = some (a12, .inl (G.2 2, 51, .inl (fun k => nI (pr k)))) := by rw [hM7, xu_n (by omega)]; exact hc12
              have hc11 : M_5 11 = some (a11, .inl (G.2 0, 625, .inl (fun k => nI (s7 k)))) := by rw [hM7]; exact xu_s
              refine lv_iload_n hx hb dX2_sort_47 rfl (lv_at hl 0 rfl) ?_
              refine lv_iconst (v := nI 2) hx hb dX2_sort_48 (by decide) ?_
              refine lv_iload_n hx hb dX2_sort_49 rfl (lv_at hl 1 rfl) ?_
              refine lv_imul hx hb dX2_sort_50 ?_
              refine x_ri (pk_mul _ _) ?_
              refine lv_iadd hx hb dX2_sort_51 ?_
              refine x_ri (nI_add _ _) ?_
              refine lv_istore_n (lv' := [(2, .int (nI (lo + (2 * w)))), (1, .int (nI w)), (0, .ref a4)]) hx hb dX2_sort_52 rfl hl (by decide) rfl (fun ls hl => ?_)
              refine lv_goto (tgt := 12) hx hb dX2_sort_53 (by decide) ?_
              exact ih_2 (lo + 2 * w) (kk + 1) s7 M_5 _ _ ls (by omega) (by rw [hlo, Nat.add_mul kk 1, Nat.one_mul]) (by omega) (so_step hlo (by omega) hw.1 hbl hSB hin8 hf7 hs7) (by rw [hM7, hM9_2, x_uu]) hX hS (lv_sub hl [0, 1, 2] rfl)
        exact loop_2 (cn + 2001) 0 0 s9 M9 _ _ ls (by omega) (by omega) (by omega) (fun k hk => absurd hk (by omega)) ((x_us hc11).symm) hX hS (lv_sub hl [0, 1, 2] rfl)
  exact loop (cn + 2001) 1 od sp M _ _ ls (by omega) (⟨by omega, by omega⟩) (so_one hid) (by rw [x_us hc10]; exact (x_us hc11).symm) hX hS (lv_sub hl [0, 1] rfl)
