abbrev rmX2_placeAfterMixing : Room := { frames := 0, cells := 0, slots := 0, locals := 0 }
set_option maxHeartbeats 4000000 in
set_option maxRecDepth 100000 in
/-- Listing.placeAfterMixing -/
theorem ctX2_placeAfterMixing (l : Launch) (G : xG) (A : Nat → Prop) (M : xM) {bg : Int32} {cn a4 a6 a7 a8 a9 a10 a11 a12 : Nat} {zs os ab bl od sp pr : Nat → Nat} (hcL : M 4 = some (a4, .inr (4, [.int bg, .int (nI cn), .ref a6, .ref a7, .ref a8, .ref a9, .ref a10, .ref a11, .ref a12]))) (hc6 : M 6 = some (a6, .inl (G.2 0, 625, .inl (fun k => nI (zs k))))) (hc7 : M 7 = some (a7, .inl (G.2 0, 625, .inl (fun k => nI (os k))))) (hc8 : M 8 = some (a8, .inl (G.2 1, 625, .inr (.inl (fun k => lN (ab k)))))) (hc9 : M 9 = some (a9, .inl (G.2 1, 625, .inr (.inl (fun k => lN (bl k)))))) (hc10 : M 10 = some (a10, .inl (G.2 0, 625, .inl (fun k => nI (od k))))) (hc11 : M 11 = some (a11, .inl (G.2 0, 625, .inl (fun k => nI (sp k))))) (hc12 : M 12 = some (a12, .inl (G.2 2, 51, .inl (fun k => nI (pr k))))) (hcn : cn ≤ 625) (seed : Int64) (ip : Nat) (hip : ip < cn) : Met l yX2_placeAfterMixing wsX2_placeAfterMixing rmX2_placeAfterMixing (va_Pc ([.ref a4, .long seed, .int (nI ip)] : List Value) (xPc G A M)) (va_Qi (fun r M1 => ∃ s7 : Nat → Nat, M1 = xu M 11 (a11, .inl (G.2 0, 625, .inl (fun k => nI (s7 k)))) ∧ r = nI (xMix (cn - 1) seed (xIota sp cn) ip)) (xPc G A) A) 0 0 A := by
  refine x_met (cc := cX2_placeAfterMixing) (maxL := 9) (ret := (some .int)) RX2 (by decide) rfl (Nat.le_of_ble_eq_true rfl) rfl ?_
  intro p e s m below meth c hx hb hr hts hown hlocks hml hin hK hA hX ls hl
  have inX2 : ∀ w ∈ wsX20, w ∈ wsX2_placeAfterMixing := by decide +kernel
  have lk_fieldLink_15 := hts (.fieldLink RX2 15 "Reconcile$Listing" "count" "I") (by decide +kernel)
  have lk_fieldLink_36 := hts (.fieldLink RX2 36 "Reconcile$Listing" "spare" "[I") (by decide +kernel)
  have lk_constantLong_72 := hts (.constantLong RX2 72 (6364136223846793005)) (by decide +kernel)
  have lk_constantLong_74 := hts (.constantLong RX2 74 (1442695040888963407)) (by decide +kernel)
  have hS : va_S A s.heap s.heap [] := va_S.rf
  have hl : lv_has ls 9 [(0, .ref a4), (1, .long seed), (3, .int (nI ip))] := hl
  refine lv_iconst (v := nI 0) hx hb dX2_placeAfterMixing_0 (by decide) ?_
  refine lv_istore (lv' := [(4, .int (nI 0)), (0, .ref a4), (1, .long seed), (3, .int (nI ip))]) hx hb dX2_placeAfterMixing_1 hl (by decide) rfl (fun ls hl => ?_)
  have loop : ∀ (n : Nat) (i : Nat) (M9 : xM) (H : Heap) (locs : List Loc) (ls : Array Slot), cn < i + n → (i ≤ cn) → M9 = xu M 11 (a11, .inl (G.2 0, 625, .inl (fun k => nI ((xIota sp i) k)))) → xw G.1 vwCl A M9 H → va_S A s.heap H locs → lv_has ls 9 [(4, .int (nI i)), (0, .ref a4), (1, .long seed), (3, .int (nI ip))] → W p l e rmX2_placeAfterMixing s m ([.ref a4, .long seed, .int (nI ip)] : List Value).toArray below meth c H locs 0 0 (MQ below (va_Qi (fun r M1 => ∃ s7 : Nat → Nat, M1 = xu M 11 (a11, .inl (G.2 0, 625, .inl (fun k => nI (s7 k)))) ∧ r = nI (xMix (cn - 1) seed (xIota sp cn) ip)) (xPc G A) A) ([.ref a4, .long seed, .int (nI ip)] : List Value).toArray s 0 0 A) (F0 m 3 ls []) := by
    intro n
    induction n with
    | zero => intro i M9 H locs ls hn0 hi; exact absurd hn0 (by omega)
    | succ n ih =>
      intro i M9 H locs ls hn0 hi hM9 hX hS hl
      have hcL : M9 4 = some (a4, .inr (4, [.int bg, .int (nI cn), .ref a6, .ref a7, .ref a8, .ref a9, .ref a10, .ref a11, .ref a12])) := by rw [hM9, xu_n (by omega)]; exact hcL
      have hc6 : M9 6 = some (a6, .inl (G.2 0, 625, .inl (fun k => nI (zs k)))) := by rw [hM9, xu_n (by omega)]; exact hc6
      have hc7 : M9 7 = some (a7, .inl (G.2 0, 625, .inl (fun k => nI (os k)))) := by rw [hM9, xu_n (by omega)]; exact hc7
      have hc8 : M9 8 = some (a8, .inl (G.2 1, 625, .inr (.inl (fun k => lN (ab k))))) := by rw [hM9, xu_n (by omega)]; exact hc8
      have hc9 : M9 9 = some (a9, .inl (G.2 1, 625, .inr (.inl (fun k => lN (bl k))))) := by rw [hM9, xu_n (by omega)]; exact hc9
      have hc10 : M9 10 = some (a10, .inl (G.2 0, 625, .inl (fun k => nI (od k)))) := by rw [hM9, xu_n (by omega)]; exact hc10
      have hc12 : M9 12 = some (a12, .inl (G.2 2, 51, .inl (fun k => nI (pr k)))) := by rw [hM9, xu_n (by omega)]; exact hc12
      have hc11 : M9 11 = some (a11, .inl (G.2 0, 625, .inl (fun k => nI ((xIota sp i) k)))) := by rw [hM9]; exact xu_s
      refine lv_iload hx hb dX2_placeAfterMixing_3 (lv_at hl 0 rfl) ?_
      refine lv_aload_n hx hb dX2_placeAfterMixing_5 rfl (lv_at hl 1 rfl) ?_
      refine x_get (ci := 4) (v := .int (nI cn)) (C := RX2) (T := TX2) (N := 9) hx hb hts inX2 hown hK hX hcL rfl 1 (by decide) lk_fieldLink_15 (fun _ h9 => h9) rfl dX2_placeAfterMixing_6 ?_
      refine lv_icmp_ge (tgt := 27) hx hb dX2_placeAfterMixing_9 (by decide) (fun c_1 => ?_) (fun c_1 => ?_)
      · have c_1 : cn ≤ i := (nI_leI (by omega) (by omega)).mp c_1
        refine lv_lload_n hx hb dX2_placeAfterMixing_27 rfl (lv_at hl 2 rfl) ?_
        refine lv_lstore (lv' := [(4, .long seed), (0, .ref a4), (1, .long seed), (3, .int (nI ip))]) hx hb dX2_placeAfterMixing_28 hl (by decide) rfl (fun ls hl => ?_)
        have hic : i = cn := by omega
        rw [hic] at hc11 hM9
        refine lv_aload_n hx hb dX2_placeAfterMixing_30 rfl (lv_at hl 1 rfl) ?_
        refine x_get (ci := 4) (v := .int (nI cn)) (C := RX2) (T := TX2) (N := 9) hx hb hts inX2 hown hK hX hcL rfl 1 (by decide) lk_fieldLink_15 (fun _ h9 => h9) rfl dX2_placeAfterMixing_31 ?_
        refine lv_iconst (v := nI 1) hx hb dX2_placeAfterMixing_34 (by decide) ?_
        refine lv_isub hx hb dX2_placeAfterMixing_35 ?_
        refine x_ri (pk_sub (by omega)) ?_
        refine lv_istore (lv' := [(6, .int (nI (cn - 1))), (4, .long seed), (0, .ref a4), (1, .long seed), (3, .int (nI ip))]) hx hb dX2_placeAfterMixing_36 hl (by decide) rfl (fun ls hl => ?_)
        have loop_2 : ∀ (n_2 : Nat) (kx : Nat) (st : Int64) (f : Nat → Nat) (M9_2 : xM) (H : Heap) (locs : List Loc) (ls : Array Slot), kx < n_2 → (kx < cn) → (∀ j, j < cn → f j < cn) → (xMix kx st f = xMix (cn - 1) seed (xIota sp cn)) → M9_2 = xu M9 11 (a11, .inl (G.2 0, 625, .inl (fun k => nI (f k)))) → xw G.1 vwCl A M9_2 H → va_S A s.heap H locs → lv_has ls 9 [(6, .int (nI kx)), (4, .long st), (0, .ref a4), (1, .long seed), (3, .int (nI ip))] → W p l e rmX2_placeAfterMixing s m ([.ref a4, .long seed, .int (nI ip)] : List Value).toArray below meth c H locs 0 0 (MQ below (va_Qi (fun r M1 => ∃ s7 : Nat → Nat, M1 = xu M 11 (a11, .inl (G.2 0, 625, .inl (fun k => nI (s7 k)))) ∧ r = nI (xMix (cn - 1) seed (xIota sp cn) ip)) (xPc G A) A) ([.ref a4, .long seed, .int (nI ip)] : List Value).toArray s 0 0 A) (F0 m 38 ls []) := by
          intro n_2
          induction n_2 with
          | zero => intro kx st f M9_2 H locs ls hn0_2 hk hf hv; exact absurd hn0_2 (by omega)
          | succ n_2 ih_2 =>
            intro kx st f M9_2 H locs ls hn0_2 hk hf hv hM9_2 hX hS hl
            have hcL : M9_2 4 = some (a4, .inr (4, [.int bg, .int (nI cn), .ref a6, .ref a7, .ref a8, .ref a9, .ref a10, .ref a11, .ref a12])) := by rw [hM9_2, xu_n (by omega)]; exact hcL
            have hc6 : M9_2 6 = some (a6, .inl (G.2 0, 625, .inl (fun k => nI (zs k)))) := by rw [hM9_2, xu_n (by omega)]; exact hc6
            have hc7 : M9_2 7 = some (a7, .inl (G.2 0, 625, .inl (fun k => nI (os k)))) := by rw [hM9_2, xu_n (by omega)]; exact hc7
            have hc8 : M9_2 8 = some (a8, .inl (G.2 1, 625, .inr (.inl (fun k => lN (ab k))))) := by rw [hM9_2, xu_n (by omega)]; exact hc8
            have hc9 : M9_2 9 = some (a9, .inl (G.2 1, 625, .inr (.inl (fun k => lN (bl k))))) := by rw [hM9_2, xu_n (by omega)]; exact hc9
            have hc10 : M9_2 10 = some (a10, .inl (G.2 0, 625, .inl (fun k => nI (od k)))) := by rw [hM9_2, xu_n (by omega)]; exact hc10
            have hc12 : M9_2 12 = some (a12, .inl (G.2 2, 51, .inl (fun k => nI (pr k)))) := by rw [hM9_2, xu_n (by omega)]; exact hc12
            have hc11 : M9_2 11 = some (a11, .inl (G.2 0, 625, .inl (fun k => nI (f k)))) := by rw [hM9_2]; exact xu_s
            refine lv_iload hx hb dX2_placeAfterMixing_38 (lv_at hl 0 rfl) ?_
            refine lv_iconst (v := nI 1) hx hb dX2_placeAfterMixing_40 (by decide) ?_
            refine lv_icmp_lt (tgt := 108) hx hb dX2_placeAfterMixing_41 (by decide) (fun c_2 => ?_) (fun c_2 => ?_)
            · have c_2 : kx < 1 := (nI_ltI (by omega) (by omega)).mp c_2
              refine lv_aload_n hx hb dX2_placeAfterMixing_108 rfl (lv_at hl 2 rfl) ?_
              refine x_get (ci := 4) (v := .ref a11) (C := RX2) (T := TX2) (N := 9) hx hb hts inX2 hown hK hX hcL rfl 7 (by decide) lk_fieldLink_36 (fun _ h9 => h9) rfl dX2_placeAfterMixing_109 ?_
              refine lv_iload_n hx hb dX2_placeAfterMixing_112 rfl (lv_at hl 4 rfl) ?_
              refine x_iN hx hb hK hX hc11 (by omega) (by decide) dX2_placeAfterMixing_113 ?_
              exact x_iret hx hb hr hlocks hK hA hX hS dX2_placeAfterMixing_114 (⟨f, by rw [hM9_2, hM9, x_uu], by rw [← hv, show kx = 0 by omega]; rfl⟩)
            · have c_2 : ¬ (kx < 1) := fun q => c_2 ((nI_ltI (by omega) (by omega)).mpr q)
              refine lv_lload hx hb dX2_placeAfterMixing_44 (lv_at hl 1 rfl) ?_
              refine lv_ldc2 (v := 6364136223846793005) hx hb hown lk_constantLong_72 dX2_placeAfterMixing_46 ?_
              refine x_rl (y := lN 6364136223846793005) rfl ?_
              refine lv_lmul hx hb dX2_placeAfterMixing_49 ?_
              refine lv_ldc2 (v := 1442695040888963407) hx hb hown lk_constantLong_74 dX2_placeAfterMixing_50 ?_
              refine x_rl (y := lN 1442695040888963407) rfl ?_
              refine lv_ladd hx hb dX2_placeAfterMixing_53 ?_
              refine lv_lstore (lv' := [(4, .long (mixS st)), (6, .int (nI kx)), (0, .ref a4), (1, .long seed), (3, .int (nI ip))]) hx hb dX2_placeAfterMixing_54 hl (by decide) rfl (fun ls hl => ?_)
              refine lv_lload hx hb dX2_placeAfterMixing_56 (lv_at hl 0 rfl) ?_
              refine lv_bipush (v := nI 33) hx hb dX2_placeAfterMixing_58 (by decide) ?_
              refine lv_lushr (v := lN (mixU (mixS st))) hx hb dX2_placeAfterMixing_60 (mix_shr _) ?_
              have hmu := mixU_lt (mixS st)
              refine lv_iload hx hb dX2_placeAfterMixing_61 (lv_at hl 1 rfl) ?_
              refine lv_iconst (v := nI 1) hx hb dX2_placeAfterMixing_63 (by decide) ?_
              refine lv_iadd hx hb dX2_placeAfterMixing_64 ?_
              refine x_ri (nI_add _ _) ?_
              refine lv_i2l (v := lN (kx + 1)) hx hb dX2_placeAfterMixing_65 (nI_l (by omega)) ?_
              refine lv_lrem hx hb dX2_placeAfterMixing_66 (by rw [show (0 : Int64) = lN 0 from rfl, pk_lEQ (by omega) (by omega)]; omega) ?_
              refine x_rl (pk_lRem (by omega) (by omega) (by omega)) ?_
              refine lv_l2i (v := nI ((mixU (mixS st)) % (kx + 1))) hx hb dX2_placeAfterMixing_67 (lN_i _) ?_
              refine lv_istore (lv' := [(7, .int (nI ((mixU (mixS st)) % (kx + 1)))), (4, .long (mixS st)), (6, .int (nI kx)), (0, .ref a4), (1, .long seed), (3, .int (nI ip))]) hx hb dX2_placeAfterMixing_68 hl (by decide) rfl (fun ls hl => ?_)
              have hmj : mixU (mixS st) % (kx + 1) < cn := by have := Nat.mod_lt (mixU (mixS st)) (show 0 < kx + 1 by omega); omega
              have hfk := hf kx hk
              have hfm := hf _ hmj
              refine lv_aload_n hx hb dX2_placeAfterMixing_70 rfl (lv_at hl 3 rfl) ?_
              refine x_get (ci := 4) (v := .ref a11) (C := RX2) (T := TX2) (N := 9) hx hb hts inX2 hown hK hX hcL rfl 7 (by decide) lk_fieldLink_36 (fun _ h9 => h9) rfl dX2_placeAfterMixing_71 ?_
              refine lv_iload hx hb dX2_placeAfterMixing_74 (lv_at hl 2 rfl) ?_
              refine x_iN hx hb hK hX hc11 (by omega) (by decide) dX2_placeAfterMixing_76 ?_
              refine lv_istore (lv' := [(8, .int (nI (f kx))), (7, .int (nI ((mixU (mixS st)) % (kx + 1)))), (4, .long (mixS st)), (6, .int (nI kx)), (0, .ref a4), (1, .long seed), (3, .int (nI ip))]) hx hb dX2_placeAfterMixing_77 hl (by decide) rfl (fun ls hl => ?_)
              refine lv_aload_n hx hb dX2_placeAfterMixing_79 rfl (lv_at hl 4 rfl) ?_
              refine x_get (ci := 4) (v := .ref a11) (C := RX2) (T := TX2) (N := 9) hx hb hts inX2 hown hK hX hcL rfl 7 (by decide) lk_fieldLink_36 (fun _ h9 => h9) rfl dX2_placeAfterMixing_80 ?_
              refine lv_iload hx hb dX2_placeAfterMixing_83 (lv_at hl 3 rfl) ?_
              refine lv_aload_n hx hb dX2_placeAfterMixing_85 rfl (lv_at hl 4 rfl) ?_
              refine x_get (ci := 4) (v := .ref a11) (C := RX2) (T := TX2) (N := 9) hx hb hts inX2 hown hK hX hcL rfl 7 (by decide) lk_fieldLink_36 (fun _ h9 => h9) rfl dX2_placeAfterMixing_86 ?_
              refine lv_iload hx hb dX2_placeAfterMixing_89 (lv_at hl 1 rfl) ?_
              refine x_iN hx hb hK hX hc11 (by omega) (by decide) dX2_placeAfterMixing_91 ?_
              refine x_isN hx hb hK hX hS hc11 (by omega) (by decide) dX2_placeAfterMixing_92 (fun H locs hX hS => ?_)
              rw [upd_n] at hX
              obtain ⟨M_3, hM_3⟩ : ∃ zM : xM, zM = xu M9_2 11 (a11, .inl (G.2 0, 625, .inl (fun k => nI ((va_up f kx (f ((mixU (mixS st)) % (kx + 1)))) k)))) := ⟨_, rfl⟩
              have hX : xw G.1 vwCl A M_3 H := by rw [hM_3]; exact hX
              have hcL : M_3 4 = some (a4, .inr (4, [.int bg, .int (nI cn), .ref a6, .ref a7, .ref a8, .ref a9, .ref a10, .ref a11, .ref a12])) := by rw [hM_3, xu_n (by omega)]; exact hcL
              have hc6 : M_3 6 = some (a6, .inl (G.2 0, 625, .inl (fun k => nI (zs k)))) := by rw [hM_3, xu_n (by omega)]; exact hc6
              have hc7 : M_3 7 = some (a7, .inl (G.2 0, 625, .inl (fun k => nI (os k)))) := by rw [hM_3, xu_n (by omega)]; exact hc7
              have hc8 : M_3 8 = some (a8, .inl (G.2 1, 625, .inr (.inl (fun k => lN (ab k))))) := by rw [hM_3, xu_n (by omega)]; exact hc8
              have hc9 : M_3 9 = some (a9, .inl (G.2 1, 625, .inr (.inl (fun k => lN (bl k))))) := by rw [hM_3, xu_n (by omega)]; exact hc9
              have hc10 : M_3 10 = some (a10, .inl (G.2 0, 625, .inl (fun k => nI (od k)))) := by rw [hM_3, xu_n (by omega)]; exact hc10
              have hc12 : M_3 12 = some (a12, .inl (G.2 2, 51, .inl (fun k => nI (pr k)))) := by rw [hM_3, xu_n (by omega)]; exact hc12
              have hc11 : M_3 11 = some (a11, .inl (G.2 0, 625, .inl (fun k => nI ((va_up f kx (f ((mixU (mixS st)) % (kx + 1)))) k)))) := by rw [hM_3]; exact xu_s
              refine lv_aload_n hx hb dX2_placeAfterMixing_93 rfl (lv_at hl 4 rfl) ?_
              refine x_get (ci := 4) (v := .ref a11) (C := RX2) (T := TX2) (N := 9) hx hb hts inX2 hown hK hX hcL rfl 7 (by decide) lk_fieldLink_36 (fun _ h9 => h9) rfl dX2_placeAfterMixing_94 ?_
              refine lv_iload hx hb dX2_placeAfterMixing_97 (lv_at hl 1 rfl) ?_
              refine lv_iload hx hb dX2_placeAfterMixing_99 (lv_at hl 0 rfl) ?_
              refine x_isN hx hb hK hX hS hc11 (by omega) (by decide) dX2_placeAfterMixing_101 (fun H locs hX hS => ?_)
              rw [upd_n] at hX
              obtain ⟨M_4, hM_4⟩ : ∃ zM : xM, zM = xu M_3 11 (a11, .inl (G.2 0, 625, .inl (fun k => nI ((va_up (va_up f kx (f ((mixU (mixS st)) % (kx + 1)))) ((mixU (mixS st)) % (kx + 1)) (f kx)) k)))) := ⟨_, rfl⟩
              have hX : xw G.1 vwCl A M_4 H := by rw [hM_4]; exact hX
              have hcL : M_4 4 = some (a4, .inr (4, [.int bg, .int (nI cn), .ref a6, .ref a7, .ref a8, .ref a9, .ref a10, .ref a11, .ref a12])) := by rw [hM_4, xu_n (by omega)]; exact hcL
              have hc6 : M_4 6 = some (a6, .inl (G.2 0, 625, .inl (fun k => nI (zs k)))) := by rw [hM_4, xu_n (by omega)]; exact hc6
              have hc7 : M_4 7 = some (a7, .inl (G.2 0, 625, .inl (fun k => nI (os k)))) := by rw [hM_4, xu_n (by omega)]; exact hc7
              have hc8 : M_4 8 = some (a8, .inl (G.2 1, 625, .inr (.inl (fun k => lN (ab k))))) := by rw [hM_4, xu_n (by omega)]; exact hc8
              have hc9 : M_4 9 = some (a9, .inl (G.2 1, 625, .inr (.inl (fun k => lN (bl k))))) := by rw [hM_4, xu_n (by omega)]; exact hc9
              have hc10 : M_4 10 = some (a10, .inl (G.2 0, 625, .inl (fun k => nI (od k)))) := by rw [hM_4, xu_n (by omega)]; exact hc10
              have hc12 : M_4 12 = some (a12, .inl (G.2 2, 51, .inl (fun k => nI (pr k)))) := by rw [hM_4, xu_n (by omega)]; exact hc12
              have hc11 : M_4 11 = some (a11, .inl (G.2 0, 625, .inl (fun k => nI ((va_up (va_up f kx (f ((mixU (mixS st)) % (kx + 1)))) ((mixU (mixS st)) % (kx + 1)) (f kx)) k)))) := by rw [hM_4]; exact xu_s
              refine lv_iinc (v := nI (kx - 1)) (lv' := [(6, .int (nI (kx - 1))), (8, .int (nI (f kx))), (7, .int (nI ((mixU (mixS st)) % (kx + 1)))), (4, .long (mixS st)), (0, .ref a4), (1, .long seed), (3, .int (nI ip))]) hx hb dX2_placeAfterMixing_102 hl (k := 3) rfl (x_dec (by omega)) (by decide) rfl (fun ls hl => ?_)
              refine lv_goto (tgt := 38) hx hb dX2_placeAfterMixing_105 (by decide) ?_
              exact ih_2 (kx - 1) (mixS st) (va_up (va_up f kx (f (mixU (mixS st) % (kx + 1)))) (mixU (mixS st) % (kx + 1)) (f kx)) M_4 _ _ ls (by omega) (by omega) (fun j hj => by have q1 := hf _ hmj; have q2 := hf kx hk; simp only [va_up]; split; exact q2; split; exact q1; exact hf j hj) (by rw [← hv, xMix_s (k := kx) (by omega)]) (by rw [hM_4, hM_3, hM9_2, x_uu, x_uu]) hX hS (lv_sub hl [0, 3, 4, 5, 6] rfl)
        exact loop_2 cn (cn - 1) seed (xIota sp cn) M9 _ _ ls (by omega) (by omega) (fun j hj => by unfold xIota; rw [if_pos hj]; exact hj) rfl ((x_us hc11).symm) hX hS (lv_sub hl [0, 1, 2, 3, 4] rfl)
      · have c_1 : ¬ (cn ≤ i) := fun q => c_1 ((nI_leI (by omega) (by omega)).mpr q)
        refine lv_aload_n hx hb dX2_placeAfterMixing_12 rfl (lv_at hl 1 rfl) ?_
        refine x_get (ci := 4) (v := .ref a11) (C := RX2) (T := TX2) (N := 9) hx hb hts inX2 hown hK hX hcL rfl 7 (by decide) lk_fieldLink_36 (fun _ h9 => h9) rfl dX2_placeAfterMixing_13 ?_
        refine lv_iload hx hb dX2_placeAfterMixing_16 (lv_at hl 0 rfl) ?_
        refine lv_iload hx hb dX2_placeAfterMixing_18 (lv_at hl 0 rfl) ?_
        refine x_isN hx hb hK hX hS hc11 (by omega) (by decide) dX2_placeAfterMixing_20 (fun H locs hX hS => ?_)
        rw [upd_n] at hX
        obtain ⟨M_5, hM_5⟩ : ∃ zM : xM, zM = xu M9 11 (a11, .inl (G.2 0, 625, .inl (fun k => nI ((va_up (xIota sp i) i i) k)))) := ⟨_, rfl⟩
        have hX : xw G.1 vwCl A M_5 H := by rw [hM_5]; exact hX
        have hcL : M_5 4 = some (a4, .inr (4, [.int bg, .int (nI cn), .ref a6, .ref a7, .ref a8, .ref a9, .ref a10, .ref a11, .ref a12])) := by rw [hM_5, xu_n (by omega)]; exact hcL
        have hc6 : M_5 6 = some (a6, .inl (G.2 0, 625, .inl (fun k => nI (zs k)))) := by rw [hM_5, xu_n (by omega)]; exact hc6
        have hc7 : M_5 7 = some (a7, .inl (G.2 0, 625, .inl (fun k => nI (os k)))) := by rw [hM_5, xu_n (by omega)]; exact hc7
        have hc8 : M_5 8 = some (a8, .inl (G.2 1, 625, .inr (.inl (fun k => lN (ab k))))) := by rw [hM_5, xu_n (by omega)]; exact hc8
        have hc9 : M_5 9 = some (a9, .inl (G.2 1, 625, .inr (.inl (fun k => lN (bl k))))) := by rw [hM_5, xu_n (by omega)]; exact hc9
        have hc10 : M_5 10 = some (a10, .inl (G.2 0, 625, .inl (fun k => nI (od k)))) := by rw [hM_5, xu_n (by omega)]; exact hc10
        have hc12 : M_5 12 = some (a12, .inl (G.2 2, 51, .inl (fun k => nI (pr k)))) := by rw [hM_5, xu_n (by omega)]; exact hc12
        have hc11 : M_5 11 = some (a11, .inl (G.2 0, 625, .inl (fun k => nI ((va_up (xIota sp i) i i) k)))) := by rw [hM_5]; exact xu_s
        refine lv_iinc (v := nI (i + 1)) (lv' := [(4, .int (nI (i + 1))), (0, .ref a4), (1, .long seed), (3, .int (nI ip))]) hx hb dX2_placeAfterMixing_21 hl (k := 0) rfl (show nI i + Int32.ofInt 1 = _ from nI_add _ 1) (by decide) rfl (fun ls hl => ?_)
        refine lv_goto (tgt := 3) hx hb dX2_placeAfterMixing_24 (by decide) ?_
        exact ih (i + 1) M_5 _ _ ls (by omega) (by omega) (by rw [hM_5, hM9, x_uu, xIota_s]) hX hS (lv_sub hl [0, 1, 2, 3] rfl)
  exact loop (cn + 1) 0 M _ _ ls (by omega) (by omega) (by rw [xIota_0]; exact (x_us hc11).symm) hX hS (lv_sub hl [0, 1, 2, 3] rfl)
