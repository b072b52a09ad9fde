/-! the start -/
theorem x_kA {s : State} {args : Array Value} {ty : FieldType} (h : (Cond.arrayClass ty).before args s = true) (hp : ∀ C, ty ≠ .object C) : ∃ cA : ClassId, ArrOfT s cA ty ∧ va_RA s cA ty := by
  obtain ⟨cA, kA, comp, h1, h2, h3⟩ := Cond.arrayClass_spec h
  refine ⟨cA, fun n z => ⟨fun k h => (by cases h), kA, h2, comp, h3⟩, ?_⟩
  cases ty with
  | object C => exact absurd rfl (hp C)
  | _ => exact h1
theorem x_kO {s : State} {C : String} (h : va_AO C s) : ∃ cA : ClassId, ArrOfT s cA (.object C) ∧ va_RA s cA (.object C) := by
  obtain ⟨comp, cA, kA, h1, _, h2, h3, h4⟩ := Cond.arrayOver_spec (va_AO.use (A := #[]) h)
  exact ⟨cA, fun n z => ⟨fun k h => (by cases h), kA, h2, comp, h3⟩, kA, comp, h2, h3, h1, h4⟩
theorem x_str {s : State} {args : Array Value} {k : Nat} {tx : String} (hc : (Cond.instantiable RX4 7).before args s = true) (h : (Cond.stringRef RX4 k tx).before args s = true) : ∃ a, vk_R RX4 k tx a s := by
  obtain ⟨c, kC, hcl, _⟩ := Cond.instantiable_spec hc
  obtain ⟨_, _, _, a, _, _, _, _, _, he⟩ := Cond.stringRef_spec hcl h
  exact ⟨a, vk_R.of h he⟩
theorem x_tz {L : List Cond} (hk : L.all (fun w => w.onTables && w.keepsFace) = true) {s : State} {args : Array Value} (h : ∀ w ∈ L, w.before args s = true) : xThW L s := fun w hw => by
  have h1 := List.all_eq_true.mp hk w hw
  simp only [Bool.and_eq_true] at h1
  exact va_tabs h1.1 rfl (h w hw)

theorem xRel_new {G : xG} {M : xM} {ad am : Nat → Nat} {o : Nat} {fo : Nat → Int64} (hR : xRec G M ad 0 (fun _ => 0) (fun _ => 0) (fun _ => 0) (fun _ => 0) (fun _ => 0) (fun _ => 0) (fun _ _ => 0) (fun _ _ => 0) wn0 0 (fun _ => 0) (fun _ => 0) (fun _ => 0) (nI 0) 0 (fun _ => 0) (fun _ => 0) (fun _ => 0) (fun _ => 0) (fun _ => 0) (fun _ => 0) (fun _ => 0) (lN 0) (lN 0))
    (hO : xMod G M am (nI 0) 0 (fun _ => 0) (fun _ => 0) (fun _ => 0) (fun _ => 0) (fun _ => 0) (fun _ => 0) (fun _ => 0) (fun _ => 0) wn0 (nI 0) 0 (fun _ => 0) (fun _ => 0) (fun _ => 0) (fun _ => 0) 0 (fun _ => 0) (fun _ => 0) (fun _ => 0) (lN 0) (lN 0)) (hF : M 600 = some (o, .inl (G.2 1, 1, .inr (.inl fo)))) : xRel G M (ad 0) (am 500) o := by
  refine ⟨_, _, _, _, _, _, _, _, _, _, _, _, _, _, _, _, _, _, _, _, _, _, _, _, _, _, _, _, _, _, _, _, _, _, _, _, _, _, _, _, _, _, _, _, _, ⟨rfl, rfl⟩, hR, hO, ⟨⟨by omega, by omega, fun k => ?_⟩, fun i hi => absurd hi (by omega), fun i hi => absurd hi (by omega), fun i hi => absurd hi (by omega), fun n _ _ => ⟨rfl, rfl, rfl, rfl, rfl⟩, fun i hi => absurd hi (by omega)⟩, fun j hj => absurd hj (by omega), ⟨by omega, xGood_0 (by omega), fun k hk => absurd hk (by omega), fun k hk => absurd hk (by omega), fun n _ => ⟨Or.inl rfl, ⟨fun q => absurd q (by show ¬ (0 : Nat) = 1; omega), fun ⟨k, hk, _⟩ => absurd hk (by omega)⟩⟩, fun j => ⟨by show 0 < 1000; omega, by show 0 < 1000; omega⟩⟩, fo, hF⟩
  unfold wn0
  by_cases e3 : k = 3
  · subst e3; rw [va_up_self]; omega
  · rw [va_up_ne _ _ e3]
    by_cases e2 : k = 2
    · subst e2; rw [va_up_self]; omega
    · rw [va_up_ne _ _ e2]
      by_cases e1 : k = 1
      · subst e1; rw [va_up_self]; omega
      · rw [va_up_ne _ _ e1]
        by_cases e0 : k = 0
        · subst e0; rw [va_up_self]; omega
        · rw [va_up_ne _ _ e0]; omega

set_option maxHeartbeats 4000000 in
set_option maxRecDepth 100000 in
/-- the law from its entry: for every script of at most 3072 ints it comes to its end with true -/
theorem whole_start {p : Program} {e : Env} {s : State} {m : MethodId} {below : List Frame} {meth : Method} {c : Code} (l : Launch) (hst : l.stackTraces = false) {b L : Nat} {xs : Nat → Int32} (hL : L ≤ 3072) (C0 : lw_At p s m meth c b L xs) : W p l e room_1 s m #[Value.ref b] below meth c s.heap [] 0 0 (lw_Z below #[Value.ref b] s) (entryFrame m ([Value.ref b] : List Value).toArray 8) := by
  obtain ⟨hx, hb, hr, hml, hown, htt, hX0, hbl, hlocks, hgv⟩ := id C0
  have hfl := flat_of_before _ hgv
  have hA : ∀ q : Nat, s.heap.size ≤ q → lA s q := fun _ h => h
  have hb : c.code = cL_law := hb
  have hown : s.vm.findClass RL = some m.cls := hown
  have hts : ∀ w ∈ wsL_law, w.before #[Value.ref b] s = true := fun w hw => htt w (wsL_law_in w hw)
  obtain ⟨c0, iS0, hKn0⟩ := u_known (C := RJ0) (T := TJ0) (N := 2) (n := 4) htt inJ0 (htt (.instantiable RJ0 4) (by decide +kernel))
  obtain ⟨c1, iS1, hKn1⟩ := u_known (C := RJx00060) (T := TJx00060) (N := 6) (n := 6) htt inJx00060 (htt (.instantiable RJx00060 6) (by decide +kernel))
  obtain ⟨c2, iS2, hKn2⟩ := u_known (C := RX0) (T := TX0) (N := 2) (n := 2) htt inX0 (htt (.instantiable RX0 2) (by decide +kernel))
  obtain ⟨c3, iS3, hKn3⟩ := u_known (C := RX1) (T := TX1) (N := 3) (n := 3) htt inX1 (htt (.instantiable RX1 3) (by decide +kernel))
  obtain ⟨c4, iS4, hKn4⟩ := u_known (C := RX2) (T := TX2) (N := 9) (n := 9) htt inX2 (htt (.instantiable RX2 9) (by decide +kernel))
  obtain ⟨c5, iS5, hKn5⟩ := u_known (C := RX3) (T := TX3) (N := 8) (n := 8) htt inX3 (htt (.instantiable RX3 8) (by decide +kernel))
  obtain ⟨c6, iS6, hKn6⟩ := u_known (C := RX4) (T := TX4) (N := 7) (n := 7) htt inX4 (htt (.instantiable RX4 7) (by decide +kernel))
  obtain ⟨c7, iS7, hKn7⟩ := u_known (C := RX5) (T := TX5) (N := 23) (n := 23) htt inX5 (htt (.instantiable RX5 23) (by decide +kernel))
  obtain ⟨dC, dI, hKc⟩ : ∃ (dC : Nat → ClassId) (dI : Nat → Nat → Nat), ∀ (k : Nat) (q : vw_C), vwCl[k]? = some q → u_Kn s q.1 q.2.1 q.2.2 (dC k) (dI k) := by
    refine ⟨fun k => if k = 0 then c0 else if k = 1 then c1 else if k = 2 then c2 else if k = 3 then c3 else if k = 4 then c4 else if k = 5 then c5 else if k = 6 then c6 else c7, fun k => if k = 0 then iS0 else if k = 1 then iS1 else if k = 2 then iS2 else if k = 3 then iS3 else if k = 4 then iS4 else if k = 5 then iS5 else if k = 6 then iS6 else iS7, ?_⟩
    intro k q hq
    match k, hq with
    | 0, hq => cases hq; exact hKn0
    | 1, hq => cases hq; exact hKn1
    | 2, hq => cases hq; exact hKn2
    | 3, hq => cases hq; exact hKn3
    | 4, hq => cases hq; exact hKn4
    | 5, hq => cases hq; exact hKn5
    | 6, hq => cases hq; exact hKn6
    | 7, hq => cases hq; exact hKn7
    | k + 8, hq => simp [vwCl] at hq
  have ho1 : va_AO RX3 s := va_AO.of (A := #[Value.ref b]) (by first | exact htt _ (by decide +kernel) | exact hfl _ (by decide +kernel))
  have ho2 : va_AO RX1 s := va_AO.of (A := #[Value.ref b]) (by first | exact htt _ (by decide +kernel) | exact hfl _ (by decide +kernel))
  have ho3 : va_Nw (.methodLinkNest RX4 36 yX2_init "Reconcile") s := va_Nw.of rfl (A := #[Value.ref b]) (by first | exact htt _ (by decide +kernel) | exact hfl _ (by decide +kernel))
  have ho4 : va_Nw (.methodLinkNest RX4 43 yX0_init "Reconcile") s := va_Nw.of rfl (A := #[Value.ref b]) (by first | exact htt _ (by decide +kernel) | exact hfl _ (by decide +kernel))
  obtain ⟨a0, r0⟩ := x_kA (htt (.arrayClass .int) (by decide +kernel)) (fun _ h => by cases h)
  obtain ⟨a1, r1⟩ := x_kA (htt (.arrayClass .long) (by decide +kernel)) (fun _ h => by cases h)
  obtain ⟨a2, r2⟩ := x_kA (htt (.arrayClass .boolean) (by decide +kernel)) (fun _ h => by cases h)
  obtain ⟨a3, r3⟩ := x_kO ho1
  obtain ⟨a4, r4⟩ := x_kO ho2
  obtain ⟨G, eG⟩ : ∃ G : xG, G = ((dC, dI), fun k => if k = 0 then a0 else if k = 1 then a1 else if k = 2 then a2 else if k = 3 then a3 else a4) := ⟨_, rfl⟩
  have hK : va_K G.1 vwCl (xT G) s := by
    rw [eG]
    refine ⟨hKc, fun k q hq => ?_⟩
    match k, hq with
    | 0, hq => cases hq; exact r0
    | 1, hq => cases hq; exact r1
    | 2, hq => cases hq; exact r2
    | 3, hq => cases hq; exact r3
    | 4, hq => cases hq; exact r4
    | k + 5, hq => simp [xT] at hq
  obtain ⟨s1, hs1⟩ := x_str (k := 107) (tx := "no score now") (htt (.instantiable RX4 7) (by decide +kernel)) (args := #[Value.ref b]) (by first | exact htt _ (by decide +kernel) | exact hfl _ (by decide +kernel))
  obtain ⟨s2, hs2⟩ := x_str (k := 156) (tx := "no such pair") (htt (.instantiable RX4 7) (by decide +kernel)) (args := #[Value.ref b]) (by first | exact htt _ (by decide +kernel) | exact hfl _ (by decide +kernel))
  have hnA : ∀ a : Nat, a < s.heap.size → ¬ lA s a := fun a h => Nat.not_le.mpr h
  have hZ1 : vx_Zq Bundle.tN "UNASSIGNED_STACK" Bundle.steD (lA s) s s.heap := vx_Zqof (args := #[Value.ref b]) (by first | exact htt _ (by decide +kernel) | exact hfl _ (by decide +kernel)) (by first | exact htt _ (by decide +kernel) | exact hfl _ (by decide +kernel)) (by first | exact htt _ (by decide +kernel) | exact hfl _ (by decide +kernel)) hnA
  have hZ2 : vx_Zq Bundle.tN "SUPPRESSED_SENTINEL" Bundle.listD (lA s) s s.heap := vx_Zqof (args := #[Value.ref b]) (by first | exact htt _ (by decide +kernel) | exact hfl _ (by decide +kernel)) (by first | exact htt _ (by decide +kernel) | exact hfl _ (by decide +kernel)) (by first | exact htt _ (by decide +kernel) | exact hfl _ (by decide +kernel)) hnA
  have hT : xTh (lA s) s1 s2 s := ⟨x_tz thA_k (fun w hw => htt w (thA_in w hw)), x_tz thB_k (fun w hw => htt w (thB_in w hw)), hs1, hs2, hZ1, hZ2⟩
  have hTC : xThW thC s := x_tz thC_k (fun w hw => htt w (thC_in w hw))
  have hS : va_S (lA s) s.heap s.heap [] := va_S.rf
  have hX : xw G.1 vwCl (lA s) (fun _ => none) s.heap := ⟨[], fun k q h => by simp at h, ⟨fun i j p q h => by simp at h, fun k q h => by simp at h⟩, fun t x h => (by cases h), fun t t' x y h => (by cases h)⟩
  have hl := lv_entry ([.ref b]) (n := 8) (Nat.le_of_ble_eq_true rfl)
  rw [lg_entry_eq]
  generalize (lg_sl ([.ref b]) ++ List.replicate (8 - (lg_sl ([.ref b])).length) Slot.unset).toArray = ls at hl ⊢
  have hl : lv_has ls 8 [(0, .ref b)] := hl
  refine x_new (ci := 6) (fs := [.null, .int (nI 0), .null, .null, .int (nI 0), .null, .null]) (C := RX4) (T := TX4) (N := 7) hx hb htt inX4 tyX4 tyX4_ok hown (hts (.classLink RL 8 RX4) (by decide +kernel)) (htt (.instantiable RX4 7) (by decide +kernel)) (htt (.initialized RX4) (by decide +kernel)) hK hX hS hA rfl (fun j hj => by rcases (show j = 0 ∨ j = 1 ∨ j = 2 ∨ j = 3 ∨ j = 4 ∨ j = 5 ∨ j = 6 by omega) with rfl | rfl | rfl | rfl | rfl | rfl | rfl <;> rfl) (Nat.le_of_ble_eq_true rfl) (Nat.le_of_ble_eq_true rfl) dL_law_0 0 (fun qa H hX hS => ?_)
  obtain ⟨M0, hM0⟩ : ∃ zM : xM, zM = xu (fun _ => none) 0 (qa, .inr (6, [.null, .int (nI 0), .null, .null, .int (nI 0), .null, .null])) := ⟨_, rfl⟩
  rw [← hM0] at hX
  have hc0 : M0 0 = some (qa, .inr (6, [.null, .int (nI 0), .null, .null, .int (nI 0), .null, .null])) := by rw [hM0]; exact xu_s
  refine lv_dup hx hb dL_law_3 rfl ?_
  refine x_callv (x_runIA (As := []) (rest := [.ref qa]) ⟨hx, hb, hml, hown, hts⟩ (ctX4_init l G (lA s) M0 hc0) (cwI 0 hts gL_law_X4_init rfl rfl rfl (htt (.initialized RX4) (by decide +kernel)) (hts (.methodLink RL 21 yX4_init) (by decide +kernel)) (hts (.instanceMethod yX4_init) (by decide +kernel)) rfl (by decide +kernel) ⟨Nat.le_of_ble_eq_true rfl, Nat.le_of_ble_eq_true rfl⟩) hK hA ho1 ho2 ho3 ho4 hX hS rfl hl.1 rfl (lv_room (Nat.le_of_ble_eq_true rfl)) dL_law_4 ⟨Nat.le_of_ble_eq_true rfl, Nat.le_of_ble_eq_true rfl⟩) hS (fun M1 H locs hp hX hS => ?_)
  obtain ⟨ad, ead, hR, hf⟩ := hp
  refine lv_astore_n (lv' := [(1, .ref qa), (0, .ref b)]) hx hb dL_law_7 rfl hl (by decide) rfl (fun ls hl => ?_)
  refine x_new (ci := 7) (fs := [.int (nI 0), .int (nI 0), .null, .null, .null, .null, .null, .null, .null, .null, .null, .int (nI 0), .int (nI 0), .null, .null, .null, .null, .int (nI 0), .null, .null, .null, .long (lN 0), .long (lN 0)]) (C := RX5) (T := TX5) (N := 23) hx hb htt inX5 tyX5 tyX5_ok hown (hts (.classLink RL 22 RX5) (by decide +kernel)) (htt (.instantiable RX5 23) (by decide +kernel)) (htt (.initialized RX5) (by decide +kernel)) hK hX hS hA rfl (fun j hj => by rcases (show j = 0 ∨ j = 1 ∨ j = 2 ∨ j = 3 ∨ j = 4 ∨ j = 5 ∨ j = 6 ∨ j = 7 ∨ j = 8 ∨ j = 9 ∨ j = 10 ∨ j = 11 ∨ j = 12 ∨ j = 13 ∨ j = 14 ∨ j = 15 ∨ j = 16 ∨ j = 17 ∨ j = 18 ∨ j = 19 ∨ j = 20 ∨ j = 21 ∨ j = 22 by omega) with rfl | rfl | rfl | rfl | rfl | rfl | rfl | rfl | rfl | rfl | rfl | rfl | rfl | rfl | rfl | rfl | rfl | rfl | rfl | rfl | rfl | rfl | rfl <;> rfl) (Nat.le_of_ble_eq_true rfl) (Nat.le_of_ble_eq_true rfl) dL_law_8 500 (fun qm H hX hS => ?_)
  obtain ⟨M2, hM2⟩ : ∃ zM : xM, zM = xu M1 500 (qm, .inr (7, [.int (nI 0), .int (nI 0), .null, .null, .null, .null, .null, .null, .null, .null, .null, .int (nI 0), .int (nI 0), .null, .null, .null, .null, .int (nI 0), .null, .null, .null, .long (lN 0), .long (lN 0)])) := ⟨_, rfl⟩
  rw [← hM2] at hX
  have hc5 : M2 500 = some (qm, .inr (7, [.int (nI 0), .int (nI 0), .null, .null, .null, .null, .null, .null, .null, .null, .null, .int (nI 0), .int (nI 0), .null, .null, .null, .null, .int (nI 0), .null, .null, .null, .long (lN 0), .long (lN 0)])) := by rw [hM2]; exact xu_s
  have hR2 := xRec_lo (M1 := M2) hR (by omega) (by omega) (fun t ht => by rw [hM2]; exact xu_n (by omega))
  refine lv_dup hx hb dL_law_11 rfl ?_
  refine x_callv (x_runI (As := []) (rest := [.ref qm]) ⟨hx, hb, hml, hown, hts⟩ (ctX5_init l G (lA s) M2 hc5) (cwI 0 hts gL_law_X5_init rfl rfl rfl (htt (.initialized RX5) (by decide +kernel)) (hts (.methodLink RL 24 yX5_init) (by decide +kernel)) (hts (.instanceMethod yX5_init) (by decide +kernel)) rfl (by decide +kernel) ⟨Nat.le_of_ble_eq_true rfl, Nat.le_of_ble_eq_true rfl⟩) hK hA hX hS rfl hl.1 rfl (lv_room (Nat.le_of_ble_eq_true rfl)) dL_law_12 ⟨Nat.le_of_ble_eq_true rfl, Nat.le_of_ble_eq_true rfl⟩) hS (fun M3 H locs hp hX hS => ?_)
  obtain ⟨am, eam, hO, hf3⟩ := hp
  have hR3 := xRec_go (M1 := M3) hR2 (by omega) (by omega) hf3
  refine lv_astore_n (lv' := [(2, .ref qm), (1, .ref qa), (0, .ref b)]) hx hb dL_law_15 rfl hl (by decide) rfl (fun ls hl => ?_)
  refine lv_iconst (v := nI 1) hx hb dL_law_16 (by decide) ?_
  refine x_newa (atype := .long) (ty := .long) (k := 1) (N' := 1) (a0 := (1, .inr (.inl (fun _ => 0)))) hx hb (htt (.arrayClass .long) (by decide +kernel)) rfl (fun _ h => by cases h) hK hX hS hA rfl (fun _ => rfl) rfl (by omega) (Nat.le_of_ble_eq_true rfl) (Nat.le_of_ble_eq_true rfl) (Nat.le_of_ble_eq_true rfl) dL_law_17 600 (fun qo H hX hS => ?_)
  obtain ⟨M4, hM4⟩ : ∃ zM : xM, zM = xu M3 600 (qo, .inl (G.2 1, 1, .inr (.inl (fun _ => 0)))) := ⟨_, rfl⟩
  rw [← hM4] at hX
  have hF4 : M4 600 = some (qo, .inl (G.2 1, 1, .inr (.inl (fun _ => 0)))) := by rw [hM4]; exact xu_s
  have hR4 := xRec_lo (M1 := M4) hR3 (by omega) (by omega) (fun t ht => by rw [hM4]; exact xu_n (by omega))
  have hO4 := xMod_lo (M1 := M4) hO (fun t h1 h2 => by rw [hM4]; exact xu_n (by omega))
  have hRel : xRel G M4 qa qm qo := by
    have h9 := xRel_new hR4 hO4 hF4
    rw [ead, eam] at h9
    exact h9
  refine lv_astore_n (lv' := [(3, .ref qo), (2, .ref qm), (1, .ref qa), (0, .ref b)]) hx hb dL_law_19 rfl hl (by decide) rfl (fun ls hl => ?_)
  refine lv_iconst (v := nI 0) hx hb dL_law_20 (by decide) ?_
  refine lv_istore (lv' := [(4, .int (nI 0)), (3, .ref qo), (2, .ref qm), (1, .ref qa), (0, .ref b)]) hx hb dL_law_21 hl (by decide) rfl (fun ls hl => ?_)
  refine W.widen (k := 100) (n := 10000) (by omega) (by omega) ?_
  exact law_loop ⟨C0, hK, hT, hTC, hst, hL⟩ 513 0 100 10000 M4 H locs ls (by omega) (by omega) (by omega) (by omega) hRel hX hS (lv_sub hl [0, 4, 3, 2, 1] rfl)
