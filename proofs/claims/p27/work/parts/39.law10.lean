theorem st_sk (g : g_k → Nat → Int32) (hg : ∀ c j, g c j = 0) : sk1 g 0 := fun a b t _ _ h => by
  unfold see at h
  rw [hg, b_0] at h
  exact absurd h (by decide)
theorem st_ia {g : g_k → Nat → Int32} {ln : g_k → Nat} (hg : ∀ c j, g c j = 0) (hl : ∀ c, ln c = 0) (S : Nat) : ia_P g ln S 0 := by
  refine ⟨(hg _ _).trans nI_0.symm, st_sk g hg, ?_, ?_, (hg _ _).trans nI_0.symm, (hg _ _).trans nI_0.symm, hl _, fun i _ => ⟨fun h => absurd ((hl _).symm.trans h) (by decide), fun h => absurd h.1 (Nat.not_lt_zero i)⟩, fun _ i h => absurd h (Nat.not_lt_zero i), fun i h => absurd h (Nat.not_lt_zero i), fun a b t h => absurd h (Nat.not_lt_zero a), fun i _ h => absurd h (Nat.not_lt_zero i)⟩
  · rw [Nat.zero_min]
    exact (hg _ _).trans nI_0.symm
  · rw [Nat.zero_sub]
    exact (hg _ _).trans nI_0.symm
set_option maxHeartbeats 4000000 in
set_option maxRecDepth 100000 in
theorem lawC {p : Program} {e : Env} {s : State} {m : MethodId} {below : List Frame} {meth : Method} {c : Code} {Q : State → Prop} (l : Launch) (hst : l.stackTraces = false) {D : va_G} {C : g_C} {b L : Nat} {xs : Nat → Int32} (hL : L ≤ 260) (hx : p.tables.exec = Jvm.exec) (hb : c.code = cL_law) (hml : c.maxLocals = 21) (hown : s.vm.findClass RL = some m.cls) (hts : ∀ w ∈ wsL_law, w.before #[Value.ref b] s = true) (hX : va_X b L xs s s.heap) (hbl : b < s.heap.size) (hF : g_F D C s.heap.size s) {S N : Nat} (hS2 : 2 ≤ S) (hS3 : S ≤ 3) (hN1 : S + 1 ≤ N) (hN4 : N ≤ S + 4) (fin : ∀ (H : Heap) (ls : Array Slot), W p l e room_1 s m #[Value.ref b] below meth c H [] 40000 5450000 Q (F0 m 893 ls [.int (nI 1)])) {ex : g_k → Option va_E} (he0 : ex (50, 0, 0) = none) (he1 : ex (51, 0, 0) = none) {g : g_k → Nat → Int32} {ad ln : g_k → Nat} {H : Heap} {locs : List Loc} (hI : ia_P g ln S N) (hG : g_P D (lay C g ad ln ex) ad s.heap.size H) (hS : va_S (g_A s.heap.size) s.heap H locs) {ls : Array Slot} (hl : lv_has ls 21 [(4, .int (nI N)), (3, .int (nI S)), (2, .int (nI 1)), (1, .ref (ad (0, 0, 0))), (0, .ref b)]) : W p l e room_1 s m #[Value.ref b] below meth c H locs (21 + 15 * N) (3706 + 3639 * N) Q (F0 m 168 ls []) := by
  have hK := hF.1
  have hB : s.heap.size ≤ s.heap.size := Nat.le_refl _
  refine lv_bipush (v := nI 20) hx hb dL_law_168 (by decide) ?_
  refine g_newa (n := 20) hx hb (hts (.arrayClass .int) (by decide +kernel)) hK hG hS hB (50, 0, 0) ((lay_ex (by decide)).trans he0) (by decide) (r1c (show 21 + 15 * N + 1 ≤ 40000 by omega)) (r1s (show 3706 + 3639 * N + 20 ≤ 5450000 by omega)) dL_law_170 (fun q5 H _ hG hS => ?_)
  obtain ⟨A5, eA5⟩ : ∃ z, z = k_up ad (50, 0, 0) q5 := ⟨_, rfl⟩
  obtain ⟨E5, eE5⟩ : ∃ z, z = k_up ex (50, 0, 0) (some (.inl (C.1, 20, .inl (fun _ => 0)))) := ⟨_, rfl⟩
  have nA5 : ∀ c, c ≠ (50, 0, 0) → A5 c = ad c := fun c hc9 => by rw [eA5, k_up_ne _ _ hc9]
  have sA5 : A5 (50, 0, 0) = q5 := by rw [eA5, k_up_self]
  have hG : g_P D (lay C g A5 ln E5) A5 s.heap.size H := by
    have hlay : lay C g A5 ln E5 = lay C g ad ln E5 := lay_ad (fun c hc9 => nA5 c (fun z => by rw [z] at hc9; exact absurd hc9 (by decide)))
    rw [hlay, eE5, ← lay_exup (by decide), eA5]; exact hG
  have hl : lv_has ls 21 [(4, .int (nI N)), (3, .int (nI S)), (2, .int (nI 1)), (1, .ref (A5 (0, 0, 0))), (0, .ref b)] := by rw [nA5 _ (by decide)]; exact hl
  refine W.eq (g2 := F0 m 172 ls [.ref (A5 (50, 0, 0))]) (by rw [sA5]) ?_
  refine lv_astore (lv' := [(5, .ref (A5 (50, 0, 0))), (4, .int (nI N)), (3, .int (nI S)), (2, .int (nI 1)), (1, .ref (A5 (0, 0, 0))), (0, .ref b)]) hx hb dL_law_172 hl (by decide) rfl (fun ls hl => ?_)
  refine lv_bipush (v := nI 20) hx hb dL_law_174 (by decide) ?_
  refine g_newa (n := 20) hx hb (hts (.arrayClass .int) (by decide +kernel)) hK hG hS hB (51, 0, 0) ((lay_ex (by decide)).trans (by rw [eE5, k_up_ne _ _ (by decide)]; exact he1)) (by decide) (r1c (show 21 + 15 * N + 1 + 1 ≤ 40000 by omega)) (r1s (show 3706 + 3639 * N + 20 + 20 ≤ 5450000 by omega)) dL_law_176 (fun q6 H _ hG hS => ?_)
  obtain ⟨A6, eA6⟩ : ∃ z, z = k_up A5 (51, 0, 0) q6 := ⟨_, rfl⟩
  obtain ⟨E6, eE6⟩ : ∃ z, z = k_up E5 (51, 0, 0) (some (.inl (C.1, 20, .inl (fun _ => 0)))) := ⟨_, rfl⟩
  have nA6 : ∀ c, c ≠ (51, 0, 0) → A6 c = A5 c := fun c hc9 => by rw [eA6, k_up_ne _ _ hc9]
  have sA6 : A6 (51, 0, 0) = q6 := by rw [eA6, k_up_self]
  have hG : g_P D (lay C g A6 ln E6) A6 s.heap.size H := by
    have hlay : lay C g A6 ln E6 = lay C g A5 ln E6 := lay_ad (fun c hc9 => nA6 c (fun z => by rw [z] at hc9; exact absurd hc9 (by decide)))
    rw [hlay, eE6, ← lay_exup (by decide), eA6]; exact hG
  have hl : lv_has ls 21 [(5, .ref (A6 (50, 0, 0))), (4, .int (nI N)), (3, .int (nI S)), (2, .int (nI 1)), (1, .ref (A6 (0, 0, 0))), (0, .ref b)] := by rw [nA6 (0, 0, 0) (by decide), nA6 (50, 0, 0) (by decide)]; exact hl
  refine W.eq (g2 := F0 m 178 ls [.ref (A6 (51, 0, 0))]) (by rw [sA6]) ?_
  refine lv_astore (lv' := [(6, .ref (A6 (51, 0, 0))), (5, .ref (A6 (50, 0, 0))), (4, .int (nI N)), (3, .int (nI S)), (2, .int (nI 1)), (1, .ref (A6 (0, 0, 0))), (0, .ref b)]) hx hb dL_law_178 hl (by decide) rfl (fun ls hl => ?_)
  refine lv_iconst (v := nI 0) hx hb dL_law_180 (by decide) ?_
  refine lv_istore (lv' := [(7, .int (nI 0)), (6, .ref (A6 (51, 0, 0))), (5, .ref (A6 (50, 0, 0))), (4, .int (nI N)), (3, .int (nI S)), (2, .int (nI 1)), (1, .ref (A6 (0, 0, 0))), (0, .ref b)]) hx hb dL_law_181 hl (by decide) rfl (fun ls hl => ?_)
  refine lv_iconst (v := nI 0) hx hb dL_law_183 (by decide) ?_
  refine lv_istore (lv' := [(8, .int (nI 0)), (7, .int (nI 0)), (6, .ref (A6 (51, 0, 0))), (5, .ref (A6 (50, 0, 0))), (4, .int (nI N)), (3, .int (nI S)), (2, .int (nI 1)), (1, .ref (A6 (0, 0, 0))), (0, .ref b)]) hx hb dL_law_184 hl (by decide) rfl (fun ls hl => ?_)
  have hE : ea_P C E6 (fun _ => 0) (fun _ => 0) 0 (fun _ => 0) (fun _ => 0) := ⟨by rw [eE6, k_up_ne _ _ (by decide), eE5, k_up_self], by rw [eE6, k_up_self], fun j hj => absurd hj (Nat.not_lt_zero j)⟩
  refine W.widen (k := 200 + 700 * 0) (n := 30000 + 1500 * 0 + us 0 0) (by omega) (by omega) ?_
  exact lawB l hst hL hx hb hml hown hts hX hbl hF hS2 hS3 hN1 hN4 fin 37 0 0 0 (fun _ => 0) (fun _ => 0) (fun _ => 0) (fun _ => 0) E6 g A6 ln H locs (by decide) (by decide) (by decide) (by decide) (ib_ia hI (by omega)) hE hG hS ls (lv_sub hl [0, 1, 2, 3, 4, 5, 6, 7, 8] rfl)

set_option maxHeartbeats 4000000 in
set_option maxRecDepth 100000 in
theorem lawS {p : Program} {e : Env} {s : State} {m : MethodId} {below : List Frame} {meth : Method} {c : Code} {Q : State → Prop} (l : Launch) (hst : l.stackTraces = false) {D : va_G} {C : g_C} {b L : Nat} {xs : Nat → Int32} (hL : L ≤ 260) (hx : p.tables.exec = Jvm.exec) (hb : c.code = cL_law) (hml : c.maxLocals = 21) (hown : s.vm.findClass RL = some m.cls) (hts : ∀ w ∈ wsL_law, w.before #[Value.ref b] s = true) (hX : va_X b L xs s s.heap) (hbl : b < s.heap.size) (hF : g_F D C s.heap.size s) (fin : ∀ (H : Heap) (ls : Array Slot), W p l e room_1 s m #[Value.ref b] below meth c H [] 40000 5450000 Q (F0 m 893 ls [.int (nI 1)])) : W p l e room_1 s m #[Value.ref b] below meth c s.heap [] 0 0 Q (entryFrame m ([Value.ref b] : List Value).toArray 21) := by
  have hK := hF.1
  have hB : s.heap.size ≤ s.heap.size := Nat.le_refl _
  have hi5 : ∀ w ∈ wsX50, w ∈ wsL_law := inlX5
  have hS : va_S (g_A s.heap.size) s.heap s.heap [] := va_S.rf
  have hG : g_P D (fun _ => none) (fun _ => 0) s.heap.size s.heap := ⟨fun c e h => (by cases h), fun c c' e e' h => (by cases h), [], fun c e h => (by cases h)⟩
  have hl := lv_entry [.ref b] (n := 21) (Nat.le_of_ble_eq_true rfl)
  rw [lg_entry_eq]
  generalize (lg_sl [.ref b] ++ List.replicate (21 - (lg_sl [.ref b]).length) Slot.unset).toArray = ls at hl ⊢
  have hl : lv_has ls 21 [(0, .ref b)] := hl
  refine g_new hx hb hts hi5 tyX5 tyX5_ok hown (hts (.classLink RL 10 RX5) (by decide +kernel)) (hts (.instantiable RX5 9) (by decide +kernel)) (hts (.initialized RX5) (by decide +kernel)) hK hG hS hB (0, 0, 0) rfl (ci := 5) rfl (fs := [.null, .null, .null, .null, .null, .int 0, .int 0, .int 0, .int 0]) (fun j hj => by rcases (show j = 0 ∨ j = 1 ∨ j = 2 ∨ j = 3 ∨ j = 4 ∨ j = 5 ∨ j = 6 ∨ j = 7 ∨ j = 8 by omega) with rfl | rfl | rfl | rfl | rfl | rfl | rfl | rfl | rfl <;> rfl) (r1c (show 0 + 1 ≤ 40000 by omega)) (r1s (show 0 + 9 ≤ 5450000 by omega)) dL_law_0 (fun q0 H hG hS => ?_)
  obtain ⟨A1, eA1⟩ : ∃ z, z = k_up (fun _ => 0) (0, 0, 0) q0 := ⟨_, rfl⟩
  rw [← eA1] at hG
  obtain ⟨V1, eV1⟩ : ∃ z : g_k → Option va_E, z = k_up (fun _ => none) (0, 0, 0) (some (.inr (5, [.null, .null, .null, .null, .null, .int 0, .int 0, .int 0, .int 0]))) := ⟨_, rfl⟩
  rw [← eV1] at hG
  have sA1 : A1 (0, 0, 0) = q0 := by rw [eA1, k_up_self]
  have sV1 : V1 (0, 0, 0) = some (.inr (5, [.null, .null, .null, .null, .null, .int 0, .int 0, .int 0, .int 0])) := by rw [eV1, k_up_self]
  have nV1 : ∀ c, c ≠ (0, 0, 0) → V1 c = none := fun c hc9 => by rw [eV1, k_up_ne _ _ hc9]
  refine W.eq (g2 := F0 m 3 ls [.ref (A1 (0, 0, 0))]) (by rw [sA1]) ?_
  refine lv_dup hx hb dL_law_3 rfl ?_
  refine va_callv (va_runI (As := []) (rest := [.ref (A1 (0, 0, 0))]) ⟨hx, hb, hml, hown, hts⟩ (c_X5_init l (v := V1) (ad := A1) sV1 (fun c _ h => nV1 c h)) (cwI 0 hts gL_law_X5_init rfl rfl rfl (hts (.initialized RX5) (by decide +kernel)) (hts (.methodLink RL 122 yX5_init) (by decide +kernel)) (hts (.instanceMethod yX5_init) (by decide +kernel)) rfl (by decide +kernel) ⟨Nat.le_of_ble_eq_true rfl, Nat.le_of_ble_eq_true rfl⟩) (g_preS hF hG hS) rfl rfl hl.1 rfl (lv_room (Nat.le_of_ble_eq_true rfl)) dL_law_4 ⟨r1c (show 0 + 1 + 20 ≤ 40000 by omega), r1s (show 0 + 9 + 3697 ≤ 5450000 by omega)⟩) hS (fun q _ h => h) (fun q h => h) (fun u9 t9 H locs ht9 _ hu9 hB1 _ _ hS => ?_)
  obtain ⟨V2, A2⟩ := u9
  dsimp only at hu9
  have hG : g_P D V2 A2 s.heap.size H := by rw [← ht9]; exact hB1
  obtain ⟨eV2, eA2, eA0⟩ := hu9
  rw [eV2] at hG
  obtain ⟨g0, eg0⟩ : ∃ z : g_k → Nat → Int32, z = fun _ _ => 0 := ⟨_, rfl⟩
  obtain ⟨ln0, eln0⟩ : ∃ z : g_k → Nat, z = fun _ => 0 := ⟨_, rfl⟩
  rw [← eg0, ← eln0] at hG
  have hg0 : ∀ c j, g0 c j = 0 := fun c j => by rw [eg0]
  have hl0 : ∀ c, ln0 c = 0 := fun c => by rw [eln0]
  refine W.eq (g2 := F0 m 7 ls [.ref (A2 (0, 0, 0))]) (by rw [eA0]) ?_
  refine W.widen (k := 21) (n := 3706) (by omega) (by omega) ?_
  refine lv_astore_n (lv' := [(1, .ref (A2 (0, 0, 0))), (0, .ref b)]) hx hb dL_law_7 rfl hl (by decide) rfl (fun ls hl => ?_)
  refine lv_aload_n hx hb dL_law_8 rfl (lv_at hl 0 rfl) ?_
  refine vp_callSi (W.runV (As := []) (rest := []) ⟨hx, hb, hml, hown, hts⟩ (c_nodes l (n := 0) (by decide) ((hg0 _ _).trans nI_0.symm)) (cwV 0 hts gL_law_X5_nodes rfl rfl rfl (by decide +kernel) ⟨Nat.le_of_ble_eq_true rfl, Nat.le_of_ble_eq_true rfl⟩) (g_preV hF hG hS (lay_main) rfl) rfl rfl hl.1 rfl (lv_room (Nat.le_of_ble_eq_true rfl)) dL_law_9 ⟨r1c (show 21 + 0 ≤ 40000 by omega), r1s (show 3706 + 0 ≤ 5450000 by omega)⟩) (fun r_1 h_2 => ?_)
  refine lv_to (y := nI 0) (h_2) ?_
  refine lv_if_ne (tgt := 26) hx hb dL_law_12 (by decide) (fun c => absurd (by decide) c) (fun _ => ?_)
  refine lv_aload_n hx hb dL_law_15 rfl (lv_at hl 0 rfl) ?_
  refine vp_callSi (W.runV (As := []) (rest := []) ⟨hx, hb, hml, hown, hts⟩ (c_messages l ) (cwV 0 hts gL_law_X5_messages rfl rfl rfl (by decide +kernel) ⟨Nat.le_of_ble_eq_true rfl, Nat.le_of_ble_eq_true rfl⟩) (g_preV hF hG hS (lay_main) rfl) rfl rfl hl.1 rfl (lv_room (Nat.le_of_ble_eq_true rfl)) dL_law_16 ⟨r1c (show 21 + 0 ≤ 40000 by omega), r1s (show 3706 + 0 ≤ 5450000 by omega)⟩) (fun r_3 h_4 => ?_)
  refine lv_to (y := nI 0) (h_4.trans ((hg0 _ _).trans nI_0.symm)) ?_
  refine lv_if_ne (tgt := 26) hx hb dL_law_19 (by decide) (fun c => absurd (by decide) c) (fun _ => ?_)
  refine lv_iconst (v := nI 1) hx hb dL_law_22 (by decide) ?_
  refine lv_goto (tgt := 27) hx hb dL_law_23 (by decide) ?_
  refine lv_istore_n (lv' := [(2, .int (nI 1)), (1, .ref (A2 (0, 0, 0))), (0, .ref b)]) hx hb dL_law_27 rfl hl (by decide) rfl (fun ls hl => ?_)
  refine lv_iconst (v := nI 2) hx hb dL_law_28 (by decide) ?_
  refine lv_aload_n hx hb dL_law_29 rfl (lv_at hl 2 rfl) ?_
  refine lv_iconst (v := nI 0) hx hb dL_law_30 (by decide) ?_
  refine vp_callSi (W.runS (As := [.ref b, .int (nI 0)]) (rest := [.int (nI 2)]) ⟨hx, hb, hml, hown, hts⟩ (l_cell l hL (show 0 < 2 ^ 20 by omega)) (va_cwS 2 hts gL_law_L_cell rfl rfl rfl (by decide +kernel) ⟨Nat.le_of_ble_eq_true rfl, Nat.le_of_ble_eq_true rfl⟩) (g_preX hX hbl hS) rfl rfl hl.1 rfl (lv_room (Nat.le_of_ble_eq_true rfl)) dL_law_31 ⟨r1c (show 21 + 0 ≤ 40000 by omega), r1s (show 3706 + 0 ≤ 5450000 by omega)⟩) (fun r_5 hr_5 => ?_)
  obtain ⟨y0, hy0, ey0⟩ := hr_5
  subst ey0
  refine lv_iconst (v := nI 2) hx hb dL_law_34 (by decide) ?_
  refine lv_irem hx hb dL_law_35 (by decide) ?_
  refine lv_to (y := nI (y0 % 2)) (pk_rem (by omega) (by decide) (by decide)) ?_
  refine lv_iadd hx hb dL_law_36 ?_
  refine lv_to (y := nI (2 + (y0 % 2))) (nI_add 2 (y0 % 2)) ?_
  refine lv_istore_n (lv' := [(3, .int (nI (2 + (y0 % 2)))), (2, .int (nI 1)), (1, .ref (A2 (0, 0, 0))), (0, .ref b)]) hx hb dL_law_37 rfl hl (by decide) rfl (fun ls hl => ?_)
  refine lv_iload_n hx hb dL_law_38 rfl (lv_at hl 0 rfl) ?_
  refine lv_iconst (v := nI 1) hx hb dL_law_39 (by decide) ?_
  refine lv_iadd hx hb dL_law_40 ?_
  refine lv_to (y := nI ((2 + (y0 % 2)) + 1)) (nI_add (2 + (y0 % 2)) 1) ?_
  refine lv_aload_n hx hb dL_law_41 rfl (lv_at hl 3 rfl) ?_
  refine lv_iconst (v := nI 1) hx hb dL_law_42 (by decide) ?_
  refine vp_callSi (W.runS (As := [.ref b, .int (nI 1)]) (rest := [.int (nI ((2 + (y0 % 2)) + 1))]) ⟨hx, hb, hml, hown, hts⟩ (l_cell l hL (show 1 < 2 ^ 20 by omega)) (va_cwS 2 hts gL_law_L_cell rfl rfl rfl (by decide +kernel) ⟨Nat.le_of_ble_eq_true rfl, Nat.le_of_ble_eq_true rfl⟩) (g_preX hX hbl hS) rfl rfl hl.1 rfl (lv_room (Nat.le_of_ble_eq_true rfl)) dL_law_43 ⟨r1c (show 21 + 0 ≤ 40000 by omega), r1s (show 3706 + 0 ≤ 5450000 by omega)⟩) (fun r_6 hr_6 => ?_)
  obtain ⟨y1, hy1, ey1⟩ := hr_6
  subst ey1
  refine lv_iconst (v := nI 4) hx hb dL_law_46 (by decide) ?_
  refine lv_irem hx hb dL_law_47 (by decide) ?_
  refine lv_to (y := nI (y1 % 4)) (pk_rem (by omega) (by decide) (by decide)) ?_
  refine lv_iadd hx hb dL_law_48 ?_
  refine lv_to (y := nI (((2 + (y0 % 2)) + 1) + (y1 % 4))) (nI_add ((2 + (y0 % 2)) + 1) (y1 % 4)) ?_
  refine lv_istore (lv' := [(4, .int (nI (((2 + (y0 % 2)) + 1) + (y1 % 4)))), (3, .int (nI (2 + (y0 % 2)))), (2, .int (nI 1)), (1, .ref (A2 (0, 0, 0))), (0, .ref b)]) hx hb dL_law_49 hl (by decide) rfl (fun ls hl => ?_)
  refine lv_iconst (v := nI 0) hx hb dL_law_51 (by decide) ?_
  refine lv_istore (lv' := [(5, .int (nI 0)), (4, .int (nI (((2 + (y0 % 2)) + 1) + (y1 % 4)))), (3, .int (nI (2 + (y0 % 2)))), (2, .int (nI 1)), (1, .ref (A2 (0, 0, 0))), (0, .ref b)]) hx hb dL_law_52 hl (by decide) rfl (fun ls hl => ?_)
  obtain ⟨S, eS⟩ : ∃ S, S = 2 + y0 % 2 := ⟨_, rfl⟩
  obtain ⟨N, eN⟩ : ∃ N, N = S + 1 + y1 % 4 := ⟨_, rfl⟩
  have hl : lv_has ls 21 [(5, .int (nI 0)), (4, .int (nI N)), (3, .int (nI S)), (2, .int (nI 1)), (1, .ref (A2 (0, 0, 0))), (0, .ref b)] := by rw [eN, eS]; exact lv_sub hl [0, 1, 2, 3, 4, 5] rfl
  refine W.widen (k := 21 + 15 * 0) (n := 3706 + 3639 * 0) (by omega) (by omega) ?_
  have hS2 : 2 ≤ S := by omega
  have hS3 : S ≤ 3 := by omega
  have hN1 : S + 1 ≤ N := by omega
  have hN4 : N ≤ S + 4 := by omega
  exact lawA l hst hL hx hb hml hown hts hX hbl hF (ad0 := A2) (ex := V1) hS2 hS3 hN1 hN4 (fun g ad ln H locs hI _ hG hS ls hl => lawC l hst hL hx hb hml hown hts hX hbl hF hS2 hS3 hN1 hN4 fin (nV1 _ (by decide)) (nV1 _ (by decide)) hI hG hS hl) (N + 1) 0 g0 A2 ln0 H locs (Nat.zero_le _) (by omega) (st_ia hg0 hl0 S) (fun _ _ => rfl) hG hS ls hl
