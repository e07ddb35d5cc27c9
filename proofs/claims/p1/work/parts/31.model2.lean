set_option maxHeartbeats 4000000 in
set_option maxRecDepth 100000 in
theorem m_looks (l : Launch) {D : va_G} {C : g_C} {E : m_C} {h : g_k → Nat → Int32} {ad : g_k → Nat} {vw : g_k → Option va_E} {B : Nat} (hn : h (60, 0, 0) 5 = nI 1) : Met l yX6_looks wsX6_looks ({ frames := 0, cells := 0, slots := 0, locals := 0 } : Room) (va_Pc [.ref (ad (60, 0, 0))] (m_S D C E (mo E C h ad vw) ad B)) (va_Sv (fun _ => True)) 0 0 (fun _ => False) := by
  refine Met.ofW (cc := cX6_looks) (maxL := 4) (ret := none) (by decide) rfl ?_
  intro p e s m args below meth c s₁ B₀ hml hv
  obtain ⟨rfl, ⟨hG, hF⟩, hK2, hCA⟩ := hv
  have hK := hF.1
  have hN := hF.2.1
  have hB := hF.2.2.2
  have hx := B₀.exec
  have hb := B₀.bytes
  have hr := B₀.returns
  have hts := atoms_spec (ws := wsX6_looks) B₀.pre
  have hown : s.vm.findClass RX6 = some m.cls := findClass_of_methodNamed B₀.named
  have hlocks := B₀.notSynchronized
  have hS : va_S (g_A B) s.heap s.heap [] := va_S.rf
  have hi6 : ∀ w ∈ wsX60, w ∈ wsX6_looks := by decide +kernel
  have hl := lv_entry [.ref (ad (60, 0, 0))] (n := 4) (Nat.le_of_ble_eq_true rfl)
  rw [lg_entry_eq]
  generalize (lg_sl [.ref (ad (60, 0, 0))] ++ List.replicate (4 - (lg_sl [.ref (ad (60, 0, 0))]).length) Slot.unset).toArray = ls at hl ⊢
  have hl : lv_has ls 4 [(0, .ref (ad (60, 0, 0)))] := hl
  refine lv_aload_n hx hb dX6_looks_0 rfl (lv_at hl 0 rfl) ?_
  refine g_get hx hb hts hi6 hown hK hG (mo_obj) rfl 5 (by decide) (hts (.fieldLink RX6 55 "SatelliteringModel" "nodes" "I") (by decide +kernel)) rfl dX6_looks_1 ?_
  refine lv_to (y := nI 1) (hn) ?_
  refine lv_iconst (v := nI 1) hx hb dX6_looks_4 (by decide) ?_
  refine lv_isub hx hb dX6_looks_5 ?_
  refine lv_to (y := nI 0) (by decide) ?_
  refine lv_istore_n (lv' := [(1, .int (nI 0)), (0, .ref (ad (60, 0, 0)))]) hx hb dX6_looks_6 rfl hl (by decide) rfl (fun ls hl => ?_)
  refine lv_iconst (v := nI 0) hx hb dX6_looks_7 (by decide) ?_
  refine lv_istore_n (lv' := [(2, .int (nI 0)), (1, .int (nI 0)), (0, .ref (ad (60, 0, 0)))]) hx hb dX6_looks_8 rfl hl (by decide) rfl (fun ls hl => ?_)
  have loop : ∀ q j : Nat, j + q = 360 → ∀ ls, lv_has ls 4 [(2, .int (nI j)), (1, .int (nI 0)), (0, .ref (ad (60, 0, 0)))] → W p l e (headSpec wsX6_looks ({ frames := 0, cells := 0, slots := 0, locals := 0 } : Room)).room s m ([.ref (ad (60, 0, 0))]).toArray below meth c s.heap [] 0 0 (MQ below (va_Sv (fun _ => True)) ([.ref (ad (60, 0, 0))]).toArray s 0 0 (fun _ => False)) (F0 m 9 ls []) := by
    intro q
    induction q with
    | zero =>
      intro j hj ls hl
      refine lv_iload_n hx hb dX6_looks_9 rfl (lv_at hl 0 rfl) ?_
      refine lv_sipush (v := nI 360) hx hb dX6_looks_10 (by decide) ?_
      refine lv_icmp_ge (tgt := 79) hx hb dX6_looks_13 (by decide) (fun _ => ?_) (fun c => absurd ((nI_leI (by omega) (by omega)).mpr (by omega)) c)
      exact W.vret hx hb hr (fun t9 ht9 hW9 => ⟨rfl, trivial, ht9⟩) (fun q h => nomatch h) dX6_looks_79
    | succ q ih =>
      intro j hj ls hl
      refine lv_iload_n hx hb dX6_looks_9 rfl (lv_at hl 0 rfl) ?_
      refine lv_sipush (v := nI 360) hx hb dX6_looks_10 (by decide) ?_
      refine lv_icmp_ge (tgt := 79) hx hb dX6_looks_13 (by decide) (fun c => absurd c (by rw [nI_leI (by omega) (by omega)]; omega)) (fun _ => ?_)
      refine lv_iconst (v := nI 0) hx hb dX6_looks_16 (by decide) ?_
      refine lv_istore_n (lv' := [(3, .int (nI 0)), (2, .int (nI j)), (1, .int (nI 0)), (0, .ref (ad (60, 0, 0)))]) hx hb dX6_looks_17 rfl hl (by decide) rfl (fun ls hl => ?_)
      refine lv_iload_n hx hb dX6_looks_18 rfl (lv_at hl 0 rfl) ?_
      refine lv_iload_n hx hb dX6_looks_19 rfl (lv_at hl 2 rfl) ?_
      refine lv_icmp_ge (tgt := 73) hx hb dX6_looks_20 (by decide) (fun _ => ?_) (fun c => absurd ((nI_leI (by omega) (by omega)).mpr (Nat.le_refl 0)) c)
      refine lv_iinc (v := nI (j + 1)) (lv' := [(2, .int (nI (j + 1))), (3, .int (nI 0)), (1, .int (nI 0)), (0, .ref (ad (60, 0, 0)))]) hx hb dX6_looks_73 hl (k := 1) rfl (nI_add j 1) (by decide) rfl (fun ls hl => ?_)
      refine lv_goto (tgt := 9) hx hb dX6_looks_76 (by decide) ?_
      exact ih (j + 1) (by omega) ls (lv_sub hl [0, 2, 3] rfl)
  exact loop 360 0 rfl ls (lv_sub hl [0, 1, 2] rfl)

set_option maxHeartbeats 4000000 in
set_option maxRecDepth 100000 in
theorem m_adds (l : Launch) {D : va_G} {C : g_C} {E : m_C} {h : g_k → Nat → Int32} {ad : g_k → Nat} {vw : g_k → Option va_E} {B : Nat} (hn : h (60, 0, 0) 5 = nI 0) {x y z v4 v5 : Int32} : Met l yX6_adds wsX6_adds ({ frames := 1, cells := 0, slots := 0, locals := 23 } : Room) (va_Pc [.ref (ad (60, 0, 0)), .int x, .int y, .int z, .int v4, .int v5] (m_S D C E (mo E C h ad vw) ad B)) (va_Qi (fun (r : Int32) (h1 : g_k → Nat → Int32) => r = nI 0 ∧ h1 (60, 0, 0) 5 = nI 1 ∧ (∀ k, k ≠ 5 → h1 (60, 0, 0) k = h (60, 0, 0) k) ∧ h1 (66, 0, 0) = h (66, 0, 0) ∧ h1 (67, 0, 0) 0 = -1) (fun h1 t => g_P D (mo E C h1 ad vw) ad B t.heap) (g_A B)) 0 0 (g_A B) := by
  refine Met.ofW (cc := cX6_adds) (maxL := 6) (ret := (some .int)) (by decide) rfl ?_
  intro p e s m args below meth c s₁ B₀ hml hv
  obtain ⟨rfl, ⟨hG, hF⟩, hK2, hCA⟩ := hv
  have hK := hF.1
  have hN := hF.2.1
  have hB := hF.2.2.2
  have hx := B₀.exec
  have hb := B₀.bytes
  have hr := B₀.returns
  have hts := atoms_spec (ws := wsX6_adds) B₀.pre
  have hown : s.vm.findClass RX6 = some m.cls := findClass_of_methodNamed B₀.named
  have hlocks := B₀.notSynchronized
  have hS : va_S (g_A B) s.heap s.heap [] := va_S.rf
  have hi6 : ∀ w ∈ wsX60, w ∈ wsX6_adds := by decide +kernel
  have hl := lv_entry [.ref (ad (60, 0, 0)), .int x, .int y, .int z, .int v4, .int v5] (n := 6) (Nat.le_of_ble_eq_true rfl)
  rw [lg_entry_eq]
  generalize (lg_sl [.ref (ad (60, 0, 0)), .int x, .int y, .int z, .int v4, .int v5] ++ List.replicate (6 - (lg_sl [.ref (ad (60, 0, 0)), .int x, .int y, .int z, .int v4, .int v5]).length) Slot.unset).toArray = ls at hl ⊢
  have hl : lv_has ls 6 [(0, .ref (ad (60, 0, 0))), (1, .int x), (2, .int y), (3, .int z), (4, .int v4), (5, .int v5)] := hl
  refine lv_aload_n hx hb dX6_adds_0 rfl (lv_at hl 0 rfl) ?_
  refine g_get hx hb hts hi6 hown hK hG (mo_obj) rfl 0 (by decide) (hts (.fieldLink RX6 7 "SatelliteringModel" "place" "[I") (by decide +kernel)) rfl dX6_adds_1 ?_
  refine lv_aload_n hx hb dX6_adds_4 rfl (lv_at hl 0 rfl) ?_
  refine g_get hx hb hts hi6 hown hK hG (mo_obj) rfl 5 (by decide) (hts (.fieldLink RX6 55 "SatelliteringModel" "nodes" "I") (by decide +kernel)) rfl dX6_adds_5 ?_
  refine lv_to (y := nI 0) (hn) ?_
  refine lv_iload_n hx hb dX6_adds_8 rfl (lv_at hl 1 rfl) ?_
  refine q_iast hx hb hK hG hS (cd := (61, 0, 0)) (fun _ => mo_61) (by decide) (by decide) dX6_adds_9 (fun H locs hG hS => ?_)
  obtain ⟨h_1, eh_1⟩ : ∃ z9, z9 = g2 h (61, 0, 0) 0 x := ⟨_, rfl⟩
  rw [← eh_1] at hG
  have f_2 : h_1 (60, 0, 0) 5 = nI 0 := by rw [eh_1, g2_ne _ _ _ (by decide)]; exact hn
  have f_3 : h_1 (67, 0, 0) 0 = h (67, 0, 0) 0 := (show h_1 (67, 0, 0) 0 = h (67, 0, 0) 0 by rw [eh_1, g2_ne _ _ _ (by decide)]).trans rfl
  refine lv_aload_n hx hb dX6_adds_10 rfl (lv_at hl 0 rfl) ?_
  refine g_get hx hb hts hi6 hown hK hG (mo_obj) rfl 1 (by decide) (hts (.fieldLink RX6 13 "SatelliteringModel" "speed" "[I") (by decide +kernel)) rfl dX6_adds_11 ?_
  refine lv_aload_n hx hb dX6_adds_14 rfl (lv_at hl 0 rfl) ?_
  refine g_get hx hb hts hi6 hown hK hG (mo_obj) rfl 5 (by decide) (hts (.fieldLink RX6 55 "SatelliteringModel" "nodes" "I") (by decide +kernel)) rfl dX6_adds_15 ?_
  refine lv_to (y := nI 0) (f_2) ?_
  refine lv_iload_n hx hb dX6_adds_18 rfl (lv_at hl 2 rfl) ?_
  refine q_iast hx hb hK hG hS (cd := (62, 0, 0)) (fun _ => mo_62) (by decide) (by decide) dX6_adds_19 (fun H locs hG hS => ?_)
  obtain ⟨h_4, eh_4⟩ : ∃ z9, z9 = g2 h_1 (62, 0, 0) 0 y := ⟨_, rfl⟩
  rw [← eh_4] at hG
  have f_5 : h_4 (60, 0, 0) 5 = nI 0 := by rw [eh_4, g2_ne _ _ _ (by decide)]; exact f_2
  have f_6 : h_4 (67, 0, 0) 0 = h (67, 0, 0) 0 := (show h_4 (67, 0, 0) 0 = h_1 (67, 0, 0) 0 by rw [eh_4, g2_ne _ _ _ (by decide)]).trans f_3
  refine lv_aload_n hx hb dX6_adds_20 rfl (lv_at hl 0 rfl) ?_
  refine g_get hx hb hts hi6 hown hK hG (mo_obj) rfl 2 (by decide) (hts (.fieldLink RX6 16 "SatelliteringModel" "reach" "[I") (by decide +kernel)) rfl dX6_adds_21 ?_
  refine lv_aload_n hx hb dX6_adds_24 rfl (lv_at hl 0 rfl) ?_
  refine g_get hx hb hts hi6 hown hK hG (mo_obj) rfl 5 (by decide) (hts (.fieldLink RX6 55 "SatelliteringModel" "nodes" "I") (by decide +kernel)) rfl dX6_adds_25 ?_
  refine lv_to (y := nI 0) (f_5) ?_
  refine lv_iload_n hx hb dX6_adds_28 rfl (lv_at hl 3 rfl) ?_
  refine q_iast hx hb hK hG hS (cd := (63, 0, 0)) (fun _ => mo_63) (by decide) (by decide) dX6_adds_29 (fun H locs hG hS => ?_)
  obtain ⟨h_7, eh_7⟩ : ∃ z9, z9 = g2 h_4 (63, 0, 0) 0 z := ⟨_, rfl⟩
  rw [← eh_7] at hG
  have f_8 : h_7 (60, 0, 0) 5 = nI 0 := by rw [eh_7, g2_ne _ _ _ (by decide)]; exact f_5
  have f_9 : h_7 (67, 0, 0) 0 = h (67, 0, 0) 0 := (show h_7 (67, 0, 0) 0 = h_4 (67, 0, 0) 0 by rw [eh_7, g2_ne _ _ _ (by decide)]).trans f_6
  refine lv_aload_n hx hb dX6_adds_30 rfl (lv_at hl 0 rfl) ?_
  refine g_get hx hb hts hi6 hown hK hG (mo_obj) rfl 3 (by decide) (hts (.fieldLink RX6 19 "SatelliteringModel" "capacity" "[I") (by decide +kernel)) rfl dX6_adds_31 ?_
  refine lv_aload_n hx hb dX6_adds_34 rfl (lv_at hl 0 rfl) ?_
  refine g_get hx hb hts hi6 hown hK hG (mo_obj) rfl 5 (by decide) (hts (.fieldLink RX6 55 "SatelliteringModel" "nodes" "I") (by decide +kernel)) rfl dX6_adds_35 ?_
  refine lv_to (y := nI 0) (f_8) ?_
  refine lv_iload hx hb dX6_adds_38 (lv_at hl 4 rfl) ?_
  refine q_iast hx hb hK hG hS (cd := (64, 0, 0)) (fun _ => mo_64) (by decide) (by decide) dX6_adds_40 (fun H locs hG hS => ?_)
  obtain ⟨h_10, eh_10⟩ : ∃ z9, z9 = g2 h_7 (64, 0, 0) 0 v4 := ⟨_, rfl⟩
  rw [← eh_10] at hG
  have f_11 : h_10 (60, 0, 0) 5 = nI 0 := by rw [eh_10, g2_ne _ _ _ (by decide)]; exact f_8
  have f_12 : h_10 (67, 0, 0) 0 = h (67, 0, 0) 0 := (show h_10 (67, 0, 0) 0 = h_7 (67, 0, 0) 0 by rw [eh_10, g2_ne _ _ _ (by decide)]).trans f_9
  refine lv_aload_n hx hb dX6_adds_41 rfl (lv_at hl 0 rfl) ?_
  refine g_get hx hb hts hi6 hown hK hG (mo_obj) rfl 4 (by decide) (hts (.fieldLink RX6 22 "SatelliteringModel" "isRelay" "[Z") (by decide +kernel)) rfl dX6_adds_42 ?_
  refine lv_aload_n hx hb dX6_adds_45 rfl (lv_at hl 0 rfl) ?_
  refine g_get hx hb hts hi6 hown hK hG (mo_obj) rfl 5 (by decide) (hts (.fieldLink RX6 55 "SatelliteringModel" "nodes" "I") (by decide +kernel)) rfl dX6_adds_46 ?_
  refine lv_to (y := nI 0) (f_11) ?_
  refine lv_iload hx hb dX6_adds_49 (lv_at hl 5 rfl) ?_
  refine q_zast hx hb hK2 hG hS (by decide) dX6_adds_51 (fun H locs hG hS => ?_)
  obtain ⟨h_13, eh_13⟩ : ∃ z9, z9 = g2 h_10 (65, 0, 0) 0 (vp_nar .boolean v5) := ⟨_, rfl⟩
  rw [← eh_13] at hG
  have f_14 : h_13 (60, 0, 0) 5 = nI 0 := by rw [eh_13, g2_ne _ _ _ (by decide)]; exact f_11
  have f_15 : h_13 (67, 0, 0) 0 = h (67, 0, 0) 0 := (show h_13 (67, 0, 0) 0 = h_10 (67, 0, 0) 0 by rw [eh_13, g2_ne _ _ _ (by decide)]).trans f_12
  refine lv_aload_n hx hb dX6_adds_52 rfl (lv_at hl 0 rfl) ?_
  refine g_get hx hb hts hi6 hown hK hG (mo_obj) rfl 8 (by decide) (hts (.fieldLink RX6 29 "SatelliteringModel" "relay" "[I") (by decide +kernel)) rfl dX6_adds_53 ?_
  refine lv_aload_n hx hb dX6_adds_56 rfl (lv_at hl 0 rfl) ?_
  refine g_get hx hb hts hi6 hown hK hG (mo_obj) rfl 5 (by decide) (hts (.fieldLink RX6 55 "SatelliteringModel" "nodes" "I") (by decide +kernel)) rfl dX6_adds_57 ?_
  refine lv_to (y := nI 0) (f_14) ?_
  refine lv_iconst (v := (-1)) hx hb dX6_adds_60 (by decide) ?_
  refine q_iast hx hb hK hG hS (cd := (67, 0, 0)) (fun _ => mo_67) (by decide) (by decide) dX6_adds_61 (fun H locs hG hS => ?_)
  obtain ⟨h_16, eh_16⟩ : ∃ z9, z9 = g2 h_13 (67, 0, 0) 0 (-1) := ⟨_, rfl⟩
  rw [← eh_16] at hG
  have f_17 : h_16 (60, 0, 0) 5 = nI 0 := by rw [eh_16, g2_ne _ _ _ (by decide)]; exact f_14
  have f_18 : h_16 (67, 0, 0) 0 = (-1) := by rw [eh_16, g2_self, upd_self]
  refine lv_aload_n hx hb dX6_adds_62 rfl (lv_at hl 0 rfl) ?_
  refine lv_dup hx hb dX6_adds_63 rfl ?_
  refine g_get hx hb hts hi6 hown hK hG (mo_obj) rfl 5 (by decide) (hts (.fieldLink RX6 55 "SatelliteringModel" "nodes" "I") (by decide +kernel)) rfl dX6_adds_64 ?_
  refine lv_to (y := nI 0) (f_17) ?_
  refine lv_iconst (v := nI 1) hx hb dX6_adds_67 (by decide) ?_
  refine lv_iadd hx hb dX6_adds_68 ?_
  refine lv_to (y := nI (0 + 1)) (nI_add 0 1) ?_
  refine q_put hx hb hts hi6 hown hK hG hS 5 (by decide) rfl rfl (hts (.fieldLink RX6 55 "SatelliteringModel" "nodes" "I") (by decide +kernel)) (by simp [upd]) dX6_adds_69 (fun H locs hG hS => ?_)
  obtain ⟨h_19, eh_19⟩ : ∃ z9, z9 = g2 h_16 (60, 0, 0) 5 (nI (0 + 1)) := ⟨_, rfl⟩
  rw [← eh_19] at hG
  have f_20 : h_19 (60, 0, 0) 5 = nI (0 + 1) := by rw [eh_19, g2_self, upd_self]
  have f_21 : h_19 (67, 0, 0) 0 = (-1) := (show h_19 (67, 0, 0) 0 = h_16 (67, 0, 0) 0 by rw [eh_19, g2_ne _ _ _ (by decide)]).trans f_18
  refine lv_aload_n hx hb dX6_adds_72 rfl (lv_at hl 0 rfl) ?_
  refine va_csv (W.runV (As := []) (rest := []) ⟨hx, hb, hml, hown, hts⟩ (m_looks l f_20) (cwV 0 hts gX6_adds_X6_looks rfl rfl rfl (by decide +kernel) ⟨Nat.le_of_ble_eq_true rfl, Nat.le_of_ble_eq_true rfl⟩) (m_preV hF hK2 hCA hG hS (mo_obj) rfl) rfl rfl hl.1 rfl (lv_room (Nat.le_of_ble_eq_true rfl)) dX6_adds_73 ⟨Nat.le_of_ble_eq_true rfl, Nat.le_of_ble_eq_true rfl⟩) (fun h_23 => ?_)
  refine lv_aload_n hx hb dX6_adds_76 rfl (lv_at hl 0 rfl) ?_
  refine g_get hx hb hts hi6 hown hK hG (mo_obj) rfl 5 (by decide) (hts (.fieldLink RX6 55 "SatelliteringModel" "nodes" "I") (by decide +kernel)) rfl dX6_adds_77 ?_
  refine lv_to (y := nI (0 + 1)) (f_20) ?_
  refine lv_iconst (v := nI 1) hx hb dX6_adds_80 (by decide) ?_
  refine lv_isub hx hb dX6_adds_81 ?_
  refine lv_to (y := nI 0) (by decide) ?_
  exact W.iret (v := nI 0) hx hb hr (fun t9 ht9 hW9 => ⟨⟨_, h_19, rfl, ⟨rfl, f_20, fun k hk9 => by rw [eh_19, g2_self, upd_ne _ _ hk9, eh_16, g2_ne _ _ _ (by decide), eh_13, g2_ne _ _ _ (by decide), eh_10, g2_ne _ _ _ (by decide), eh_7, g2_ne _ _ _ (by decide), eh_4, g2_ne _ _ _ (by decide), eh_1, g2_ne _ _ _ (by decide)], by rw [eh_19, g2_ne _ _ _ (by decide), eh_16, g2_ne _ _ _ (by decide), eh_13, g2_ne _ _ _ (by decide), eh_10, g2_ne _ _ _ (by decide), eh_7, g2_ne _ _ _ (by decide), eh_4, g2_ne _ _ _ (by decide), eh_1, g2_ne _ _ _ (by decide)], f_21⟩, by show g_P D _ _ B t9.heap; rw [ht9]; exact hG⟩, hS.F ht9⟩) hS.2.2 dX6_adds_82

set_option maxHeartbeats 4000000 in
set_option maxRecDepth 100000 in
theorem m_seenAt0 (l : Launch) {D : va_G} {C : g_C} {E : m_C} {h : g_k → Nat → Int32} {ad : g_k → Nat} {vw : g_k → Option va_E} {B : Nat} (hz : ∀ j, h (66, 0, 0) j = 0) : Met l yX6_seenAt wsX6_seenAt ({ frames := 0, cells := 0, slots := 0, locals := 0 } : Room) (va_Pc [.ref (ad (60, 0, 0)), .int (nI 0), .int (nI 0)] (m_S D C E (mo E C h ad vw) ad B)) (vp_Si (fun r => r = nI 0)) 0 0 (fun _ => False) := by
  refine Met.ofW (cc := cX6_seenAt) (maxL := 3) (ret := (some .int)) (by decide) rfl ?_
  intro p e s m args below meth c s₁ B₀ hml hv
  obtain ⟨rfl, ⟨hG, hF⟩, hK2, hCA⟩ := hv
  have hK := hF.1
  have hN := hF.2.1
  have hB := hF.2.2.2
  have hx := B₀.exec
  have hb := B₀.bytes
  have hr := B₀.returns
  have hts := atoms_spec (ws := wsX6_seenAt) B₀.pre
  have hown : s.vm.findClass RX6 = some m.cls := findClass_of_methodNamed B₀.named
  have hlocks := B₀.notSynchronized
  have hS : va_S (g_A B) s.heap s.heap [] := va_S.rf
  have hi6 : ∀ w ∈ wsX60, w ∈ wsX6_seenAt := by decide +kernel
  have hl := lv_entry [.ref (ad (60, 0, 0)), .int (nI 0), .int (nI 0)] (n := 3) (Nat.le_of_ble_eq_true rfl)
  rw [lg_entry_eq]
  generalize (lg_sl [.ref (ad (60, 0, 0)), .int (nI 0), .int (nI 0)] ++ List.replicate (3 - (lg_sl [.ref (ad (60, 0, 0)), .int (nI 0), .int (nI 0)]).length) Slot.unset).toArray = ls at hl ⊢
  have hl : lv_has ls 3 [(0, .ref (ad (60, 0, 0))), (1, .int (nI 0)), (2, .int (nI 0))] := hl
  refine lv_aload_n hx hb dX6_seenAt_0 rfl (lv_at hl 0 rfl) ?_
  refine g_get hx hb hts hi6 hown hK hG (mo_obj) rfl 7 (by decide) (hts (.fieldLink RX6 26 "SatelliteringModel" "seen" "[I") (by decide +kernel)) rfl dX6_seenAt_1 ?_
  refine lv_bipush (v := nI 10) hx hb dX6_seenAt_4 (by decide) ?_
  refine lv_iload_n hx hb dX6_seenAt_6 rfl (lv_at hl 2 rfl) ?_
  refine lv_sipush (v := nI 360) hx hb dX6_seenAt_7 (by decide) ?_
  refine lv_irem hx hb dX6_seenAt_10 (by decide) ?_
  refine lv_to (y := nI (0 % 360)) (pk_rem (by omega) (by decide) (by decide)) ?_
  refine lv_imul hx hb dX6_seenAt_11 ?_
  refine lv_to (y := nI (10 * (0 % 360))) (pk_mul 10 (0 % 360)) ?_
  refine lv_iload_n hx hb dX6_seenAt_12 rfl (lv_at hl 1 rfl) ?_
  refine lv_iadd hx hb dX6_seenAt_13 ?_
  refine lv_to (y := nI ((10 * (0 % 360)) + 0)) (nI_add (10 * (0 % 360)) 0) ?_
  refine g_iald hx hb hK hG (mo_66) (by decide) (by first | decide | omega) dX6_seenAt_14 ?_
  exact W.iret (v := h (66, 0, 0) ((10 * (0 % 360)) + 0)) hx hb hr (fun t9 ht9 hW9 => ⟨_, rfl, (hz _).trans nI_0.symm, ht9⟩) (fun q h => nomatch h) dX6_seenAt_15

set_option maxHeartbeats 4000000 in
set_option maxRecDepth 100000 in
theorem m_viewOf0 (l : Launch) {D : va_G} {C : g_C} {E : m_C} {h : g_k → Nat → Int32} {ad : g_k → Nat} {vw : g_k → Option va_E} {B : Nat} (hz : ∀ j, h (66, 0, 0) j = 0) : Met l yX6_viewOf wsX6_viewOf ({ frames := 1, cells := 0, slots := 0, locals := 22 } : Room) (va_Pc [.ref (ad (60, 0, 0)), .int (nI 0), .int (nI 0), .int (nI 0)] (m_S D C E (mo E C h ad vw) ad B)) (vp_Si (fun r => r = nI 0)) 0 0 (fun _ => False) := by
  refine Met.ofW (cc := cX6_viewOf) (maxL := 5) (ret := (some .int)) (by decide) rfl ?_
  intro p e s m args below meth c s₁ B₀ hml hv
  obtain ⟨rfl, ⟨hG, hF⟩, hK2, hCA⟩ := hv
  have hK := hF.1
  have hN := hF.2.1
  have hB := hF.2.2.2
  have hx := B₀.exec
  have hb := B₀.bytes
  have hr := B₀.returns
  have hts := atoms_spec (ws := wsX6_viewOf) B₀.pre
  have hown : s.vm.findClass RX6 = some m.cls := findClass_of_methodNamed B₀.named
  have hlocks := B₀.notSynchronized
  have hS : va_S (g_A B) s.heap s.heap [] := va_S.rf
  have hl := lv_entry [.ref (ad (60, 0, 0)), .int (nI 0), .int (nI 0), .int (nI 0)] (n := 5) (Nat.le_of_ble_eq_true rfl)
  rw [lg_entry_eq]
  generalize (lg_sl [.ref (ad (60, 0, 0)), .int (nI 0), .int (nI 0), .int (nI 0)] ++ List.replicate (5 - (lg_sl [.ref (ad (60, 0, 0)), .int (nI 0), .int (nI 0), .int (nI 0)]).length) Slot.unset).toArray = ls at hl ⊢
  have hl : lv_has ls 5 [(0, .ref (ad (60, 0, 0))), (1, .int (nI 0)), (2, .int (nI 0)), (3, .int (nI 0))] := hl
  refine lv_iconst (v := nI 0) hx hb dX6_viewOf_0 (by decide) ?_
  refine lv_istore (lv' := [(4, .int (nI 0)), (0, .ref (ad (60, 0, 0))), (1, .int (nI 0)), (2, .int (nI 0)), (3, .int (nI 0))]) hx hb dX6_viewOf_1 hl (by decide) rfl (fun ls hl => ?_)
  refine lv_iload hx hb dX6_viewOf_3 (lv_at hl 0 rfl) ?_
  refine lv_sipush (v := nI 360) hx hb dX6_viewOf_5 (by decide) ?_
  refine lv_icmp_ge (tgt := 33) hx hb dX6_viewOf_8 (by decide) (fun c => absurd c (by decide)) (fun _ => ?_)
  refine lv_aload_n hx hb dX6_viewOf_11 rfl (lv_at hl 1 rfl) ?_
  refine lv_iload_n hx hb dX6_viewOf_12 rfl (lv_at hl 2 rfl) ?_
  refine lv_iload_n hx hb dX6_viewOf_13 rfl (lv_at hl 4 rfl) ?_
  refine lv_iload hx hb dX6_viewOf_14 (lv_at hl 0 rfl) ?_
  refine lv_iadd hx hb dX6_viewOf_16 ?_
  refine lv_to (y := nI (0 + 0)) (nI_add 0 0) ?_
  refine vp_callSi (W.runV (As := [.int (nI 0), .int (nI (0 + 0))]) (rest := []) ⟨hx, hb, hml, hown, hts⟩ (m_seenAt0 l hz) (cwV 2 hts gX6_viewOf_X6_seenAt rfl rfl rfl (by decide +kernel) ⟨Nat.le_of_ble_eq_true rfl, Nat.le_of_ble_eq_true rfl⟩) (m_preV hF hK2 hCA hG hS (mo_obj) rfl) rfl rfl hl.1 rfl (lv_room (Nat.le_of_ble_eq_true rfl)) dX6_viewOf_17 ⟨Nat.le_of_ble_eq_true rfl, Nat.le_of_ble_eq_true rfl⟩) (fun r_1 h_2 => ?_)
  refine lv_to (y := nI 0) (h_2) ?_
  refine lv_iload_n hx hb dX6_viewOf_20 rfl (lv_at hl 3 rfl) ?_
  refine vp_callSi (W.runS (As := [.int (nI 0), .int (nI 0)]) (rest := []) ⟨hx, hb, hml, hown, hts⟩ (m_has0 l ) (va_cwS 2 hts gX6_viewOf_X6_has rfl rfl rfl (by decide +kernel) ⟨Nat.le_of_ble_eq_true rfl, Nat.le_of_ble_eq_true rfl⟩) (m_preS hF hK2 hCA hG hS) rfl rfl hl.1 rfl (lv_room (Nat.le_of_ble_eq_true rfl)) dX6_viewOf_21 ⟨Nat.le_of_ble_eq_true rfl, Nat.le_of_ble_eq_true rfl⟩) (fun r_3 h_4 => ?_)
  refine lv_to (y := nI 0) (h_4) ?_
  refine lv_if_eq (tgt := 33) hx hb dX6_viewOf_24 (by decide) (fun _ => ?_) (fun c => absurd (by decide) c)
  refine lv_iload hx hb dX6_viewOf_33 (lv_at hl 0 rfl) ?_
  exact W.iret (v := nI 0) hx hb hr (fun t9 ht9 hW9 => ⟨_, rfl, rfl, ht9⟩) (fun q h => nomatch h) dX6_viewOf_35

set_option maxHeartbeats 4000000 in
set_option maxRecDepth 100000 in
theorem m_serves0 (l : Launch) {D : va_G} {C : g_C} {E : m_C} {h : g_k → Nat → Int32} {ad : g_k → Nat} {vw : g_k → Option va_E} {B : Nat} (hn : h (60, 0, 0) 5 = nI 1) (hw : h (60, 0, 0) 17 = nI 0) (hz : ∀ j, h (66, 0, 0) j = 0) (hr9 : h (67, 0, 0) 0 = -1) : Met l yX6_serves wsX6_serves ({ frames := 2, cells := 0, slots := 0, locals := 46 } : Room) (va_Pc [.ref (ad (60, 0, 0)), .int (nI 0)] (m_S D C E (mo E C h ad vw) ad B)) (va_Qv (fun (h1 : g_k → Nat → Int32) => ∀ k, h1 (60, 0, 0) k = h (60, 0, 0) k) (fun h1 t => g_P D (mo E C h1 ad vw) ad B t.heap) (g_A B)) 0 0 (g_A B) := by
  refine Met.ofW (cc := cX6_serves) (maxL := 6) (ret := none) (by decide) rfl ?_
  intro p e s m args below meth c s₁ B₀ hml hv
  obtain ⟨rfl, ⟨hG, hF⟩, hK2, hCA⟩ := hv
  have hK := hF.1
  have hN := hF.2.1
  have hB := hF.2.2.2
  have hx := B₀.exec
  have hb := B₀.bytes
  have hr := B₀.returns
  have hts := atoms_spec (ws := wsX6_serves) B₀.pre
  have hown : s.vm.findClass RX6 = some m.cls := findClass_of_methodNamed B₀.named
  have hlocks := B₀.notSynchronized
  have hS : va_S (g_A B) s.heap s.heap [] := va_S.rf
  have hi6 : ∀ w ∈ wsX60, w ∈ wsX6_serves := by decide +kernel
  have hl := lv_entry [.ref (ad (60, 0, 0)), .int (nI 0)] (n := 6) (Nat.le_of_ble_eq_true rfl)
  rw [lg_entry_eq]
  generalize (lg_sl [.ref (ad (60, 0, 0)), .int (nI 0)] ++ List.replicate (6 - (lg_sl [.ref (ad (60, 0, 0)), .int (nI 0)]).length) Slot.unset).toArray = ls at hl ⊢
  have hl : lv_has ls 6 [(0, .ref (ad (60, 0, 0))), (1, .int (nI 0))] := hl
  refine lv_aload_n hx hb dX6_serves_0 rfl (lv_at hl 0 rfl) ?_
  refine g_get hx hb hts hi6 hown hK hG (mo_obj) rfl 8 (by decide) (hts (.fieldLink RX6 29 "SatelliteringModel" "relay" "[I") (by decide +kernel)) rfl dX6_serves_1 ?_
  refine lv_iload_n hx hb dX6_serves_4 rfl (lv_at hl 1 rfl) ?_
  refine g_iald hx hb hK hG (mo_67) (by decide) (by first | decide | omega) dX6_serves_5 ?_
  refine lv_to (y := (-1)) (hr9) ?_
  refine lv_if_lt (tgt := 31) hx hb dX6_serves_6 (by decide) (fun _ => ?_) (fun c => absurd (by decide) c)
  refine lv_iconst (v := (-1)) hx hb dX6_serves_31 (by decide) ?_
  refine lv_istore_n (lv' := [(2, .int (-1)), (0, .ref (ad (60, 0, 0))), (1, .int (nI 0))]) hx hb dX6_serves_32 rfl hl (by decide) rfl (fun ls hl => ?_)
  refine lv_iconst (v := nI 0) hx hb dX6_serves_33 (by decide) ?_
  refine lv_istore_n (lv' := [(3, .int (nI 0)), (2, .int (-1)), (0, .ref (ad (60, 0, 0))), (1, .int (nI 0))]) hx hb dX6_serves_34 rfl hl (by decide) rfl (fun ls hl => ?_)
  refine lv_iconst (v := nI 0) hx hb dX6_serves_35 (by decide) ?_
  refine lv_istore (lv' := [(4, .int (nI 0)), (3, .int (nI 0)), (2, .int (-1)), (0, .ref (ad (60, 0, 0))), (1, .int (nI 0))]) hx hb dX6_serves_36 hl (by decide) rfl (fun ls hl => ?_)
  refine lv_iload hx hb dX6_serves_38 (lv_at hl 0 rfl) ?_
  refine lv_aload_n hx hb dX6_serves_40 rfl (lv_at hl 3 rfl) ?_
  refine g_get hx hb hts hi6 hown hK hG (mo_obj) rfl 5 (by decide) (hts (.fieldLink RX6 55 "SatelliteringModel" "nodes" "I") (by decide +kernel)) rfl dX6_serves_41 ?_
  refine lv_to (y := nI 1) (hn) ?_
  refine lv_icmp_ge (tgt := 92) hx hb dX6_serves_44 (by decide) (fun c => absurd c (by decide)) (fun _ => ?_)
  refine lv_aload_n hx hb dX6_serves_47 rfl (lv_at hl 3 rfl) ?_
  refine lv_iload_n hx hb dX6_serves_48 rfl (lv_at hl 4 rfl) ?_
  refine lv_iload hx hb dX6_serves_49 (lv_at hl 0 rfl) ?_
  refine lv_aload_n hx hb dX6_serves_51 rfl (lv_at hl 3 rfl) ?_
  refine g_get hx hb hts hi6 hown hK hG (mo_obj) rfl 17 (by decide) (hts (.fieldLink RX6 118 "SatelliteringModel" "now" "I") (by decide +kernel)) rfl dX6_serves_52 ?_
  refine lv_to (y := nI 0) (hw) ?_
  refine vp_callSi (W.runV (As := [.int (nI 0), .int (nI 0), .int (nI 0)]) (rest := []) ⟨hx, hb, hml, hown, hts⟩ (m_viewOf0 l hz) (cwV 3 hts gX6_serves_X6_viewOf rfl rfl rfl (by decide +kernel) ⟨Nat.le_of_ble_eq_true rfl, Nat.le_of_ble_eq_true rfl⟩) (m_preV hF hK2 hCA hG hS (mo_obj) rfl) rfl rfl hl.1 rfl (lv_room (Nat.le_of_ble_eq_true rfl)) dX6_serves_55 ⟨Nat.le_of_ble_eq_true rfl, Nat.le_of_ble_eq_true rfl⟩) (fun r_1 h_2 => ?_)
  refine lv_to (y := nI 0) (h_2) ?_
  refine lv_istore (lv' := [(5, .int (nI 0)), (4, .int (nI 0)), (3, .int (nI 0)), (2, .int (-1)), (0, .ref (ad (60, 0, 0))), (1, .int (nI 0))]) hx hb dX6_serves_58 hl (by decide) rfl (fun ls hl => ?_)
  refine lv_iload hx hb dX6_serves_60 (lv_at hl 0 rfl) ?_
  refine lv_iload_n hx hb dX6_serves_62 rfl (lv_at hl 2 rfl) ?_
  refine lv_icmp_le (tgt := 71) hx hb dX6_serves_63 (by decide) (fun _ => ?_) (fun c => absurd (by decide) c)
  refine lv_iload_n hx hb dX6_serves_71 rfl (lv_at hl 3 rfl) ?_
  refine lv_istore_n (lv' := [(2, .int (-1)), (5, .int (nI 0)), (4, .int (nI 0)), (3, .int (nI 0)), (0, .ref (ad (60, 0, 0))), (1, .int (nI 0))]) hx hb dX6_serves_72 rfl hl (by decide) rfl (fun ls hl => ?_)
  refine lv_iload hx hb dX6_serves_73 (lv_at hl 1 rfl) ?_
  refine lv_iload_n hx hb dX6_serves_75 rfl (lv_at hl 3 rfl) ?_
  refine lv_icmp_le (tgt := 84) hx hb dX6_serves_76 (by decide) (fun _ => ?_) (fun c => absurd (by decide) c)
  refine lv_iload_n hx hb dX6_serves_84 rfl (lv_at hl 3 rfl) ?_
  refine lv_istore_n (lv' := [(3, .int (nI 0)), (2, .int (-1)), (5, .int (nI 0)), (4, .int (nI 0)), (0, .ref (ad (60, 0, 0))), (1, .int (nI 0))]) hx hb dX6_serves_85 rfl hl (by decide) rfl (fun ls hl => ?_)
  refine lv_iinc (v := nI (0 + 1)) (lv' := [(4, .int (nI (0 + 1))), (3, .int (nI 0)), (2, .int (-1)), (5, .int (nI 0)), (0, .ref (ad (60, 0, 0))), (1, .int (nI 0))]) hx hb dX6_serves_86 hl (k := 3) rfl (nI_add 0 1) (by decide) rfl (fun ls hl => ?_)
  refine lv_goto (tgt := 38) hx hb dX6_serves_89 (by decide) ?_
  refine lv_iload hx hb dX6_serves_38 (lv_at hl 0 rfl) ?_
  refine lv_aload_n hx hb dX6_serves_40 rfl (lv_at hl 4 rfl) ?_
  refine g_get hx hb hts hi6 hown hK hG (mo_obj) rfl 5 (by decide) (hts (.fieldLink RX6 55 "SatelliteringModel" "nodes" "I") (by decide +kernel)) rfl dX6_serves_41 ?_
  refine lv_to (y := nI 1) (hn) ?_
  refine lv_icmp_ge (tgt := 92) hx hb dX6_serves_44 (by decide) (fun _ => ?_) (fun c => absurd (by decide) c)
  refine lv_aload_n hx hb dX6_serves_92 rfl (lv_at hl 4 rfl) ?_
  refine g_get hx hb hts hi6 hown hK hG (mo_obj) rfl 9 (by decide) (hts (.fieldLink RX6 32 "SatelliteringModel" "handovers" "[I") (by decide +kernel)) rfl dX6_serves_93 ?_
  refine lv_iload_n hx hb dX6_serves_96 rfl (lv_at hl 5 rfl) ?_
  refine lv_dup2_11 hx hb dX6_serves_97 rfl rfl ?_
  refine g_iald hx hb hK hG (mo_68) (by decide) (by first | decide | omega) dX6_serves_98 ?_
  refine lv_aload_n hx hb dX6_serves_99 rfl (lv_at hl 4 rfl) ?_
  refine g_get hx hb hts hi6 hown hK hG (mo_obj) rfl 8 (by decide) (hts (.fieldLink RX6 29 "SatelliteringModel" "relay" "[I") (by decide +kernel)) rfl dX6_serves_100 ?_
  refine lv_iload_n hx hb dX6_serves_103 rfl (lv_at hl 5 rfl) ?_
  refine g_iald hx hb hK hG (mo_67) (by decide) (by first | decide | omega) dX6_serves_104 ?_
  refine lv_to (y := (-1)) (hr9) ?_
  refine lv_if_lt (tgt := 116) hx hb dX6_serves_105 (by decide) (fun _ => ?_) (fun c => absurd (by decide) c)
  refine lv_iconst (v := nI 0) hx hb dX6_serves_116 (by decide) ?_
  refine lv_iadd hx hb dX6_serves_117 ?_
  refine q_iast hx hb hK hG hS (cd := (68, 0, 0)) (fun _ => mo_68) (by decide) (by decide) dX6_serves_118 (fun H locs hG hS => ?_)
  obtain ⟨h_3, eh_3⟩ : ∃ z9, z9 = g2 h (68, 0, 0) 0 ((h (68, 0, 0) 0) + (nI 0)) := ⟨_, rfl⟩
  rw [← eh_3] at hG
  have f_4 : h_3 (60, 0, 0) 5 = nI 1 := by rw [eh_3, g2_ne _ _ _ (by decide)]; exact hn
  have f_5 : h_3 (60, 0, 0) 17 = nI 0 := by rw [eh_3, g2_ne _ _ _ (by decide)]; exact hw
  have f_6 : h_3 (67, 0, 0) 0 = (-1) := (show h_3 (67, 0, 0) 0 = h (67, 0, 0) 0 by rw [eh_3, g2_ne _ _ _ (by decide)]).trans hr9
  refine lv_aload_n hx hb dX6_serves_119 rfl (lv_at hl 4 rfl) ?_
  refine g_get hx hb hts hi6 hown hK hG (mo_obj) rfl 8 (by decide) (hts (.fieldLink RX6 29 "SatelliteringModel" "relay" "[I") (by decide +kernel)) rfl dX6_serves_120 ?_
  refine lv_iload_n hx hb dX6_serves_123 rfl (lv_at hl 5 rfl) ?_
  refine lv_iload_n hx hb dX6_serves_124 rfl (lv_at hl 2 rfl) ?_
  refine q_iast hx hb hK hG hS (cd := (67, 0, 0)) (fun _ => mo_67) (by decide) (by decide) dX6_serves_125 (fun H locs hG hS => ?_)
  obtain ⟨h_7, eh_7⟩ : ∃ z9, z9 = g2 h_3 (67, 0, 0) 0 (-1) := ⟨_, rfl⟩
  rw [← eh_7] at hG
  have f_8 : h_7 (60, 0, 0) 5 = nI 1 := by rw [eh_7, g2_ne _ _ _ (by decide)]; exact f_4
  have f_9 : h_7 (60, 0, 0) 17 = nI 0 := by rw [eh_7, g2_ne _ _ _ (by decide)]; exact f_5
  have f_10 : h_7 (67, 0, 0) 0 = (-1) := by rw [eh_7, g2_self, upd_self]
  exact W.vret hx hb hr (fun t9 ht9 hW9 => ⟨⟨h_7, rfl, fun k => by rw [eh_7, g2_ne _ _ _ (by decide), eh_3, g2_ne _ _ _ (by decide)], by show g_P D _ _ B t9.heap; rw [ht9]; exact hG⟩, hS.F ht9⟩) hS.2.2 dX6_serves_126

set_option maxHeartbeats 4000000 in
set_option maxRecDepth 100000 in
theorem m_addStation (l : Launch) {D : va_G} {C : g_C} {E : m_C} {h : g_k → Nat → Int32} {ad : g_k → Nat} {vw : g_k → Option va_E} {B : Nat} (h0 : ∀ c j, h c j = 0) {x : Int32} : Met l yX6_addStation wsX6_addStation ({ frames := 3, cells := 0, slots := 0, locals := 71 } : Room) (va_Pc [.ref (ad (60, 0, 0)), .int x] (m_S D C E (mo E C h ad vw) ad B)) (va_Qi (fun (r : Int32) (h1 : g_k → Nat → Int32) => ((nI 0 ≤ x ∧ x ≤ nI 359) ∧ r = nI 0 ∧ h1 (60, 0, 0) 18 = nI 0) ∨ (¬ (nI 0 ≤ x ∧ x ≤ nI 359) ∧ h1 (60, 0, 0) 18 = nI 1)) (fun h1 t => g_P D (mo E C h1 ad vw) ad B t.heap) (g_A B)) 0 0 (g_A B) := by
  refine Met.ofW (cc := cX6_addStation) (maxL := 3) (ret := (some .int)) (by decide) rfl ?_
  intro p e s m args below meth c s₁ B₀ hml hv
  obtain ⟨rfl, ⟨hG, hF⟩, hK2, hCA⟩ := hv
  have hK := hF.1
  have hN := hF.2.1
  have hB := hF.2.2.2
  have hx := B₀.exec
  have hb := B₀.bytes
  have hr := B₀.returns
  have hts := atoms_spec (ws := wsX6_addStation) B₀.pre
  have hown : s.vm.findClass RX6 = some m.cls := findClass_of_methodNamed B₀.named
  have hlocks := B₀.notSynchronized
  have hS : va_S (g_A B) s.heap s.heap [] := va_S.rf
  have hi6 : ∀ w ∈ wsX60, w ∈ wsX6_addStation := by decide +kernel
  have hl := lv_entry [.ref (ad (60, 0, 0)), .int x] (n := 3) (Nat.le_of_ble_eq_true rfl)
  rw [lg_entry_eq]
  generalize (lg_sl [.ref (ad (60, 0, 0)), .int x] ++ List.replicate (3 - (lg_sl [.ref (ad (60, 0, 0)), .int x]).length) Slot.unset).toArray = ls at hl ⊢
  have hl : lv_has ls 3 [(0, .ref (ad (60, 0, 0))), (1, .int x)] := hl
  have hn : h (60, 0, 0) 5 = nI 0 := (h0 _ _).trans nI_0.symm
  have hrl : h (60, 0, 0) 6 = nI 0 := (h0 _ _).trans nI_0.symm
  have hm : h (60, 0, 0) 14 = nI 0 := (h0 _ _).trans nI_0.symm
  have hw : h (60, 0, 0) 17 = nI 0 := (h0 _ _).trans nI_0.symm
  have hz : ∀ j, h (66, 0, 0) j = 0 := fun j => h0 _ j
  refine lv_aload_n hx hb dX6_addStation_0 rfl (lv_at hl 0 rfl) ?_
  refine lv_iload_n hx hb dX6_addStation_1 rfl (lv_at hl 1 rfl) ?_
  refine lv_if_lt (tgt := 16) hx hb dX6_addStation_2 (by decide) (fun c_1 => ?_) (fun c_1 => ?_)
  · refine lv_iconst (v := nI 0) hx hb dX6_addStation_16 (by decide) ?_
    refine lv_aload_n hx hb dX6_addStation_17 rfl (lv_at hl 0 rfl) ?_
    refine g_get hx hb hts hi6 hown hK hG (mo_obj) rfl 5 (by decide) (hts (.fieldLink RX6 55 "SatelliteringModel" "nodes" "I") (by decide +kernel)) rfl dX6_addStation_18 ?_
    refine lv_to (y := nI 0) (hn) ?_
    refine lv_aload_n hx hb dX6_addStation_21 rfl (lv_at hl 0 rfl) ?_
    refine g_get hx hb hts hi6 hown hK hG (mo_obj) rfl 6 (by decide) (hts (.fieldLink RX6 77 "SatelliteringModel" "relays" "I") (by decide +kernel)) rfl dX6_addStation_22 ?_
    refine lv_to (y := nI 0) (hrl) ?_
    refine lv_isub hx hb dX6_addStation_25 ?_
    refine lv_iconst (v := nI 4) hx hb dX6_addStation_26 (by decide) ?_
    refine lv_icmp_ge (tgt := 34) hx hb dX6_addStation_27 (by decide) (fun c => absurd c (by decide)) (fun _ => ?_)
    refine lv_iconst (v := nI 1) hx hb dX6_addStation_30 (by decide) ?_
    refine lv_goto (tgt := 35) hx hb dX6_addStation_31 (by decide) ?_
    refine lv_iconst (v := nI 1) hx hb dX6_addStation_35 (by decide) ?_
    refine va_calli (va_runV (As := [.int (nI 0), .int (nI 1), .int (nI 1)]) (rest := []) ⟨hx, hb, hml, hown, hts⟩ (m_goes1 l ) (cwV 3 hts gX6_addStation_X6_goes rfl rfl rfl (by decide +kernel) ⟨Nat.le_of_ble_eq_true rfl, Nat.le_of_ble_eq_true rfl⟩) (m_preV hF hK2 hCA hG hS (mo_obj) rfl) rfl rfl hl.1 rfl (lv_room (Nat.le_of_ble_eq_true rfl)) dX6_addStation_36 ⟨Nat.le_of_ble_eq_true rfl, Nat.le_of_ble_eq_true rfl⟩) hS (fun q _ h => h) (fun q h => h) (fun r_2 g_4 t9 H locs ht9 _ h_3 hB1 _ _ hS => ?_)
    have hG : g_P D (mo E C g_4 ad vw) ad B H := by rw [← ht9]; exact hB1
    obtain ⟨erg_4, eg_4⟩ := h_3
    refine lv_to (y := nI 0) (erg_4) ?_
    have f_5 : g_4 (60, 0, 0) 5 = nI 0 := by rw [eg_4, g2_self, upd_ne _ _ (by decide)]; exact hn
    have f_6 : g_4 (60, 0, 0) 6 = nI 0 := by rw [eg_4, g2_self, upd_ne _ _ (by decide)]; exact hrl
    have f_7 : g_4 (60, 0, 0) 14 = nI 0 := by rw [eg_4, g2_self, upd_ne _ _ (by decide)]; exact hm
    have f_8 : g_4 (60, 0, 0) 17 = nI 0 := by rw [eg_4, g2_self, upd_ne _ _ (by decide)]; exact hw
    have f_9 : ∀ j, g_4 (66, 0, 0) j = 0 := fun j => by rw [eg_4, g2_ne _ _ _ (by decide)]; exact hz j
    have f_10 : g_4 (60, 0, 0) 18 = nI 1 := by rw [eg_4, g2_self, upd_self]
    refine lv_if_ne (tgt := 44) hx hb dX6_addStation_39 (by decide) (fun c => absurd (by decide) c) (fun _ => ?_)
    refine lv_iconst (v := nI 0) hx hb dX6_addStation_42 (by decide) ?_
    exact W.iret (v := nI 0) hx hb hr (fun t9 ht9 hW9 => ⟨⟨_, g_4, rfl, Or.inr ⟨by simp only [Int32.le_iff_toInt_le, Int32.lt_iff_toInt_lt, t_z, t_m30, t_m1, t_0, t_1, t_4, t_6, t_9, t_20, t_30, t_179, t_359, t_360, t_1000000] at c_1 ⊢; omega, f_10⟩, by show g_P D _ _ B t9.heap; rw [ht9]; exact hG⟩, hS.F ht9⟩) hS.2.2 dX6_addStation_43
  · refine lv_iload_n hx hb dX6_addStation_5 rfl (lv_at hl 1 rfl) ?_
    refine lv_sipush (v := nI 360) hx hb dX6_addStation_6 (by decide) ?_
    refine lv_icmp_ge (tgt := 16) hx hb dX6_addStation_9 (by decide) (fun c_11 => ?_) (fun c_11 => ?_)
    · refine lv_iconst (v := nI 0) hx hb dX6_addStation_16 (by decide) ?_
      refine lv_aload_n hx hb dX6_addStation_17 rfl (lv_at hl 0 rfl) ?_
      refine g_get hx hb hts hi6 hown hK hG (mo_obj) rfl 5 (by decide) (hts (.fieldLink RX6 55 "SatelliteringModel" "nodes" "I") (by decide +kernel)) rfl dX6_addStation_18 ?_
      refine lv_to (y := nI 0) (hn) ?_
      refine lv_aload_n hx hb dX6_addStation_21 rfl (lv_at hl 0 rfl) ?_
      refine g_get hx hb hts hi6 hown hK hG (mo_obj) rfl 6 (by decide) (hts (.fieldLink RX6 77 "SatelliteringModel" "relays" "I") (by decide +kernel)) rfl dX6_addStation_22 ?_
      refine lv_to (y := nI 0) (hrl) ?_
      refine lv_isub hx hb dX6_addStation_25 ?_
      refine lv_iconst (v := nI 4) hx hb dX6_addStation_26 (by decide) ?_
      refine lv_icmp_ge (tgt := 34) hx hb dX6_addStation_27 (by decide) (fun c => absurd c (by decide)) (fun _ => ?_)
      refine lv_iconst (v := nI 1) hx hb dX6_addStation_30 (by decide) ?_
      refine lv_goto (tgt := 35) hx hb dX6_addStation_31 (by decide) ?_
      refine lv_iconst (v := nI 1) hx hb dX6_addStation_35 (by decide) ?_
      refine va_calli (va_runV (As := [.int (nI 0), .int (nI 1), .int (nI 1)]) (rest := []) ⟨hx, hb, hml, hown, hts⟩ (m_goes1 l ) (cwV 3 hts gX6_addStation_X6_goes rfl rfl rfl (by decide +kernel) ⟨Nat.le_of_ble_eq_true rfl, Nat.le_of_ble_eq_true rfl⟩) (m_preV hF hK2 hCA hG hS (mo_obj) rfl) rfl rfl hl.1 rfl (lv_room (Nat.le_of_ble_eq_true rfl)) dX6_addStation_36 ⟨Nat.le_of_ble_eq_true rfl, Nat.le_of_ble_eq_true rfl⟩) hS (fun q _ h => h) (fun q h => h) (fun r_12 g_14 t9 H locs ht9 _ h_13 hB1 _ _ hS => ?_)
      have hG : g_P D (mo E C g_14 ad vw) ad B H := by rw [← ht9]; exact hB1
      obtain ⟨erg_14, eg_14⟩ := h_13
      refine lv_to (y := nI 0) (erg_14) ?_
      have f_15 : g_14 (60, 0, 0) 5 = nI 0 := by rw [eg_14, g2_self, upd_ne _ _ (by decide)]; exact hn
      have f_16 : g_14 (60, 0, 0) 6 = nI 0 := by rw [eg_14, g2_self, upd_ne _ _ (by decide)]; exact hrl
      have f_17 : g_14 (60, 0, 0) 14 = nI 0 := by rw [eg_14, g2_self, upd_ne _ _ (by decide)]; exact hm
      have f_18 : g_14 (60, 0, 0) 17 = nI 0 := by rw [eg_14, g2_self, upd_ne _ _ (by decide)]; exact hw
      have f_19 : ∀ j, g_14 (66, 0, 0) j = 0 := fun j => by rw [eg_14, g2_ne _ _ _ (by decide)]; exact hz j
      have f_20 : g_14 (60, 0, 0) 18 = nI 1 := by rw [eg_14, g2_self, upd_self]
      refine lv_if_ne (tgt := 44) hx hb dX6_addStation_39 (by decide) (fun c => absurd (by decide) c) (fun _ => ?_)
      refine lv_iconst (v := nI 0) hx hb dX6_addStation_42 (by decide) ?_
      exact W.iret (v := nI 0) hx hb hr (fun t9 ht9 hW9 => ⟨⟨_, g_14, rfl, Or.inr ⟨by simp only [Int32.le_iff_toInt_le, Int32.lt_iff_toInt_lt, t_z, t_m30, t_m1, t_0, t_1, t_4, t_6, t_9, t_20, t_30, t_179, t_359, t_360, t_1000000] at c_1 c_11 ⊢; omega, f_20⟩, by show g_P D _ _ B t9.heap; rw [ht9]; exact hG⟩, hS.F ht9⟩) hS.2.2 dX6_addStation_43
    · refine lv_iconst (v := nI 1) hx hb dX6_addStation_12 (by decide) ?_
      refine lv_goto (tgt := 17) hx hb dX6_addStation_13 (by decide) ?_
      refine lv_aload_n hx hb dX6_addStation_17 rfl (lv_at hl 0 rfl) ?_
      refine g_get hx hb hts hi6 hown hK hG (mo_obj) rfl 5 (by decide) (hts (.fieldLink RX6 55 "SatelliteringModel" "nodes" "I") (by decide +kernel)) rfl dX6_addStation_18 ?_
      refine lv_to (y := nI 0) (hn) ?_
      refine lv_aload_n hx hb dX6_addStation_21 rfl (lv_at hl 0 rfl) ?_
      refine g_get hx hb hts hi6 hown hK hG (mo_obj) rfl 6 (by decide) (hts (.fieldLink RX6 77 "SatelliteringModel" "relays" "I") (by decide +kernel)) rfl dX6_addStation_22 ?_
      refine lv_to (y := nI 0) (hrl) ?_
      refine lv_isub hx hb dX6_addStation_25 ?_
      refine lv_iconst (v := nI 4) hx hb dX6_addStation_26 (by decide) ?_
      refine lv_icmp_ge (tgt := 34) hx hb dX6_addStation_27 (by decide) (fun c => absurd c (by decide)) (fun _ => ?_)
      refine lv_iconst (v := nI 1) hx hb dX6_addStation_30 (by decide) ?_
      refine lv_goto (tgt := 35) hx hb dX6_addStation_31 (by decide) ?_
      refine lv_iconst (v := nI 1) hx hb dX6_addStation_35 (by decide) ?_
      refine va_calli (va_runV (As := [.int (nI 1), .int (nI 1), .int (nI 1)]) (rest := []) ⟨hx, hb, hml, hown, hts⟩ (m_goes0 l ) (cwV 3 hts gX6_addStation_X6_goes rfl rfl rfl (by decide +kernel) ⟨Nat.le_of_ble_eq_true rfl, Nat.le_of_ble_eq_true rfl⟩) (m_preV hF hK2 hCA hG hS (mo_obj) rfl) rfl rfl hl.1 rfl (lv_room (Nat.le_of_ble_eq_true rfl)) dX6_addStation_36 ⟨Nat.le_of_ble_eq_true rfl, Nat.le_of_ble_eq_true rfl⟩) hS (fun q _ h => h) (fun q h => h) (fun r_21 g_23 t9 H locs ht9 _ h_22 hB1 _ _ hS => ?_)
      have hG : g_P D (mo E C g_23 ad vw) ad B H := by rw [← ht9]; exact hB1
      obtain ⟨erg_23, eg_23⟩ := h_22
      refine lv_to (y := nI 1) (erg_23) ?_
      have f_24 : g_23 (60, 0, 0) 5 = nI 0 := by rw [eg_23, g2_self, upd_ne _ _ (by decide)]; exact hn
      have f_25 : g_23 (60, 0, 0) 6 = nI 0 := by rw [eg_23, g2_self, upd_ne _ _ (by decide)]; exact hrl
      have f_26 : g_23 (60, 0, 0) 14 = nI 0 := by rw [eg_23, g2_self, upd_ne _ _ (by decide)]; exact hm
      have f_27 : g_23 (60, 0, 0) 17 = nI 0 := by rw [eg_23, g2_self, upd_ne _ _ (by decide)]; exact hw
      have f_28 : ∀ j, g_23 (66, 0, 0) j = 0 := fun j => by rw [eg_23, g2_ne _ _ _ (by decide)]; exact hz j
      have f_29 : g_23 (60, 0, 0) 18 = nI 0 := by rw [eg_23, g2_self, upd_self]
      refine lv_if_ne (tgt := 44) hx hb dX6_addStation_39 (by decide) (fun _ => ?_) (fun c => absurd c (by decide))
      refine lv_aload_n hx hb dX6_addStation_44 rfl (lv_at hl 0 rfl) ?_
      refine lv_iload_n hx hb dX6_addStation_45 rfl (lv_at hl 1 rfl) ?_
      refine lv_iconst (v := nI 0) hx hb dX6_addStation_46 (by decide) ?_
      refine lv_iconst (v := nI 0) hx hb dX6_addStation_47 (by decide) ?_
      refine lv_iconst (v := nI 0) hx hb dX6_addStation_48 (by decide) ?_
      refine lv_iconst (v := nI 0) hx hb dX6_addStation_49 (by decide) ?_
      refine va_calli (va_runV (As := [.int x, .int (nI 0), .int (nI 0), .int (nI 0), .int (nI 0)]) (rest := []) ⟨hx, hb, hml, hown, hts⟩ (m_adds l f_24) (cwV 5 hts gX6_addStation_X6_adds rfl rfl rfl (by decide +kernel) ⟨Nat.le_of_ble_eq_true rfl, Nat.le_of_ble_eq_true rfl⟩) (m_preV hF hK2 hCA hG hS (mo_obj) rfl) rfl rfl hl.1 rfl (lv_room (Nat.le_of_ble_eq_true rfl)) dX6_addStation_50 ⟨Nat.le_of_ble_eq_true rfl, Nat.le_of_ble_eq_true rfl⟩) hS (fun q _ h => h) (fun q h => h) (fun r_30 g_32 t9 H locs ht9 _ h_31 hB1 _ _ hS => ?_)
      have hG : g_P D (mo E C g_32 ad vw) ad B H := by rw [← ht9]; exact hB1
      obtain ⟨ea1, ea2, ea3, ea4, ea5⟩ := h_31
      refine lv_to (y := nI 0) (ea1) ?_
      have f_33 : g_32 (60, 0, 0) 6 = nI 0 := (ea3 6 (by decide)).trans f_25
      have f_34 : g_32 (60, 0, 0) 14 = nI 0 := (ea3 14 (by decide)).trans f_26
      have f_35 : g_32 (60, 0, 0) 17 = nI 0 := (ea3 17 (by decide)).trans f_27
      have f_36 : ∀ j, g_32 (66, 0, 0) j = 0 := fun j => by rw [ea4]; exact f_28 j
      have f_37 : g_32 (60, 0, 0) 18 = nI 0 := (ea3 18 (by decide)).trans f_29
      refine lv_istore_n (lv' := [(2, .int (nI 0)), (0, .ref (ad (60, 0, 0))), (1, .int x)]) hx hb dX6_addStation_53 rfl hl (by decide) rfl (fun ls hl => ?_)
      refine lv_aload_n hx hb dX6_addStation_54 rfl (lv_at hl 1 rfl) ?_
      refine lv_iload_n hx hb dX6_addStation_55 rfl (lv_at hl 0 rfl) ?_
      refine va_callv (va_runV (As := [.int (nI 0)]) (rest := []) ⟨hx, hb, hml, hown, hts⟩ (m_serves0 l ea2 f_35 f_36 ea5) (cwV 1 hts gX6_addStation_X6_serves rfl rfl rfl (by decide +kernel) ⟨Nat.le_of_ble_eq_true rfl, Nat.le_of_ble_eq_true rfl⟩) (m_preV hF hK2 hCA hG hS (mo_obj) rfl) rfl rfl hl.1 rfl (lv_room (Nat.le_of_ble_eq_true rfl)) dX6_addStation_56 ⟨Nat.le_of_ble_eq_true rfl, Nat.le_of_ble_eq_true rfl⟩) hS (fun q _ h => h) (fun q h => h) (fun g_40 t9 H locs ht9 _ h_39 hB1 _ _ hS => ?_)
      have hG : g_P D (mo E C g_40 ad vw) ad B H := by rw [← ht9]; exact hB1
      have f_41 : g_40 (60, 0, 0) 18 = nI 0 := (h_39 18).trans f_37
      refine lv_iload_n hx hb dX6_addStation_59 rfl (lv_at hl 0 rfl) ?_
      exact W.iret (v := nI 0) hx hb hr (fun t9 ht9 hW9 => ⟨⟨_, g_40, rfl, Or.inl ⟨by simp only [Int32.le_iff_toInt_le, Int32.lt_iff_toInt_lt, t_z, t_m30, t_m1, t_0, t_1, t_4, t_6, t_9, t_20, t_30, t_179, t_359, t_360, t_1000000] at c_1 c_11 ⊢; omega, rfl, f_41⟩, by show g_P D _ _ B t9.heap; rw [ht9]; exact hG⟩, hS.F ht9⟩) hS.2.2 dX6_addStation_60

set_option maxHeartbeats 4000000 in
set_option maxRecDepth 100000 in
theorem m_addRelay (l : Launch) {D : va_G} {C : g_C} {E : m_C} {h : g_k → Nat → Int32} {ad : g_k → Nat} {vw : g_k → Option va_E} {B : Nat} (h0 : ∀ c j, h c j = 0) {x y z v4 : Int32} : Met l yX6_addRelay wsX6_addRelay ({ frames := 2, cells := 0, slots := 0, locals := 48 } : Room) (va_Pc [.ref (ad (60, 0, 0)), .int x, .int y, .int z, .int v4] (m_S D C E (mo E C h ad vw) ad B)) (va_Qi (fun (r : Int32) (h1 : g_k → Nat → Int32) => (((nI 0 ≤ x ∧ x ≤ nI 359) ∧ ((-30) ≤ y ∧ y ≤ nI 30) ∧ (nI 0 ≤ z ∧ z ≤ nI 179) ∧ (nI 1 ≤ v4 ∧ v4 ≤ nI 9)) ∧ r = nI 0 ∧ h1 (60, 0, 0) 18 = nI 0) ∨ (¬ ((nI 0 ≤ x ∧ x ≤ nI 359) ∧ ((-30) ≤ y ∧ y ≤ nI 30) ∧ (nI 0 ≤ z ∧ z ≤ nI 179) ∧ (nI 1 ≤ v4 ∧ v4 ≤ nI 9)) ∧ h1 (60, 0, 0) 18 = nI 1)) (fun h1 t => g_P D (mo E C h1 ad vw) ad B t.heap) (g_A B)) 0 0 (g_A B) := by
  refine Met.ofW (cc := cX6_addRelay) (maxL := 6) (ret := (some .int)) (by decide) rfl ?_
  intro p e s m args below meth c s₁ B₀ hml hv
  obtain ⟨rfl, ⟨hG, hF⟩, hK2, hCA⟩ := hv
  have hK := hF.1
  have hN := hF.2.1
  have hB := hF.2.2.2
  have hx := B₀.exec
  have hb := B₀.bytes
  have hr := B₀.returns
  have hts := atoms_spec (ws := wsX6_addRelay) B₀.pre
  have hown : s.vm.findClass RX6 = some m.cls := findClass_of_methodNamed B₀.named
  have hlocks := B₀.notSynchronized
  have hS : va_S (g_A B) s.heap s.heap [] := va_S.rf
  have hi6 : ∀ w ∈ wsX60, w ∈ wsX6_addRelay := by decide +kernel
  have hl := lv_entry [.ref (ad (60, 0, 0)), .int x, .int y, .int z, .int v4] (n := 6) (Nat.le_of_ble_eq_true rfl)
  rw [lg_entry_eq]
  generalize (lg_sl [.ref (ad (60, 0, 0)), .int x, .int y, .int z, .int v4] ++ List.replicate (6 - (lg_sl [.ref (ad (60, 0, 0)), .int x, .int y, .int z, .int v4]).length) Slot.unset).toArray = ls at hl ⊢
  have hl : lv_has ls 6 [(0, .ref (ad (60, 0, 0))), (1, .int x), (2, .int y), (3, .int z), (4, .int v4)] := hl
  have hn : h (60, 0, 0) 5 = nI 0 := (h0 _ _).trans nI_0.symm
  have hrl : h (60, 0, 0) 6 = nI 0 := (h0 _ _).trans nI_0.symm
  have hm : h (60, 0, 0) 14 = nI 0 := (h0 _ _).trans nI_0.symm
  have hw : h (60, 0, 0) 17 = nI 0 := (h0 _ _).trans nI_0.symm
  have hz : ∀ j, h (66, 0, 0) j = 0 := fun j => h0 _ j
  refine lv_iload_n hx hb dX6_addRelay_0 rfl (lv_at hl 1 rfl) ?_
  refine lv_if_lt (tgt := 51) hx hb dX6_addRelay_1 (by decide) (fun c_1 => ?_) (fun c_1 => ?_)
  · refine lv_iconst (v := nI 0) hx hb dX6_addRelay_51 (by decide) ?_
    refine lv_istore (lv' := [(5, .int (nI 0)), (0, .ref (ad (60, 0, 0))), (1, .int x), (2, .int y), (3, .int z), (4, .int v4)]) hx hb dX6_addRelay_52 hl (by decide) rfl (fun ls hl => ?_)
    refine lv_aload_n hx hb dX6_addRelay_54 rfl (lv_at hl 1 rfl) ?_
    refine lv_iload hx hb dX6_addRelay_55 (lv_at hl 0 rfl) ?_
    refine lv_aload_n hx hb dX6_addRelay_57 rfl (lv_at hl 1 rfl) ?_
    refine g_get hx hb hts hi6 hown hK hG (mo_obj) rfl 6 (by decide) (hts (.fieldLink RX6 77 "SatelliteringModel" "relays" "I") (by decide +kernel)) rfl dX6_addRelay_58 ?_
    refine lv_to (y := nI 0) (hrl) ?_
    refine lv_bipush (v := nI 6) hx hb dX6_addRelay_61 (by decide) ?_
    refine lv_icmp_ge (tgt := 70) hx hb dX6_addRelay_63 (by decide) (fun c => absurd c (by decide)) (fun _ => ?_)
    refine lv_iconst (v := nI 1) hx hb dX6_addRelay_66 (by decide) ?_
    refine lv_goto (tgt := 71) hx hb dX6_addRelay_67 (by decide) ?_
    refine lv_iconst (v := nI 1) hx hb dX6_addRelay_71 (by decide) ?_
    refine va_calli (va_runV (As := [.int (nI 0), .int (nI 1), .int (nI 1)]) (rest := []) ⟨hx, hb, hml, hown, hts⟩ (m_goes1 l ) (cwV 3 hts gX6_addRelay_X6_goes rfl rfl rfl (by decide +kernel) ⟨Nat.le_of_ble_eq_true rfl, Nat.le_of_ble_eq_true rfl⟩) (m_preV hF hK2 hCA hG hS (mo_obj) rfl) rfl rfl hl.1 rfl (lv_room (Nat.le_of_ble_eq_true rfl)) dX6_addRelay_72 ⟨Nat.le_of_ble_eq_true rfl, Nat.le_of_ble_eq_true rfl⟩) hS (fun q _ h => h) (fun q h => h) (fun r_2 g_4 t9 H locs ht9 _ h_3 hB1 _ _ hS => ?_)
    have hG : g_P D (mo E C g_4 ad vw) ad B H := by rw [← ht9]; exact hB1
    obtain ⟨erg_4, eg_4⟩ := h_3
    refine lv_to (y := nI 0) (erg_4) ?_
    have f_5 : g_4 (60, 0, 0) 5 = nI 0 := by rw [eg_4, g2_self, upd_ne _ _ (by decide)]; exact hn
    have f_6 : g_4 (60, 0, 0) 6 = nI 0 := by rw [eg_4, g2_self, upd_ne _ _ (by decide)]; exact hrl
    have f_7 : g_4 (60, 0, 0) 14 = nI 0 := by rw [eg_4, g2_self, upd_ne _ _ (by decide)]; exact hm
    have f_8 : g_4 (60, 0, 0) 17 = nI 0 := by rw [eg_4, g2_self, upd_ne _ _ (by decide)]; exact hw
    have f_9 : ∀ j, g_4 (66, 0, 0) j = 0 := fun j => by rw [eg_4, g2_ne _ _ _ (by decide)]; exact hz j
    have f_10 : g_4 (60, 0, 0) 18 = nI 1 := by rw [eg_4, g2_self, upd_self]
    refine lv_if_ne (tgt := 80) hx hb dX6_addRelay_75 (by decide) (fun c => absurd (by decide) c) (fun _ => ?_)
    refine lv_iconst (v := nI 0) hx hb dX6_addRelay_78 (by decide) ?_
    exact W.iret (v := nI 0) hx hb hr (fun t9 ht9 hW9 => ⟨⟨_, g_4, rfl, Or.inr ⟨by simp only [Int32.le_iff_toInt_le, Int32.lt_iff_toInt_lt, t_z, t_m30, t_m1, t_0, t_1, t_4, t_6, t_9, t_20, t_30, t_179, t_359, t_360, t_1000000] at c_1 ⊢; omega, f_10⟩, by show g_P D _ _ B t9.heap; rw [ht9]; exact hG⟩, hS.F ht9⟩) hS.2.2 dX6_addRelay_79
  · refine lv_iload_n hx hb dX6_addRelay_4 rfl (lv_at hl 1 rfl) ?_
    refine lv_sipush (v := nI 360) hx hb dX6_addRelay_5 (by decide) ?_
    refine lv_icmp_ge (tgt := 51) hx hb dX6_addRelay_8 (by decide) (fun c_11 => ?_) (fun c_11 => ?_)
    · refine lv_iconst (v := nI 0) hx hb dX6_addRelay_51 (by decide) ?_
      refine lv_istore (lv' := [(5, .int (nI 0)), (0, .ref (ad (60, 0, 0))), (1, .int x), (2, .int y), (3, .int z), (4, .int v4)]) hx hb dX6_addRelay_52 hl (by decide) rfl (fun ls hl => ?_)
      refine lv_aload_n hx hb dX6_addRelay_54 rfl (lv_at hl 1 rfl) ?_
      refine lv_iload hx hb dX6_addRelay_55 (lv_at hl 0 rfl) ?_
      refine lv_aload_n hx hb dX6_addRelay_57 rfl (lv_at hl 1 rfl) ?_
      refine g_get hx hb hts hi6 hown hK hG (mo_obj) rfl 6 (by decide) (hts (.fieldLink RX6 77 "SatelliteringModel" "relays" "I") (by decide +kernel)) rfl dX6_addRelay_58 ?_
      refine lv_to (y := nI 0) (hrl) ?_
      refine lv_bipush (v := nI 6) hx hb dX6_addRelay_61 (by decide) ?_
      refine lv_icmp_ge (tgt := 70) hx hb dX6_addRelay_63 (by decide) (fun c => absurd c (by decide)) (fun _ => ?_)
      refine lv_iconst (v := nI 1) hx hb dX6_addRelay_66 (by decide) ?_
      refine lv_goto (tgt := 71) hx hb dX6_addRelay_67 (by decide) ?_
      refine lv_iconst (v := nI 1) hx hb dX6_addRelay_71 (by decide) ?_
      refine va_calli (va_runV (As := [.int (nI 0), .int (nI 1), .int (nI 1)]) (rest := []) ⟨hx, hb, hml, hown, hts⟩ (m_goes1 l ) (cwV 3 hts gX6_addRelay_X6_goes rfl rfl rfl (by decide +kernel) ⟨Nat.le_of_ble_eq_true rfl, Nat.le_of_ble_eq_true rfl⟩) (m_preV hF hK2 hCA hG hS (mo_obj) rfl) rfl rfl hl.1 rfl (lv_room (Nat.le_of_ble_eq_true rfl)) dX6_addRelay_72 ⟨Nat.le_of_ble_eq_true rfl, Nat.le_of_ble_eq_true rfl⟩) hS (fun q _ h => h) (fun q h => h) (fun r_12 g_14 t9 H locs ht9 _ h_13 hB1 _ _ hS => ?_)
      have hG : g_P D (mo E C g_14 ad vw) ad B H := by rw [← ht9]; exact hB1
      obtain ⟨erg_14, eg_14⟩ := h_13
      refine lv_to (y := nI 0) (erg_14) ?_
      have f_15 : g_14 (60, 0, 0) 5 = nI 0 := by rw [eg_14, g2_self, upd_ne _ _ (by decide)]; exact hn
      have f_16 : g_14 (60, 0, 0) 6 = nI 0 := by rw [eg_14, g2_self, upd_ne _ _ (by decide)]; exact hrl
      have f_17 : g_14 (60, 0, 0) 14 = nI 0 := by rw [eg_14, g2_self, upd_ne _ _ (by decide)]; exact hm
      have f_18 : g_14 (60, 0, 0) 17 = nI 0 := by rw [eg_14, g2_self, upd_ne _ _ (by decide)]; exact hw
      have f_19 : ∀ j, g_14 (66, 0, 0) j = 0 := fun j => by rw [eg_14, g2_ne _ _ _ (by decide)]; exact hz j
      have f_20 : g_14 (60, 0, 0) 18 = nI 1 := by rw [eg_14, g2_self, upd_self]
      refine lv_if_ne (tgt := 80) hx hb dX6_addRelay_75 (by decide) (fun c => absurd (by decide) c) (fun _ => ?_)
      refine lv_iconst (v := nI 0) hx hb dX6_addRelay_78 (by decide) ?_
      exact W.iret (v := nI 0) hx hb hr (fun t9 ht9 hW9 => ⟨⟨_, g_14, rfl, Or.inr ⟨by simp only [Int32.le_iff_toInt_le, Int32.lt_iff_toInt_lt, t_z, t_m30, t_m1, t_0, t_1, t_4, t_6, t_9, t_20, t_30, t_179, t_359, t_360, t_1000000] at c_1 c_11 ⊢; omega, f_20⟩, by show g_P D _ _ B t9.heap; rw [ht9]; exact hG⟩, hS.F ht9⟩) hS.2.2 dX6_addRelay_79
    · refine lv_iload_n hx hb dX6_addRelay_11 rfl (lv_at hl 2 rfl) ?_
      refine lv_bipush (v := (-30)) hx hb dX6_addRelay_12 (by decide) ?_
      refine lv_icmp_lt (tgt := 51) hx hb dX6_addRelay_14 (by decide) (fun c_21 => ?_) (fun c_21 => ?_)
      · refine lv_iconst (v := nI 0) hx hb dX6_addRelay_51 (by decide) ?_
        refine lv_istore (lv' := [(5, .int (nI 0)), (0, .ref (ad (60, 0, 0))), (1, .int x), (2, .int y), (3, .int z), (4, .int v4)]) hx hb dX6_addRelay_52 hl (by decide) rfl (fun ls hl => ?_)
        refine lv_aload_n hx hb dX6_addRelay_54 rfl (lv_at hl 1 rfl) ?_
        refine lv_iload hx hb dX6_addRelay_55 (lv_at hl 0 rfl) ?_
        refine lv_aload_n hx hb dX6_addRelay_57 rfl (lv_at hl 1 rfl) ?_
        refine g_get hx hb hts hi6 hown hK hG (mo_obj) rfl 6 (by decide) (hts (.fieldLink RX6 77 "SatelliteringModel" "relays" "I") (by decide +kernel)) rfl dX6_addRelay_58 ?_
        refine lv_to (y := nI 0) (hrl) ?_
        refine lv_bipush (v := nI 6) hx hb dX6_addRelay_61 (by decide) ?_
        refine lv_icmp_ge (tgt := 70) hx hb dX6_addRelay_63 (by decide) (fun c => absurd c (by decide)) (fun _ => ?_)
        refine lv_iconst (v := nI 1) hx hb dX6_addRelay_66 (by decide) ?_
        refine lv_goto (tgt := 71) hx hb dX6_addRelay_67 (by decide) ?_
        refine lv_iconst (v := nI 1) hx hb dX6_addRelay_71 (by decide) ?_
        refine va_calli (va_runV (As := [.int (nI 0), .int (nI 1), .int (nI 1)]) (rest := []) ⟨hx, hb, hml, hown, hts⟩ (m_goes1 l ) (cwV 3 hts gX6_addRelay_X6_goes rfl rfl rfl (by decide +kernel) ⟨Nat.le_of_ble_eq_true rfl, Nat.le_of_ble_eq_true rfl⟩) (m_preV hF hK2 hCA hG hS (mo_obj) rfl) rfl rfl hl.1 rfl (lv_room (Nat.le_of_ble_eq_true rfl)) dX6_addRelay_72 ⟨Nat.le_of_ble_eq_true rfl, Nat.le_of_ble_eq_true rfl⟩) hS (fun q _ h => h) (fun q h => h) (fun r_22 g_24 t9 H locs ht9 _ h_23 hB1 _ _ hS => ?_)
        have hG : g_P D (mo E C g_24 ad vw) ad B H := by rw [← ht9]; exact hB1
        obtain ⟨erg_24, eg_24⟩ := h_23
        refine lv_to (y := nI 0) (erg_24) ?_
        have f_25 : g_24 (60, 0, 0) 5 = nI 0 := by rw [eg_24, g2_self, upd_ne _ _ (by decide)]; exact hn
        have f_26 : g_24 (60, 0, 0) 6 = nI 0 := by rw [eg_24, g2_self, upd_ne _ _ (by decide)]; exact hrl
        have f_27 : g_24 (60, 0, 0) 14 = nI 0 := by rw [eg_24, g2_self, upd_ne _ _ (by decide)]; exact hm
        have f_28 : g_24 (60, 0, 0) 17 = nI 0 := by rw [eg_24, g2_self, upd_ne _ _ (by decide)]; exact hw
        have f_29 : ∀ j, g_24 (66, 0, 0) j = 0 := fun j => by rw [eg_24, g2_ne _ _ _ (by decide)]; exact hz j
        have f_30 : g_24 (60, 0, 0) 18 = nI 1 := by rw [eg_24, g2_self, upd_self]
        refine lv_if_ne (tgt := 80) hx hb dX6_addRelay_75 (by decide) (fun c => absurd (by decide) c) (fun _ => ?_)
        refine lv_iconst (v := nI 0) hx hb dX6_addRelay_78 (by decide) ?_
        exact W.iret (v := nI 0) hx hb hr (fun t9 ht9 hW9 => ⟨⟨_, g_24, rfl, Or.inr ⟨by simp only [Int32.le_iff_toInt_le, Int32.lt_iff_toInt_lt, t_z, t_m30, t_m1, t_0, t_1, t_4, t_6, t_9, t_20, t_30, t_179, t_359, t_360, t_1000000] at c_1 c_11 c_21 ⊢; omega, f_30⟩, by show g_P D _ _ B t9.heap; rw [ht9]; exact hG⟩, hS.F ht9⟩) hS.2.2 dX6_addRelay_79
      · refine lv_iload_n hx hb dX6_addRelay_17 rfl (lv_at hl 2 rfl) ?_
        refine lv_bipush (v := nI 30) hx hb dX6_addRelay_18 (by decide) ?_
        refine lv_icmp_gt (tgt := 51) hx hb dX6_addRelay_20 (by decide) (fun c_31 => ?_) (fun c_31 => ?_)
        · refine lv_iconst (v := nI 0) hx hb dX6_addRelay_51 (by decide) ?_
          refine lv_istore (lv' := [(5, .int (nI 0)), (0, .ref (ad (60, 0, 0))), (1, .int x), (2, .int y), (3, .int z), (4, .int v4)]) hx hb dX6_addRelay_52 hl (by decide) rfl (fun ls hl => ?_)
          refine lv_aload_n hx hb dX6_addRelay_54 rfl (lv_at hl 1 rfl) ?_
          refine lv_iload hx hb dX6_addRelay_55 (lv_at hl 0 rfl) ?_
          refine lv_aload_n hx hb dX6_addRelay_57 rfl (lv_at hl 1 rfl) ?_
          refine g_get hx hb hts hi6 hown hK hG (mo_obj) rfl 6 (by decide) (hts (.fieldLink RX6 77 "SatelliteringModel" "relays" "I") (by decide +kernel)) rfl dX6_addRelay_58 ?_
          refine lv_to (y := nI 0) (hrl) ?_
          refine lv_bipush (v := nI 6) hx hb dX6_addRelay_61 (by decide) ?_
          refine lv_icmp_ge (tgt := 70) hx hb dX6_addRelay_63 (by decide) (fun c => absurd c (by decide)) (fun _ => ?_)
          refine lv_iconst (v := nI 1) hx hb dX6_addRelay_66 (by decide) ?_
          refine lv_goto (tgt := 71) hx hb dX6_addRelay_67 (by decide) ?_
          refine lv_iconst (v := nI 1) hx hb dX6_addRelay_71 (by decide) ?_
          refine va_calli (va_runV (As := [.int (nI 0), .int (nI 1), .int (nI 1)]) (rest := []) ⟨hx, hb, hml, hown, hts⟩ (m_goes1 l ) (cwV 3 hts gX6_addRelay_X6_goes rfl rfl rfl (by decide +kernel) ⟨Nat.le_of_ble_eq_true rfl, Nat.le_of_ble_eq_true rfl⟩) (m_preV hF hK2 hCA hG hS (mo_obj) rfl) rfl rfl hl.1 rfl (lv_room (Nat.le_of_ble_eq_true rfl)) dX6_addRelay_72 ⟨Nat.le_of_ble_eq_true rfl, Nat.le_of_ble_eq_true rfl⟩) hS (fun q _ h => h) (fun q h => h) (fun r_32 g_34 t9 H locs ht9 _ h_33 hB1 _ _ hS => ?_)
          have hG : g_P D (mo E C g_34 ad vw) ad B H := by rw [← ht9]; exact hB1
          obtain ⟨erg_34, eg_34⟩ := h_33
          refine lv_to (y := nI 0) (erg_34) ?_
          have f_35 : g_34 (60, 0, 0) 5 = nI 0 := by rw [eg_34, g2_self, upd_ne _ _ (by decide)]; exact hn
          have f_36 : g_34 (60, 0, 0) 6 = nI 0 := by rw [eg_34, g2_self, upd_ne _ _ (by decide)]; exact hrl
          have f_37 : g_34 (60, 0, 0) 14 = nI 0 := by rw [eg_34, g2_self, upd_ne _ _ (by decide)]; exact hm
          have f_38 : g_34 (60, 0, 0) 17 = nI 0 := by rw [eg_34, g2_self, upd_ne _ _ (by decide)]; exact hw
          have f_39 : ∀ j, g_34 (66, 0, 0) j = 0 := fun j => by rw [eg_34, g2_ne _ _ _ (by decide)]; exact hz j
          have f_40 : g_34 (60, 0, 0) 18 = nI 1 := by rw [eg_34, g2_self, upd_self]
          refine lv_if_ne (tgt := 80) hx hb dX6_addRelay_75 (by decide) (fun c => absurd (by decide) c) (fun _ => ?_)
          refine lv_iconst (v := nI 0) hx hb dX6_addRelay_78 (by decide) ?_
          exact W.iret (v := nI 0) hx hb hr (fun t9 ht9 hW9 => ⟨⟨_, g_34, rfl, Or.inr ⟨by simp only [Int32.le_iff_toInt_le, Int32.lt_iff_toInt_lt, t_z, t_m30, t_m1, t_0, t_1, t_4, t_6, t_9, t_20, t_30, t_179, t_359, t_360, t_1000000] at c_1 c_11 c_21 c_31 ⊢; omega, f_40⟩, by show g_P D _ _ B t9.heap; rw [ht9]; exact hG⟩, hS.F ht9⟩) hS.2.2 dX6_addRelay_79
        · refine lv_iload_n hx hb dX6_addRelay_23 rfl (lv_at hl 3 rfl) ?_
          refine lv_if_lt (tgt := 51) hx hb dX6_addRelay_24 (by decide) (fun c_41 => ?_) (fun c_41 => ?_)
          · refine lv_iconst (v := nI 0) hx hb dX6_addRelay_51 (by decide) ?_
            refine lv_istore (lv' := [(5, .int (nI 0)), (0, .ref (ad (60, 0, 0))), (1, .int x), (2, .int y), (3, .int z), (4, .int v4)]) hx hb dX6_addRelay_52 hl (by decide) rfl (fun ls hl => ?_)
            refine lv_aload_n hx hb dX6_addRelay_54 rfl (lv_at hl 1 rfl) ?_
            refine lv_iload hx hb dX6_addRelay_55 (lv_at hl 0 rfl) ?_
            refine lv_aload_n hx hb dX6_addRelay_57 rfl (lv_at hl 1 rfl) ?_
            refine g_get hx hb hts hi6 hown hK hG (mo_obj) rfl 6 (by decide) (hts (.fieldLink RX6 77 "SatelliteringModel" "relays" "I") (by decide +kernel)) rfl dX6_addRelay_58 ?_
            refine lv_to (y := nI 0) (hrl) ?_
            refine lv_bipush (v := nI 6) hx hb dX6_addRelay_61 (by decide) ?_
            refine lv_icmp_ge (tgt := 70) hx hb dX6_addRelay_63 (by decide) (fun c => absurd c (by decide)) (fun _ => ?_)
            refine lv_iconst (v := nI 1) hx hb dX6_addRelay_66 (by decide) ?_
            refine lv_goto (tgt := 71) hx hb dX6_addRelay_67 (by decide) ?_
            refine lv_iconst (v := nI 1) hx hb dX6_addRelay_71 (by decide) ?_
            refine va_calli (va_runV (As := [.int (nI 0), .int (nI 1), .int (nI 1)]) (rest := []) ⟨hx, hb, hml, hown, hts⟩ (m_goes1 l ) (cwV 3 hts gX6_addRelay_X6_goes rfl rfl rfl (by decide +kernel) ⟨Nat.le_of_ble_eq_true rfl, Nat.le_of_ble_eq_true rfl⟩) (m_preV hF hK2 hCA hG hS (mo_obj) rfl) rfl rfl hl.1 rfl (lv_room (Nat.le_of_ble_eq_true rfl)) dX6_addRelay_72 ⟨Nat.le_of_ble_eq_true rfl, Nat.le_of_ble_eq_true rfl⟩) hS (fun q _ h => h) (fun q h => h) (fun r_42 g_44 t9 H locs ht9 _ h_43 hB1 _ _ hS => ?_)
            have hG : g_P D (mo E C g_44 ad vw) ad B H := by rw [← ht9]; exact hB1
            obtain ⟨erg_44, eg_44⟩ := h_43
            refine lv_to (y := nI 0) (erg_44) ?_
            have f_45 : g_44 (60, 0, 0) 5 = nI 0 := by rw [eg_44, g2_self, upd_ne _ _ (by decide)]; exact hn
            have f_46 : g_44 (60, 0, 0) 6 = nI 0 := by rw [eg_44, g2_self, upd_ne _ _ (by decide)]; exact hrl
            have f_47 : g_44 (60, 0, 0) 14 = nI 0 := by rw [eg_44, g2_self, upd_ne _ _ (by decide)]; exact hm
            have f_48 : g_44 (60, 0, 0) 17 = nI 0 := by rw [eg_44, g2_self, upd_ne _ _ (by decide)]; exact hw
            have f_49 : ∀ j, g_44 (66, 0, 0) j = 0 := fun j => by rw [eg_44, g2_ne _ _ _ (by decide)]; exact hz j
            have f_50 : g_44 (60, 0, 0) 18 = nI 1 := by rw [eg_44, g2_self, upd_self]
            refine lv_if_ne (tgt := 80) hx hb dX6_addRelay_75 (by decide) (fun c => absurd (by decide) c) (fun _ => ?_)
            refine lv_iconst (v := nI 0) hx hb dX6_addRelay_78 (by decide) ?_
            exact W.iret (v := nI 0) hx hb hr (fun t9 ht9 hW9 => ⟨⟨_, g_44, rfl, Or.inr ⟨by simp only [Int32.le_iff_toInt_le, Int32.lt_iff_toInt_lt, t_z, t_m30, t_m1, t_0, t_1, t_4, t_6, t_9, t_20, t_30, t_179, t_359, t_360, t_1000000] at c_1 c_11 c_21 c_31 c_41 ⊢; omega, f_50⟩, by show g_P D _ _ B t9.heap; rw [ht9]; exact hG⟩, hS.F ht9⟩) hS.2.2 dX6_addRelay_79
          · refine lv_iload_n hx hb dX6_addRelay_27 rfl (lv_at hl 3 rfl) ?_
            refine lv_sipush (v := nI 179) hx hb dX6_addRelay_28 (by decide) ?_
            refine lv_icmp_gt (tgt := 51) hx hb dX6_addRelay_31 (by decide) (fun c_51 => ?_) (fun c_51 => ?_)
            · refine lv_iconst (v := nI 0) hx hb dX6_addRelay_51 (by decide) ?_
              refine lv_istore (lv' := [(5, .int (nI 0)), (0, .ref (ad (60, 0, 0))), (1, .int x), (2, .int y), (3, .int z), (4, .int v4)]) hx hb dX6_addRelay_52 hl (by decide) rfl (fun ls hl => ?_)
              refine lv_aload_n hx hb dX6_addRelay_54 rfl (lv_at hl 1 rfl) ?_
              refine lv_iload hx hb dX6_addRelay_55 (lv_at hl 0 rfl) ?_
              refine lv_aload_n hx hb dX6_addRelay_57 rfl (lv_at hl 1 rfl) ?_
              refine g_get hx hb hts hi6 hown hK hG (mo_obj) rfl 6 (by decide) (hts (.fieldLink RX6 77 "SatelliteringModel" "relays" "I") (by decide +kernel)) rfl dX6_addRelay_58 ?_
              refine lv_to (y := nI 0) (hrl) ?_
              refine lv_bipush (v := nI 6) hx hb dX6_addRelay_61 (by decide) ?_
              refine lv_icmp_ge (tgt := 70) hx hb dX6_addRelay_63 (by decide) (fun c => absurd c (by decide)) (fun _ => ?_)
              refine lv_iconst (v := nI 1) hx hb dX6_addRelay_66 (by decide) ?_
              refine lv_goto (tgt := 71) hx hb dX6_addRelay_67 (by decide) ?_
              refine lv_iconst (v := nI 1) hx hb dX6_addRelay_71 (by decide) ?_
              refine va_calli (va_runV (As := [.int (nI 0), .int (nI 1), .int (nI 1)]) (rest := []) ⟨hx, hb, hml, hown, hts⟩ (m_goes1 l ) (cwV 3 hts gX6_addRelay_X6_goes rfl rfl rfl (by decide +kernel) ⟨Nat.le_of_ble_eq_true rfl, Nat.le_of_ble_eq_true rfl⟩) (m_preV hF hK2 hCA hG hS (mo_obj) rfl) rfl rfl hl.1 rfl (lv_room (Nat.le_of_ble_eq_true rfl)) dX6_addRelay_72 ⟨Nat.le_of_ble_eq_true rfl, Nat.le_of_ble_eq_true rfl⟩) hS (fun q _ h => h) (fun q h => h) (fun r_52 g_54 t9 H locs ht9 _ h_53 hB1 _ _ hS => ?_)
              have hG : g_P D (mo E C g_54 ad vw) ad B H := by rw [← ht9]; exact hB1
              obtain ⟨erg_54, eg_54⟩ := h_53
              refine lv_to (y := nI 0) (erg_54) ?_
              have f_55 : g_54 (60, 0, 0) 5 = nI 0 := by rw [eg_54, g2_self, upd_ne _ _ (by decide)]; exact hn
              have f_56 : g_54 (60, 0, 0) 6 = nI 0 := by rw [eg_54, g2_self, upd_ne _ _ (by decide)]; exact hrl
              have f_57 : g_54 (60, 0, 0) 14 = nI 0 := by rw [eg_54, g2_self, upd_ne _ _ (by decide)]; exact hm
              have f_58 : g_54 (60, 0, 0) 17 = nI 0 := by rw [eg_54, g2_self, upd_ne _ _ (by decide)]; exact hw
              have f_59 : ∀ j, g_54 (66, 0, 0) j = 0 := fun j => by rw [eg_54, g2_ne _ _ _ (by decide)]; exact hz j
              have f_60 : g_54 (60, 0, 0) 18 = nI 1 := by rw [eg_54, g2_self, upd_self]
              refine lv_if_ne (tgt := 80) hx hb dX6_addRelay_75 (by decide) (fun c => absurd (by decide) c) (fun _ => ?_)
              refine lv_iconst (v := nI 0) hx hb dX6_addRelay_78 (by decide) ?_
              exact W.iret (v := nI 0) hx hb hr (fun t9 ht9 hW9 => ⟨⟨_, g_54, rfl, Or.inr ⟨by simp only [Int32.le_iff_toInt_le, Int32.lt_iff_toInt_lt, t_z, t_m30, t_m1, t_0, t_1, t_4, t_6, t_9, t_20, t_30, t_179, t_359, t_360, t_1000000] at c_1 c_11 c_21 c_31 c_41 c_51 ⊢; omega, f_60⟩, by show g_P D _ _ B t9.heap; rw [ht9]; exact hG⟩, hS.F ht9⟩) hS.2.2 dX6_addRelay_79
            · refine lv_iload hx hb dX6_addRelay_34 (lv_at hl 4 rfl) ?_
              refine lv_iconst (v := nI 1) hx hb dX6_addRelay_36 (by decide) ?_
              refine lv_icmp_lt (tgt := 51) hx hb dX6_addRelay_37 (by decide) (fun c_61 => ?_) (fun c_61 => ?_)
              · refine lv_iconst (v := nI 0) hx hb dX6_addRelay_51 (by decide) ?_
                refine lv_istore (lv' := [(5, .int (nI 0)), (0, .ref (ad (60, 0, 0))), (1, .int x), (2, .int y), (3, .int z), (4, .int v4)]) hx hb dX6_addRelay_52 hl (by decide) rfl (fun ls hl => ?_)
                refine lv_aload_n hx hb dX6_addRelay_54 rfl (lv_at hl 1 rfl) ?_
                refine lv_iload hx hb dX6_addRelay_55 (lv_at hl 0 rfl) ?_
                refine lv_aload_n hx hb dX6_addRelay_57 rfl (lv_at hl 1 rfl) ?_
                refine g_get hx hb hts hi6 hown hK hG (mo_obj) rfl 6 (by decide) (hts (.fieldLink RX6 77 "SatelliteringModel" "relays" "I") (by decide +kernel)) rfl dX6_addRelay_58 ?_
                refine lv_to (y := nI 0) (hrl) ?_
                refine lv_bipush (v := nI 6) hx hb dX6_addRelay_61 (by decide) ?_
                refine lv_icmp_ge (tgt := 70) hx hb dX6_addRelay_63 (by decide) (fun c => absurd c (by decide)) (fun _ => ?_)
                refine lv_iconst (v := nI 1) hx hb dX6_addRelay_66 (by decide) ?_
                refine lv_goto (tgt := 71) hx hb dX6_addRelay_67 (by decide) ?_
                refine lv_iconst (v := nI 1) hx hb dX6_addRelay_71 (by decide) ?_
                refine va_calli (va_runV (As := [.int (nI 0), .int (nI 1), .int (nI 1)]) (rest := []) ⟨hx, hb, hml, hown, hts⟩ (m_goes1 l ) (cwV 3 hts gX6_addRelay_X6_goes rfl rfl rfl (by decide +kernel) ⟨Nat.le_of_ble_eq_true rfl, Nat.le_of_ble_eq_true rfl⟩) (m_preV hF hK2 hCA hG hS (mo_obj) rfl) rfl rfl hl.1 rfl (lv_room (Nat.le_of_ble_eq_true rfl)) dX6_addRelay_72 ⟨Nat.le_of_ble_eq_true rfl, Nat.le_of_ble_eq_true rfl⟩) hS (fun q _ h => h) (fun q h => h) (fun r_62 g_64 t9 H locs ht9 _ h_63 hB1 _ _ hS => ?_)
                have hG : g_P D (mo E C g_64 ad vw) ad B H := by rw [← ht9]; exact hB1
                obtain ⟨erg_64, eg_64⟩ := h_63
                refine lv_to (y := nI 0) (erg_64) ?_
                have f_65 : g_64 (60, 0, 0) 5 = nI 0 := by rw [eg_64, g2_self, upd_ne _ _ (by decide)]; exact hn
                have f_66 : g_64 (60, 0, 0) 6 = nI 0 := by rw [eg_64, g2_self, upd_ne _ _ (by decide)]; exact hrl
                have f_67 : g_64 (60, 0, 0) 14 = nI 0 := by rw [eg_64, g2_self, upd_ne _ _ (by decide)]; exact hm
                have f_68 : g_64 (60, 0, 0) 17 = nI 0 := by rw [eg_64, g2_self, upd_ne _ _ (by decide)]; exact hw
                have f_69 : ∀ j, g_64 (66, 0, 0) j = 0 := fun j => by rw [eg_64, g2_ne _ _ _ (by decide)]; exact hz j
                have f_70 : g_64 (60, 0, 0) 18 = nI 1 := by rw [eg_64, g2_self, upd_self]
                refine lv_if_ne (tgt := 80) hx hb dX6_addRelay_75 (by decide) (fun c => absurd (by decide) c) (fun _ => ?_)
                refine lv_iconst (v := nI 0) hx hb dX6_addRelay_78 (by decide) ?_
                exact W.iret (v := nI 0) hx hb hr (fun t9 ht9 hW9 => ⟨⟨_, g_64, rfl, Or.inr ⟨by simp only [Int32.le_iff_toInt_le, Int32.lt_iff_toInt_lt, t_z, t_m30, t_m1, t_0, t_1, t_4, t_6, t_9, t_20, t_30, t_179, t_359, t_360, t_1000000] at c_1 c_11 c_21 c_31 c_41 c_51 c_61 ⊢; omega, f_70⟩, by show g_P D _ _ B t9.heap; rw [ht9]; exact hG⟩, hS.F ht9⟩) hS.2.2 dX6_addRelay_79
              · refine lv_iload hx hb dX6_addRelay_40 (lv_at hl 4 rfl) ?_
                refine lv_bipush (v := nI 9) hx hb dX6_addRelay_42 (by decide) ?_
                refine lv_icmp_gt (tgt := 51) hx hb dX6_addRelay_44 (by decide) (fun c_71 => ?_) (fun c_71 => ?_)
                · refine lv_iconst (v := nI 0) hx hb dX6_addRelay_51 (by decide) ?_
                  refine lv_istore (lv' := [(5, .int (nI 0)), (0, .ref (ad (60, 0, 0))), (1, .int x), (2, .int y), (3, .int z), (4, .int v4)]) hx hb dX6_addRelay_52 hl (by decide) rfl (fun ls hl => ?_)
                  refine lv_aload_n hx hb dX6_addRelay_54 rfl (lv_at hl 1 rfl) ?_
                  refine lv_iload hx hb dX6_addRelay_55 (lv_at hl 0 rfl) ?_
                  refine lv_aload_n hx hb dX6_addRelay_57 rfl (lv_at hl 1 rfl) ?_
                  refine g_get hx hb hts hi6 hown hK hG (mo_obj) rfl 6 (by decide) (hts (.fieldLink RX6 77 "SatelliteringModel" "relays" "I") (by decide +kernel)) rfl dX6_addRelay_58 ?_
                  refine lv_to (y := nI 0) (hrl) ?_
                  refine lv_bipush (v := nI 6) hx hb dX6_addRelay_61 (by decide) ?_
                  refine lv_icmp_ge (tgt := 70) hx hb dX6_addRelay_63 (by decide) (fun c => absurd c (by decide)) (fun _ => ?_)
                  refine lv_iconst (v := nI 1) hx hb dX6_addRelay_66 (by decide) ?_
                  refine lv_goto (tgt := 71) hx hb dX6_addRelay_67 (by decide) ?_
                  refine lv_iconst (v := nI 1) hx hb dX6_addRelay_71 (by decide) ?_
                  refine va_calli (va_runV (As := [.int (nI 0), .int (nI 1), .int (nI 1)]) (rest := []) ⟨hx, hb, hml, hown, hts⟩ (m_goes1 l ) (cwV 3 hts gX6_addRelay_X6_goes rfl rfl rfl (by decide +kernel) ⟨Nat.le_of_ble_eq_true rfl, Nat.le_of_ble_eq_true rfl⟩) (m_preV hF hK2 hCA hG hS (mo_obj) rfl) rfl rfl hl.1 rfl (lv_room (Nat.le_of_ble_eq_true rfl)) dX6_addRelay_72 ⟨Nat.le_of_ble_eq_true rfl, Nat.le_of_ble_eq_true rfl⟩) hS (fun q _ h => h) (fun q h => h) (fun r_72 g_74 t9 H locs ht9 _ h_73 hB1 _ _ hS => ?_)
                  have hG : g_P D (mo E C g_74 ad vw) ad B H := by rw [← ht9]; exact hB1
                  obtain ⟨erg_74, eg_74⟩ := h_73
                  refine lv_to (y := nI 0) (erg_74) ?_
                  have f_75 : g_74 (60, 0, 0) 5 = nI 0 := by rw [eg_74, g2_self, upd_ne _ _ (by decide)]; exact hn
                  have f_76 : g_74 (60, 0, 0) 6 = nI 0 := by rw [eg_74, g2_self, upd_ne _ _ (by decide)]; exact hrl
                  have f_77 : g_74 (60, 0, 0) 14 = nI 0 := by rw [eg_74, g2_self, upd_ne _ _ (by decide)]; exact hm
                  have f_78 : g_74 (60, 0, 0) 17 = nI 0 := by rw [eg_74, g2_self, upd_ne _ _ (by decide)]; exact hw
                  have f_79 : ∀ j, g_74 (66, 0, 0) j = 0 := fun j => by rw [eg_74, g2_ne _ _ _ (by decide)]; exact hz j
                  have f_80 : g_74 (60, 0, 0) 18 = nI 1 := by rw [eg_74, g2_self, upd_self]
                  refine lv_if_ne (tgt := 80) hx hb dX6_addRelay_75 (by decide) (fun c => absurd (by decide) c) (fun _ => ?_)
                  refine lv_iconst (v := nI 0) hx hb dX6_addRelay_78 (by decide) ?_
                  exact W.iret (v := nI 0) hx hb hr (fun t9 ht9 hW9 => ⟨⟨_, g_74, rfl, Or.inr ⟨by simp only [Int32.le_iff_toInt_le, Int32.lt_iff_toInt_lt, t_z, t_m30, t_m1, t_0, t_1, t_4, t_6, t_9, t_20, t_30, t_179, t_359, t_360, t_1000000] at c_1 c_11 c_21 c_31 c_41 c_51 c_61 c_71 ⊢; omega, f_80⟩, by show g_P D _ _ B t9.heap; rw [ht9]; exact hG⟩, hS.F ht9⟩) hS.2.2 dX6_addRelay_79
                · refine lv_iconst (v := nI 1) hx hb dX6_addRelay_47 (by decide) ?_
                  refine lv_goto (tgt := 52) hx hb dX6_addRelay_48 (by decide) ?_
                  refine lv_istore (lv' := [(5, .int (nI 1)), (0, .ref (ad (60, 0, 0))), (1, .int x), (2, .int y), (3, .int z), (4, .int v4)]) hx hb dX6_addRelay_52 hl (by decide) rfl (fun ls hl => ?_)
                  refine lv_aload_n hx hb dX6_addRelay_54 rfl (lv_at hl 1 rfl) ?_
                  refine lv_iload hx hb dX6_addRelay_55 (lv_at hl 0 rfl) ?_
                  refine lv_aload_n hx hb dX6_addRelay_57 rfl (lv_at hl 1 rfl) ?_
                  refine g_get hx hb hts hi6 hown hK hG (mo_obj) rfl 6 (by decide) (hts (.fieldLink RX6 77 "SatelliteringModel" "relays" "I") (by decide +kernel)) rfl dX6_addRelay_58 ?_
                  refine lv_to (y := nI 0) (hrl) ?_
                  refine lv_bipush (v := nI 6) hx hb dX6_addRelay_61 (by decide) ?_
                  refine lv_icmp_ge (tgt := 70) hx hb dX6_addRelay_63 (by decide) (fun c => absurd c (by decide)) (fun _ => ?_)
                  refine lv_iconst (v := nI 1) hx hb dX6_addRelay_66 (by decide) ?_
                  refine lv_goto (tgt := 71) hx hb dX6_addRelay_67 (by decide) ?_
                  refine lv_iconst (v := nI 1) hx hb dX6_addRelay_71 (by decide) ?_
                  refine va_calli (va_runV (As := [.int (nI 1), .int (nI 1), .int (nI 1)]) (rest := []) ⟨hx, hb, hml, hown, hts⟩ (m_goes0 l ) (cwV 3 hts gX6_addRelay_X6_goes rfl rfl rfl (by decide +kernel) ⟨Nat.le_of_ble_eq_true rfl, Nat.le_of_ble_eq_true rfl⟩) (m_preV hF hK2 hCA hG hS (mo_obj) rfl) rfl rfl hl.1 rfl (lv_room (Nat.le_of_ble_eq_true rfl)) dX6_addRelay_72 ⟨Nat.le_of_ble_eq_true rfl, Nat.le_of_ble_eq_true rfl⟩) hS (fun q _ h => h) (fun q h => h) (fun r_81 g_83 t9 H locs ht9 _ h_82 hB1 _ _ hS => ?_)
                  have hG : g_P D (mo E C g_83 ad vw) ad B H := by rw [← ht9]; exact hB1
                  obtain ⟨erg_83, eg_83⟩ := h_82
                  refine lv_to (y := nI 1) (erg_83) ?_
                  have f_84 : g_83 (60, 0, 0) 5 = nI 0 := by rw [eg_83, g2_self, upd_ne _ _ (by decide)]; exact hn
                  have f_85 : g_83 (60, 0, 0) 6 = nI 0 := by rw [eg_83, g2_self, upd_ne _ _ (by decide)]; exact hrl
                  have f_86 : g_83 (60, 0, 0) 14 = nI 0 := by rw [eg_83, g2_self, upd_ne _ _ (by decide)]; exact hm
                  have f_87 : g_83 (60, 0, 0) 17 = nI 0 := by rw [eg_83, g2_self, upd_ne _ _ (by decide)]; exact hw
                  have f_88 : ∀ j, g_83 (66, 0, 0) j = 0 := fun j => by rw [eg_83, g2_ne _ _ _ (by decide)]; exact hz j
                  have f_89 : g_83 (60, 0, 0) 18 = nI 0 := by rw [eg_83, g2_self, upd_self]
                  refine lv_if_ne (tgt := 80) hx hb dX6_addRelay_75 (by decide) (fun _ => ?_) (fun c => absurd c (by decide))
                  refine lv_aload_n hx hb dX6_addRelay_80 rfl (lv_at hl 1 rfl) ?_
                  refine lv_dup hx hb dX6_addRelay_81 rfl ?_
                  refine g_get hx hb hts hi6 hown hK hG (mo_obj) rfl 6 (by decide) (hts (.fieldLink RX6 77 "SatelliteringModel" "relays" "I") (by decide +kernel)) rfl dX6_addRelay_82 ?_
                  refine lv_to (y := nI 0) (f_85) ?_
                  refine lv_iconst (v := nI 1) hx hb dX6_addRelay_85 (by decide) ?_
                  refine lv_iadd hx hb dX6_addRelay_86 ?_
                  refine lv_to (y := nI (0 + 1)) (nI_add 0 1) ?_
                  refine q_put hx hb hts hi6 hown hK hG hS 6 (by decide) rfl rfl (hts (.fieldLink RX6 77 "SatelliteringModel" "relays" "I") (by decide +kernel)) (by simp [upd]) dX6_addRelay_87 (fun H locs hG hS => ?_)
                  obtain ⟨h_90, eh_90⟩ : ∃ z9, z9 = g2 g_83 (60, 0, 0) 6 (nI (0 + 1)) := ⟨_, rfl⟩
                  rw [← eh_90] at hG
                  have f_91 : h_90 (60, 0, 0) 5 = nI 0 := by rw [eh_90, g2_self, upd_ne _ _ (by decide)]; exact f_84
                  have f_92 : h_90 (60, 0, 0) 6 = nI (0 + 1) := by rw [eh_90, g2_self, upd_self]
                  have f_93 : h_90 (60, 0, 0) 14 = nI 0 := by rw [eh_90, g2_self, upd_ne _ _ (by decide)]; exact f_86
                  have f_94 : h_90 (60, 0, 0) 17 = nI 0 := by rw [eh_90, g2_self, upd_ne _ _ (by decide)]; exact f_87
                  have f_95 : ∀ j, h_90 (66, 0, 0) j = 0 := fun j => by rw [eh_90, g2_ne _ _ _ (by decide)]; exact f_88 j
                  have f_96 : h_90 (60, 0, 0) 18 = nI 0 := by rw [eh_90, g2_self, upd_ne _ _ (by decide)]; exact f_89
                  refine lv_aload_n hx hb dX6_addRelay_90 rfl (lv_at hl 1 rfl) ?_
                  refine lv_iload_n hx hb dX6_addRelay_91 rfl (lv_at hl 2 rfl) ?_
                  refine lv_iload_n hx hb dX6_addRelay_92 rfl (lv_at hl 3 rfl) ?_
                  refine lv_iload_n hx hb dX6_addRelay_93 rfl (lv_at hl 4 rfl) ?_
                  refine lv_iload hx hb dX6_addRelay_94 (lv_at hl 5 rfl) ?_
                  refine lv_iconst (v := nI 1) hx hb dX6_addRelay_96 (by decide) ?_
                  refine va_calli (va_runV (As := [.int x, .int y, .int z, .int v4, .int (nI 1)]) (rest := []) ⟨hx, hb, hml, hown, hts⟩ (m_adds l f_91) (cwV 5 hts gX6_addRelay_X6_adds rfl rfl rfl (by decide +kernel) ⟨Nat.le_of_ble_eq_true rfl, Nat.le_of_ble_eq_true rfl⟩) (m_preV hF hK2 hCA hG hS (mo_obj) rfl) rfl rfl hl.1 rfl (lv_room (Nat.le_of_ble_eq_true rfl)) dX6_addRelay_97 ⟨Nat.le_of_ble_eq_true rfl, Nat.le_of_ble_eq_true rfl⟩) hS (fun q _ h => h) (fun q h => h) (fun r_97 g_99 t9 H locs ht9 _ h_98 hB1 _ _ hS => ?_)
                  have hG : g_P D (mo E C g_99 ad vw) ad B H := by rw [← ht9]; exact hB1
                  obtain ⟨ea1, ea2, ea3, ea4, ea5⟩ := h_98
                  refine lv_to (y := nI 0) (ea1) ?_
                  have f_100 : g_99 (60, 0, 0) 6 = nI (0 + 1) := (ea3 6 (by decide)).trans f_92
                  have f_101 : g_99 (60, 0, 0) 14 = nI 0 := (ea3 14 (by decide)).trans f_93
                  have f_102 : g_99 (60, 0, 0) 17 = nI 0 := (ea3 17 (by decide)).trans f_94
                  have f_103 : ∀ j, g_99 (66, 0, 0) j = 0 := fun j => by rw [ea4]; exact f_95 j
                  have f_104 : g_99 (60, 0, 0) 18 = nI 0 := (ea3 18 (by decide)).trans f_96
                  exact W.iret (v := nI 0) hx hb hr (fun t9 ht9 hW9 => ⟨⟨_, g_99, rfl, Or.inl ⟨by simp only [Int32.le_iff_toInt_le, Int32.lt_iff_toInt_lt, t_z, t_m30, t_m1, t_0, t_1, t_4, t_6, t_9, t_20, t_30, t_179, t_359, t_360, t_1000000] at c_1 c_11 c_21 c_31 c_41 c_51 c_61 c_71 ⊢; omega, rfl, f_104⟩, by show g_P D _ _ B t9.heap; rw [ht9]; exact hG⟩, hS.F ht9⟩) hS.2.2 dX6_addRelay_100

set_option maxHeartbeats 4000000 in
set_option maxRecDepth 100000 in
theorem m_pass (l : Launch) {D : va_G} {C : g_C} {E : m_C} {h : g_k → Nat → Int32} {ad : g_k → Nat} {vw : g_k → Option va_E} {B : Nat} (h0 : ∀ c j, h c j = 0) {x : Int32} : Met l yX6_pass wsX6_pass ({ frames := 1, cells := 0, slots := 0, locals := 23 } : Room) (va_Pc [.ref (ad (60, 0, 0)), .int x] (m_S D C E (mo E C h ad vw) ad B)) (va_Qi (fun (r : Int32) (h1 : g_k → Nat → Int32) => ((nI 1 ≤ x ∧ x ≤ nI 30) ∧ r = nI 0 ∧ h1 (60, 0, 0) 18 = nI 0) ∨ (¬ (nI 1 ≤ x ∧ x ≤ nI 30) ∧ h1 (60, 0, 0) 18 = nI 1)) (fun h1 t => g_P D (mo E C h1 ad vw) ad B t.heap) (g_A B)) 0 0 (g_A B) := by
  refine Met.ofW (cc := cX6_pass) (maxL := 6) (ret := (some .int)) (by decide) rfl ?_
  intro p e s m args below meth c s₁ B₀ hml hv
  obtain ⟨rfl, ⟨hG, hF⟩, hK2, hCA⟩ := hv
  have hK := hF.1
  have hN := hF.2.1
  have hB := hF.2.2.2
  have hx := B₀.exec
  have hb := B₀.bytes
  have hr := B₀.returns
  have hts := atoms_spec (ws := wsX6_pass) B₀.pre
  have hown : s.vm.findClass RX6 = some m.cls := findClass_of_methodNamed B₀.named
  have hlocks := B₀.notSynchronized
  have hS : va_S (g_A B) s.heap s.heap [] := va_S.rf
  have hi6 : ∀ w ∈ wsX60, w ∈ wsX6_pass := by decide +kernel
  have hl := lv_entry [.ref (ad (60, 0, 0)), .int x] (n := 6) (Nat.le_of_ble_eq_true rfl)
  rw [lg_entry_eq]
  generalize (lg_sl [.ref (ad (60, 0, 0)), .int x] ++ List.replicate (6 - (lg_sl [.ref (ad (60, 0, 0)), .int x]).length) Slot.unset).toArray = ls at hl ⊢
  have hl : lv_has ls 6 [(0, .ref (ad (60, 0, 0))), (1, .int x)] := hl
  have hn : h (60, 0, 0) 5 = nI 0 := (h0 _ _).trans nI_0.symm
  have hrl : h (60, 0, 0) 6 = nI 0 := (h0 _ _).trans nI_0.symm
  have hm : h (60, 0, 0) 14 = nI 0 := (h0 _ _).trans nI_0.symm
  have hw : h (60, 0, 0) 17 = nI 0 := (h0 _ _).trans nI_0.symm
  have hz : ∀ j, h (66, 0, 0) j = 0 := fun j => h0 _ j
  refine lv_iload_n hx hb dX6_pass_0 rfl (lv_at hl 1 rfl) ?_
  refine lv_iconst (v := nI 1) hx hb dX6_pass_1 (by decide) ?_
  refine lv_icmp_lt (tgt := 15) hx hb dX6_pass_2 (by decide) (fun c_1 => ?_) (fun c_1 => ?_)
  · refine lv_iconst (v := nI 0) hx hb dX6_pass_15 (by decide) ?_
    refine lv_istore_n (lv' := [(2, .int (nI 0)), (0, .ref (ad (60, 0, 0))), (1, .int x)]) hx hb dX6_pass_16 rfl hl (by decide) rfl (fun ls hl => ?_)
    refine lv_aload_n hx hb dX6_pass_17 rfl (lv_at hl 1 rfl) ?_
    refine lv_iload_n hx hb dX6_pass_18 rfl (lv_at hl 0 rfl) ?_
    refine lv_iload_n hx hb dX6_pass_19 rfl (lv_at hl 0 rfl) ?_
    refine lv_if_eq (tgt := 38) hx hb dX6_pass_20 (by decide) (fun _ => ?_) (fun c => absurd (by decide) c)
    refine lv_iconst (v := nI 0) hx hb dX6_pass_38 (by decide) ?_
    refine lv_iconst (v := nI 1) hx hb dX6_pass_39 (by decide) ?_
    refine va_calli (va_runV (As := [.int (nI 0), .int (nI 0), .int (nI 1)]) (rest := []) ⟨hx, hb, hml, hown, hts⟩ (m_goes1 l ) (cwV 3 hts gX6_pass_X6_goes rfl rfl rfl (by decide +kernel) ⟨Nat.le_of_ble_eq_true rfl, Nat.le_of_ble_eq_true rfl⟩) (m_preV hF hK2 hCA hG hS (mo_obj) rfl) rfl rfl hl.1 rfl (lv_room (Nat.le_of_ble_eq_true rfl)) dX6_pass_40 ⟨Nat.le_of_ble_eq_true rfl, Nat.le_of_ble_eq_true rfl⟩) hS (fun q _ h => h) (fun q h => h) (fun r_2 g_4 t9 H locs ht9 _ h_3 hB1 _ _ hS => ?_)
    have hG : g_P D (mo E C g_4 ad vw) ad B H := by rw [← ht9]; exact hB1
    obtain ⟨erg_4, eg_4⟩ := h_3
    refine lv_to (y := nI 0) (erg_4) ?_
    have f_5 : g_4 (60, 0, 0) 5 = nI 0 := by rw [eg_4, g2_self, upd_ne _ _ (by decide)]; exact hn
    have f_6 : g_4 (60, 0, 0) 6 = nI 0 := by rw [eg_4, g2_self, upd_ne _ _ (by decide)]; exact hrl
    have f_7 : g_4 (60, 0, 0) 14 = nI 0 := by rw [eg_4, g2_self, upd_ne _ _ (by decide)]; exact hm
    have f_8 : g_4 (60, 0, 0) 17 = nI 0 := by rw [eg_4, g2_self, upd_ne _ _ (by decide)]; exact hw
    have f_9 : ∀ j, g_4 (66, 0, 0) j = 0 := fun j => by rw [eg_4, g2_ne _ _ _ (by decide)]; exact hz j
    have f_10 : g_4 (60, 0, 0) 18 = nI 1 := by rw [eg_4, g2_self, upd_self]
    refine lv_if_ne (tgt := 48) hx hb dX6_pass_43 (by decide) (fun c => absurd (by decide) c) (fun _ => ?_)
    refine lv_iconst (v := nI 0) hx hb dX6_pass_46 (by decide) ?_
    exact W.iret (v := nI 0) hx hb hr (fun t9 ht9 hW9 => ⟨⟨_, g_4, rfl, Or.inr ⟨by simp only [Int32.le_iff_toInt_le, Int32.lt_iff_toInt_lt, t_z, t_m30, t_m1, t_0, t_1, t_4, t_6, t_9, t_20, t_30, t_179, t_359, t_360, t_1000000] at c_1 ⊢; omega, f_10⟩, by show g_P D _ _ B t9.heap; rw [ht9]; exact hG⟩, hS.F ht9⟩) hS.2.2 dX6_pass_47
  · refine lv_iload_n hx hb dX6_pass_5 rfl (lv_at hl 1 rfl) ?_
    refine lv_bipush (v := nI 30) hx hb dX6_pass_6 (by decide) ?_
    refine lv_icmp_gt (tgt := 15) hx hb dX6_pass_8 (by decide) (fun c_11 => ?_) (fun c_11 => ?_)
    · refine lv_iconst (v := nI 0) hx hb dX6_pass_15 (by decide) ?_
      refine lv_istore_n (lv' := [(2, .int (nI 0)), (0, .ref (ad (60, 0, 0))), (1, .int x)]) hx hb dX6_pass_16 rfl hl (by decide) rfl (fun ls hl => ?_)
      refine lv_aload_n hx hb dX6_pass_17 rfl (lv_at hl 1 rfl) ?_
      refine lv_iload_n hx hb dX6_pass_18 rfl (lv_at hl 0 rfl) ?_
      refine lv_iload_n hx hb dX6_pass_19 rfl (lv_at hl 0 rfl) ?_
      refine lv_if_eq (tgt := 38) hx hb dX6_pass_20 (by decide) (fun _ => ?_) (fun c => absurd (by decide) c)
      refine lv_iconst (v := nI 0) hx hb dX6_pass_38 (by decide) ?_
      refine lv_iconst (v := nI 1) hx hb dX6_pass_39 (by decide) ?_
      refine va_calli (va_runV (As := [.int (nI 0), .int (nI 0), .int (nI 1)]) (rest := []) ⟨hx, hb, hml, hown, hts⟩ (m_goes1 l ) (cwV 3 hts gX6_pass_X6_goes rfl rfl rfl (by decide +kernel) ⟨Nat.le_of_ble_eq_true rfl, Nat.le_of_ble_eq_true rfl⟩) (m_preV hF hK2 hCA hG hS (mo_obj) rfl) rfl rfl hl.1 rfl (lv_room (Nat.le_of_ble_eq_true rfl)) dX6_pass_40 ⟨Nat.le_of_ble_eq_true rfl, Nat.le_of_ble_eq_true rfl⟩) hS (fun q _ h => h) (fun q h => h) (fun r_12 g_14 t9 H locs ht9 _ h_13 hB1 _ _ hS => ?_)
      have hG : g_P D (mo E C g_14 ad vw) ad B H := by rw [← ht9]; exact hB1
      obtain ⟨erg_14, eg_14⟩ := h_13
      refine lv_to (y := nI 0) (erg_14) ?_
      have f_15 : g_14 (60, 0, 0) 5 = nI 0 := by rw [eg_14, g2_self, upd_ne _ _ (by decide)]; exact hn
      have f_16 : g_14 (60, 0, 0) 6 = nI 0 := by rw [eg_14, g2_self, upd_ne _ _ (by decide)]; exact hrl
      have f_17 : g_14 (60, 0, 0) 14 = nI 0 := by rw [eg_14, g2_self, upd_ne _ _ (by decide)]; exact hm
      have f_18 : g_14 (60, 0, 0) 17 = nI 0 := by rw [eg_14, g2_self, upd_ne _ _ (by decide)]; exact hw
      have f_19 : ∀ j, g_14 (66, 0, 0) j = 0 := fun j => by rw [eg_14, g2_ne _ _ _ (by decide)]; exact hz j
      have f_20 : g_14 (60, 0, 0) 18 = nI 1 := by rw [eg_14, g2_self, upd_self]
      refine lv_if_ne (tgt := 48) hx hb dX6_pass_43 (by decide) (fun c => absurd (by decide) c) (fun _ => ?_)
      refine lv_iconst (v := nI 0) hx hb dX6_pass_46 (by decide) ?_
      exact W.iret (v := nI 0) hx hb hr (fun t9 ht9 hW9 => ⟨⟨_, g_14, rfl, Or.inr ⟨by simp only [Int32.le_iff_toInt_le, Int32.lt_iff_toInt_lt, t_z, t_m30, t_m1, t_0, t_1, t_4, t_6, t_9, t_20, t_30, t_179, t_359, t_360, t_1000000] at c_1 c_11 ⊢; omega, f_20⟩, by show g_P D _ _ B t9.heap; rw [ht9]; exact hG⟩, hS.F ht9⟩) hS.2.2 dX6_pass_47
    · refine lv_iconst (v := nI 1) hx hb dX6_pass_11 (by decide) ?_
      refine lv_goto (tgt := 16) hx hb dX6_pass_12 (by decide) ?_
      refine lv_istore_n (lv' := [(2, .int (nI 1)), (0, .ref (ad (60, 0, 0))), (1, .int x)]) hx hb dX6_pass_16 rfl hl (by decide) rfl (fun ls hl => ?_)
      refine lv_aload_n hx hb dX6_pass_17 rfl (lv_at hl 1 rfl) ?_
      refine lv_iload_n hx hb dX6_pass_18 rfl (lv_at hl 0 rfl) ?_
      refine lv_iload_n hx hb dX6_pass_19 rfl (lv_at hl 0 rfl) ?_
      refine lv_if_eq (tgt := 38) hx hb dX6_pass_20 (by decide) (fun c => absurd c (by decide)) (fun _ => ?_)
      refine lv_aload_n hx hb dX6_pass_23 rfl (lv_at hl 1 rfl) ?_
      refine g_get hx hb hts hi6 hown hK hG (mo_obj) rfl 17 (by decide) (hts (.fieldLink RX6 118 "SatelliteringModel" "now" "I") (by decide +kernel)) rfl dX6_pass_24 ?_
      refine lv_to (y := nI 0) (hw) ?_
      refine lv_iload_n hx hb dX6_pass_27 rfl (lv_at hl 2 rfl) ?_
      refine lv_iadd hx hb dX6_pass_28 ?_
      refine lv_ldc (v := 1000000) hx hb hown (hts (.constant RX6 65 (1000000)) (by decide +kernel)) dX6_pass_29 ?_
      refine lv_to (y := nI 1000000) (by decide) ?_
      have hsum : (nI 0) + x = x := by first | rw [nI_0, Int32.zero_add] | simp [nI_0]
      refine W.eq (g2 := F0 m 31 ls [.int (nI 1000000), .int x, .int (nI 1), .ref (ad (60, 0, 0))]) (by rw [hsum]) ?_
      refine lv_icmp_gt (tgt := 38) hx hb dX6_pass_31 (by decide) (fun c_21 => ?_) (fun c_21 => ?_)
      · refine lv_iconst (v := nI 0) hx hb dX6_pass_38 (by decide) ?_
        refine lv_iconst (v := nI 1) hx hb dX6_pass_39 (by decide) ?_
        exact absurd trivial (fun _ => by simp only [Int32.le_iff_toInt_le, Int32.lt_iff_toInt_lt, t_z, t_m30, t_m1, t_0, t_1, t_4, t_6, t_9, t_20, t_30, t_179, t_359, t_360, t_1000000] at c_1 c_11 c_21; omega)
      · refine lv_iconst (v := nI 1) hx hb dX6_pass_34 (by decide) ?_
        refine lv_goto (tgt := 39) hx hb dX6_pass_35 (by decide) ?_
        refine lv_iconst (v := nI 1) hx hb dX6_pass_39 (by decide) ?_
        refine va_calli (va_runV (As := [.int (nI 1), .int (nI 1), .int (nI 1)]) (rest := []) ⟨hx, hb, hml, hown, hts⟩ (m_goes0 l ) (cwV 3 hts gX6_pass_X6_goes rfl rfl rfl (by decide +kernel) ⟨Nat.le_of_ble_eq_true rfl, Nat.le_of_ble_eq_true rfl⟩) (m_preV hF hK2 hCA hG hS (mo_obj) rfl) rfl rfl hl.1 rfl (lv_room (Nat.le_of_ble_eq_true rfl)) dX6_pass_40 ⟨Nat.le_of_ble_eq_true rfl, Nat.le_of_ble_eq_true rfl⟩) hS (fun q _ h => h) (fun q h => h) (fun r_22 g_24 t9 H locs ht9 _ h_23 hB1 _ _ hS => ?_)
        have hG : g_P D (mo E C g_24 ad vw) ad B H := by rw [← ht9]; exact hB1
        obtain ⟨erg_24, eg_24⟩ := h_23
        refine lv_to (y := nI 1) (erg_24) ?_
        have f_25 : g_24 (60, 0, 0) 5 = nI 0 := by rw [eg_24, g2_self, upd_ne _ _ (by decide)]; exact hn
        have f_26 : g_24 (60, 0, 0) 6 = nI 0 := by rw [eg_24, g2_self, upd_ne _ _ (by decide)]; exact hrl
        have f_27 : g_24 (60, 0, 0) 14 = nI 0 := by rw [eg_24, g2_self, upd_ne _ _ (by decide)]; exact hm
        have f_28 : g_24 (60, 0, 0) 17 = nI 0 := by rw [eg_24, g2_self, upd_ne _ _ (by decide)]; exact hw
        have f_29 : ∀ j, g_24 (66, 0, 0) j = 0 := fun j => by rw [eg_24, g2_ne _ _ _ (by decide)]; exact hz j
        have f_30 : g_24 (60, 0, 0) 18 = nI 0 := by rw [eg_24, g2_self, upd_self]
        have hgood : nI 1 ≤ x ∧ x ≤ nI 30 := by simp only [Int32.le_iff_toInt_le, Int32.lt_iff_toInt_lt, t_z, t_m30, t_m1, t_0, t_1, t_4, t_6, t_9, t_20, t_30, t_179, t_359, t_360, t_1000000] at c_1 c_11 c_21 ⊢; omega
        refine lv_if_ne (tgt := 48) hx hb dX6_pass_43 (by decide) (fun _ => ?_) (fun c => absurd c (by decide))
        refine lv_iconst (v := nI 0) hx hb dX6_pass_48 (by decide) ?_
        refine lv_istore_n (lv' := [(3, .int (nI 0)), (2, .int (nI 1)), (0, .ref (ad (60, 0, 0))), (1, .int x)]) hx hb dX6_pass_49 rfl hl (by decide) rfl (fun ls hl => ?_)
        refine lv_iconst (v := nI 0) hx hb dX6_pass_50 (by decide) ?_
        refine lv_istore (lv' := [(4, .int (nI 0)), (3, .int (nI 0)), (2, .int (nI 1)), (0, .ref (ad (60, 0, 0))), (1, .int x)]) hx hb dX6_pass_51 hl (by decide) rfl (fun ls hl => ?_)
        obtain ⟨n, hn1, hn30, en⟩ := in_nI hgood (by decide) (by decide)
        subst en
        have loop : ∀ (q j : Nat) (h : g_k → Nat → Int32) (H : Heap) (locs : List Loc), j + q = n → h (60, 0, 0) 5 = nI 0 → h (60, 0, 0) 14 = nI 0 → h (60, 0, 0) 18 = nI 0 → h (60, 0, 0) 17 = nI j → g_P D (mo E C h ad vw) ad B H → va_S (g_A B) s.heap H locs → ∀ ls, lv_has ls 6 [(4, .int (nI j)), (3, .int (nI 0)), (1, .int (nI n)), (0, .ref (ad (60, 0, 0)))] → W p l e (headSpec wsX6_pass ({ frames := 1, cells := 0, slots := 0, locals := 23 } : Room)).room s m ([.ref (ad (60, 0, 0)), .int (nI n)]).toArray below meth c H locs 0 0 (MQ below (va_Qi (fun (r : Int32) (h1 : g_k → Nat → Int32) => ((nI 1 ≤ nI n ∧ nI n ≤ nI 30) ∧ r = nI 0 ∧ h1 (60, 0, 0) 18 = nI 0) ∨ (¬ (nI 1 ≤ nI n ∧ nI n ≤ nI 30) ∧ h1 (60, 0, 0) 18 = nI 1)) (fun h1 t => g_P D (mo E C h1 ad vw) ad B t.heap) (g_A B)) ([.ref (ad (60, 0, 0)), .int (nI n)]).toArray s 0 0 (g_A B)) (F0 m 53 ls []) := by
          intro q
          induction q with
          | zero =>
            intro j h H locs hj k5 k14 k18 k17 hG hS ls hl
            refine lv_iload hx hb dX6_pass_53 (lv_at hl 0 rfl) ?_
            refine lv_iload_n hx hb dX6_pass_55 rfl (lv_at hl 2 rfl) ?_
            refine lv_icmp_ge (tgt := 150) hx hb dX6_pass_56 (by decide) (fun _ => ?_) (fun c => absurd ((nI_leI (by omega) (by omega)).mpr (by omega)) c)
            refine lv_iload_n hx hb dX6_pass_150 rfl (lv_at hl 1 rfl) ?_
            exact W.iret (v := nI 0) hx hb hr (fun t9 ht9 hW9 => ⟨⟨_, h, rfl, Or.inl ⟨hgood, rfl, k18⟩, by show g_P D _ _ B t9.heap; rw [ht9]; exact hG⟩, hS.F ht9⟩) hS.2.2 dX6_pass_151
          | succ q ih =>
            intro j h H locs hj k5 k14 k18 k17 hG hS ls hl
            refine lv_iload hx hb dX6_pass_53 (lv_at hl 0 rfl) ?_
            refine lv_iload_n hx hb dX6_pass_55 rfl (lv_at hl 2 rfl) ?_
            refine lv_icmp_ge (tgt := 150) hx hb dX6_pass_56 (by decide) (fun c => absurd c (by rw [nI_leI (by omega) (by omega)]; omega)) (fun _ => ?_)
            refine lv_iconst (v := nI 0) hx hb dX6_pass_59 (by decide) ?_
            refine lv_istore (lv' := [(5, .int (nI 0)), (4, .int (nI j)), (3, .int (nI 0)), (1, .int (nI n)), (0, .ref (ad (60, 0, 0)))]) hx hb dX6_pass_60 hl (by decide) rfl (fun ls hl => ?_)
            refine lv_iload hx hb dX6_pass_62 (lv_at hl 0 rfl) ?_
            refine lv_aload_n hx hb dX6_pass_64 rfl (lv_at hl 4 rfl) ?_
            refine g_get hx hb hts hi6 hown hK hG (mo_obj) rfl 14 (by decide) (hts (.fieldLink RX6 62 "SatelliteringModel" "messages" "I") (by decide +kernel)) rfl dX6_pass_65 ?_
            refine lv_to (y := nI 0) (k14) ?_
            refine lv_icmp_ge (tgt := 100) hx hb dX6_pass_68 (by decide) (fun _ => ?_) (fun c => absurd ((nI_leI (by omega) (by omega)).mpr (Nat.le_refl 0)) c)
            refine lv_aload_n hx hb dX6_pass_100 rfl (lv_at hl 4 rfl) ?_
            refine lv_dup hx hb dX6_pass_101 rfl ?_
            refine g_get hx hb hts hi6 hown hK hG (mo_obj) rfl 17 (by decide) (hts (.fieldLink RX6 118 "SatelliteringModel" "now" "I") (by decide +kernel)) rfl dX6_pass_102 ?_
            refine lv_to (y := nI j) (k17) ?_
            refine lv_iconst (v := nI 1) hx hb dX6_pass_105 (by decide) ?_
            refine lv_iadd hx hb dX6_pass_106 ?_
            refine lv_to (y := nI (j + 1)) (nI_add j 1) ?_
            refine q_put hx hb hts hi6 hown hK hG hS 17 (by decide) rfl rfl (hts (.fieldLink RX6 118 "SatelliteringModel" "now" "I") (by decide +kernel)) (by simp [upd]) dX6_pass_107 (fun H locs hG hS => ?_)
            obtain ⟨h_31, eh_31⟩ : ∃ z9, z9 = g2 h (60, 0, 0) 17 (nI (j + 1)) := ⟨_, rfl⟩
            rw [← eh_31] at hG
            have f_32 : h_31 (60, 0, 0) 5 = nI 0 := by rw [eh_31, g2_self, upd_ne _ _ (by decide)]; exact k5
            have f_33 : h_31 (60, 0, 0) 14 = nI 0 := by rw [eh_31, g2_self, upd_ne _ _ (by decide)]; exact k14
            have f_34 : h_31 (60, 0, 0) 18 = nI 0 := by rw [eh_31, g2_self, upd_ne _ _ (by decide)]; exact k18
            have f_35 : h_31 (60, 0, 0) 17 = nI (j + 1) := by rw [eh_31, g2_self, upd_self]
            refine lv_iconst (v := nI 0) hx hb dX6_pass_110 (by decide) ?_
            refine lv_istore (lv' := [(5, .int (nI 0)), (4, .int (nI j)), (3, .int (nI 0)), (1, .int (nI n)), (0, .ref (ad (60, 0, 0)))]) hx hb dX6_pass_111 hl (by decide) rfl (fun ls hl => ?_)
            refine lv_iload hx hb dX6_pass_113 (lv_at hl 0 rfl) ?_
            refine lv_aload_n hx hb dX6_pass_115 rfl (lv_at hl 4 rfl) ?_
            refine g_get hx hb hts hi6 hown hK hG (mo_obj) rfl 5 (by decide) (hts (.fieldLink RX6 55 "SatelliteringModel" "nodes" "I") (by decide +kernel)) rfl dX6_pass_116 ?_
            refine lv_to (y := nI 0) (f_32) ?_
            refine lv_icmp_ge (tgt := 144) hx hb dX6_pass_119 (by decide) (fun _ => ?_) (fun c => absurd ((nI_leI (by omega) (by omega)).mpr (Nat.le_refl 0)) c)
            refine lv_iinc (v := nI (j + 1)) (lv' := [(4, .int (nI (j + 1))), (5, .int (nI 0)), (3, .int (nI 0)), (1, .int (nI n)), (0, .ref (ad (60, 0, 0)))]) hx hb dX6_pass_144 hl (k := 1) rfl (nI_add j 1) (by decide) rfl (fun ls hl => ?_)
            refine lv_goto (tgt := 53) hx hb dX6_pass_147 (by decide) ?_
            exact ih (j + 1) h_31 _ _ (by omega) f_32 f_33 f_34 f_35 hG hS ls (lv_sub hl [0, 2, 3, 4] rfl)
        exact loop n 0 g_24 _ _ (by omega) f_25 f_27 f_30 f_28 hG hS ls (lv_sub hl [0, 1, 4, 3] rfl)
