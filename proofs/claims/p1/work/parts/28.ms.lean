/-- the classes of the arrays: boolean[], long[] -/
abbrev m_C : Type := ClassId × ClassId
abbrev m_T (E : m_C) : List (ClassId × FieldType) := [(E.1, .boolean), (E.2, .long)]
abbrev IAE : String := "java/lang/IllegalArgumentException"
def m_S (D : va_G) (C : g_C) (E : m_C) (v : g_k → Option va_E) (ad : g_k → Nat) (B : Nat) (U : State) : Prop := g_S D C v ad B U ∧ va_K D vwCl (m_T E) U ∧ va_Nw (.castable IAE IAE) U
theorem m_blind {D : va_G} {C : g_C} {E : m_C} {v : g_k → Option va_E} {ad : g_k → Nat} {B : Nat} {av : List Value} : FrameBlind (va_Pc av (m_S D C E v ad B)) := fun a U g mk q => ⟨q.1, ⟨q.2.1.1, q.2.1.2.calling⟩, va_K.moved (u := U) (U := U.calling g mk a) (Vm.Alike.refl U.vm) q.2.2.1, va_Nw.same (u := U) (U := U.calling g mk a) rfl rfl q.2.2.2⟩
theorem m_preS {D : va_G} {C : g_C} {E : m_C} {v : g_k → Option va_E} {ad : g_k → Nat} {B : Nat} {s : State} {H : Heap} {locs : List Loc} {As : List Value} (hF : g_F D C B s) (hK2 : va_K D vwCl (m_T E) s) (hCA : va_Nw (.castable IAE IAE) s) (hG : g_P D v ad B H) (hS : va_S (g_A B) s.heap H locs) : PreS s H (va_Pc As (m_S D C E v ad B)) As := ⟨m_blind, fun U hU hW => ⟨rfl, ⟨by rw [hU]; exact hG, hF.at hS hU hW⟩, va_K.moved hW.alike hK2, va_Nw.warmC hW hCA⟩⟩
theorem m_preV {D : va_G} {C : g_C} {E : m_C} {v : g_k → Option va_E} {ad : g_k → Nat} {B : Nat} {s : State} {H : Heap} {locs : List Loc} {As : List Value} {cd : g_k} {ci : Nat} {r : vw_C} {fs : List Value} (hF : g_F D C B s) (hK2 : va_K D vwCl (m_T E) s) (hCA : va_Nw (.castable IAE IAE) s) (hG : g_P D v ad B H) (hS : va_S (g_A B) s.heap H locs) (he : v cd = some (.inr (ci, fs))) (hc : vwCl[ci]? = some r) : PreV s H r.1 (ad cd) (va_Pc (.ref (ad cd) :: As) (m_S D C E v ad B)) As := ⟨m_blind, g_recv hF hG he hc, fun U hU hW => ⟨rfl, ⟨by rw [hU]; exact hG, hF.at hS hU hW⟩, va_K.moved hW.alike hK2, va_Nw.warmC hW hCA⟩⟩
theorem no0 (x : Int32) : ¬ (nI 0 ≤ x ∧ x ≤ nI 0 - nI 1) := fun h => by
  obtain ⟨h1, h2⟩ := h
  rw [Int32.le_iff_toInt_le] at h1 h2
  rw [show (nI 0 : Int32).toInt = 0 by decide] at h1
  rw [show (nI 0 - nI 1 : Int32).toInt = -1 by decide] at h2
  omega

set_option maxHeartbeats 4000000 in
set_option maxRecDepth 100000 in
theorem z_requireNode (l : Launch) (hst : l.stackTraces = false) {D : va_G} {C : g_C} {g : g_k → Nat → Int32} {ad ln : g_k → Nat} {ex : g_k → Option va_E} {B : Nat} (hc : g (1, 0, 0) 4 = nI 0) {x : Int32} : vx_Met l yX5_requireNode wsX5_requireNode ({ frames := 6, cells := 1, slots := 6, locals := 82 } : Room) (va_Pc [.ref (ad (0, 0, 0)), .int x] (g_S D C (lay C g ad ln ex) ad B)) (fun _ _ _ _ => False) (xX "java/lang/IndexOutOfBoundsException" D (lay C g ad ln ex) ad B) 1 6 (g_A B) := by
  refine vx_ofW (cc := cX5_requireNode) (maxL := 2) (ret := none) (by decide) rfl ?_
  intro p e s m args below meth c s₁ B₀ hml htab hv
  obtain ⟨rfl, hG, hF⟩ := hv
  have hK := hF.1
  have hN := hF.2.1
  have hB := hF.2.2.2
  have hx := B₀.exec
  have hb := B₀.bytes
  have hts := atoms_spec (ws := wsX5_requireNode) B₀.pre
  have hown : s.vm.findClass RX5 = some m.cls := findClass_of_methodNamed B₀.named
  have hlocks := B₀.notSynchronized
  have hS : va_S (g_A B) s.heap s.heap [] := va_S.rf
  have hi2 : ∀ w ∈ wsX20, w ∈ wsX5_requireNode := by decide +kernel
  have hi5 : ∀ w ∈ wsX50, w ∈ wsX5_requireNode := by decide +kernel
  have hl := lv_entry [.ref (ad (0, 0, 0)), .int x] (n := 2) (Nat.le_of_ble_eq_true rfl)
  rw [lg_entry_eq]
  generalize (lg_sl [.ref (ad (0, 0, 0)), .int x] ++ List.replicate (2 - (lg_sl [.ref (ad (0, 0, 0)), .int x]).length) Slot.unset).toArray = ls at hl ⊢
  have hl : lv_has ls 2 [(0, .ref (ad (0, 0, 0))), (1, .int x)] := hl
  refine lv_iload_n hx hb dX5_requireNode_0 rfl (lv_at hl 1 rfl) ?_
  refine lv_iconst (v := nI 0) hx hb dX5_requireNode_1 (by decide) ?_
  refine lv_aload_n hx hb dX5_requireNode_2 rfl (lv_at hl 0 rfl) ?_
  refine g_get hx hb hts hi5 hown hK hG (lay_main) rfl 0 (by decide) (hts (.fieldLink RX5 12 "Satellitering" "sky" "LSatellitering$Sky;") (by decide +kernel)) rfl dX5_requireNode_3 ?_
  refine g_getN hx hb hts hi2 hown hK hG (lay_sky) rfl 4 (by decide) (va_Nw.use rfl hN.2.2.2.2.2.2.2.2.2.2.1) rfl dX5_requireNode_6 ?_
  refine lv_to (y := nI 0) (hc) ?_
  refine lv_iconst (v := nI 1) hx hb dX5_requireNode_9 (by decide) ?_
  refine lv_isub hx hb dX5_requireNode_10 ?_
  refine vp_callSi (W.runS (As := [.int x, .int (nI 0), .int ((nI 0) - (nI 1))]) (rest := []) ⟨hx, hb, hml, hown, hts⟩ (c_inRange l ) (va_cwS 3 hts gX5_requireNode_X5_inRange rfl rfl rfl (by decide +kernel) ⟨Nat.le_of_ble_eq_true rfl, Nat.le_of_ble_eq_true rfl⟩) (g_preS hF hG hS) rfl rfl hl.1 rfl (lv_room (Nat.le_of_ble_eq_true rfl)) dX5_requireNode_11 ⟨Nat.le_of_ble_eq_true rfl, Nat.le_of_ble_eq_true rfl⟩) (fun r_1 h_2 => ?_)
  refine lv_to (y := nI 0) (h_2.trans (if_neg (no0 x))) ?_
  refine lv_if_ne (tgt := 27) hx hb dX5_requireNode_14 (by decide) (fun c_3 => ?_) (fun c_3 => ?_)
  · exact absurd c_3 nI_0z
  · obtain ⟨sa, hstr⟩ := hF.2.2.1.2.2.1.1 (219, "there is no such node") (by simp [g_strs])
    exact vx_throwS (mc := 1) (ms := 6) (A := g_A B) (names := ["java/lang/RuntimeException", "java/lang/Exception"]) hx hb hst hown (by decide +kernel) (by decide +kernel) (hts (.classLink RX5 91 "java/lang/IndexOutOfBoundsException") (by decide +kernel)) (hts (.initialized "java/lang/IndexOutOfBoundsException") (by decide +kernel)) hstr (vx_hat (fun w hw => hts w (by exact List.mem_cons_of_mem _ (List.mem_append_right _ hw))) (B := [.castable "java/lang/IndexOutOfBoundsException" "java/lang/IndexOutOfBoundsException", .declares (Bundle.initS "java/lang/RuntimeException"), .declares (Bundle.initS "java/lang/Exception"), .declares (Bundle.initS Bundle.tN)]) (by decide +kernel) (vx_c (va_Nw.use rfl hF.2.2.1.2.2.1.2.1) (vx_c (va_Nw.use rfl hF.2.2.1.2.2.1.2.2.2.2.1) (vx_c (va_Nw.use rfl hF.2.2.1.2.2.1.2.2.2.2.2.1) (vx_c (va_Nw.use rfl hF.2.2.1.2.2.1.2.2.2.2.2.2) vx_n))))) (by decide +kernel) hF.2.2.1.1 hF.2.2.1.2.1 hS (hl.1.trans hml.symm) dX5_requireNode_17 dX5_requireNode_20 dX5_requireNode_21 dX5_requireNode_23 dX5_requireNode_26 (fun x hx => (htab x hx).elim) (Nat.le_of_ble_eq_true rfl) (Nat.le_of_ble_eq_true rfl) (Nat.le_of_ble_eq_true rfl) (Nat.le_of_ble_eq_true rfl) hlocks (fun t _ hsz hk => xX_of hG hS hsz hk) hS.2.2 (Nat.le_refl _) (Nat.le_refl _)

set_option maxHeartbeats 4000000 in
set_option maxRecDepth 100000 in
theorem z_requireTwoNodesAndMinute (l : Launch) (hst : l.stackTraces = false) {D : va_G} {C : g_C} {g : g_k → Nat → Int32} {ad ln : g_k → Nat} {ex : g_k → Option va_E} {B : Nat} (hc : g (1, 0, 0) 4 = nI 0) {x y z : Int32} : vx_Met l yX5_requireTwoNodesAndMinute wsX5_requireTwoNodesAndMinute ({ frames := 7, cells := 1, slots := 6, locals := 103 } : Room) (va_Pc [.ref (ad (0, 0, 0)), .int x, .int y, .int z] (g_S D C (lay C g ad ln ex) ad B)) (fun _ _ _ _ => False) (xX "java/lang/IndexOutOfBoundsException" D (lay C g ad ln ex) ad B) 1 6 (g_A B) := by
  refine vx_ofW (cc := cX5_requireTwoNodesAndMinute) (maxL := 4) (ret := none) (by decide) rfl ?_
  intro p e s m args below meth c s₁ B₀ hml htab hv
  obtain ⟨rfl, hG, hF⟩ := hv
  have hK := hF.1
  have hN := hF.2.1
  have hB := hF.2.2.2
  have hx := B₀.exec
  have hb := B₀.bytes
  have hts := atoms_spec (ws := wsX5_requireTwoNodesAndMinute) B₀.pre
  have hown : s.vm.findClass RX5 = some m.cls := findClass_of_methodNamed B₀.named
  have hlocks := B₀.notSynchronized
  have hS : va_S (g_A B) s.heap s.heap [] := va_S.rf
  have hl := lv_entry [.ref (ad (0, 0, 0)), .int x, .int y, .int z] (n := 4) (Nat.le_of_ble_eq_true rfl)
  rw [lg_entry_eq]
  generalize (lg_sl [.ref (ad (0, 0, 0)), .int x, .int y, .int z] ++ List.replicate (4 - (lg_sl [.ref (ad (0, 0, 0)), .int x, .int y, .int z]).length) Slot.unset).toArray = ls at hl ⊢
  have hl : lv_has ls 4 [(0, .ref (ad (0, 0, 0))), (1, .int x), (2, .int y), (3, .int z)] := hl
  refine lv_aload_n hx hb dX5_requireTwoNodesAndMinute_0 rfl (lv_at hl 0 rfl) ?_
  refine lv_iload_n hx hb dX5_requireTwoNodesAndMinute_1 rfl (lv_at hl 1 rfl) ?_
  refine vx_callx (vx_runV (As := [.int x]) (rest := []) ⟨hx, hb, hml, hown, hts⟩ (z_requireNode l hst hc) (cwV 1 hts gX5_requireTwoNodesAndMinute_X5_requireNode rfl rfl rfl (by decide +kernel) ⟨Nat.le_of_ble_eq_true rfl, Nat.le_of_ble_eq_true rfl⟩) (g_preV hF hG hS (lay_main) rfl) rfl rfl hl.1 rfl (lv_room (Nat.le_of_ble_eq_true rfl)) dX5_requireTwoNodesAndMinute_2 ⟨Nat.le_of_ble_eq_true rfl, Nat.le_of_ble_eq_true rfl⟩) hS (fun q h => h) (fun q _ h => h) (fun E ce q9 u t H locs ht9 _ _ hbx hS hce hcv hcl => ?_)
  obtain ⟨rfl, hG1⟩ := hbx
  refine vx_out (fun x hx => (htab x hx).elim) hlocks hce hcv hcl (fun t1 ht1 _ => xX_of (H := H) (by rw [← ht9]; exact hG1) hS (by rw [ht1]; exact Nat.le_refl _) (fun q _ => by rw [ht1])) hS.2.2 (Nat.le_refl _) (Nat.le_refl _)

set_option maxHeartbeats 4000000 in
set_option maxRecDepth 100000 in
theorem z_requireStation (l : Launch) (hst : l.stackTraces = false) {D : va_G} {C : g_C} {g : g_k → Nat → Int32} {ad ln : g_k → Nat} {ex : g_k → Option va_E} {B : Nat} (hc : g (1, 0, 0) 4 = nI 0) {x : Int32} : vx_Met l yX5_requireStation wsX5_requireStation ({ frames := 7, cells := 1, slots := 6, locals := 103 } : Room) (va_Pc [.ref (ad (0, 0, 0)), .int x] (g_S D C (lay C g ad ln ex) ad B)) (fun _ _ _ _ => False) (xX "java/lang/IndexOutOfBoundsException" D (lay C g ad ln ex) ad B) 1 6 (g_A B) := by
  refine vx_ofW (cc := cX5_requireStation) (maxL := 3) (ret := (some (.object "Satellitering$Station"))) (by decide) rfl ?_
  intro p e s m args below meth c s₁ B₀ hml htab hv
  obtain ⟨rfl, hG, hF⟩ := hv
  have hK := hF.1
  have hN := hF.2.1
  have hB := hF.2.2.2
  have hx := B₀.exec
  have hb := B₀.bytes
  have hts := atoms_spec (ws := wsX5_requireStation) B₀.pre
  have hown : s.vm.findClass RX5 = some m.cls := findClass_of_methodNamed B₀.named
  have hlocks := B₀.notSynchronized
  have hS : va_S (g_A B) s.heap s.heap [] := va_S.rf
  have hl := lv_entry [.ref (ad (0, 0, 0)), .int x] (n := 3) (Nat.le_of_ble_eq_true rfl)
  rw [lg_entry_eq]
  generalize (lg_sl [.ref (ad (0, 0, 0)), .int x] ++ List.replicate (3 - (lg_sl [.ref (ad (0, 0, 0)), .int x]).length) Slot.unset).toArray = ls at hl ⊢
  have hl : lv_has ls 3 [(0, .ref (ad (0, 0, 0))), (1, .int x)] := hl
  refine lv_aload_n hx hb dX5_requireStation_0 rfl (lv_at hl 0 rfl) ?_
  refine lv_iload_n hx hb dX5_requireStation_1 rfl (lv_at hl 1 rfl) ?_
  refine vx_callx (vx_runV (As := [.int x]) (rest := []) ⟨hx, hb, hml, hown, hts⟩ (z_requireNode l hst hc) (cwV 1 hts gX5_requireStation_X5_requireNode rfl rfl rfl (by decide +kernel) ⟨Nat.le_of_ble_eq_true rfl, Nat.le_of_ble_eq_true rfl⟩) (g_preV hF hG hS (lay_main) rfl) rfl rfl hl.1 rfl (lv_room (Nat.le_of_ble_eq_true rfl)) dX5_requireStation_2 ⟨Nat.le_of_ble_eq_true rfl, Nat.le_of_ble_eq_true rfl⟩) hS (fun q h => h) (fun q _ h => h) (fun E ce q9 u t H locs ht9 _ _ hbx hS hce hcv hcl => ?_)
  obtain ⟨rfl, hG1⟩ := hbx
  refine vx_out (fun x hx => (htab x hx).elim) hlocks hce hcv hcl (fun t1 ht1 _ => xX_of (H := H) (by rw [← ht9]; exact hG1) hS (by rw [ht1]; exact Nat.le_refl _) (fun q _ => by rw [ht1])) hS.2.2 (Nat.le_refl _) (Nat.le_refl _)

set_option maxHeartbeats 4000000 in
set_option maxRecDepth 100000 in
theorem z_see (l : Launch) (hst : l.stackTraces = false) {D : va_G} {C : g_C} {g : g_k → Nat → Int32} {ad ln : g_k → Nat} {ex : g_k → Option va_E} {B : Nat} (hc : g (1, 0, 0) 4 = nI 0) {x y z : Int32} : vx_Met l yX5_see wsX5_see ({ frames := 8, cells := 1, slots := 6, locals := 126 } : Room) (va_Pc [.ref (ad (0, 0, 0)), .int x, .int y, .int z] (g_S D C (lay C g ad ln ex) ad B)) (fun _ _ _ _ => False) (xX "java/lang/IndexOutOfBoundsException" D (lay C g ad ln ex) ad B) 1 6 (g_A B) := by
  refine vx_ofW (cc := cX5_see) (maxL := 4) (ret := (some .boolean)) (by decide) rfl ?_
  intro p e s m args below meth c s₁ B₀ hml htab hv
  obtain ⟨rfl, hG, hF⟩ := hv
  have hK := hF.1
  have hN := hF.2.1
  have hB := hF.2.2.2
  have hx := B₀.exec
  have hb := B₀.bytes
  have hts := atoms_spec (ws := wsX5_see) B₀.pre
  have hown : s.vm.findClass RX5 = some m.cls := findClass_of_methodNamed B₀.named
  have hlocks := B₀.notSynchronized
  have hS : va_S (g_A B) s.heap s.heap [] := va_S.rf
  have hl := lv_entry [.ref (ad (0, 0, 0)), .int x, .int y, .int z] (n := 4) (Nat.le_of_ble_eq_true rfl)
  rw [lg_entry_eq]
  generalize (lg_sl [.ref (ad (0, 0, 0)), .int x, .int y, .int z] ++ List.replicate (4 - (lg_sl [.ref (ad (0, 0, 0)), .int x, .int y, .int z]).length) Slot.unset).toArray = ls at hl ⊢
  have hl : lv_has ls 4 [(0, .ref (ad (0, 0, 0))), (1, .int x), (2, .int y), (3, .int z)] := hl
  refine lv_aload_n hx hb dX5_see_0 rfl (lv_at hl 0 rfl) ?_
  refine lv_iload_n hx hb dX5_see_1 rfl (lv_at hl 1 rfl) ?_
  refine lv_iload_n hx hb dX5_see_2 rfl (lv_at hl 2 rfl) ?_
  refine lv_iload_n hx hb dX5_see_3 rfl (lv_at hl 3 rfl) ?_
  refine vx_callx (vx_runV (As := [.int x, .int y, .int z]) (rest := []) ⟨hx, hb, hml, hown, hts⟩ (z_requireTwoNodesAndMinute l hst hc) (cwV 3 hts gX5_see_X5_requireTwoNodesAndMinute rfl rfl rfl (by decide +kernel) ⟨Nat.le_of_ble_eq_true rfl, Nat.le_of_ble_eq_true rfl⟩) (g_preV hF hG hS (lay_main) rfl) rfl rfl hl.1 rfl (lv_room (Nat.le_of_ble_eq_true rfl)) dX5_see_4 ⟨Nat.le_of_ble_eq_true rfl, Nat.le_of_ble_eq_true rfl⟩) hS (fun q h => h) (fun q _ h => h) (fun E ce q9 u t H locs ht9 _ _ hbx hS hce hcv hcl => ?_)
  obtain ⟨rfl, hG1⟩ := hbx
  refine vx_out (fun x hx => (htab x hx).elim) hlocks hce hcv hcl (fun t1 ht1 _ => xX_of (H := H) (by rw [← ht9]; exact hG1) hS (by rw [ht1]; exact Nat.le_refl _) (fun q _ => by rw [ht1])) hS.2.2 (Nat.le_refl _) (Nat.le_refl _)

set_option maxHeartbeats 4000000 in
set_option maxRecDepth 100000 in
theorem z_nextContact (l : Launch) (hst : l.stackTraces = false) {D : va_G} {C : g_C} {g : g_k → Nat → Int32} {ad ln : g_k → Nat} {ex : g_k → Option va_E} {B : Nat} (hc : g (1, 0, 0) 4 = nI 0) {x y z : Int32} : vx_Met l yX5_nextContact wsX5_nextContact ({ frames := 8, cells := 1, slots := 6, locals := 126 } : Room) (va_Pc [.ref (ad (0, 0, 0)), .int x, .int y, .int z] (g_S D C (lay C g ad ln ex) ad B)) (fun _ _ _ _ => False) (xX "java/lang/IndexOutOfBoundsException" D (lay C g ad ln ex) ad B) 1 6 (g_A B) := by
  refine vx_ofW (cc := cX5_nextContact) (maxL := 4) (ret := (some .int)) (by decide) rfl ?_
  intro p e s m args below meth c s₁ B₀ hml htab hv
  obtain ⟨rfl, hG, hF⟩ := hv
  have hK := hF.1
  have hN := hF.2.1
  have hB := hF.2.2.2
  have hx := B₀.exec
  have hb := B₀.bytes
  have hts := atoms_spec (ws := wsX5_nextContact) B₀.pre
  have hown : s.vm.findClass RX5 = some m.cls := findClass_of_methodNamed B₀.named
  have hlocks := B₀.notSynchronized
  have hS : va_S (g_A B) s.heap s.heap [] := va_S.rf
  have hl := lv_entry [.ref (ad (0, 0, 0)), .int x, .int y, .int z] (n := 4) (Nat.le_of_ble_eq_true rfl)
  rw [lg_entry_eq]
  generalize (lg_sl [.ref (ad (0, 0, 0)), .int x, .int y, .int z] ++ List.replicate (4 - (lg_sl [.ref (ad (0, 0, 0)), .int x, .int y, .int z]).length) Slot.unset).toArray = ls at hl ⊢
  have hl : lv_has ls 4 [(0, .ref (ad (0, 0, 0))), (1, .int x), (2, .int y), (3, .int z)] := hl
  refine lv_aload_n hx hb dX5_nextContact_0 rfl (lv_at hl 0 rfl) ?_
  refine lv_iload_n hx hb dX5_nextContact_1 rfl (lv_at hl 1 rfl) ?_
  refine lv_iload_n hx hb dX5_nextContact_2 rfl (lv_at hl 2 rfl) ?_
  refine lv_iload_n hx hb dX5_nextContact_3 rfl (lv_at hl 3 rfl) ?_
  refine vx_callx (vx_runV (As := [.int x, .int y, .int z]) (rest := []) ⟨hx, hb, hml, hown, hts⟩ (z_requireTwoNodesAndMinute l hst hc) (cwV 3 hts gX5_nextContact_X5_requireTwoNodesAndMinute rfl rfl rfl (by decide +kernel) ⟨Nat.le_of_ble_eq_true rfl, Nat.le_of_ble_eq_true rfl⟩) (g_preV hF hG hS (lay_main) rfl) rfl rfl hl.1 rfl (lv_room (Nat.le_of_ble_eq_true rfl)) dX5_nextContact_4 ⟨Nat.le_of_ble_eq_true rfl, Nat.le_of_ble_eq_true rfl⟩) hS (fun q h => h) (fun q _ h => h) (fun E ce q9 u t H locs ht9 _ _ hbx hS hce hcv hcl => ?_)
  obtain ⟨rfl, hG1⟩ := hbx
  refine vx_out (fun x hx => (htab x hx).elim) hlocks hce hcv hcl (fun t1 ht1 _ => xX_of (H := H) (by rw [← ht9]; exact hG1) hS (by rw [ht1]; exact Nat.le_refl _) (fun q _ => by rw [ht1])) hS.2.2 (Nat.le_refl _) (Nat.le_refl _)

set_option maxHeartbeats 4000000 in
set_option maxRecDepth 100000 in
theorem z_view (l : Launch) (hst : l.stackTraces = false) {D : va_G} {C : g_C} {g : g_k → Nat → Int32} {ad ln : g_k → Nat} {ex : g_k → Option va_E} {B : Nat} (hc : g (1, 0, 0) 4 = nI 0) {x y z : Int32} : vx_Met l yX5_view wsX5_view ({ frames := 8, cells := 1, slots := 6, locals := 126 } : Room) (va_Pc [.ref (ad (0, 0, 0)), .int x, .int y, .int z] (g_S D C (lay C g ad ln ex) ad B)) (fun _ _ _ _ => False) (xX "java/lang/IndexOutOfBoundsException" D (lay C g ad ln ex) ad B) 1 6 (g_A B) := by
  refine vx_ofW (cc := cX5_view) (maxL := 4) (ret := (some .int)) (by decide) rfl ?_
  intro p e s m args below meth c s₁ B₀ hml htab hv
  obtain ⟨rfl, hG, hF⟩ := hv
  have hK := hF.1
  have hN := hF.2.1
  have hB := hF.2.2.2
  have hx := B₀.exec
  have hb := B₀.bytes
  have hts := atoms_spec (ws := wsX5_view) B₀.pre
  have hown : s.vm.findClass RX5 = some m.cls := findClass_of_methodNamed B₀.named
  have hlocks := B₀.notSynchronized
  have hS : va_S (g_A B) s.heap s.heap [] := va_S.rf
  have hl := lv_entry [.ref (ad (0, 0, 0)), .int x, .int y, .int z] (n := 4) (Nat.le_of_ble_eq_true rfl)
  rw [lg_entry_eq]
  generalize (lg_sl [.ref (ad (0, 0, 0)), .int x, .int y, .int z] ++ List.replicate (4 - (lg_sl [.ref (ad (0, 0, 0)), .int x, .int y, .int z]).length) Slot.unset).toArray = ls at hl ⊢
  have hl : lv_has ls 4 [(0, .ref (ad (0, 0, 0))), (1, .int x), (2, .int y), (3, .int z)] := hl
  refine lv_aload_n hx hb dX5_view_0 rfl (lv_at hl 0 rfl) ?_
  refine lv_iload_n hx hb dX5_view_1 rfl (lv_at hl 1 rfl) ?_
  refine lv_iload_n hx hb dX5_view_2 rfl (lv_at hl 2 rfl) ?_
  refine lv_iload_n hx hb dX5_view_3 rfl (lv_at hl 3 rfl) ?_
  refine vx_callx (vx_runV (As := [.int x, .int y, .int z]) (rest := []) ⟨hx, hb, hml, hown, hts⟩ (z_requireTwoNodesAndMinute l hst hc) (cwV 3 hts gX5_view_X5_requireTwoNodesAndMinute rfl rfl rfl (by decide +kernel) ⟨Nat.le_of_ble_eq_true rfl, Nat.le_of_ble_eq_true rfl⟩) (g_preV hF hG hS (lay_main) rfl) rfl rfl hl.1 rfl (lv_room (Nat.le_of_ble_eq_true rfl)) dX5_view_4 ⟨Nat.le_of_ble_eq_true rfl, Nat.le_of_ble_eq_true rfl⟩) hS (fun q h => h) (fun q _ h => h) (fun E ce q9 u t H locs ht9 _ _ hbx hS hce hcv hcl => ?_)
  obtain ⟨rfl, hG1⟩ := hbx
  refine vx_out (fun x hx => (htab x hx).elim) hlocks hce hcv hcl (fun t1 ht1 _ => xX_of (H := H) (by rw [← ht9]; exact hG1) hS (by rw [ht1]; exact Nat.le_refl _) (fun q _ => by rw [ht1])) hS.2.2 (Nat.le_refl _) (Nat.le_refl _)

set_option maxHeartbeats 4000000 in
set_option maxRecDepth 100000 in
theorem z_arrival (l : Launch) (hst : l.stackTraces = false) {D : va_G} {C : g_C} {g : g_k → Nat → Int32} {ad ln : g_k → Nat} {ex : g_k → Option va_E} {B : Nat} (hc : g (1, 0, 0) 4 = nI 0) {x y z : Int32} : vx_Met l yX5_arrival wsX5_arrival ({ frames := 8, cells := 1, slots := 6, locals := 126 } : Room) (va_Pc [.ref (ad (0, 0, 0)), .int x, .int y, .int z] (g_S D C (lay C g ad ln ex) ad B)) (fun _ _ _ _ => False) (xX "java/lang/IndexOutOfBoundsException" D (lay C g ad ln ex) ad B) 1 6 (g_A B) := by
  refine vx_ofW (cc := cX5_arrival) (maxL := 4) (ret := (some .int)) (by decide) rfl ?_
  intro p e s m args below meth c s₁ B₀ hml htab hv
  obtain ⟨rfl, hG, hF⟩ := hv
  have hK := hF.1
  have hN := hF.2.1
  have hB := hF.2.2.2
  have hx := B₀.exec
  have hb := B₀.bytes
  have hts := atoms_spec (ws := wsX5_arrival) B₀.pre
  have hown : s.vm.findClass RX5 = some m.cls := findClass_of_methodNamed B₀.named
  have hlocks := B₀.notSynchronized
  have hS : va_S (g_A B) s.heap s.heap [] := va_S.rf
  have hl := lv_entry [.ref (ad (0, 0, 0)), .int x, .int y, .int z] (n := 4) (Nat.le_of_ble_eq_true rfl)
  rw [lg_entry_eq]
  generalize (lg_sl [.ref (ad (0, 0, 0)), .int x, .int y, .int z] ++ List.replicate (4 - (lg_sl [.ref (ad (0, 0, 0)), .int x, .int y, .int z]).length) Slot.unset).toArray = ls at hl ⊢
  have hl : lv_has ls 4 [(0, .ref (ad (0, 0, 0))), (1, .int x), (2, .int y), (3, .int z)] := hl
  refine lv_aload_n hx hb dX5_arrival_0 rfl (lv_at hl 0 rfl) ?_
  refine lv_iload_n hx hb dX5_arrival_1 rfl (lv_at hl 1 rfl) ?_
  refine lv_iload_n hx hb dX5_arrival_2 rfl (lv_at hl 2 rfl) ?_
  refine lv_iload_n hx hb dX5_arrival_3 rfl (lv_at hl 3 rfl) ?_
  refine vx_callx (vx_runV (As := [.int x, .int y, .int z]) (rest := []) ⟨hx, hb, hml, hown, hts⟩ (z_requireTwoNodesAndMinute l hst hc) (cwV 3 hts gX5_arrival_X5_requireTwoNodesAndMinute rfl rfl rfl (by decide +kernel) ⟨Nat.le_of_ble_eq_true rfl, Nat.le_of_ble_eq_true rfl⟩) (g_preV hF hG hS (lay_main) rfl) rfl rfl hl.1 rfl (lv_room (Nat.le_of_ble_eq_true rfl)) dX5_arrival_4 ⟨Nat.le_of_ble_eq_true rfl, Nat.le_of_ble_eq_true rfl⟩) hS (fun q h => h) (fun q _ h => h) (fun E ce q9 u t H locs ht9 _ _ hbx hS hce hcv hcl => ?_)
  obtain ⟨rfl, hG1⟩ := hbx
  refine vx_out (fun x hx => (htab x hx).elim) hlocks hce hcv hcl (fun t1 ht1 _ => xX_of (H := H) (by rw [← ht9]; exact hG1) hS (by rw [ht1]; exact Nat.le_refl _) (fun q _ => by rw [ht1])) hS.2.2 (Nat.le_refl _) (Nat.le_refl _)

set_option maxHeartbeats 4000000 in
set_option maxRecDepth 100000 in
theorem z_arrivalByFlooding (l : Launch) (hst : l.stackTraces = false) {D : va_G} {C : g_C} {g : g_k → Nat → Int32} {ad ln : g_k → Nat} {ex : g_k → Option va_E} {B : Nat} (hc : g (1, 0, 0) 4 = nI 0) {x y z : Int32} : vx_Met l yX5_arrivalByFlooding wsX5_arrivalByFlooding ({ frames := 8, cells := 1, slots := 6, locals := 126 } : Room) (va_Pc [.ref (ad (0, 0, 0)), .int x, .int y, .int z] (g_S D C (lay C g ad ln ex) ad B)) (fun _ _ _ _ => False) (xX "java/lang/IndexOutOfBoundsException" D (lay C g ad ln ex) ad B) 1 6 (g_A B) := by
  refine vx_ofW (cc := cX5_arrivalByFlooding) (maxL := 4) (ret := (some .int)) (by decide) rfl ?_
  intro p e s m args below meth c s₁ B₀ hml htab hv
  obtain ⟨rfl, hG, hF⟩ := hv
  have hK := hF.1
  have hN := hF.2.1
  have hB := hF.2.2.2
  have hx := B₀.exec
  have hb := B₀.bytes
  have hts := atoms_spec (ws := wsX5_arrivalByFlooding) B₀.pre
  have hown : s.vm.findClass RX5 = some m.cls := findClass_of_methodNamed B₀.named
  have hlocks := B₀.notSynchronized
  have hS : va_S (g_A B) s.heap s.heap [] := va_S.rf
  have hl := lv_entry [.ref (ad (0, 0, 0)), .int x, .int y, .int z] (n := 4) (Nat.le_of_ble_eq_true rfl)
  rw [lg_entry_eq]
  generalize (lg_sl [.ref (ad (0, 0, 0)), .int x, .int y, .int z] ++ List.replicate (4 - (lg_sl [.ref (ad (0, 0, 0)), .int x, .int y, .int z]).length) Slot.unset).toArray = ls at hl ⊢
  have hl : lv_has ls 4 [(0, .ref (ad (0, 0, 0))), (1, .int x), (2, .int y), (3, .int z)] := hl
  refine lv_aload_n hx hb dX5_arrivalByFlooding_0 rfl (lv_at hl 0 rfl) ?_
  refine lv_iload_n hx hb dX5_arrivalByFlooding_1 rfl (lv_at hl 1 rfl) ?_
  refine lv_iload_n hx hb dX5_arrivalByFlooding_2 rfl (lv_at hl 2 rfl) ?_
  refine lv_iload_n hx hb dX5_arrivalByFlooding_3 rfl (lv_at hl 3 rfl) ?_
  refine vx_callx (vx_runV (As := [.int x, .int y, .int z]) (rest := []) ⟨hx, hb, hml, hown, hts⟩ (z_requireTwoNodesAndMinute l hst hc) (cwV 3 hts gX5_arrivalByFlooding_X5_requireTwoNodesAndMinute rfl rfl rfl (by decide +kernel) ⟨Nat.le_of_ble_eq_true rfl, Nat.le_of_ble_eq_true rfl⟩) (g_preV hF hG hS (lay_main) rfl) rfl rfl hl.1 rfl (lv_room (Nat.le_of_ble_eq_true rfl)) dX5_arrivalByFlooding_4 ⟨Nat.le_of_ble_eq_true rfl, Nat.le_of_ble_eq_true rfl⟩) hS (fun q h => h) (fun q _ h => h) (fun E ce q9 u t H locs ht9 _ _ hbx hS hce hcv hcl => ?_)
  obtain ⟨rfl, hG1⟩ := hbx
  refine vx_out (fun x hx => (htab x hx).elim) hlocks hce hcv hcl (fun t1 ht1 _ => xX_of (H := H) (by rw [← ht9]; exact hG1) hS (by rw [ht1]; exact Nat.le_refl _) (fun q _ => by rw [ht1])) hS.2.2 (Nat.le_refl _) (Nat.le_refl _)

set_option maxHeartbeats 4000000 in
set_option maxRecDepth 100000 in
theorem z_spread (l : Launch) (hst : l.stackTraces = false) {D : va_G} {C : g_C} {g : g_k → Nat → Int32} {ad ln : g_k → Nat} {ex : g_k → Option va_E} {B : Nat} (hc : g (1, 0, 0) 4 = nI 0) {x y z : Int32} : vx_Met l yX5_spread wsX5_spread ({ frames := 7, cells := 1, slots := 6, locals := 103 } : Room) (va_Pc [.ref (ad (0, 0, 0)), .int x, .int y, .int z] (g_S D C (lay C g ad ln ex) ad B)) (fun _ _ _ _ => False) (xX "java/lang/IndexOutOfBoundsException" D (lay C g ad ln ex) ad B) 1 6 (g_A B) := by
  refine vx_ofW (cc := cX5_spread) (maxL := 4) (ret := (some .int)) (by decide) rfl ?_
  intro p e s m args below meth c s₁ B₀ hml htab hv
  obtain ⟨rfl, hG, hF⟩ := hv
  have hK := hF.1
  have hN := hF.2.1
  have hB := hF.2.2.2
  have hx := B₀.exec
  have hb := B₀.bytes
  have hts := atoms_spec (ws := wsX5_spread) B₀.pre
  have hown : s.vm.findClass RX5 = some m.cls := findClass_of_methodNamed B₀.named
  have hlocks := B₀.notSynchronized
  have hS : va_S (g_A B) s.heap s.heap [] := va_S.rf
  have hl := lv_entry [.ref (ad (0, 0, 0)), .int x, .int y, .int z] (n := 4) (Nat.le_of_ble_eq_true rfl)
  rw [lg_entry_eq]
  generalize (lg_sl [.ref (ad (0, 0, 0)), .int x, .int y, .int z] ++ List.replicate (4 - (lg_sl [.ref (ad (0, 0, 0)), .int x, .int y, .int z]).length) Slot.unset).toArray = ls at hl ⊢
  have hl : lv_has ls 4 [(0, .ref (ad (0, 0, 0))), (1, .int x), (2, .int y), (3, .int z)] := hl
  refine lv_aload_n hx hb dX5_spread_0 rfl (lv_at hl 0 rfl) ?_
  refine lv_iload_n hx hb dX5_spread_1 rfl (lv_at hl 1 rfl) ?_
  refine vx_callx (vx_runV (As := [.int x]) (rest := []) ⟨hx, hb, hml, hown, hts⟩ (z_requireNode l hst hc) (cwV 1 hts gX5_spread_X5_requireNode rfl rfl rfl (by decide +kernel) ⟨Nat.le_of_ble_eq_true rfl, Nat.le_of_ble_eq_true rfl⟩) (g_preV hF hG hS (lay_main) rfl) rfl rfl hl.1 rfl (lv_room (Nat.le_of_ble_eq_true rfl)) dX5_spread_2 ⟨Nat.le_of_ble_eq_true rfl, Nat.le_of_ble_eq_true rfl⟩) hS (fun q h => h) (fun q _ h => h) (fun E ce q9 u t H locs ht9 _ _ hbx hS hce hcv hcl => ?_)
  obtain ⟨rfl, hG1⟩ := hbx
  refine vx_out (fun x hx => (htab x hx).elim) hlocks hce hcv hcl (fun t1 ht1 _ => xX_of (H := H) (by rw [← ht9]; exact hG1) hS (by rw [ht1]; exact Nat.le_refl _) (fun q _ => by rw [ht1])) hS.2.2 (Nat.le_refl _) (Nat.le_refl _)

set_option maxHeartbeats 4000000 in
set_option maxRecDepth 100000 in
theorem z_setCapacity (l : Launch) (hst : l.stackTraces = false) {D : va_G} {C : g_C} {g : g_k → Nat → Int32} {ad ln : g_k → Nat} {ex : g_k → Option va_E} {B : Nat} (hc : g (1, 0, 0) 4 = nI 0) {x y : Int32} : vx_Met l yX5_setCapacity wsX5_setCapacity ({ frames := 7, cells := 1, slots := 6, locals := 103 } : Room) (va_Pc [.ref (ad (0, 0, 0)), .int x, .int y] (g_S D C (lay C g ad ln ex) ad B)) (fun _ _ _ _ => False) (xX "java/lang/IndexOutOfBoundsException" D (lay C g ad ln ex) ad B) 1 6 (g_A B) := by
  refine vx_ofW (cc := cX5_setCapacity) (maxL := 4) (ret := (some .int)) (by decide) rfl ?_
  intro p e s m args below meth c s₁ B₀ hml htab hv
  obtain ⟨rfl, hG, hF⟩ := hv
  have hK := hF.1
  have hN := hF.2.1
  have hB := hF.2.2.2
  have hx := B₀.exec
  have hb := B₀.bytes
  have hts := atoms_spec (ws := wsX5_setCapacity) B₀.pre
  have hown : s.vm.findClass RX5 = some m.cls := findClass_of_methodNamed B₀.named
  have hlocks := B₀.notSynchronized
  have hS : va_S (g_A B) s.heap s.heap [] := va_S.rf
  have hl := lv_entry [.ref (ad (0, 0, 0)), .int x, .int y] (n := 4) (Nat.le_of_ble_eq_true rfl)
  rw [lg_entry_eq]
  generalize (lg_sl [.ref (ad (0, 0, 0)), .int x, .int y] ++ List.replicate (4 - (lg_sl [.ref (ad (0, 0, 0)), .int x, .int y]).length) Slot.unset).toArray = ls at hl ⊢
  have hl : lv_has ls 4 [(0, .ref (ad (0, 0, 0))), (1, .int x), (2, .int y)] := hl
  refine lv_aload_n hx hb dX5_setCapacity_0 rfl (lv_at hl 0 rfl) ?_
  refine lv_iload_n hx hb dX5_setCapacity_1 rfl (lv_at hl 1 rfl) ?_
  refine vx_callx (vx_runV (As := [.int x]) (rest := []) ⟨hx, hb, hml, hown, hts⟩ (z_requireNode l hst hc) (cwV 1 hts gX5_setCapacity_X5_requireNode rfl rfl rfl (by decide +kernel) ⟨Nat.le_of_ble_eq_true rfl, Nat.le_of_ble_eq_true rfl⟩) (g_preV hF hG hS (lay_main) rfl) rfl rfl hl.1 rfl (lv_room (Nat.le_of_ble_eq_true rfl)) dX5_setCapacity_2 ⟨Nat.le_of_ble_eq_true rfl, Nat.le_of_ble_eq_true rfl⟩) hS (fun q h => h) (fun q _ h => h) (fun E ce q9 u t H locs ht9 _ _ hbx hS hce hcv hcl => ?_)
  obtain ⟨rfl, hG1⟩ := hbx
  refine vx_out (fun x hx => (htab x hx).elim) hlocks hce hcv hcl (fun t1 ht1 _ => xX_of (H := H) (by rw [← ht9]; exact hG1) hS (by rw [ht1]; exact Nat.le_refl _) (fun q _ => by rw [ht1])) hS.2.2 (Nat.le_refl _) (Nat.le_refl _)

set_option maxHeartbeats 4000000 in
set_option maxRecDepth 100000 in
theorem z_placeAt (l : Launch) (hst : l.stackTraces = false) {D : va_G} {C : g_C} {g : g_k → Nat → Int32} {ad ln : g_k → Nat} {ex : g_k → Option va_E} {B : Nat} (hc : g (1, 0, 0) 4 = nI 0) {x y : Int32} : vx_Met l yX5_placeAt wsX5_placeAt ({ frames := 7, cells := 1, slots := 6, locals := 103 } : Room) (va_Pc [.ref (ad (0, 0, 0)), .int x, .int y] (g_S D C (lay C g ad ln ex) ad B)) (fun _ _ _ _ => False) (xX "java/lang/IndexOutOfBoundsException" D (lay C g ad ln ex) ad B) 1 6 (g_A B) := by
  refine vx_ofW (cc := cX5_placeAt) (maxL := 3) (ret := (some .int)) (by decide) rfl ?_
  intro p e s m args below meth c s₁ B₀ hml htab hv
  obtain ⟨rfl, hG, hF⟩ := hv
  have hK := hF.1
  have hN := hF.2.1
  have hB := hF.2.2.2
  have hx := B₀.exec
  have hb := B₀.bytes
  have hts := atoms_spec (ws := wsX5_placeAt) B₀.pre
  have hown : s.vm.findClass RX5 = some m.cls := findClass_of_methodNamed B₀.named
  have hlocks := B₀.notSynchronized
  have hS : va_S (g_A B) s.heap s.heap [] := va_S.rf
  have hl := lv_entry [.ref (ad (0, 0, 0)), .int x, .int y] (n := 3) (Nat.le_of_ble_eq_true rfl)
  rw [lg_entry_eq]
  generalize (lg_sl [.ref (ad (0, 0, 0)), .int x, .int y] ++ List.replicate (3 - (lg_sl [.ref (ad (0, 0, 0)), .int x, .int y]).length) Slot.unset).toArray = ls at hl ⊢
  have hl : lv_has ls 3 [(0, .ref (ad (0, 0, 0))), (1, .int x), (2, .int y)] := hl
  refine lv_aload_n hx hb dX5_placeAt_0 rfl (lv_at hl 0 rfl) ?_
  refine lv_iload_n hx hb dX5_placeAt_1 rfl (lv_at hl 1 rfl) ?_
  refine vx_callx (vx_runV (As := [.int x]) (rest := []) ⟨hx, hb, hml, hown, hts⟩ (z_requireNode l hst hc) (cwV 1 hts gX5_placeAt_X5_requireNode rfl rfl rfl (by decide +kernel) ⟨Nat.le_of_ble_eq_true rfl, Nat.le_of_ble_eq_true rfl⟩) (g_preV hF hG hS (lay_main) rfl) rfl rfl hl.1 rfl (lv_room (Nat.le_of_ble_eq_true rfl)) dX5_placeAt_2 ⟨Nat.le_of_ble_eq_true rfl, Nat.le_of_ble_eq_true rfl⟩) hS (fun q h => h) (fun q _ h => h) (fun E ce q9 u t H locs ht9 _ _ hbx hS hce hcv hcl => ?_)
  obtain ⟨rfl, hG1⟩ := hbx
  refine vx_out (fun x hx => (htab x hx).elim) hlocks hce hcv hcl (fun t1 ht1 _ => xX_of (H := H) (by rw [← ht9]; exact hG1) hS (by rw [ht1]; exact Nat.le_refl _) (fun q _ => by rw [ht1])) hS.2.2 (Nat.le_refl _) (Nat.le_refl _)

set_option maxHeartbeats 4000000 in
set_option maxRecDepth 100000 in
theorem z_load (l : Launch) (hst : l.stackTraces = false) {D : va_G} {C : g_C} {g : g_k → Nat → Int32} {ad ln : g_k → Nat} {ex : g_k → Option va_E} {B : Nat} (hc : g (1, 0, 0) 4 = nI 0) {x : Int32} : vx_Met l yX5_load wsX5_load ({ frames := 7, cells := 1, slots := 6, locals := 103 } : Room) (va_Pc [.ref (ad (0, 0, 0)), .int x] (g_S D C (lay C g ad ln ex) ad B)) (fun _ _ _ _ => False) (xX "java/lang/IndexOutOfBoundsException" D (lay C g ad ln ex) ad B) 1 6 (g_A B) := by
  refine vx_ofW (cc := cX5_load) (maxL := 2) (ret := (some .int)) (by decide) rfl ?_
  intro p e s m args below meth c s₁ B₀ hml htab hv
  obtain ⟨rfl, hG, hF⟩ := hv
  have hK := hF.1
  have hN := hF.2.1
  have hB := hF.2.2.2
  have hx := B₀.exec
  have hb := B₀.bytes
  have hts := atoms_spec (ws := wsX5_load) B₀.pre
  have hown : s.vm.findClass RX5 = some m.cls := findClass_of_methodNamed B₀.named
  have hlocks := B₀.notSynchronized
  have hS : va_S (g_A B) s.heap s.heap [] := va_S.rf
  have hl := lv_entry [.ref (ad (0, 0, 0)), .int x] (n := 2) (Nat.le_of_ble_eq_true rfl)
  rw [lg_entry_eq]
  generalize (lg_sl [.ref (ad (0, 0, 0)), .int x] ++ List.replicate (2 - (lg_sl [.ref (ad (0, 0, 0)), .int x]).length) Slot.unset).toArray = ls at hl ⊢
  have hl : lv_has ls 2 [(0, .ref (ad (0, 0, 0))), (1, .int x)] := hl
  refine lv_aload_n hx hb dX5_load_0 rfl (lv_at hl 0 rfl) ?_
  refine lv_iload_n hx hb dX5_load_1 rfl (lv_at hl 1 rfl) ?_
  refine vx_callx (vx_runV (As := [.int x]) (rest := []) ⟨hx, hb, hml, hown, hts⟩ (z_requireNode l hst hc) (cwV 1 hts gX5_load_X5_requireNode rfl rfl rfl (by decide +kernel) ⟨Nat.le_of_ble_eq_true rfl, Nat.le_of_ble_eq_true rfl⟩) (g_preV hF hG hS (lay_main) rfl) rfl rfl hl.1 rfl (lv_room (Nat.le_of_ble_eq_true rfl)) dX5_load_2 ⟨Nat.le_of_ble_eq_true rfl, Nat.le_of_ble_eq_true rfl⟩) hS (fun q h => h) (fun q _ h => h) (fun E ce q9 u t H locs ht9 _ _ hbx hS hce hcv hcl => ?_)
  obtain ⟨rfl, hG1⟩ := hbx
  refine vx_out (fun x hx => (htab x hx).elim) hlocks hce hcv hcl (fun t1 ht1 _ => xX_of (H := H) (by rw [← ht9]; exact hG1) hS (by rw [ht1]; exact Nat.le_refl _) (fun q _ => by rw [ht1])) hS.2.2 (Nat.le_refl _) (Nat.le_refl _)

set_option maxHeartbeats 4000000 in
set_option maxRecDepth 100000 in
theorem z_send (l : Launch) (hst : l.stackTraces = false) {D : va_G} {C : g_C} {g : g_k → Nat → Int32} {ad ln : g_k → Nat} {ex : g_k → Option va_E} {B : Nat} (hc : g (1, 0, 0) 4 = nI 0) {x y : Int32} : vx_Met l yX5_send wsX5_send ({ frames := 8, cells := 1, slots := 6, locals := 125 } : Room) (va_Pc [.ref (ad (0, 0, 0)), .int x, .int y] (g_S D C (lay C g ad ln ex) ad B)) (fun _ _ _ _ => False) (xX "java/lang/IndexOutOfBoundsException" D (lay C g ad ln ex) ad B) 1 6 (g_A B) := by
  refine vx_ofW (cc := cX5_send) (maxL := 5) (ret := (some .int)) (by decide) rfl ?_
  intro p e s m args below meth c s₁ B₀ hml htab hv
  obtain ⟨rfl, hG, hF⟩ := hv
  have hK := hF.1
  have hN := hF.2.1
  have hB := hF.2.2.2
  have hx := B₀.exec
  have hb := B₀.bytes
  have hts := atoms_spec (ws := wsX5_send) B₀.pre
  have hown : s.vm.findClass RX5 = some m.cls := findClass_of_methodNamed B₀.named
  have hlocks := B₀.notSynchronized
  have hS : va_S (g_A B) s.heap s.heap [] := va_S.rf
  have hl := lv_entry [.ref (ad (0, 0, 0)), .int x, .int y] (n := 5) (Nat.le_of_ble_eq_true rfl)
  rw [lg_entry_eq]
  generalize (lg_sl [.ref (ad (0, 0, 0)), .int x, .int y] ++ List.replicate (5 - (lg_sl [.ref (ad (0, 0, 0)), .int x, .int y]).length) Slot.unset).toArray = ls at hl ⊢
  have hl : lv_has ls 5 [(0, .ref (ad (0, 0, 0))), (1, .int x), (2, .int y)] := hl
  refine lv_aload_n hx hb dX5_send_0 rfl (lv_at hl 0 rfl) ?_
  refine lv_iload_n hx hb dX5_send_1 rfl (lv_at hl 1 rfl) ?_
  refine vx_callx (vx_runV (As := [.int x]) (rest := []) ⟨hx, hb, hml, hown, hts⟩ (z_requireStation l hst hc) (cwV 1 hts gX5_send_X5_requireStation rfl rfl rfl (by decide +kernel) ⟨Nat.le_of_ble_eq_true rfl, Nat.le_of_ble_eq_true rfl⟩) (g_preV hF hG hS (lay_main) rfl) rfl rfl hl.1 rfl (lv_room (Nat.le_of_ble_eq_true rfl)) dX5_send_2 ⟨Nat.le_of_ble_eq_true rfl, Nat.le_of_ble_eq_true rfl⟩) hS (fun q h => h) (fun q _ h => h) (fun E ce q9 u t H locs ht9 _ _ hbx hS hce hcv hcl => ?_)
  obtain ⟨rfl, hG1⟩ := hbx
  refine vx_out (fun x hx => (htab x hx).elim) hlocks hce hcv hcl (fun t1 ht1 _ => xX_of (H := H) (by rw [← ht9]; exact hG1) hS (by rw [ht1]; exact Nat.le_refl _) (fun q _ => by rw [ht1])) hS.2.2 (Nat.le_refl _) (Nat.le_refl _)

set_option maxHeartbeats 4000000 in
set_option maxRecDepth 100000 in
theorem z_relayOf (l : Launch) (hst : l.stackTraces = false) {D : va_G} {C : g_C} {g : g_k → Nat → Int32} {ad ln : g_k → Nat} {ex : g_k → Option va_E} {B : Nat} (hc : g (1, 0, 0) 4 = nI 0) {x : Int32} : vx_Met l yX5_relayOf wsX5_relayOf ({ frames := 8, cells := 1, slots := 6, locals := 125 } : Room) (va_Pc [.ref (ad (0, 0, 0)), .int x] (g_S D C (lay C g ad ln ex) ad B)) (fun _ _ _ _ => False) (xX "java/lang/IndexOutOfBoundsException" D (lay C g ad ln ex) ad B) 1 6 (g_A B) := by
  refine vx_ofW (cc := cX5_relayOf) (maxL := 2) (ret := (some .int)) (by decide) rfl ?_
  intro p e s m args below meth c s₁ B₀ hml htab hv
  obtain ⟨rfl, hG, hF⟩ := hv
  have hK := hF.1
  have hN := hF.2.1
  have hB := hF.2.2.2
  have hx := B₀.exec
  have hb := B₀.bytes
  have hts := atoms_spec (ws := wsX5_relayOf) B₀.pre
  have hown : s.vm.findClass RX5 = some m.cls := findClass_of_methodNamed B₀.named
  have hlocks := B₀.notSynchronized
  have hS : va_S (g_A B) s.heap s.heap [] := va_S.rf
  have hl := lv_entry [.ref (ad (0, 0, 0)), .int x] (n := 2) (Nat.le_of_ble_eq_true rfl)
  rw [lg_entry_eq]
  generalize (lg_sl [.ref (ad (0, 0, 0)), .int x] ++ List.replicate (2 - (lg_sl [.ref (ad (0, 0, 0)), .int x]).length) Slot.unset).toArray = ls at hl ⊢
  have hl : lv_has ls 2 [(0, .ref (ad (0, 0, 0))), (1, .int x)] := hl
  refine lv_aload_n hx hb dX5_relayOf_0 rfl (lv_at hl 0 rfl) ?_
  refine lv_iload_n hx hb dX5_relayOf_1 rfl (lv_at hl 1 rfl) ?_
  refine vx_callx (vx_runV (As := [.int x]) (rest := []) ⟨hx, hb, hml, hown, hts⟩ (z_requireStation l hst hc) (cwV 1 hts gX5_relayOf_X5_requireStation rfl rfl rfl (by decide +kernel) ⟨Nat.le_of_ble_eq_true rfl, Nat.le_of_ble_eq_true rfl⟩) (g_preV hF hG hS (lay_main) rfl) rfl rfl hl.1 rfl (lv_room (Nat.le_of_ble_eq_true rfl)) dX5_relayOf_2 ⟨Nat.le_of_ble_eq_true rfl, Nat.le_of_ble_eq_true rfl⟩) hS (fun q h => h) (fun q _ h => h) (fun E ce q9 u t H locs ht9 _ _ hbx hS hce hcv hcl => ?_)
  obtain ⟨rfl, hG1⟩ := hbx
  refine vx_out (fun x hx => (htab x hx).elim) hlocks hce hcv hcl (fun t1 ht1 _ => xX_of (H := H) (by rw [← ht9]; exact hG1) hS (by rw [ht1]; exact Nat.le_refl _) (fun q _ => by rw [ht1])) hS.2.2 (Nat.le_refl _) (Nat.le_refl _)

set_option maxHeartbeats 4000000 in
set_option maxRecDepth 100000 in
theorem z_handovers (l : Launch) (hst : l.stackTraces = false) {D : va_G} {C : g_C} {g : g_k → Nat → Int32} {ad ln : g_k → Nat} {ex : g_k → Option va_E} {B : Nat} (hc : g (1, 0, 0) 4 = nI 0) {x : Int32} : vx_Met l yX5_handovers wsX5_handovers ({ frames := 8, cells := 1, slots := 6, locals := 125 } : Room) (va_Pc [.ref (ad (0, 0, 0)), .int x] (g_S D C (lay C g ad ln ex) ad B)) (fun _ _ _ _ => False) (xX "java/lang/IndexOutOfBoundsException" D (lay C g ad ln ex) ad B) 1 6 (g_A B) := by
  refine vx_ofW (cc := cX5_handovers) (maxL := 2) (ret := (some .int)) (by decide) rfl ?_
  intro p e s m args below meth c s₁ B₀ hml htab hv
  obtain ⟨rfl, hG, hF⟩ := hv
  have hK := hF.1
  have hN := hF.2.1
  have hB := hF.2.2.2
  have hx := B₀.exec
  have hb := B₀.bytes
  have hts := atoms_spec (ws := wsX5_handovers) B₀.pre
  have hown : s.vm.findClass RX5 = some m.cls := findClass_of_methodNamed B₀.named
  have hlocks := B₀.notSynchronized
  have hS : va_S (g_A B) s.heap s.heap [] := va_S.rf
  have hl := lv_entry [.ref (ad (0, 0, 0)), .int x] (n := 2) (Nat.le_of_ble_eq_true rfl)
  rw [lg_entry_eq]
  generalize (lg_sl [.ref (ad (0, 0, 0)), .int x] ++ List.replicate (2 - (lg_sl [.ref (ad (0, 0, 0)), .int x]).length) Slot.unset).toArray = ls at hl ⊢
  have hl : lv_has ls 2 [(0, .ref (ad (0, 0, 0))), (1, .int x)] := hl
  refine lv_aload_n hx hb dX5_handovers_0 rfl (lv_at hl 0 rfl) ?_
  refine lv_iload_n hx hb dX5_handovers_1 rfl (lv_at hl 1 rfl) ?_
  refine vx_callx (vx_runV (As := [.int x]) (rest := []) ⟨hx, hb, hml, hown, hts⟩ (z_requireStation l hst hc) (cwV 1 hts gX5_handovers_X5_requireStation rfl rfl rfl (by decide +kernel) ⟨Nat.le_of_ble_eq_true rfl, Nat.le_of_ble_eq_true rfl⟩) (g_preV hF hG hS (lay_main) rfl) rfl rfl hl.1 rfl (lv_room (Nat.le_of_ble_eq_true rfl)) dX5_handovers_2 ⟨Nat.le_of_ble_eq_true rfl, Nat.le_of_ble_eq_true rfl⟩) hS (fun q h => h) (fun q _ h => h) (fun E ce q9 u t H locs ht9 _ _ hbx hS hce hcv hcl => ?_)
  obtain ⟨rfl, hG1⟩ := hbx
  refine vx_out (fun x hx => (htab x hx).elim) hlocks hce hcv hcl (fun t1 ht1 _ => xX_of (H := H) (by rw [← ht9]; exact hG1) hS (by rw [ht1]; exact Nat.le_refl _) (fun q _ => by rw [ht1])) hS.2.2 (Nat.le_refl _) (Nat.le_refl _)

set_option maxHeartbeats 4000000 in
set_option maxRecDepth 100000 in
theorem z_nodeOf (l : Launch) (hst : l.stackTraces = false) {D : va_G} {C : g_C} {g : g_k → Nat → Int32} {ad ln : g_k → Nat} {ex : g_k → Option va_E} {B : Nat} (hM : ln (5, 0, 0) = 0) (hs : g (0, 0, 0) 7 = nI 0) {x : Int32} : vx_Met l yX5_nodeOf wsX5_nodeOf ({ frames := 7, cells := 1, slots := 6, locals := 103 } : Room) (va_Pc [.ref (ad (0, 0, 0)), .int x] (g_S D C (lay C g ad ln ex) ad B)) (fun _ _ _ _ => False) (xX "java/lang/IndexOutOfBoundsException" D (lay C g ad ln ex) ad B) 1 6 (g_A B) := by
  refine vx_ofW (cc := cX5_nodeOf) (maxL := 2) (ret := (some .int)) (by decide) rfl ?_
  intro p e s m args below meth c s₁ B₀ hml htab hv
  obtain ⟨rfl, hG, hF⟩ := hv
  have hK := hF.1
  have hN := hF.2.1
  have hB := hF.2.2.2
  have hx := B₀.exec
  have hb := B₀.bytes
  have hts := atoms_spec (ws := wsX5_nodeOf) B₀.pre
  have hown : s.vm.findClass RX5 = some m.cls := findClass_of_methodNamed B₀.named
  have hlocks := B₀.notSynchronized
  have hS : va_S (g_A B) s.heap s.heap [] := va_S.rf
  have hl := lv_entry [.ref (ad (0, 0, 0)), .int x] (n := 2) (Nat.le_of_ble_eq_true rfl)
  rw [lg_entry_eq]
  generalize (lg_sl [.ref (ad (0, 0, 0)), .int x] ++ List.replicate (2 - (lg_sl [.ref (ad (0, 0, 0)), .int x]).length) Slot.unset).toArray = ls at hl ⊢
  have hl : lv_has ls 2 [(0, .ref (ad (0, 0, 0))), (1, .int x)] := hl
  refine lv_aload_n hx hb dX5_nodeOf_0 rfl (lv_at hl 0 rfl) ?_
  refine lv_iload_n hx hb dX5_nodeOf_1 rfl (lv_at hl 1 rfl) ?_
  refine vx_callx (vx_runV (As := [.int x]) (rest := []) ⟨hx, hb, hml, hown, hts⟩ (x_requireMessage l hst hM (Nat.zero_le 20) hs (no0 x)) (cwV 1 hts gX5_nodeOf_X5_requireMessage rfl rfl rfl (by decide +kernel) ⟨Nat.le_of_ble_eq_true rfl, Nat.le_of_ble_eq_true rfl⟩) (g_preV hF hG hS (lay_main) rfl) rfl rfl hl.1 rfl (lv_room (Nat.le_of_ble_eq_true rfl)) dX5_nodeOf_2 ⟨Nat.le_of_ble_eq_true rfl, Nat.le_of_ble_eq_true rfl⟩) hS (fun q h => h) (fun q _ h => h) (fun E ce q9 u t H locs ht9 _ _ hbx hS hce hcv hcl => ?_)
  obtain ⟨rfl, hG1⟩ := hbx
  refine vx_out (fun x hx => (htab x hx).elim) hlocks hce hcv hcl (fun t1 ht1 _ => xX_of (H := H) (by rw [← ht9]; exact hG1) hS (by rw [ht1]; exact Nat.le_refl _) (fun q _ => by rw [ht1])) hS.2.2 (Nat.le_refl _) (Nat.le_refl _)

set_option maxHeartbeats 4000000 in
set_option maxRecDepth 100000 in
theorem z_hops (l : Launch) (hst : l.stackTraces = false) {D : va_G} {C : g_C} {g : g_k → Nat → Int32} {ad ln : g_k → Nat} {ex : g_k → Option va_E} {B : Nat} (hM : ln (5, 0, 0) = 0) (hs : g (0, 0, 0) 7 = nI 0) {x : Int32} : vx_Met l yX5_hops wsX5_hops ({ frames := 7, cells := 1, slots := 6, locals := 103 } : Room) (va_Pc [.ref (ad (0, 0, 0)), .int x] (g_S D C (lay C g ad ln ex) ad B)) (fun _ _ _ _ => False) (xX "java/lang/IndexOutOfBoundsException" D (lay C g ad ln ex) ad B) 1 6 (g_A B) := by
  refine vx_ofW (cc := cX5_hops) (maxL := 2) (ret := (some .int)) (by decide) rfl ?_
  intro p e s m args below meth c s₁ B₀ hml htab hv
  obtain ⟨rfl, hG, hF⟩ := hv
  have hK := hF.1
  have hN := hF.2.1
  have hB := hF.2.2.2
  have hx := B₀.exec
  have hb := B₀.bytes
  have hts := atoms_spec (ws := wsX5_hops) B₀.pre
  have hown : s.vm.findClass RX5 = some m.cls := findClass_of_methodNamed B₀.named
  have hlocks := B₀.notSynchronized
  have hS : va_S (g_A B) s.heap s.heap [] := va_S.rf
  have hl := lv_entry [.ref (ad (0, 0, 0)), .int x] (n := 2) (Nat.le_of_ble_eq_true rfl)
  rw [lg_entry_eq]
  generalize (lg_sl [.ref (ad (0, 0, 0)), .int x] ++ List.replicate (2 - (lg_sl [.ref (ad (0, 0, 0)), .int x]).length) Slot.unset).toArray = ls at hl ⊢
  have hl : lv_has ls 2 [(0, .ref (ad (0, 0, 0))), (1, .int x)] := hl
  refine lv_aload_n hx hb dX5_hops_0 rfl (lv_at hl 0 rfl) ?_
  refine lv_iload_n hx hb dX5_hops_1 rfl (lv_at hl 1 rfl) ?_
  refine vx_callx (vx_runV (As := [.int x]) (rest := []) ⟨hx, hb, hml, hown, hts⟩ (x_requireMessage l hst hM (Nat.zero_le 20) hs (no0 x)) (cwV 1 hts gX5_hops_X5_requireMessage rfl rfl rfl (by decide +kernel) ⟨Nat.le_of_ble_eq_true rfl, Nat.le_of_ble_eq_true rfl⟩) (g_preV hF hG hS (lay_main) rfl) rfl rfl hl.1 rfl (lv_room (Nat.le_of_ble_eq_true rfl)) dX5_hops_2 ⟨Nat.le_of_ble_eq_true rfl, Nat.le_of_ble_eq_true rfl⟩) hS (fun q h => h) (fun q _ h => h) (fun E ce q9 u t H locs ht9 _ _ hbx hS hce hcv hcl => ?_)
  obtain ⟨rfl, hG1⟩ := hbx
  refine vx_out (fun x hx => (htab x hx).elim) hlocks hce hcv hcl (fun t1 ht1 _ => xX_of (H := H) (by rw [← ht9]; exact hG1) hS (by rw [ht1]; exact Nat.le_refl _) (fun q _ => by rw [ht1])) hS.2.2 (Nat.le_refl _) (Nat.le_refl _)

set_option maxHeartbeats 4000000 in
set_option maxRecDepth 100000 in
theorem z_blocked (l : Launch) (hst : l.stackTraces = false) {D : va_G} {C : g_C} {g : g_k → Nat → Int32} {ad ln : g_k → Nat} {ex : g_k → Option va_E} {B : Nat} (hM : ln (5, 0, 0) = 0) (hs : g (0, 0, 0) 7 = nI 0) {x : Int32} : vx_Met l yX5_blocked wsX5_blocked ({ frames := 7, cells := 1, slots := 6, locals := 103 } : Room) (va_Pc [.ref (ad (0, 0, 0)), .int x] (g_S D C (lay C g ad ln ex) ad B)) (fun _ _ _ _ => False) (xX "java/lang/IndexOutOfBoundsException" D (lay C g ad ln ex) ad B) 1 6 (g_A B) := by
  refine vx_ofW (cc := cX5_blocked) (maxL := 2) (ret := (some .int)) (by decide) rfl ?_
  intro p e s m args below meth c s₁ B₀ hml htab hv
  obtain ⟨rfl, hG, hF⟩ := hv
  have hK := hF.1
  have hN := hF.2.1
  have hB := hF.2.2.2
  have hx := B₀.exec
  have hb := B₀.bytes
  have hts := atoms_spec (ws := wsX5_blocked) B₀.pre
  have hown : s.vm.findClass RX5 = some m.cls := findClass_of_methodNamed B₀.named
  have hlocks := B₀.notSynchronized
  have hS : va_S (g_A B) s.heap s.heap [] := va_S.rf
  have hl := lv_entry [.ref (ad (0, 0, 0)), .int x] (n := 2) (Nat.le_of_ble_eq_true rfl)
  rw [lg_entry_eq]
  generalize (lg_sl [.ref (ad (0, 0, 0)), .int x] ++ List.replicate (2 - (lg_sl [.ref (ad (0, 0, 0)), .int x]).length) Slot.unset).toArray = ls at hl ⊢
  have hl : lv_has ls 2 [(0, .ref (ad (0, 0, 0))), (1, .int x)] := hl
  refine lv_aload_n hx hb dX5_blocked_0 rfl (lv_at hl 0 rfl) ?_
  refine lv_iload_n hx hb dX5_blocked_1 rfl (lv_at hl 1 rfl) ?_
  refine vx_callx (vx_runV (As := [.int x]) (rest := []) ⟨hx, hb, hml, hown, hts⟩ (x_requireMessage l hst hM (Nat.zero_le 20) hs (no0 x)) (cwV 1 hts gX5_blocked_X5_requireMessage rfl rfl rfl (by decide +kernel) ⟨Nat.le_of_ble_eq_true rfl, Nat.le_of_ble_eq_true rfl⟩) (g_preV hF hG hS (lay_main) rfl) rfl rfl hl.1 rfl (lv_room (Nat.le_of_ble_eq_true rfl)) dX5_blocked_2 ⟨Nat.le_of_ble_eq_true rfl, Nat.le_of_ble_eq_true rfl⟩) hS (fun q h => h) (fun q _ h => h) (fun E ce q9 u t H locs ht9 _ _ hbx hS hce hcv hcl => ?_)
  obtain ⟨rfl, hG1⟩ := hbx
  refine vx_out (fun x hx => (htab x hx).elim) hlocks hce hcv hcl (fun t1 ht1 _ => xX_of (H := H) (by rw [← ht9]; exact hG1) hS (by rw [ht1]; exact Nat.le_refl _) (fun q _ => by rw [ht1])) hS.2.2 (Nat.le_refl _) (Nat.le_refl _)

set_option maxHeartbeats 4000000 in
set_option maxRecDepth 100000 in
theorem z_arrivedAt (l : Launch) (hst : l.stackTraces = false) {D : va_G} {C : g_C} {g : g_k → Nat → Int32} {ad ln : g_k → Nat} {ex : g_k → Option va_E} {B : Nat} (hM : ln (5, 0, 0) = 0) (hs : g (0, 0, 0) 7 = nI 0) {x : Int32} : vx_Met l yX5_arrivedAt wsX5_arrivedAt ({ frames := 7, cells := 1, slots := 6, locals := 103 } : Room) (va_Pc [.ref (ad (0, 0, 0)), .int x] (g_S D C (lay C g ad ln ex) ad B)) (fun _ _ _ _ => False) (xX "java/lang/IndexOutOfBoundsException" D (lay C g ad ln ex) ad B) 1 6 (g_A B) := by
  refine vx_ofW (cc := cX5_arrivedAt) (maxL := 3) (ret := (some .int)) (by decide) rfl ?_
  intro p e s m args below meth c s₁ B₀ hml htab hv
  obtain ⟨rfl, hG, hF⟩ := hv
  have hK := hF.1
  have hN := hF.2.1
  have hB := hF.2.2.2
  have hx := B₀.exec
  have hb := B₀.bytes
  have hts := atoms_spec (ws := wsX5_arrivedAt) B₀.pre
  have hown : s.vm.findClass RX5 = some m.cls := findClass_of_methodNamed B₀.named
  have hlocks := B₀.notSynchronized
  have hS : va_S (g_A B) s.heap s.heap [] := va_S.rf
  have hl := lv_entry [.ref (ad (0, 0, 0)), .int x] (n := 3) (Nat.le_of_ble_eq_true rfl)
  rw [lg_entry_eq]
  generalize (lg_sl [.ref (ad (0, 0, 0)), .int x] ++ List.replicate (3 - (lg_sl [.ref (ad (0, 0, 0)), .int x]).length) Slot.unset).toArray = ls at hl ⊢
  have hl : lv_has ls 3 [(0, .ref (ad (0, 0, 0))), (1, .int x)] := hl
  refine lv_aload_n hx hb dX5_arrivedAt_0 rfl (lv_at hl 0 rfl) ?_
  refine lv_iload_n hx hb dX5_arrivedAt_1 rfl (lv_at hl 1 rfl) ?_
  refine vx_callx (vx_runV (As := [.int x]) (rest := []) ⟨hx, hb, hml, hown, hts⟩ (x_requireMessage l hst hM (Nat.zero_le 20) hs (no0 x)) (cwV 1 hts gX5_arrivedAt_X5_requireMessage rfl rfl rfl (by decide +kernel) ⟨Nat.le_of_ble_eq_true rfl, Nat.le_of_ble_eq_true rfl⟩) (g_preV hF hG hS (lay_main) rfl) rfl rfl hl.1 rfl (lv_room (Nat.le_of_ble_eq_true rfl)) dX5_arrivedAt_2 ⟨Nat.le_of_ble_eq_true rfl, Nat.le_of_ble_eq_true rfl⟩) hS (fun q h => h) (fun q _ h => h) (fun E ce q9 u t H locs ht9 _ _ hbx hS hce hcv hcl => ?_)
  obtain ⟨rfl, hG1⟩ := hbx
  refine vx_out (fun x hx => (htab x hx).elim) hlocks hce hcv hcl (fun t1 ht1 _ => xX_of (H := H) (by rw [← ht9]; exact hG1) hS (by rw [ht1]; exact Nat.le_refl _) (fun q _ => by rw [ht1])) hS.2.2 (Nat.le_refl _) (Nat.le_refl _)

set_option maxHeartbeats 4000000 in
set_option maxRecDepth 100000 in
theorem z_hopNode (l : Launch) (hst : l.stackTraces = false) {D : va_G} {C : g_C} {g : g_k → Nat → Int32} {ad ln : g_k → Nat} {ex : g_k → Option va_E} {B : Nat} (hM : ln (5, 0, 0) = 0) (hs : g (0, 0, 0) 7 = nI 0) {x y : Int32} : vx_Met l yX5_hopNode wsX5_hopNode ({ frames := 7, cells := 1, slots := 6, locals := 103 } : Room) (va_Pc [.ref (ad (0, 0, 0)), .int x, .int y] (g_S D C (lay C g ad ln ex) ad B)) (fun _ _ _ _ => False) (xX "java/lang/IndexOutOfBoundsException" D (lay C g ad ln ex) ad B) 1 6 (g_A B) := by
  refine vx_ofW (cc := cX5_hopNode) (maxL := 4) (ret := (some .int)) (by decide) rfl ?_
  intro p e s m args below meth c s₁ B₀ hml htab hv
  obtain ⟨rfl, hG, hF⟩ := hv
  have hK := hF.1
  have hN := hF.2.1
  have hB := hF.2.2.2
  have hx := B₀.exec
  have hb := B₀.bytes
  have hts := atoms_spec (ws := wsX5_hopNode) B₀.pre
  have hown : s.vm.findClass RX5 = some m.cls := findClass_of_methodNamed B₀.named
  have hlocks := B₀.notSynchronized
  have hS : va_S (g_A B) s.heap s.heap [] := va_S.rf
  have hl := lv_entry [.ref (ad (0, 0, 0)), .int x, .int y] (n := 4) (Nat.le_of_ble_eq_true rfl)
  rw [lg_entry_eq]
  generalize (lg_sl [.ref (ad (0, 0, 0)), .int x, .int y] ++ List.replicate (4 - (lg_sl [.ref (ad (0, 0, 0)), .int x, .int y]).length) Slot.unset).toArray = ls at hl ⊢
  have hl : lv_has ls 4 [(0, .ref (ad (0, 0, 0))), (1, .int x), (2, .int y)] := hl
  refine lv_aload_n hx hb dX5_hopNode_0 rfl (lv_at hl 0 rfl) ?_
  refine lv_iload_n hx hb dX5_hopNode_1 rfl (lv_at hl 1 rfl) ?_
  refine vx_callx (vx_runV (As := [.int x]) (rest := []) ⟨hx, hb, hml, hown, hts⟩ (x_requireMessage l hst hM (Nat.zero_le 20) hs (no0 x)) (cwV 1 hts gX5_hopNode_X5_requireMessage rfl rfl rfl (by decide +kernel) ⟨Nat.le_of_ble_eq_true rfl, Nat.le_of_ble_eq_true rfl⟩) (g_preV hF hG hS (lay_main) rfl) rfl rfl hl.1 rfl (lv_room (Nat.le_of_ble_eq_true rfl)) dX5_hopNode_2 ⟨Nat.le_of_ble_eq_true rfl, Nat.le_of_ble_eq_true rfl⟩) hS (fun q h => h) (fun q _ h => h) (fun E ce q9 u t H locs ht9 _ _ hbx hS hce hcv hcl => ?_)
  obtain ⟨rfl, hG1⟩ := hbx
  refine vx_out (fun x hx => (htab x hx).elim) hlocks hce hcv hcl (fun t1 ht1 _ => xX_of (H := H) (by rw [← ht9]; exact hG1) hS (by rw [ht1]; exact Nat.le_refl _) (fun q _ => by rw [ht1])) hS.2.2 (Nat.le_refl _) (Nat.le_refl _)

set_option maxHeartbeats 4000000 in
set_option maxRecDepth 100000 in
theorem z_hopMinute (l : Launch) (hst : l.stackTraces = false) {D : va_G} {C : g_C} {g : g_k → Nat → Int32} {ad ln : g_k → Nat} {ex : g_k → Option va_E} {B : Nat} (hM : ln (5, 0, 0) = 0) (hs : g (0, 0, 0) 7 = nI 0) {x y : Int32} : vx_Met l yX5_hopMinute wsX5_hopMinute ({ frames := 7, cells := 1, slots := 6, locals := 103 } : Room) (va_Pc [.ref (ad (0, 0, 0)), .int x, .int y] (g_S D C (lay C g ad ln ex) ad B)) (fun _ _ _ _ => False) (xX "java/lang/IndexOutOfBoundsException" D (lay C g ad ln ex) ad B) 1 6 (g_A B) := by
  refine vx_ofW (cc := cX5_hopMinute) (maxL := 4) (ret := (some .int)) (by decide) rfl ?_
  intro p e s m args below meth c s₁ B₀ hml htab hv
  obtain ⟨rfl, hG, hF⟩ := hv
  have hK := hF.1
  have hN := hF.2.1
  have hB := hF.2.2.2
  have hx := B₀.exec
  have hb := B₀.bytes
  have hts := atoms_spec (ws := wsX5_hopMinute) B₀.pre
  have hown : s.vm.findClass RX5 = some m.cls := findClass_of_methodNamed B₀.named
  have hlocks := B₀.notSynchronized
  have hS : va_S (g_A B) s.heap s.heap [] := va_S.rf
  have hl := lv_entry [.ref (ad (0, 0, 0)), .int x, .int y] (n := 4) (Nat.le_of_ble_eq_true rfl)
  rw [lg_entry_eq]
  generalize (lg_sl [.ref (ad (0, 0, 0)), .int x, .int y] ++ List.replicate (4 - (lg_sl [.ref (ad (0, 0, 0)), .int x, .int y]).length) Slot.unset).toArray = ls at hl ⊢
  have hl : lv_has ls 4 [(0, .ref (ad (0, 0, 0))), (1, .int x), (2, .int y)] := hl
  refine lv_aload_n hx hb dX5_hopMinute_0 rfl (lv_at hl 0 rfl) ?_
  refine lv_iload_n hx hb dX5_hopMinute_1 rfl (lv_at hl 1 rfl) ?_
  refine vx_callx (vx_runV (As := [.int x]) (rest := []) ⟨hx, hb, hml, hown, hts⟩ (x_requireMessage l hst hM (Nat.zero_le 20) hs (no0 x)) (cwV 1 hts gX5_hopMinute_X5_requireMessage rfl rfl rfl (by decide +kernel) ⟨Nat.le_of_ble_eq_true rfl, Nat.le_of_ble_eq_true rfl⟩) (g_preV hF hG hS (lay_main) rfl) rfl rfl hl.1 rfl (lv_room (Nat.le_of_ble_eq_true rfl)) dX5_hopMinute_2 ⟨Nat.le_of_ble_eq_true rfl, Nat.le_of_ble_eq_true rfl⟩) hS (fun q h => h) (fun q _ h => h) (fun E ce q9 u t H locs ht9 _ _ hbx hS hce hcv hcl => ?_)
  obtain ⟨rfl, hG1⟩ := hbx
  refine vx_out (fun x hx => (htab x hx).elim) hlocks hce hcv hcl (fun t1 ht1 _ => xX_of (H := H) (by rw [← ht9]; exact hG1) hS (by rw [ht1]; exact Nat.le_refl _) (fun q _ => by rw [ht1])) hS.2.2 (Nat.le_refl _) (Nat.le_refl _)

set_option maxHeartbeats 4000000 in
set_option maxRecDepth 100000 in
theorem z_requireArgument (l : Launch) (hst : l.stackTraces = false) {D : va_G} {C : g_C} {g : g_k → Nat → Int32} {E : m_C} {ad ln : g_k → Nat} {ex : g_k → Option va_E} {B : Nat}  : vx_Met l yX5_requireArgument wsX5_requireArgument ({ frames := 6, cells := 1, slots := 6, locals := 82 } : Room) (va_Pc [.int (nI 0)] (m_S D C E (lay C g ad ln ex) ad B)) (fun _ _ _ _ => False) (xX "java/lang/IllegalArgumentException" D (lay C g ad ln ex) ad B) 1 6 (g_A B) := by
  refine vx_ofW (cc := cX5_requireArgument) (maxL := 1) (ret := none) (by decide) rfl ?_
  intro p e s m args below meth c s₁ B₀ hml htab hv
  obtain ⟨rfl, ⟨hG, hF⟩, hK2, hCA⟩ := hv
  have hK := hF.1
  have hN := hF.2.1
  have hB := hF.2.2.2
  have hx := B₀.exec
  have hb := B₀.bytes
  have hts := atoms_spec (ws := wsX5_requireArgument) B₀.pre
  have hown : s.vm.findClass RX5 = some m.cls := findClass_of_methodNamed B₀.named
  have hlocks := B₀.notSynchronized
  have hS : va_S (g_A B) s.heap s.heap [] := va_S.rf
  have hl := lv_entry [.int (nI 0)] (n := 1) (Nat.le_of_ble_eq_true rfl)
  rw [lg_entry_eq]
  generalize (lg_sl [.int (nI 0)] ++ List.replicate (1 - (lg_sl [.int (nI 0)]).length) Slot.unset).toArray = ls at hl ⊢
  have hl : lv_has ls 1 [(0, .int (nI 0))] := hl
  refine lv_iload_n hx hb dX5_requireArgument_0 rfl (lv_at hl 0 rfl) ?_
  refine lv_if_ne (tgt := 14) hx hb dX5_requireArgument_1 (by decide) (fun c_1 => ?_) (fun c_1 => ?_)
  · exact absurd c_1 nI_0z
  · obtain ⟨sa, hstr⟩ := hF.2.2.1.2.2.1.1 (216, "an argument is not allowed") (by simp [g_strs])
    exact vx_throwS (mc := 1) (ms := 6) (A := g_A B) (names := ["java/lang/RuntimeException", "java/lang/Exception"]) hx hb hst hown (by decide +kernel) (by decide +kernel) (hts (.classLink RX5 214 "java/lang/IllegalArgumentException") (by decide +kernel)) (hts (.initialized "java/lang/IllegalArgumentException") (by decide +kernel)) hstr (vx_hat (fun w hw => hts w (by exact List.mem_cons_of_mem _ (List.mem_append_right _ hw))) (B := [.castable "java/lang/IllegalArgumentException" "java/lang/IllegalArgumentException", .declares (Bundle.initS "java/lang/RuntimeException"), .declares (Bundle.initS "java/lang/Exception"), .declares (Bundle.initS Bundle.tN)]) (by decide +kernel) (vx_c (va_Nw.use rfl hCA) (vx_c (va_Nw.use rfl hF.2.2.1.2.2.1.2.2.2.2.1) (vx_c (va_Nw.use rfl hF.2.2.1.2.2.1.2.2.2.2.2.1) (vx_c (va_Nw.use rfl hF.2.2.1.2.2.1.2.2.2.2.2.2) vx_n))))) (by decide +kernel) hF.2.2.1.1 hF.2.2.1.2.1 hS (hl.1.trans hml.symm) dX5_requireArgument_4 dX5_requireArgument_7 dX5_requireArgument_8 dX5_requireArgument_10 dX5_requireArgument_13 (fun x hx => (htab x hx).elim) (Nat.le_of_ble_eq_true rfl) (Nat.le_of_ble_eq_true rfl) (Nat.le_of_ble_eq_true rfl) (Nat.le_of_ble_eq_true rfl) hlocks (fun t _ hsz hk => xX_of hG hS hsz hk) hS.2.2 (Nat.le_refl _) (Nat.le_refl _)

set_option maxHeartbeats 4000000 in
set_option maxRecDepth 100000 in
theorem z_addStation (l : Launch) (hst : l.stackTraces = false) {D : va_G} {C : g_C} {g : g_k → Nat → Int32} {E : m_C} {ad ln : g_k → Nat} {ex : g_k → Option va_E} {B : Nat} {x : Int32} (hbad : ¬ (nI 0 ≤ x ∧ x ≤ nI 359)) : vx_Met l yX5_addStation wsX5_addStation ({ frames := 7, cells := 1, slots := 6, locals := 102 } : Room) (va_Pc [.ref (ad (0, 0, 0)), .int x] (m_S D C E (lay C g ad ln ex) ad B)) (fun _ _ _ _ => False) (xX "java/lang/IllegalArgumentException" D (lay C g ad ln ex) ad B) 1 6 (g_A B) := by
  refine vx_ofW (cc := cX5_addStation) (maxL := 4) (ret := (some .int)) (by decide) rfl ?_
  intro p e s m args below meth c s₁ B₀ hml htab hv
  obtain ⟨rfl, ⟨hG, hF⟩, hK2, hCA⟩ := hv
  have hK := hF.1
  have hN := hF.2.1
  have hB := hF.2.2.2
  have hx := B₀.exec
  have hb := B₀.bytes
  have hts := atoms_spec (ws := wsX5_addStation) B₀.pre
  have hown : s.vm.findClass RX5 = some m.cls := findClass_of_methodNamed B₀.named
  have hlocks := B₀.notSynchronized
  have hS : va_S (g_A B) s.heap s.heap [] := va_S.rf
  have hl := lv_entry [.ref (ad (0, 0, 0)), .int x] (n := 4) (Nat.le_of_ble_eq_true rfl)
  rw [lg_entry_eq]
  generalize (lg_sl [.ref (ad (0, 0, 0)), .int x] ++ List.replicate (4 - (lg_sl [.ref (ad (0, 0, 0)), .int x]).length) Slot.unset).toArray = ls at hl ⊢
  have hl : lv_has ls 4 [(0, .ref (ad (0, 0, 0))), (1, .int x)] := hl
  refine lv_iload_n hx hb dX5_addStation_0 rfl (lv_at hl 1 rfl) ?_
  refine lv_iconst (v := nI 0) hx hb dX5_addStation_1 (by decide) ?_
  refine lv_sipush (v := nI 359) hx hb dX5_addStation_2 (by decide) ?_
  refine vp_callSi (W.runS (As := [.int x, .int (nI 0), .int (nI 359)]) (rest := []) ⟨hx, hb, hml, hown, hts⟩ (c_inRange l ) (va_cwS 3 hts gX5_addStation_X5_inRange rfl rfl rfl (by decide +kernel) ⟨Nat.le_of_ble_eq_true rfl, Nat.le_of_ble_eq_true rfl⟩) (g_preS hF hG hS) rfl rfl hl.1 rfl (lv_room (Nat.le_of_ble_eq_true rfl)) dX5_addStation_5 ⟨Nat.le_of_ble_eq_true rfl, Nat.le_of_ble_eq_true rfl⟩) (fun r_1 h_2 => ?_)
  refine lv_to (y := nI 0) (h_2.trans (if_neg hbad)) ?_
  refine vx_callx (vx_runS (As := [.int (nI 0)]) (rest := []) ⟨hx, hb, hml, hown, hts⟩ (z_requireArgument l hst ) (va_cwS 1 hts gX5_addStation_X5_requireArgument rfl rfl rfl (by decide +kernel) ⟨Nat.le_of_ble_eq_true rfl, Nat.le_of_ble_eq_true rfl⟩) (m_preS hF hK2 hCA hG hS) rfl rfl hl.1 rfl (lv_room (Nat.le_of_ble_eq_true rfl)) dX5_addStation_8 ⟨Nat.le_of_ble_eq_true rfl, Nat.le_of_ble_eq_true rfl⟩) hS (fun q h => h) (fun q _ h => h) (fun E ce q9 u t H locs ht9 _ _ hbx hS hce hcv hcl => ?_)
  obtain ⟨rfl, hG1⟩ := hbx
  refine vx_out (fun x hx => (htab x hx).elim) hlocks hce hcv hcl (fun t1 ht1 _ => xX_of (H := H) (by rw [← ht9]; exact hG1) hS (by rw [ht1]; exact Nat.le_refl _) (fun q _ => by rw [ht1])) hS.2.2 (Nat.le_refl _) (Nat.le_refl _)

set_option maxHeartbeats 4000000 in
set_option maxRecDepth 100000 in
theorem z_pass (l : Launch) (hst : l.stackTraces = false) {D : va_G} {C : g_C} {g : g_k → Nat → Int32} {E : m_C} {ad ln : g_k → Nat} {ex : g_k → Option va_E} {B : Nat} {x : Int32} (hbad : ¬ (nI 1 ≤ x ∧ x ≤ nI 30)) : vx_Met l yX5_pass wsX5_pass ({ frames := 7, cells := 1, slots := 6, locals := 102 } : Room) (va_Pc [.ref (ad (0, 0, 0)), .int x] (m_S D C E (lay C g ad ln ex) ad B)) (fun _ _ _ _ => False) (xX "java/lang/IllegalArgumentException" D (lay C g ad ln ex) ad B) 1 6 (g_A B) := by
  refine vx_ofW (cc := cX5_pass) (maxL := 4) (ret := (some .int)) (by decide) rfl ?_
  intro p e s m args below meth c s₁ B₀ hml htab hv
  obtain ⟨rfl, ⟨hG, hF⟩, hK2, hCA⟩ := hv
  have hK := hF.1
  have hN := hF.2.1
  have hB := hF.2.2.2
  have hx := B₀.exec
  have hb := B₀.bytes
  have hts := atoms_spec (ws := wsX5_pass) B₀.pre
  have hown : s.vm.findClass RX5 = some m.cls := findClass_of_methodNamed B₀.named
  have hlocks := B₀.notSynchronized
  have hS : va_S (g_A B) s.heap s.heap [] := va_S.rf
  have hl := lv_entry [.ref (ad (0, 0, 0)), .int x] (n := 4) (Nat.le_of_ble_eq_true rfl)
  rw [lg_entry_eq]
  generalize (lg_sl [.ref (ad (0, 0, 0)), .int x] ++ List.replicate (4 - (lg_sl [.ref (ad (0, 0, 0)), .int x]).length) Slot.unset).toArray = ls at hl ⊢
  have hl : lv_has ls 4 [(0, .ref (ad (0, 0, 0))), (1, .int x)] := hl
  refine lv_iload_n hx hb dX5_pass_0 rfl (lv_at hl 1 rfl) ?_
  refine lv_iconst (v := nI 1) hx hb dX5_pass_1 (by decide) ?_
  refine lv_bipush (v := nI 30) hx hb dX5_pass_2 (by decide) ?_
  refine vp_callSi (W.runS (As := [.int x, .int (nI 1), .int (nI 30)]) (rest := []) ⟨hx, hb, hml, hown, hts⟩ (c_inRange l ) (va_cwS 3 hts gX5_pass_X5_inRange rfl rfl rfl (by decide +kernel) ⟨Nat.le_of_ble_eq_true rfl, Nat.le_of_ble_eq_true rfl⟩) (g_preS hF hG hS) rfl rfl hl.1 rfl (lv_room (Nat.le_of_ble_eq_true rfl)) dX5_pass_4 ⟨Nat.le_of_ble_eq_true rfl, Nat.le_of_ble_eq_true rfl⟩) (fun r_1 h_2 => ?_)
  refine lv_to (y := nI 0) (h_2.trans (if_neg hbad)) ?_
  refine vx_callx (vx_runS (As := [.int (nI 0)]) (rest := []) ⟨hx, hb, hml, hown, hts⟩ (z_requireArgument l hst ) (va_cwS 1 hts gX5_pass_X5_requireArgument rfl rfl rfl (by decide +kernel) ⟨Nat.le_of_ble_eq_true rfl, Nat.le_of_ble_eq_true rfl⟩) (m_preS hF hK2 hCA hG hS) rfl rfl hl.1 rfl (lv_room (Nat.le_of_ble_eq_true rfl)) dX5_pass_7 ⟨Nat.le_of_ble_eq_true rfl, Nat.le_of_ble_eq_true rfl⟩) hS (fun q h => h) (fun q _ h => h) (fun E ce q9 u t H locs ht9 _ _ hbx hS hce hcv hcl => ?_)
  obtain ⟨rfl, hG1⟩ := hbx
  refine vx_out (fun x hx => (htab x hx).elim) hlocks hce hcv hcl (fun t1 ht1 _ => xX_of (H := H) (by rw [← ht9]; exact hG1) hS (by rw [ht1]; exact Nat.le_refl _) (fun q _ => by rw [ht1])) hS.2.2 (Nat.le_refl _) (Nat.le_refl _)

set_option maxHeartbeats 4000000 in
set_option maxRecDepth 100000 in
theorem z_addRelay (l : Launch) (hst : l.stackTraces = false) {D : va_G} {C : g_C} {g : g_k → Nat → Int32} {E : m_C} {ad ln : g_k → Nat} {ex : g_k → Option va_E} {B : Nat} {x y z v4 : Int32} (hbad : ¬ ((nI 0 ≤ x ∧ x ≤ nI 359) ∧ ((-30) ≤ y ∧ y ≤ nI 30) ∧ (nI 0 ≤ z ∧ z ≤ nI 179) ∧ (nI 1 ≤ v4 ∧ v4 ≤ nI 9))) : vx_Met l yX5_addRelay wsX5_addRelay ({ frames := 7, cells := 1, slots := 6, locals := 102 } : Room) (va_Pc [.ref (ad (0, 0, 0)), .int x, .int y, .int z, .int v4] (m_S D C E (lay C g ad ln ex) ad B)) (fun _ _ _ _ => False) (xX "java/lang/IllegalArgumentException" D (lay C g ad ln ex) ad B) 1 6 (g_A B) := by
  refine vx_ofW (cc := cX5_addRelay) (maxL := 6) (ret := (some .int)) (by decide) rfl ?_
  intro p e s m args below meth c s₁ B₀ hml htab hv
  obtain ⟨rfl, ⟨hG, hF⟩, hK2, hCA⟩ := hv
  have hK := hF.1
  have hN := hF.2.1
  have hB := hF.2.2.2
  have hx := B₀.exec
  have hb := B₀.bytes
  have hts := atoms_spec (ws := wsX5_addRelay) B₀.pre
  have hown : s.vm.findClass RX5 = some m.cls := findClass_of_methodNamed B₀.named
  have hlocks := B₀.notSynchronized
  have hS : va_S (g_A B) s.heap s.heap [] := va_S.rf
  have hl := lv_entry [.ref (ad (0, 0, 0)), .int x, .int y, .int z, .int v4] (n := 6) (Nat.le_of_ble_eq_true rfl)
  rw [lg_entry_eq]
  generalize (lg_sl [.ref (ad (0, 0, 0)), .int x, .int y, .int z, .int v4] ++ List.replicate (6 - (lg_sl [.ref (ad (0, 0, 0)), .int x, .int y, .int z, .int v4]).length) Slot.unset).toArray = ls at hl ⊢
  have hl : lv_has ls 6 [(0, .ref (ad (0, 0, 0))), (1, .int x), (2, .int y), (3, .int z), (4, .int v4)] := hl
  refine lv_iload_n hx hb dX5_addRelay_0 rfl (lv_at hl 1 rfl) ?_
  refine lv_iconst (v := nI 0) hx hb dX5_addRelay_1 (by decide) ?_
  refine lv_sipush (v := nI 359) hx hb dX5_addRelay_2 (by decide) ?_
  refine vp_callSi (W.runS (As := [.int x, .int (nI 0), .int (nI 359)]) (rest := []) ⟨hx, hb, hml, hown, hts⟩ (c_inRange l ) (va_cwS 3 hts gX5_addRelay_X5_inRange rfl rfl rfl (by decide +kernel) ⟨Nat.le_of_ble_eq_true rfl, Nat.le_of_ble_eq_true rfl⟩) (g_preS hF hG hS) rfl rfl hl.1 rfl (lv_room (Nat.le_of_ble_eq_true rfl)) dX5_addRelay_5 ⟨Nat.le_of_ble_eq_true rfl, Nat.le_of_ble_eq_true rfl⟩) (fun r_1 h_2 => ?_)
  rcases Classical.em (nI 0 ≤ x ∧ x ≤ nI 359) with b0 | b0
  · refine lv_to (y := nI 1) (h_2.trans (if_pos (b0))) ?_
    refine va_csv (W.runS (As := [.int (nI 1)]) (rest := []) ⟨hx, hb, hml, hown, hts⟩ (c_requireArgument l ) (va_cwS 1 hts gX5_addRelay_X5_requireArgument rfl rfl rfl (by decide +kernel) ⟨Nat.le_of_ble_eq_true rfl, Nat.le_of_ble_eq_true rfl⟩) (g_preS hF hG hS) rfl rfl hl.1 rfl (lv_room (Nat.le_of_ble_eq_true rfl)) dX5_addRelay_8 ⟨Nat.le_of_ble_eq_true rfl, Nat.le_of_ble_eq_true rfl⟩) (fun h_4 => ?_)
    refine lv_iload_n hx hb dX5_addRelay_11 rfl (lv_at hl 2 rfl) ?_
    refine lv_bipush (v := (-30)) hx hb dX5_addRelay_12 (by decide) ?_
    refine lv_bipush (v := nI 30) hx hb dX5_addRelay_14 (by decide) ?_
    refine vp_callSi (W.runS (As := [.int y, .int (-30), .int (nI 30)]) (rest := []) ⟨hx, hb, hml, hown, hts⟩ (c_inRange l ) (va_cwS 3 hts gX5_addRelay_X5_inRange rfl rfl rfl (by decide +kernel) ⟨Nat.le_of_ble_eq_true rfl, Nat.le_of_ble_eq_true rfl⟩) (g_preS hF hG hS) rfl rfl hl.1 rfl (lv_room (Nat.le_of_ble_eq_true rfl)) dX5_addRelay_16 ⟨Nat.le_of_ble_eq_true rfl, Nat.le_of_ble_eq_true rfl⟩) (fun r_5 h_6 => ?_)
    rcases Classical.em ((-30) ≤ y ∧ y ≤ nI 30) with b1 | b1
    · refine lv_to (y := nI 1) (h_6.trans (if_pos (b1))) ?_
      refine va_csv (W.runS (As := [.int (nI 1)]) (rest := []) ⟨hx, hb, hml, hown, hts⟩ (c_requireArgument l ) (va_cwS 1 hts gX5_addRelay_X5_requireArgument rfl rfl rfl (by decide +kernel) ⟨Nat.le_of_ble_eq_true rfl, Nat.le_of_ble_eq_true rfl⟩) (g_preS hF hG hS) rfl rfl hl.1 rfl (lv_room (Nat.le_of_ble_eq_true rfl)) dX5_addRelay_19 ⟨Nat.le_of_ble_eq_true rfl, Nat.le_of_ble_eq_true rfl⟩) (fun h_8 => ?_)
      refine lv_iload_n hx hb dX5_addRelay_22 rfl (lv_at hl 3 rfl) ?_
      refine lv_iconst (v := nI 0) hx hb dX5_addRelay_23 (by decide) ?_
      refine lv_sipush (v := nI 179) hx hb dX5_addRelay_24 (by decide) ?_
      refine vp_callSi (W.runS (As := [.int z, .int (nI 0), .int (nI 179)]) (rest := []) ⟨hx, hb, hml, hown, hts⟩ (c_inRange l ) (va_cwS 3 hts gX5_addRelay_X5_inRange rfl rfl rfl (by decide +kernel) ⟨Nat.le_of_ble_eq_true rfl, Nat.le_of_ble_eq_true rfl⟩) (g_preS hF hG hS) rfl rfl hl.1 rfl (lv_room (Nat.le_of_ble_eq_true rfl)) dX5_addRelay_27 ⟨Nat.le_of_ble_eq_true rfl, Nat.le_of_ble_eq_true rfl⟩) (fun r_9 h_10 => ?_)
      rcases Classical.em (nI 0 ≤ z ∧ z ≤ nI 179) with b2 | b2
      · refine lv_to (y := nI 1) (h_10.trans (if_pos (b2))) ?_
        refine va_csv (W.runS (As := [.int (nI 1)]) (rest := []) ⟨hx, hb, hml, hown, hts⟩ (c_requireArgument l ) (va_cwS 1 hts gX5_addRelay_X5_requireArgument rfl rfl rfl (by decide +kernel) ⟨Nat.le_of_ble_eq_true rfl, Nat.le_of_ble_eq_true rfl⟩) (g_preS hF hG hS) rfl rfl hl.1 rfl (lv_room (Nat.le_of_ble_eq_true rfl)) dX5_addRelay_30 ⟨Nat.le_of_ble_eq_true rfl, Nat.le_of_ble_eq_true rfl⟩) (fun h_12 => ?_)
        refine lv_iload hx hb dX5_addRelay_33 (lv_at hl 4 rfl) ?_
        refine lv_iconst (v := nI 1) hx hb dX5_addRelay_35 (by decide) ?_
        refine lv_bipush (v := nI 9) hx hb dX5_addRelay_36 (by decide) ?_
        refine vp_callSi (W.runS (As := [.int v4, .int (nI 1), .int (nI 9)]) (rest := []) ⟨hx, hb, hml, hown, hts⟩ (c_inRange l ) (va_cwS 3 hts gX5_addRelay_X5_inRange rfl rfl rfl (by decide +kernel) ⟨Nat.le_of_ble_eq_true rfl, Nat.le_of_ble_eq_true rfl⟩) (g_preS hF hG hS) rfl rfl hl.1 rfl (lv_room (Nat.le_of_ble_eq_true rfl)) dX5_addRelay_38 ⟨Nat.le_of_ble_eq_true rfl, Nat.le_of_ble_eq_true rfl⟩) (fun r_13 h_14 => ?_)
        have b3 : ¬ (nI 1 ≤ v4 ∧ v4 ≤ nI 9) := fun z9 => hbad ⟨b0, b1, b2, z9⟩
        refine lv_to (y := nI 0) (h_14.trans (if_neg b3)) ?_
        refine vx_callx (vx_runS (As := [.int (nI 0)]) (rest := []) ⟨hx, hb, hml, hown, hts⟩ (z_requireArgument l hst ) (va_cwS 1 hts gX5_addRelay_X5_requireArgument rfl rfl rfl (by decide +kernel) ⟨Nat.le_of_ble_eq_true rfl, Nat.le_of_ble_eq_true rfl⟩) (m_preS hF hK2 hCA hG hS) rfl rfl hl.1 rfl (lv_room (Nat.le_of_ble_eq_true rfl)) dX5_addRelay_41 ⟨Nat.le_of_ble_eq_true rfl, Nat.le_of_ble_eq_true rfl⟩) hS (fun q h => h) (fun q _ h => h) (fun E ce q9 u t H locs ht9 _ _ hbx hS hce hcv hcl => ?_)
        obtain ⟨rfl, hG1⟩ := hbx
        refine vx_out (fun x hx => (htab x hx).elim) hlocks hce hcv hcl (fun t1 ht1 _ => xX_of (H := H) (by rw [← ht9]; exact hG1) hS (by rw [ht1]; exact Nat.le_refl _) (fun q _ => by rw [ht1])) hS.2.2 (Nat.le_refl _) (Nat.le_refl _)
      · refine lv_to (y := nI 0) (h_10.trans (if_neg b2)) ?_
        refine vx_callx (vx_runS (As := [.int (nI 0)]) (rest := []) ⟨hx, hb, hml, hown, hts⟩ (z_requireArgument l hst ) (va_cwS 1 hts gX5_addRelay_X5_requireArgument rfl rfl rfl (by decide +kernel) ⟨Nat.le_of_ble_eq_true rfl, Nat.le_of_ble_eq_true rfl⟩) (m_preS hF hK2 hCA hG hS) rfl rfl hl.1 rfl (lv_room (Nat.le_of_ble_eq_true rfl)) dX5_addRelay_30 ⟨Nat.le_of_ble_eq_true rfl, Nat.le_of_ble_eq_true rfl⟩) hS (fun q h => h) (fun q _ h => h) (fun E ce q9 u t H locs ht9 _ _ hbx hS hce hcv hcl => ?_)
        obtain ⟨rfl, hG1⟩ := hbx
        refine vx_out (fun x hx => (htab x hx).elim) hlocks hce hcv hcl (fun t1 ht1 _ => xX_of (H := H) (by rw [← ht9]; exact hG1) hS (by rw [ht1]; exact Nat.le_refl _) (fun q _ => by rw [ht1])) hS.2.2 (Nat.le_refl _) (Nat.le_refl _)
    · refine lv_to (y := nI 0) (h_6.trans (if_neg b1)) ?_
      refine vx_callx (vx_runS (As := [.int (nI 0)]) (rest := []) ⟨hx, hb, hml, hown, hts⟩ (z_requireArgument l hst ) (va_cwS 1 hts gX5_addRelay_X5_requireArgument rfl rfl rfl (by decide +kernel) ⟨Nat.le_of_ble_eq_true rfl, Nat.le_of_ble_eq_true rfl⟩) (m_preS hF hK2 hCA hG hS) rfl rfl hl.1 rfl (lv_room (Nat.le_of_ble_eq_true rfl)) dX5_addRelay_19 ⟨Nat.le_of_ble_eq_true rfl, Nat.le_of_ble_eq_true rfl⟩) hS (fun q h => h) (fun q _ h => h) (fun E ce q9 u t H locs ht9 _ _ hbx hS hce hcv hcl => ?_)
      obtain ⟨rfl, hG1⟩ := hbx
      refine vx_out (fun x hx => (htab x hx).elim) hlocks hce hcv hcl (fun t1 ht1 _ => xX_of (H := H) (by rw [← ht9]; exact hG1) hS (by rw [ht1]; exact Nat.le_refl _) (fun q _ => by rw [ht1])) hS.2.2 (Nat.le_refl _) (Nat.le_refl _)
  · refine lv_to (y := nI 0) (h_2.trans (if_neg b0)) ?_
    refine vx_callx (vx_runS (As := [.int (nI 0)]) (rest := []) ⟨hx, hb, hml, hown, hts⟩ (z_requireArgument l hst ) (va_cwS 1 hts gX5_addRelay_X5_requireArgument rfl rfl rfl (by decide +kernel) ⟨Nat.le_of_ble_eq_true rfl, Nat.le_of_ble_eq_true rfl⟩) (m_preS hF hK2 hCA hG hS) rfl rfl hl.1 rfl (lv_room (Nat.le_of_ble_eq_true rfl)) dX5_addRelay_8 ⟨Nat.le_of_ble_eq_true rfl, Nat.le_of_ble_eq_true rfl⟩) hS (fun q h => h) (fun q _ h => h) (fun E ce q9 u t H locs ht9 _ _ hbx hS hce hcv hcl => ?_)
    obtain ⟨rfl, hG1⟩ := hbx
    refine vx_out (fun x hx => (htab x hx).elim) hlocks hce hcv hcl (fun t1 ht1 _ => xX_of (H := H) (by rw [← ht9]; exact hG1) hS (by rw [ht1]; exact Nat.le_refl _) (fun q _ => by rw [ht1])) hS.2.2 (Nat.le_refl _) (Nat.le_refl _)
