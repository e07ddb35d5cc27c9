set_option maxHeartbeats 4000000 in
set_option maxRecDepth 100000 in
theorem c_inRange (l : Launch) {D : va_G} {C : g_C} {g : g_k → Nat → Int32} {ad ln : g_k → Nat} {ex : g_k → Option va_E} {B : Nat} {x lo hi : Int32} : Met l yX5_inRange wsX5_inRange ({ frames := 0, cells := 0, slots := 0, locals := 0 } : Room) (va_Pc [.int x, .int lo, .int hi] (g_S D C (lay C g ad ln ex) ad B)) (vp_Si (fun r => r = if lo ≤ x ∧ x ≤ hi then nI 1 else nI 0)) 0 0 (fun _ => False) := by
  refine Met.ofW (cc := cX5_inRange) (maxL := 3) (ret := (some .boolean)) (by decide) rfl ?_
  intro p e s m args below meth c s₁ B₀ hml hv
  obtain ⟨rfl, hG, hF⟩ := hv
  have hK := hF.1
  have hN := hF.2.1
  have hB := hF.2.2.2
  have hx := B₀.exec
  have hb := B₀.bytes
  have hr := B₀.returns
  have hts := atoms_spec (ws := wsX5_inRange) B₀.pre
  have hown : s.vm.findClass RX5 = some m.cls := findClass_of_methodNamed B₀.named
  have hlocks := B₀.notSynchronized
  have hS : va_S (g_A B) s.heap s.heap [] := va_S.rf
  have hl := lv_entry [.int x, .int lo, .int hi] (n := 3) (Nat.le_of_ble_eq_true rfl)
  rw [lg_entry_eq]
  generalize (lg_sl [.int x, .int lo, .int hi] ++ List.replicate (3 - (lg_sl [.int x, .int lo, .int hi]).length) Slot.unset).toArray = ls at hl ⊢
  have hl : lv_has ls 3 [(0, .int x), (1, .int lo), (2, .int hi)] := hl
  refine lv_iload_n hx hb dX5_inRange_0 rfl (lv_at hl 0 rfl) ?_
  refine lv_iload_n hx hb dX5_inRange_1 rfl (lv_at hl 1 rfl) ?_
  refine lv_icmp_lt (tgt := 14) hx hb dX5_inRange_2 (by decide) (fun c_1 => ?_) (fun c_1 => ?_)
  · refine lv_iconst (v := nI 0) hx hb dX5_inRange_14 (by decide) ?_
    exact W.zret (v := nI 0) hx hb hr rfl (fun t9 ht9 hW9 => ⟨_, rfl, (if_neg (fun z => absurd z.1 (by rw [Int32.le_iff_toInt_le]; rw [Int32.lt_iff_toInt_lt] at c_1; omega))).symm, ht9⟩) (fun q h => nomatch h) dX5_inRange_15
  · refine lv_iload_n hx hb dX5_inRange_5 rfl (lv_at hl 0 rfl) ?_
    refine lv_iload_n hx hb dX5_inRange_6 rfl (lv_at hl 2 rfl) ?_
    refine lv_icmp_gt (tgt := 14) hx hb dX5_inRange_7 (by decide) (fun c_2 => ?_) (fun c_2 => ?_)
    · refine lv_iconst (v := nI 0) hx hb dX5_inRange_14 (by decide) ?_
      exact W.zret (v := nI 0) hx hb hr rfl (fun t9 ht9 hW9 => ⟨_, rfl, (if_neg (fun z => absurd z.2 (by rw [Int32.le_iff_toInt_le]; rw [Int32.lt_iff_toInt_lt] at c_2; omega))).symm, ht9⟩) (fun q h => nomatch h) dX5_inRange_15
    · refine lv_iconst (v := nI 1) hx hb dX5_inRange_10 (by decide) ?_
      refine lv_goto (tgt := 15) hx hb dX5_inRange_11 (by decide) ?_
      exact W.zret (v := nI 1) hx hb hr rfl (fun t9 ht9 hW9 => ⟨_, rfl, (if_pos ⟨by rw [Int32.le_iff_toInt_le]; rw [Int32.lt_iff_toInt_lt] at c_1; omega, by rw [Int32.le_iff_toInt_le]; rw [Int32.lt_iff_toInt_lt] at c_2; omega⟩).symm, ht9⟩) (fun q h => nomatch h) dX5_inRange_15

set_option maxHeartbeats 4000000 in
set_option maxRecDepth 100000 in
theorem c_requireArgument (l : Launch) {D : va_G} {C : g_C} {g : g_k → Nat → Int32} {ad ln : g_k → Nat} {ex : g_k → Option va_E} {B : Nat}  : Met l yX5_requireArgument wsX5_requireArgument ({ frames := 0, cells := 0, slots := 0, locals := 0 } : Room) (va_Pc [.int (nI 1)] (g_S D C (lay C g ad ln ex) ad B)) (va_Sv (fun _ => True)) 0 0 (fun _ => False) := by
  refine Met.ofW (cc := cX5_requireArgument) (maxL := 1) (ret := none) (by decide) rfl ?_
  intro p e s m args below meth c s₁ B₀ hml hv
  obtain ⟨rfl, hG, hF⟩ := hv
  have hK := hF.1
  have hN := hF.2.1
  have hB := hF.2.2.2
  have hx := B₀.exec
  have hb := B₀.bytes
  have hr := B₀.returns
  have hts := atoms_spec (ws := wsX5_requireArgument) B₀.pre
  have hown : s.vm.findClass RX5 = some m.cls := findClass_of_methodNamed B₀.named
  have hlocks := B₀.notSynchronized
  have hS : va_S (g_A B) s.heap s.heap [] := va_S.rf
  have hl := lv_entry [.int (nI 1)] (n := 1) (Nat.le_of_ble_eq_true rfl)
  rw [lg_entry_eq]
  generalize (lg_sl [.int (nI 1)] ++ List.replicate (1 - (lg_sl [.int (nI 1)]).length) Slot.unset).toArray = ls at hl ⊢
  have hl : lv_has ls 1 [(0, .int (nI 1))] := hl
  refine lv_iload_n hx hb dX5_requireArgument_0 rfl (lv_at hl 0 rfl) ?_
  refine lv_if_ne (tgt := 14) hx hb dX5_requireArgument_1 (by decide) (fun c_1 => ?_) (fun c_1 => ?_)
  · exact W.vret hx hb hr (fun t9 ht9 hW9 => ⟨rfl, trivial, ht9⟩) (fun q h => nomatch h) dX5_requireArgument_14
  · exact absurd (show nI 1 = 0 from c_1) (by decide)

set_option maxHeartbeats 4000000 in
set_option maxRecDepth 100000 in
theorem c_requireMinute (l : Launch) {D : va_G} {C : g_C} {g : g_k → Nat → Int32} {ad ln : g_k → Nat} {ex : g_k → Option va_E} {B : Nat} {t : Nat} (ht : t ≤ 1000000) : Met l yX5_requireMinute wsX5_requireMinute ({ frames := 1, cells := 0, slots := 0, locals := 22 } : Room) (va_Pc [.int (nI t)] (g_S D C (lay C g ad ln ex) ad B)) (va_Sv (fun _ => True)) 0 0 (fun _ => False) := by
  refine Met.ofW (cc := cX5_requireMinute) (maxL := 1) (ret := none) (by decide) rfl ?_
  intro p e s m args below meth c s₁ B₀ hml hv
  obtain ⟨rfl, hG, hF⟩ := hv
  have hK := hF.1
  have hN := hF.2.1
  have hB := hF.2.2.2
  have hx := B₀.exec
  have hb := B₀.bytes
  have hr := B₀.returns
  have hts := atoms_spec (ws := wsX5_requireMinute) B₀.pre
  have hown : s.vm.findClass RX5 = some m.cls := findClass_of_methodNamed B₀.named
  have hlocks := B₀.notSynchronized
  have hS : va_S (g_A B) s.heap s.heap [] := va_S.rf
  have hl := lv_entry [.int (nI t)] (n := 1) (Nat.le_of_ble_eq_true rfl)
  rw [lg_entry_eq]
  generalize (lg_sl [.int (nI t)] ++ List.replicate (1 - (lg_sl [.int (nI t)]).length) Slot.unset).toArray = ls at hl ⊢
  have hl : lv_has ls 1 [(0, .int (nI t))] := hl
  refine lv_iload_n hx hb dX5_requireMinute_0 rfl (lv_at hl 0 rfl) ?_
  refine lv_iconst (v := nI 0) hx hb dX5_requireMinute_1 (by decide) ?_
  refine lv_ldc (v := 1000000) hx hb hown (hts (.constant RX5 147 (1000000)) (by decide +kernel)) dX5_requireMinute_2 ?_
  refine lv_to (y := nI 1000000) (by decide) ?_
  refine vp_callSi (W.runS (As := [.int (nI t), .int (nI 0), .int (nI 1000000)]) (rest := []) ⟨hx, hb, hml, hown, hts⟩ (c_inRange l ) (va_cwS 3 hts gX5_requireMinute_X5_inRange rfl rfl rfl (by decide +kernel) ⟨Nat.le_of_ble_eq_true rfl, Nat.le_of_ble_eq_true rfl⟩) (g_preS hF hG hS) rfl rfl hl.1 rfl (lv_room (Nat.le_of_ble_eq_true rfl)) dX5_requireMinute_4 ⟨Nat.le_of_ble_eq_true rfl, Nat.le_of_ble_eq_true rfl⟩) (fun r_1 h_2 => ?_)
  refine lv_to (y := nI 1) (h_2.trans (if_pos (⟨nI_le (Nat.zero_le t) (by omega), nI_le ht (by decide)⟩))) ?_
  refine va_csv (W.runS (As := [.int (nI 1)]) (rest := []) ⟨hx, hb, hml, hown, hts⟩ (c_requireArgument l ) (va_cwS 1 hts gX5_requireMinute_X5_requireArgument rfl rfl rfl (by decide +kernel) ⟨Nat.le_of_ble_eq_true rfl, Nat.le_of_ble_eq_true rfl⟩) (g_preS hF hG hS) rfl rfl hl.1 rfl (lv_room (Nat.le_of_ble_eq_true rfl)) dX5_requireMinute_7 ⟨Nat.le_of_ble_eq_true rfl, Nat.le_of_ble_eq_true rfl⟩) (fun h_4 => ?_)
  exact W.vret hx hb hr (fun t9 ht9 hW9 => ⟨rfl, trivial, ht9⟩) (fun q h => nomatch h) dX5_requireMinute_10

set_option maxHeartbeats 4000000 in
set_option maxRecDepth 100000 in
theorem c_requireNode (l : Launch) {D : va_G} {C : g_C} {g : g_k → Nat → Int32} {ad ln : g_k → Nat} {ex : g_k → Option va_E} {B : Nat} {n : Nat} (hn : n ≤ 10) (hc : g (1, 0, 0) 4 = nI n) {a : Nat} (ha : a < n) : Met l yX5_requireNode wsX5_requireNode ({ frames := 1, cells := 0, slots := 0, locals := 22 } : Room) (va_Pc [.ref (ad (0, 0, 0)), .int (nI a)] (g_S D C (lay C g ad ln ex) ad B)) (va_Sv (fun _ => True)) 0 0 (fun _ => False) := by
  refine Met.ofW (cc := cX5_requireNode) (maxL := 2) (ret := none) (by decide) rfl ?_
  intro p e s m args below meth c s₁ B₀ hml hv
  obtain ⟨rfl, hG, hF⟩ := hv
  have hK := hF.1
  have hN := hF.2.1
  have hB := hF.2.2.2
  have hx := B₀.exec
  have hb := B₀.bytes
  have hr := B₀.returns
  have hts := atoms_spec (ws := wsX5_requireNode) B₀.pre
  have hown : s.vm.findClass RX5 = some m.cls := findClass_of_methodNamed B₀.named
  have hlocks := B₀.notSynchronized
  have hS : va_S (g_A B) s.heap s.heap [] := va_S.rf
  have hi2 : ∀ w ∈ wsX20, w ∈ wsX5_requireNode := by decide +kernel
  have hi5 : ∀ w ∈ wsX50, w ∈ wsX5_requireNode := by decide +kernel
  have hl := lv_entry [.ref (ad (0, 0, 0)), .int (nI a)] (n := 2) (Nat.le_of_ble_eq_true rfl)
  rw [lg_entry_eq]
  generalize (lg_sl [.ref (ad (0, 0, 0)), .int (nI a)] ++ List.replicate (2 - (lg_sl [.ref (ad (0, 0, 0)), .int (nI a)]).length) Slot.unset).toArray = ls at hl ⊢
  have hl : lv_has ls 2 [(0, .ref (ad (0, 0, 0))), (1, .int (nI a))] := hl
  refine lv_iload_n hx hb dX5_requireNode_0 rfl (lv_at hl 1 rfl) ?_
  refine lv_iconst (v := nI 0) hx hb dX5_requireNode_1 (by decide) ?_
  refine lv_aload_n hx hb dX5_requireNode_2 rfl (lv_at hl 0 rfl) ?_
  refine g_get hx hb hts hi5 hown hK hG (lay_main) rfl 0 (by decide) (hts (.fieldLink RX5 12 "Satellitering" "sky" "LSatellitering$Sky;") (by decide +kernel)) rfl dX5_requireNode_3 ?_
  refine g_getN hx hb hts hi2 hown hK hG (lay_sky) rfl 4 (by decide) (va_Nw.use rfl hN.2.2.2.2.2.2.2.2.2.2.1) rfl dX5_requireNode_6 ?_
  refine lv_to (y := nI n) (hc) ?_
  refine lv_iconst (v := nI 1) hx hb dX5_requireNode_9 (by decide) ?_
  refine lv_isub hx hb dX5_requireNode_10 ?_
  refine lv_to (y := nI (n - 1)) (pk_sub (by omega)) ?_
  refine vp_callSi (W.runS (As := [.int (nI a), .int (nI 0), .int (nI (n - 1))]) (rest := []) ⟨hx, hb, hml, hown, hts⟩ (c_inRange l ) (va_cwS 3 hts gX5_requireNode_X5_inRange rfl rfl rfl (by decide +kernel) ⟨Nat.le_of_ble_eq_true rfl, Nat.le_of_ble_eq_true rfl⟩) (g_preS hF hG hS) rfl rfl hl.1 rfl (lv_room (Nat.le_of_ble_eq_true rfl)) dX5_requireNode_11 ⟨Nat.le_of_ble_eq_true rfl, Nat.le_of_ble_eq_true rfl⟩) (fun r_1 h_2 => ?_)
  refine lv_to (y := nI 1) (h_2.trans (if_pos (⟨nI_le (Nat.zero_le a) (by omega), nI_le (by omega) (by omega)⟩))) ?_
  refine lv_if_ne (tgt := 27) hx hb dX5_requireNode_14 (by decide) (fun c_3 => ?_) (fun c_3 => ?_)
  · exact W.vret hx hb hr (fun t9 ht9 hW9 => ⟨rfl, trivial, ht9⟩) (fun q h => nomatch h) dX5_requireNode_27
  · exact absurd (show nI 1 = 0 from c_3) (by decide)

set_option maxHeartbeats 4000000 in
set_option maxRecDepth 100000 in
theorem c_requireTwo (l : Launch) {D : va_G} {C : g_C} {g : g_k → Nat → Int32} {ad ln : g_k → Nat} {ex : g_k → Option va_E} {B : Nat} {n : Nat} (hn : n ≤ 10) (hc : g (1, 0, 0) 4 = nI n) {a b t : Nat} (ha : a < n) (hb9 : b < n) (ht : t ≤ 1000000) : Met l yX5_requireTwoNodesAndMinute wsX5_requireTwoNodesAndMinute ({ frames := 2, cells := 0, slots := 0, locals := 43 } : Room) (va_Pc [.ref (ad (0, 0, 0)), .int (nI a), .int (nI b), .int (nI t)] (g_S D C (lay C g ad ln ex) ad B)) (va_Sv (fun _ => True)) 0 0 (fun _ => False) := by
  refine Met.ofW (cc := cX5_requireTwoNodesAndMinute) (maxL := 4) (ret := none) (by decide) rfl ?_
  intro p e s m args below meth c s₁ B₀ hml hv
  obtain ⟨rfl, hG, hF⟩ := hv
  have hK := hF.1
  have hN := hF.2.1
  have hB := hF.2.2.2
  have hx := B₀.exec
  have hb := B₀.bytes
  have hr := B₀.returns
  have hts := atoms_spec (ws := wsX5_requireTwoNodesAndMinute) B₀.pre
  have hown : s.vm.findClass RX5 = some m.cls := findClass_of_methodNamed B₀.named
  have hlocks := B₀.notSynchronized
  have hS : va_S (g_A B) s.heap s.heap [] := va_S.rf
  have hl := lv_entry [.ref (ad (0, 0, 0)), .int (nI a), .int (nI b), .int (nI t)] (n := 4) (Nat.le_of_ble_eq_true rfl)
  rw [lg_entry_eq]
  generalize (lg_sl [.ref (ad (0, 0, 0)), .int (nI a), .int (nI b), .int (nI t)] ++ List.replicate (4 - (lg_sl [.ref (ad (0, 0, 0)), .int (nI a), .int (nI b), .int (nI t)]).length) Slot.unset).toArray = ls at hl ⊢
  have hl : lv_has ls 4 [(0, .ref (ad (0, 0, 0))), (1, .int (nI a)), (2, .int (nI b)), (3, .int (nI t))] := hl
  refine lv_aload_n hx hb dX5_requireTwoNodesAndMinute_0 rfl (lv_at hl 0 rfl) ?_
  refine lv_iload_n hx hb dX5_requireTwoNodesAndMinute_1 rfl (lv_at hl 1 rfl) ?_
  refine va_csv (W.runV (As := [.int (nI a)]) (rest := []) ⟨hx, hb, hml, hown, hts⟩ (c_requireNode l hn hc ha) (cwV 1 hts gX5_requireTwoNodesAndMinute_X5_requireNode rfl rfl rfl (by decide +kernel) ⟨Nat.le_of_ble_eq_true rfl, Nat.le_of_ble_eq_true rfl⟩) (g_preV hF hG hS (lay_main) rfl) rfl rfl hl.1 rfl (lv_room (Nat.le_of_ble_eq_true rfl)) dX5_requireTwoNodesAndMinute_2 ⟨Nat.le_of_ble_eq_true rfl, Nat.le_of_ble_eq_true rfl⟩) (fun h_2 => ?_)
  refine lv_aload_n hx hb dX5_requireTwoNodesAndMinute_5 rfl (lv_at hl 0 rfl) ?_
  refine lv_iload_n hx hb dX5_requireTwoNodesAndMinute_6 rfl (lv_at hl 2 rfl) ?_
  refine va_csv (W.runV (As := [.int (nI b)]) (rest := []) ⟨hx, hb, hml, hown, hts⟩ (c_requireNode l hn hc hb9) (cwV 1 hts gX5_requireTwoNodesAndMinute_X5_requireNode rfl rfl rfl (by decide +kernel) ⟨Nat.le_of_ble_eq_true rfl, Nat.le_of_ble_eq_true rfl⟩) (g_preV hF hG hS (lay_main) rfl) rfl rfl hl.1 rfl (lv_room (Nat.le_of_ble_eq_true rfl)) dX5_requireTwoNodesAndMinute_7 ⟨Nat.le_of_ble_eq_true rfl, Nat.le_of_ble_eq_true rfl⟩) (fun h_4 => ?_)
  refine lv_iload_n hx hb dX5_requireTwoNodesAndMinute_10 rfl (lv_at hl 3 rfl) ?_
  refine va_csv (W.runS (As := [.int (nI t)]) (rest := []) ⟨hx, hb, hml, hown, hts⟩ (c_requireMinute l ht) (va_cwS 1 hts gX5_requireTwoNodesAndMinute_X5_requireMinute rfl rfl rfl (by decide +kernel) ⟨Nat.le_of_ble_eq_true rfl, Nat.le_of_ble_eq_true rfl⟩) (g_preS hF hG hS) rfl rfl hl.1 rfl (lv_room (Nat.le_of_ble_eq_true rfl)) dX5_requireTwoNodesAndMinute_11 ⟨Nat.le_of_ble_eq_true rfl, Nat.le_of_ble_eq_true rfl⟩) (fun h_6 => ?_)
  exact W.vret hx hb hr (fun t9 ht9 hW9 => ⟨rfl, trivial, ht9⟩) (fun q h => nomatch h) dX5_requireTwoNodesAndMinute_14

set_option maxHeartbeats 4000000 in
set_option maxRecDepth 100000 in
theorem c_requireStation (l : Launch) {D : va_G} {C : g_C} {g : g_k → Nat → Int32} {ad ln : g_k → Nat} {ex : g_k → Option va_E} {B : Nat} {n : Nat} (hn : n ≤ 10) (hc : g (1, 0, 0) 4 = nI n) {a : Nat} (ha : a < n) (hl9 : ln (30, a, 0) = 1) : Met l yX5_requireStation wsX5_requireStation ({ frames := 2, cells := 0, slots := 0, locals := 43 } : Room) (va_Pc [.ref (ad (0, 0, 0)), .int (nI a)] (g_S D C (lay C g ad ln ex) ad B)) (va_Sr (fun k => k = a) (fun k => .ref (ad (30, k, 0)))) 0 0 (fun _ => False) := by
  refine Met.ofW (cc := cX5_requireStation) (maxL := 3) (ret := (some (.object "Satellitering$Station"))) (by decide) rfl ?_
  intro p e s m args below meth c s₁ B₀ hml hv
  obtain ⟨rfl, hG, hF⟩ := hv
  have hK := hF.1
  have hN := hF.2.1
  have hB := hF.2.2.2
  have hx := B₀.exec
  have hb := B₀.bytes
  have hr := B₀.returns
  have hts := atoms_spec (ws := wsX5_requireStation) B₀.pre
  have hown : s.vm.findClass RX5 = some m.cls := findClass_of_methodNamed B₀.named
  have hlocks := B₀.notSynchronized
  have hS : va_S (g_A B) s.heap s.heap [] := va_S.rf
  have hi5 : ∀ w ∈ wsX50, w ∈ wsX5_requireStation := by decide +kernel
  have hl := lv_entry [.ref (ad (0, 0, 0)), .int (nI a)] (n := 3) (Nat.le_of_ble_eq_true rfl)
  rw [lg_entry_eq]
  generalize (lg_sl [.ref (ad (0, 0, 0)), .int (nI a)] ++ List.replicate (3 - (lg_sl [.ref (ad (0, 0, 0)), .int (nI a)]).length) Slot.unset).toArray = ls at hl ⊢
  have hl : lv_has ls 3 [(0, .ref (ad (0, 0, 0))), (1, .int (nI a))] := hl
  refine lv_aload_n hx hb dX5_requireStation_0 rfl (lv_at hl 0 rfl) ?_
  refine lv_iload_n hx hb dX5_requireStation_1 rfl (lv_at hl 1 rfl) ?_
  refine va_csv (W.runV (As := [.int (nI a)]) (rest := []) ⟨hx, hb, hml, hown, hts⟩ (c_requireNode l hn hc ha) (cwV 1 hts gX5_requireStation_X5_requireNode rfl rfl rfl (by decide +kernel) ⟨Nat.le_of_ble_eq_true rfl, Nat.le_of_ble_eq_true rfl⟩) (g_preV hF hG hS (lay_main) rfl) rfl rfl hl.1 rfl (lv_room (Nat.le_of_ble_eq_true rfl)) dX5_requireStation_2 ⟨Nat.le_of_ble_eq_true rfl, Nat.le_of_ble_eq_true rfl⟩) (fun h_2 => ?_)
  refine lv_aload_n hx hb dX5_requireStation_5 rfl (lv_at hl 0 rfl) ?_
  refine g_get hx hb hts hi5 hown hK hG (lay_main) rfl 2 (by decide) (hts (.fieldLink RX5 27 "Satellitering" "stations" "[LSatellitering$Station;") (by decide +kernel)) rfl dX5_requireStation_6 ?_
  refine lv_iload_n hx hb dX5_requireStation_9 rfl (lv_at hl 1 rfl) ?_
  refine o_stationY hx hb hK hG (show a < 10 by omega) hl9 dX5_requireStation_10 ?_
  refine lv_astore_n (lv' := [(2, .ref (ad (30, a, 0))), (0, .ref (ad (0, 0, 0))), (1, .int (nI a))]) hx hb dX5_requireStation_11 rfl hl (by decide) rfl (fun ls hl => ?_)
  refine lv_aload_n hx hb dX5_requireStation_12 rfl (lv_at hl 0 rfl) ?_
  refine lv_ifnonnull (tgt := 26) hx hb dX5_requireStation_13 (by decide) ?_
  refine lv_aload_n hx hb dX5_requireStation_26 rfl (lv_at hl 0 rfl) ?_
  exact W.aret (v := .ref (ad (30, a, 0))) hx hb hr (Or.inl ⟨_, rfl⟩) (Or.inr ⟨_, rfl⟩) (fun t9 ht9 hW9 => ⟨a, rfl, rfl, ht9⟩) (fun q h => nomatch h) dX5_requireStation_27

set_option maxHeartbeats 4000000 in
set_option maxRecDepth 100000 in
theorem c_requireMessage (l : Launch) {D : va_G} {C : g_C} {g : g_k → Nat → Int32} {ad ln : g_k → Nat} {ex : g_k → Option va_E} {B : Nat} {M : Nat} (hM : ln (5, 0, 0) = M) (hM20 : M ≤ 20) (hs : g (0, 0, 0) 7 = nI M) {a : Nat} (ha : a < M) : Met l yX5_requireMessage wsX5_requireMessage ({ frames := 1, cells := 0, slots := 0, locals := 22 } : Room) (va_Pc [.ref (ad (0, 0, 0)), .int (nI a)] (g_S D C (lay C g ad ln ex) ad B)) (va_Sr (fun k => k = a) (fun k => .ref (ad (40, k, 0)))) 0 0 (fun _ => False) := by
  refine Met.ofW (cc := cX5_requireMessage) (maxL := 2) (ret := (some (.object "Satellitering$Message"))) (by decide) rfl ?_
  intro p e s m args below meth c s₁ B₀ hml hv
  obtain ⟨rfl, hG, hF⟩ := hv
  have hK := hF.1
  have hN := hF.2.1
  have hB := hF.2.2.2
  have hx := B₀.exec
  have hb := B₀.bytes
  have hr := B₀.returns
  have hts := atoms_spec (ws := wsX5_requireMessage) B₀.pre
  have hown : s.vm.findClass RX5 = some m.cls := findClass_of_methodNamed B₀.named
  have hlocks := B₀.notSynchronized
  have hS : va_S (g_A B) s.heap s.heap [] := va_S.rf
  have hi5 : ∀ w ∈ wsX50, w ∈ wsX5_requireMessage := by decide +kernel
  have hl := lv_entry [.ref (ad (0, 0, 0)), .int (nI a)] (n := 2) (Nat.le_of_ble_eq_true rfl)
  rw [lg_entry_eq]
  generalize (lg_sl [.ref (ad (0, 0, 0)), .int (nI a)] ++ List.replicate (2 - (lg_sl [.ref (ad (0, 0, 0)), .int (nI a)]).length) Slot.unset).toArray = ls at hl ⊢
  have hl : lv_has ls 2 [(0, .ref (ad (0, 0, 0))), (1, .int (nI a))] := hl
  refine lv_iload_n hx hb dX5_requireMessage_0 rfl (lv_at hl 1 rfl) ?_
  refine lv_iconst (v := nI 0) hx hb dX5_requireMessage_1 (by decide) ?_
  refine lv_aload_n hx hb dX5_requireMessage_2 rfl (lv_at hl 0 rfl) ?_
  refine g_get hx hb hts hi5 hown hK hG (lay_main) rfl 7 (by decide) (hts (.fieldLink RX5 48 "Satellitering" "sentCount" "I") (by decide +kernel)) rfl dX5_requireMessage_3 ?_
  refine lv_to (y := nI M) (hs) ?_
  refine lv_iconst (v := nI 1) hx hb dX5_requireMessage_6 (by decide) ?_
  refine lv_isub hx hb dX5_requireMessage_7 ?_
  refine lv_to (y := nI (M - 1)) (pk_sub (by omega)) ?_
  refine vp_callSi (W.runS (As := [.int (nI a), .int (nI 0), .int (nI (M - 1))]) (rest := []) ⟨hx, hb, hml, hown, hts⟩ (c_inRange l ) (va_cwS 3 hts gX5_requireMessage_X5_inRange rfl rfl rfl (by decide +kernel) ⟨Nat.le_of_ble_eq_true rfl, Nat.le_of_ble_eq_true rfl⟩) (g_preS hF hG hS) rfl rfl hl.1 rfl (lv_room (Nat.le_of_ble_eq_true rfl)) dX5_requireMessage_8 ⟨Nat.le_of_ble_eq_true rfl, Nat.le_of_ble_eq_true rfl⟩) (fun r_1 h_2 => ?_)
  refine lv_to (y := nI 1) (h_2.trans (if_pos (⟨nI_le (Nat.zero_le a) (by omega), nI_le (by omega) (by omega)⟩))) ?_
  refine lv_if_ne (tgt := 24) hx hb dX5_requireMessage_11 (by decide) (fun c_3 => ?_) (fun c_3 => ?_)
  · refine lv_aload_n hx hb dX5_requireMessage_24 rfl (lv_at hl 0 rfl) ?_
    refine g_get hx hb hts hi5 hown hK hG (lay_main) rfl 4 (by decide) (hts (.fieldLink RX5 37 "Satellitering" "sent" "[LSatellitering$Message;") (by decide +kernel)) rfl dX5_requireMessage_25 ?_
    refine lv_iload_n hx hb dX5_requireMessage_28 rfl (lv_at hl 1 rfl) ?_
    refine o_sent hx hb hK hG (by omega) (by omega) dX5_requireMessage_29 ?_
    exact W.aret (v := .ref (ad (40, a, 0))) hx hb hr (Or.inl ⟨_, rfl⟩) (Or.inr ⟨_, rfl⟩) (fun t9 ht9 hW9 => ⟨a, rfl, rfl, ht9⟩) (fun q h => nomatch h) dX5_requireMessage_30
  · exact absurd (show nI 1 = 0 from c_3) (by decide)

set_option maxHeartbeats 4000000 in
set_option maxRecDepth 100000 in
theorem c_requireHop (l : Launch) {D : va_G} {C : g_C} {g : g_k → Nat → Int32} {ad ln : g_k → Nat} {ex : g_k → Option va_E} {B : Nat} {mg h i : Nat} (hm : mg < ln (5, 0, 0)) (hh : g (40, mg, 0) 5 = nI h) (hh30 : h < 2 ^ 30) (hi9 : i < h) : Met l yX5_requireHop wsX5_requireHop ({ frames := 1, cells := 0, slots := 0, locals := 22 } : Room) (va_Pc [.ref (ad (40, mg, 0)), .int (nI i)] (g_S D C (lay C g ad ln ex) ad B)) (va_Sv (fun _ => True)) 0 0 (fun _ => False) := by
  refine Met.ofW (cc := cX5_requireHop) (maxL := 2) (ret := none) (by decide) rfl ?_
  intro p e s m args below meth c s₁ B₀ hml hv
  obtain ⟨rfl, hG, hF⟩ := hv
  have hK := hF.1
  have hN := hF.2.1
  have hB := hF.2.2.2
  have hx := B₀.exec
  have hb := B₀.bytes
  have hr := B₀.returns
  have hts := atoms_spec (ws := wsX5_requireHop) B₀.pre
  have hown : s.vm.findClass RX5 = some m.cls := findClass_of_methodNamed B₀.named
  have hlocks := B₀.notSynchronized
  have hS : va_S (g_A B) s.heap s.heap [] := va_S.rf
  have hi0 : ∀ w ∈ wsX00, w ∈ wsX5_requireHop := by decide +kernel
  have hl := lv_entry [.ref (ad (40, mg, 0)), .int (nI i)] (n := 2) (Nat.le_of_ble_eq_true rfl)
  rw [lg_entry_eq]
  generalize (lg_sl [.ref (ad (40, mg, 0)), .int (nI i)] ++ List.replicate (2 - (lg_sl [.ref (ad (40, mg, 0)), .int (nI i)]).length) Slot.unset).toArray = ls at hl ⊢
  have hl : lv_has ls 2 [(0, .ref (ad (40, mg, 0))), (1, .int (nI i))] := hl
  refine lv_iload_n hx hb dX5_requireHop_0 rfl (lv_at hl 1 rfl) ?_
  refine lv_iconst (v := nI 0) hx hb dX5_requireHop_1 (by decide) ?_
  refine lv_aload_n hx hb dX5_requireHop_2 rfl (lv_at hl 0 rfl) ?_
  refine g_getN hx hb hts hi0 hown hK hG (lay_msg hm) rfl 5 (by decide) (va_Nw.use rfl hN.2.2.2.1) rfl dX5_requireHop_3 ?_
  refine lv_to (y := nI h) (hh) ?_
  refine lv_iconst (v := nI 1) hx hb dX5_requireHop_6 (by decide) ?_
  refine lv_isub hx hb dX5_requireHop_7 ?_
  refine lv_to (y := nI (h - 1)) (pk_sub (by omega)) ?_
  refine vp_callSi (W.runS (As := [.int (nI i), .int (nI 0), .int (nI (h - 1))]) (rest := []) ⟨hx, hb, hml, hown, hts⟩ (c_inRange l ) (va_cwS 3 hts gX5_requireHop_X5_inRange rfl rfl rfl (by decide +kernel) ⟨Nat.le_of_ble_eq_true rfl, Nat.le_of_ble_eq_true rfl⟩) (g_preS hF hG hS) rfl rfl hl.1 rfl (lv_room (Nat.le_of_ble_eq_true rfl)) dX5_requireHop_8 ⟨Nat.le_of_ble_eq_true rfl, Nat.le_of_ble_eq_true rfl⟩) (fun r_1 h_2 => ?_)
  refine lv_to (y := nI 1) (h_2.trans (if_pos (⟨nI_le (Nat.zero_le i) (by omega), nI_le (by omega) (by omega)⟩))) ?_
  refine lv_if_ne (tgt := 24) hx hb dX5_requireHop_11 (by decide) (fun c_3 => ?_) (fun c_3 => ?_)
  · exact W.vret hx hb hr (fun t9 ht9 hW9 => ⟨rfl, trivial, ht9⟩) (fun q h => nomatch h) dX5_requireHop_24
  · exact absurd (show nI 1 = 0 from c_3) (by decide)

set_option maxHeartbeats 4000000 in
set_option maxRecDepth 100000 in
theorem c_nodes (l : Launch) {D : va_G} {C : g_C} {g : g_k → Nat → Int32} {ad ln : g_k → Nat} {ex : g_k → Option va_E} {B : Nat} {n : Nat} (hn : n ≤ 10) (hc : g (1, 0, 0) 4 = nI n) : Met l yX5_nodes wsX5_nodes ({ frames := 0, cells := 0, slots := 0, locals := 0 } : Room) (va_Pc [.ref (ad (0, 0, 0))] (g_S D C (lay C g ad ln ex) ad B)) (vp_Si (fun r => r = nI n)) 0 0 (fun _ => False) := by
  refine Met.ofW (cc := cX5_nodes) (maxL := 1) (ret := (some .int)) (by decide) rfl ?_
  intro p e s m args below meth c s₁ B₀ hml hv
  obtain ⟨rfl, hG, hF⟩ := hv
  have hK := hF.1
  have hN := hF.2.1
  have hB := hF.2.2.2
  have hx := B₀.exec
  have hb := B₀.bytes
  have hr := B₀.returns
  have hts := atoms_spec (ws := wsX5_nodes) B₀.pre
  have hown : s.vm.findClass RX5 = some m.cls := findClass_of_methodNamed B₀.named
  have hlocks := B₀.notSynchronized
  have hS : va_S (g_A B) s.heap s.heap [] := va_S.rf
  have hi2 : ∀ w ∈ wsX20, w ∈ wsX5_nodes := by decide +kernel
  have hi5 : ∀ w ∈ wsX50, w ∈ wsX5_nodes := by decide +kernel
  have hl := lv_entry [.ref (ad (0, 0, 0))] (n := 1) (Nat.le_of_ble_eq_true rfl)
  rw [lg_entry_eq]
  generalize (lg_sl [.ref (ad (0, 0, 0))] ++ List.replicate (1 - (lg_sl [.ref (ad (0, 0, 0))]).length) Slot.unset).toArray = ls at hl ⊢
  have hl : lv_has ls 1 [(0, .ref (ad (0, 0, 0)))] := hl
  refine lv_aload_n hx hb dX5_nodes_0 rfl (lv_at hl 0 rfl) ?_
  refine g_get hx hb hts hi5 hown hK hG (lay_main) rfl 0 (by decide) (hts (.fieldLink RX5 12 "Satellitering" "sky" "LSatellitering$Sky;") (by decide +kernel)) rfl dX5_nodes_1 ?_
  refine g_getN hx hb hts hi2 hown hK hG (lay_sky) rfl 4 (by decide) (va_Nw.use rfl hN.2.2.2.2.2.2.2.2.2.2.1) rfl dX5_nodes_4 ?_
  refine lv_to (y := nI n) (hc) ?_
  exact W.iret (v := nI n) hx hb hr (fun t9 ht9 hW9 => ⟨_, rfl, rfl, ht9⟩) (fun q h => nomatch h) dX5_nodes_7

set_option maxHeartbeats 4000000 in
set_option maxRecDepth 100000 in
theorem c_now (l : Launch) {D : va_G} {C : g_C} {g : g_k → Nat → Int32} {ad ln : g_k → Nat} {ex : g_k → Option va_E} {B : Nat}  : Met l yX5_now wsX5_now ({ frames := 0, cells := 0, slots := 0, locals := 0 } : Room) (va_Pc [.ref (ad (0, 0, 0))] (g_S D C (lay C g ad ln ex) ad B)) (vp_Si (fun r => r = g (0, 0, 0) 8)) 0 0 (fun _ => False) := by
  refine Met.ofW (cc := cX5_now) (maxL := 1) (ret := (some .int)) (by decide) rfl ?_
  intro p e s m args below meth c s₁ B₀ hml hv
  obtain ⟨rfl, hG, hF⟩ := hv
  have hK := hF.1
  have hN := hF.2.1
  have hB := hF.2.2.2
  have hx := B₀.exec
  have hb := B₀.bytes
  have hr := B₀.returns
  have hts := atoms_spec (ws := wsX5_now) B₀.pre
  have hown : s.vm.findClass RX5 = some m.cls := findClass_of_methodNamed B₀.named
  have hlocks := B₀.notSynchronized
  have hS : va_S (g_A B) s.heap s.heap [] := va_S.rf
  have hi5 : ∀ w ∈ wsX50, w ∈ wsX5_now := by decide +kernel
  have hl := lv_entry [.ref (ad (0, 0, 0))] (n := 1) (Nat.le_of_ble_eq_true rfl)
  rw [lg_entry_eq]
  generalize (lg_sl [.ref (ad (0, 0, 0))] ++ List.replicate (1 - (lg_sl [.ref (ad (0, 0, 0))]).length) Slot.unset).toArray = ls at hl ⊢
  have hl : lv_has ls 1 [(0, .ref (ad (0, 0, 0)))] := hl
  refine lv_aload_n hx hb dX5_now_0 rfl (lv_at hl 0 rfl) ?_
  refine g_get hx hb hts hi5 hown hK hG (lay_main) rfl 8 (by decide) (hts (.fieldLink RX5 51 "Satellitering" "now" "I") (by decide +kernel)) rfl dX5_now_1 ?_
  exact W.iret (v := g (0, 0, 0) 8) hx hb hr (fun t9 ht9 hW9 => ⟨_, rfl, rfl, ht9⟩) (fun q h => nomatch h) dX5_now_4

set_option maxHeartbeats 4000000 in
set_option maxRecDepth 100000 in
theorem c_messages (l : Launch) {D : va_G} {C : g_C} {g : g_k → Nat → Int32} {ad ln : g_k → Nat} {ex : g_k → Option va_E} {B : Nat}  : Met l yX5_messages wsX5_messages ({ frames := 0, cells := 0, slots := 0, locals := 0 } : Room) (va_Pc [.ref (ad (0, 0, 0))] (g_S D C (lay C g ad ln ex) ad B)) (vp_Si (fun r => r = g (0, 0, 0) 7)) 0 0 (fun _ => False) := by
  refine Met.ofW (cc := cX5_messages) (maxL := 1) (ret := (some .int)) (by decide) rfl ?_
  intro p e s m args below meth c s₁ B₀ hml hv
  obtain ⟨rfl, hG, hF⟩ := hv
  have hK := hF.1
  have hN := hF.2.1
  have hB := hF.2.2.2
  have hx := B₀.exec
  have hb := B₀.bytes
  have hr := B₀.returns
  have hts := atoms_spec (ws := wsX5_messages) B₀.pre
  have hown : s.vm.findClass RX5 = some m.cls := findClass_of_methodNamed B₀.named
  have hlocks := B₀.notSynchronized
  have hS : va_S (g_A B) s.heap s.heap [] := va_S.rf
  have hi5 : ∀ w ∈ wsX50, w ∈ wsX5_messages := by decide +kernel
  have hl := lv_entry [.ref (ad (0, 0, 0))] (n := 1) (Nat.le_of_ble_eq_true rfl)
  rw [lg_entry_eq]
  generalize (lg_sl [.ref (ad (0, 0, 0))] ++ List.replicate (1 - (lg_sl [.ref (ad (0, 0, 0))]).length) Slot.unset).toArray = ls at hl ⊢
  have hl : lv_has ls 1 [(0, .ref (ad (0, 0, 0)))] := hl
  refine lv_aload_n hx hb dX5_messages_0 rfl (lv_at hl 0 rfl) ?_
  refine g_get hx hb hts hi5 hown hK hG (lay_main) rfl 7 (by decide) (hts (.fieldLink RX5 48 "Satellitering" "sentCount" "I") (by decide +kernel)) rfl dX5_messages_1 ?_
  exact W.iret (v := g (0, 0, 0) 7) hx hb hr (fun t9 ht9 hW9 => ⟨_, rfl, rfl, ht9⟩) (fun q h => nomatch h) dX5_messages_4

set_option maxHeartbeats 4000000 in
set_option maxRecDepth 100000 in
theorem c_placeAt (l : Launch) {D : va_G} {C : g_C} {g : g_k → Nat → Int32} {ad ln : g_k → Nat} {ex : g_k → Option va_E} {B : Nat} {n : Nat} (hn : n ≤ 10) (hc : g (1, 0, 0) 4 = nI n) {a t : Nat} (ha : a < n) (ht : t ≤ 1000000) : Met l yX5_placeAt wsX5_placeAt ({ frames := 2, cells := 0, slots := 0, locals := 44 } : Room) (va_Pc [.ref (ad (0, 0, 0)), .int (nI a), .int (nI t)] (g_S D C (lay C g ad ln ex) ad B)) (vp_Si (fun r => (∃ p, p < 360 ∧ r = nI p) ∧ (∀ p, p < 360 → g (6, 0, 0) a = nI p → t = 0 → r = nI p))) 0 0 (fun _ => False) := by
  refine Met.ofW (cc := cX5_placeAt) (maxL := 3) (ret := (some .int)) (by decide) rfl ?_
  intro p e s m args below meth c s₁ B₀ hml hv
  obtain ⟨rfl, hG, hF⟩ := hv
  have hK := hF.1
  have hN := hF.2.1
  have hB := hF.2.2.2
  have hx := B₀.exec
  have hb := B₀.bytes
  have hr := B₀.returns
  have hts := atoms_spec (ws := wsX5_placeAt) B₀.pre
  have hown : s.vm.findClass RX5 = some m.cls := findClass_of_methodNamed B₀.named
  have hlocks := B₀.notSynchronized
  have hS : va_S (g_A B) s.heap s.heap [] := va_S.rf
  have hi5 : ∀ w ∈ wsX50, w ∈ wsX5_placeAt := by decide +kernel
  have hl := lv_entry [.ref (ad (0, 0, 0)), .int (nI a), .int (nI t)] (n := 3) (Nat.le_of_ble_eq_true rfl)
  rw [lg_entry_eq]
  generalize (lg_sl [.ref (ad (0, 0, 0)), .int (nI a), .int (nI t)] ++ List.replicate (3 - (lg_sl [.ref (ad (0, 0, 0)), .int (nI a), .int (nI t)]).length) Slot.unset).toArray = ls at hl ⊢
  have hl : lv_has ls 3 [(0, .ref (ad (0, 0, 0))), (1, .int (nI a)), (2, .int (nI t))] := hl
  refine lv_aload_n hx hb dX5_placeAt_0 rfl (lv_at hl 0 rfl) ?_
  refine lv_iload_n hx hb dX5_placeAt_1 rfl (lv_at hl 1 rfl) ?_
  refine va_csv (W.runV (As := [.int (nI a)]) (rest := []) ⟨hx, hb, hml, hown, hts⟩ (c_requireNode l hn hc ha) (cwV 1 hts gX5_placeAt_X5_requireNode rfl rfl rfl (by decide +kernel) ⟨Nat.le_of_ble_eq_true rfl, Nat.le_of_ble_eq_true rfl⟩) (g_preV hF hG hS (lay_main) rfl) rfl rfl hl.1 rfl (lv_room (Nat.le_of_ble_eq_true rfl)) dX5_placeAt_2 ⟨Nat.le_of_ble_eq_true rfl, Nat.le_of_ble_eq_true rfl⟩) (fun h_2 => ?_)
  refine lv_iload_n hx hb dX5_placeAt_5 rfl (lv_at hl 2 rfl) ?_
  refine va_csv (W.runS (As := [.int (nI t)]) (rest := []) ⟨hx, hb, hml, hown, hts⟩ (c_requireMinute l ht) (va_cwS 1 hts gX5_placeAt_X5_requireMinute rfl rfl rfl (by decide +kernel) ⟨Nat.le_of_ble_eq_true rfl, Nat.le_of_ble_eq_true rfl⟩) (g_preS hF hG hS) rfl rfl hl.1 rfl (lv_room (Nat.le_of_ble_eq_true rfl)) dX5_placeAt_6 ⟨Nat.le_of_ble_eq_true rfl, Nat.le_of_ble_eq_true rfl⟩) (fun h_4 => ?_)
  refine lv_aload_n hx hb dX5_placeAt_9 rfl (lv_at hl 0 rfl) ?_
  refine g_get hx hb hts hi5 hown hK hG (lay_main) rfl 0 (by decide) (hts (.fieldLink RX5 12 "Satellitering" "sky" "LSatellitering$Sky;") (by decide +kernel)) rfl dX5_placeAt_10 ?_
  refine lv_iload_n hx hb dX5_placeAt_13 rfl (lv_at hl 1 rfl) ?_
  refine lv_iload_n hx hb dX5_placeAt_14 rfl (lv_at hl 2 rfl) ?_
  refine vp_callSi (W.runV (As := [.int (nI a), .int (nI t)]) (rest := []) ⟨hx, hb, hml, hown, hts⟩ (c_placeOf l (show a < 10 by omega)) (cwV 2 hts gX5_placeAt_X2_placeOf rfl rfl rfl (by decide +kernel) ⟨Nat.le_of_ble_eq_true rfl, Nat.le_of_ble_eq_true rfl⟩) (g_preV hF hG hS (lay_sky) rfl) rfl rfl hl.1 rfl (lv_room (Nat.le_of_ble_eq_true rfl)) dX5_placeAt_15 ⟨Nat.le_of_ble_eq_true rfl, Nat.le_of_ble_eq_true rfl⟩) (fun r_5 h_6 => ?_)
  exact W.iret (v := r_5) hx hb hr (fun t9 ht9 hW9 => ⟨_, rfl, h_6, ht9⟩) (fun q h => nomatch h) dX5_placeAt_18

set_option maxHeartbeats 4000000 in
set_option maxRecDepth 100000 in
theorem c_see (l : Launch) {D : va_G} {C : g_C} {g : g_k → Nat → Int32} {ad ln : g_k → Nat} {ex : g_k → Option va_E} {B : Nat} {n : Nat} (hn : n ≤ 10) (hc : g (1, 0, 0) 4 = nI n) {a b t : Nat} (ha : a < n) (hb9 : b < n) (ht : t ≤ 1000000) : Met l yX5_see wsX5_see ({ frames := 3, cells := 0, slots := 0, locals := 66 } : Room) (va_Pc [.ref (ad (0, 0, 0)), .int (nI a), .int (nI b), .int (nI t)] (g_S D C (lay C g ad ln ex) ad B)) (vp_Si (fun r => r = if see g a b t = true then nI 1 else nI 0)) 0 0 (fun _ => False) := by
  refine Met.ofW (cc := cX5_see) (maxL := 4) (ret := (some .boolean)) (by decide) rfl ?_
  intro p e s m args below meth c s₁ B₀ hml hv
  obtain ⟨rfl, hG, hF⟩ := hv
  have hK := hF.1
  have hN := hF.2.1
  have hB := hF.2.2.2
  have hx := B₀.exec
  have hb := B₀.bytes
  have hr := B₀.returns
  have hts := atoms_spec (ws := wsX5_see) B₀.pre
  have hown : s.vm.findClass RX5 = some m.cls := findClass_of_methodNamed B₀.named
  have hlocks := B₀.notSynchronized
  have hS : va_S (g_A B) s.heap s.heap [] := va_S.rf
  have hi5 : ∀ w ∈ wsX50, w ∈ wsX5_see := by decide +kernel
  have hl := lv_entry [.ref (ad (0, 0, 0)), .int (nI a), .int (nI b), .int (nI t)] (n := 4) (Nat.le_of_ble_eq_true rfl)
  rw [lg_entry_eq]
  generalize (lg_sl [.ref (ad (0, 0, 0)), .int (nI a), .int (nI b), .int (nI t)] ++ List.replicate (4 - (lg_sl [.ref (ad (0, 0, 0)), .int (nI a), .int (nI b), .int (nI t)]).length) Slot.unset).toArray = ls at hl ⊢
  have hl : lv_has ls 4 [(0, .ref (ad (0, 0, 0))), (1, .int (nI a)), (2, .int (nI b)), (3, .int (nI t))] := hl
  refine lv_aload_n hx hb dX5_see_0 rfl (lv_at hl 0 rfl) ?_
  refine lv_iload_n hx hb dX5_see_1 rfl (lv_at hl 1 rfl) ?_
  refine lv_iload_n hx hb dX5_see_2 rfl (lv_at hl 2 rfl) ?_
  refine lv_iload_n hx hb dX5_see_3 rfl (lv_at hl 3 rfl) ?_
  refine va_csv (W.runV (As := [.int (nI a), .int (nI b), .int (nI t)]) (rest := []) ⟨hx, hb, hml, hown, hts⟩ (c_requireTwo l hn hc ha hb9 ht) (cwV 3 hts gX5_see_X5_requireTwoNodesAndMinute rfl rfl rfl (by decide +kernel) ⟨Nat.le_of_ble_eq_true rfl, Nat.le_of_ble_eq_true rfl⟩) (g_preV hF hG hS (lay_main) rfl) rfl rfl hl.1 rfl (lv_room (Nat.le_of_ble_eq_true rfl)) dX5_see_4 ⟨Nat.le_of_ble_eq_true rfl, Nat.le_of_ble_eq_true rfl⟩) (fun h_2 => ?_)
  refine lv_aload_n hx hb dX5_see_7 rfl (lv_at hl 0 rfl) ?_
  refine g_get hx hb hts hi5 hown hK hG (lay_main) rfl 0 (by decide) (hts (.fieldLink RX5 12 "Satellitering" "sky" "LSatellitering$Sky;") (by decide +kernel)) rfl dX5_see_8 ?_
  refine lv_iload_n hx hb dX5_see_11 rfl (lv_at hl 1 rfl) ?_
  refine lv_iload_n hx hb dX5_see_12 rfl (lv_at hl 2 rfl) ?_
  refine lv_iload_n hx hb dX5_see_13 rfl (lv_at hl 3 rfl) ?_
  refine vp_callSi (W.runV (As := [.int (nI a), .int (nI b), .int (nI t)]) (rest := []) ⟨hx, hb, hml, hown, hts⟩ (c_inContact l (show a < 10 by omega) (show b < 32 by omega) (show t < 2 ^ 31 by omega)) (cwV 3 hts gX5_see_X2_inContact rfl rfl rfl (by decide +kernel) ⟨Nat.le_of_ble_eq_true rfl, Nat.le_of_ble_eq_true rfl⟩) (g_preV hF hG hS (lay_sky) rfl) rfl rfl hl.1 rfl (lv_room (Nat.le_of_ble_eq_true rfl)) dX5_see_14 ⟨Nat.le_of_ble_eq_true rfl, Nat.le_of_ble_eq_true rfl⟩) (fun r_3 h_4 => ?_)
  exact W.zret (v := r_3) hx hb hr (by rw [show r_3 = _ from h_4]; split <;> rfl) (fun t9 ht9 hW9 => ⟨_, rfl, h_4, ht9⟩) (fun q h => nomatch h) dX5_see_17

set_option maxHeartbeats 4000000 in
set_option maxRecDepth 100000 in
theorem c_nextContact (l : Launch) {D : va_G} {C : g_C} {g : g_k → Nat → Int32} {ad ln : g_k → Nat} {ex : g_k → Option va_E} {B : Nat} {n : Nat} (hn : n ≤ 10) (hc : g (1, 0, 0) 4 = nI n) {a b t : Nat} (ha : a < n) (hb9 : b < n) (ht : t ≤ 1000000) : Met l yX5_nextContact wsX5_nextContact ({ frames := 3, cells := 0, slots := 0, locals := 69 } : Room) (va_Pc [.ref (ad (0, 0, 0)), .int (nI a), .int (nI b), .int (nI t)] (g_S D C (lay C g ad ln ex) ad B)) (vp_Si (fun r => (∃ k, k < 360 ∧ see g a b (t + k) = true ∧ (∀ j, j < k → see g a b (t + j) = false) ∧ r = nI (t + k)) ∨ ((∀ j, j < 360 → see g a b (t + j) = false) ∧ r = (-1)))) 0 0 (fun _ => False) := by
  refine Met.ofW (cc := cX5_nextContact) (maxL := 4) (ret := (some .int)) (by decide) rfl ?_
  intro p e s m args below meth c s₁ B₀ hml hv
  obtain ⟨rfl, hG, hF⟩ := hv
  have hK := hF.1
  have hN := hF.2.1
  have hB := hF.2.2.2
  have hx := B₀.exec
  have hb := B₀.bytes
  have hr := B₀.returns
  have hts := atoms_spec (ws := wsX5_nextContact) B₀.pre
  have hown : s.vm.findClass RX5 = some m.cls := findClass_of_methodNamed B₀.named
  have hlocks := B₀.notSynchronized
  have hS : va_S (g_A B) s.heap s.heap [] := va_S.rf
  have hi5 : ∀ w ∈ wsX50, w ∈ wsX5_nextContact := by decide +kernel
  have hl := lv_entry [.ref (ad (0, 0, 0)), .int (nI a), .int (nI b), .int (nI t)] (n := 4) (Nat.le_of_ble_eq_true rfl)
  rw [lg_entry_eq]
  generalize (lg_sl [.ref (ad (0, 0, 0)), .int (nI a), .int (nI b), .int (nI t)] ++ List.replicate (4 - (lg_sl [.ref (ad (0, 0, 0)), .int (nI a), .int (nI b), .int (nI t)]).length) Slot.unset).toArray = ls at hl ⊢
  have hl : lv_has ls 4 [(0, .ref (ad (0, 0, 0))), (1, .int (nI a)), (2, .int (nI b)), (3, .int (nI t))] := hl
  refine lv_aload_n hx hb dX5_nextContact_0 rfl (lv_at hl 0 rfl) ?_
  refine lv_iload_n hx hb dX5_nextContact_1 rfl (lv_at hl 1 rfl) ?_
  refine lv_iload_n hx hb dX5_nextContact_2 rfl (lv_at hl 2 rfl) ?_
  refine lv_iload_n hx hb dX5_nextContact_3 rfl (lv_at hl 3 rfl) ?_
  refine va_csv (W.runV (As := [.int (nI a), .int (nI b), .int (nI t)]) (rest := []) ⟨hx, hb, hml, hown, hts⟩ (c_requireTwo l hn hc ha hb9 ht) (cwV 3 hts gX5_nextContact_X5_requireTwoNodesAndMinute rfl rfl rfl (by decide +kernel) ⟨Nat.le_of_ble_eq_true rfl, Nat.le_of_ble_eq_true rfl⟩) (g_preV hF hG hS (lay_main) rfl) rfl rfl hl.1 rfl (lv_room (Nat.le_of_ble_eq_true rfl)) dX5_nextContact_4 ⟨Nat.le_of_ble_eq_true rfl, Nat.le_of_ble_eq_true rfl⟩) (fun h_2 => ?_)
  refine lv_aload_n hx hb dX5_nextContact_7 rfl (lv_at hl 0 rfl) ?_
  refine g_get hx hb hts hi5 hown hK hG (lay_main) rfl 0 (by decide) (hts (.fieldLink RX5 12 "Satellitering" "sky" "LSatellitering$Sky;") (by decide +kernel)) rfl dX5_nextContact_8 ?_
  refine lv_iload_n hx hb dX5_nextContact_11 rfl (lv_at hl 1 rfl) ?_
  refine lv_iload_n hx hb dX5_nextContact_12 rfl (lv_at hl 2 rfl) ?_
  refine lv_iload_n hx hb dX5_nextContact_13 rfl (lv_at hl 3 rfl) ?_
  refine vp_callSi (W.runV (As := [.int (nI a), .int (nI b), .int (nI t)]) (rest := []) ⟨hx, hb, hml, hown, hts⟩ (c_firstContact l (show a < 10 by omega) (show b < 32 by omega) (show t + 360 < 2 ^ 31 by omega)) (cwV 3 hts gX5_nextContact_X2_firstContact rfl rfl rfl (by decide +kernel) ⟨Nat.le_of_ble_eq_true rfl, Nat.le_of_ble_eq_true rfl⟩) (g_preV hF hG hS (lay_sky) rfl) rfl rfl hl.1 rfl (lv_room (Nat.le_of_ble_eq_true rfl)) dX5_nextContact_14 ⟨Nat.le_of_ble_eq_true rfl, Nat.le_of_ble_eq_true rfl⟩) (fun r_3 h_4 => ?_)
  exact W.iret (v := r_3) hx hb hr (fun t9 ht9 hW9 => ⟨_, rfl, h_4, ht9⟩) (fun q h => nomatch h) dX5_nextContact_17

set_option maxHeartbeats 4000000 in
set_option maxRecDepth 100000 in
theorem c_view (l : Launch) {D : va_G} {C : g_C} {g : g_k → Nat → Int32} {ad ln : g_k → Nat} {ex : g_k → Option va_E} {B : Nat} {n : Nat} (hn : n ≤ 10) (hc : g (1, 0, 0) 4 = nI n) {a b t : Nat} (ha : a < n) (hb9 : b < n) (ht : t ≤ 1000000) : Met l yX5_view wsX5_view ({ frames := 3, cells := 0, slots := 0, locals := 69 } : Room) (va_Pc [.ref (ad (0, 0, 0)), .int (nI a), .int (nI b), .int (nI t)] (g_S D C (lay C g ad ln ex) ad B)) (vp_Si (fun r => ∃ k, k ≤ 360 ∧ (∀ j, j < k → see g a b (t + j) = true) ∧ (k < 360 → see g a b (t + k) = false) ∧ r = nI k)) 0 0 (fun _ => False) := by
  refine Met.ofW (cc := cX5_view) (maxL := 4) (ret := (some .int)) (by decide) rfl ?_
  intro p e s m args below meth c s₁ B₀ hml hv
  obtain ⟨rfl, hG, hF⟩ := hv
  have hK := hF.1
  have hN := hF.2.1
  have hB := hF.2.2.2
  have hx := B₀.exec
  have hb := B₀.bytes
  have hr := B₀.returns
  have hts := atoms_spec (ws := wsX5_view) B₀.pre
  have hown : s.vm.findClass RX5 = some m.cls := findClass_of_methodNamed B₀.named
  have hlocks := B₀.notSynchronized
  have hS : va_S (g_A B) s.heap s.heap [] := va_S.rf
  have hi5 : ∀ w ∈ wsX50, w ∈ wsX5_view := by decide +kernel
  have hl := lv_entry [.ref (ad (0, 0, 0)), .int (nI a), .int (nI b), .int (nI t)] (n := 4) (Nat.le_of_ble_eq_true rfl)
  rw [lg_entry_eq]
  generalize (lg_sl [.ref (ad (0, 0, 0)), .int (nI a), .int (nI b), .int (nI t)] ++ List.replicate (4 - (lg_sl [.ref (ad (0, 0, 0)), .int (nI a), .int (nI b), .int (nI t)]).length) Slot.unset).toArray = ls at hl ⊢
  have hl : lv_has ls 4 [(0, .ref (ad (0, 0, 0))), (1, .int (nI a)), (2, .int (nI b)), (3, .int (nI t))] := hl
  refine lv_aload_n hx hb dX5_view_0 rfl (lv_at hl 0 rfl) ?_
  refine lv_iload_n hx hb dX5_view_1 rfl (lv_at hl 1 rfl) ?_
  refine lv_iload_n hx hb dX5_view_2 rfl (lv_at hl 2 rfl) ?_
  refine lv_iload_n hx hb dX5_view_3 rfl (lv_at hl 3 rfl) ?_
  refine va_csv (W.runV (As := [.int (nI a), .int (nI b), .int (nI t)]) (rest := []) ⟨hx, hb, hml, hown, hts⟩ (c_requireTwo l hn hc ha hb9 ht) (cwV 3 hts gX5_view_X5_requireTwoNodesAndMinute rfl rfl rfl (by decide +kernel) ⟨Nat.le_of_ble_eq_true rfl, Nat.le_of_ble_eq_true rfl⟩) (g_preV hF hG hS (lay_main) rfl) rfl rfl hl.1 rfl (lv_room (Nat.le_of_ble_eq_true rfl)) dX5_view_4 ⟨Nat.le_of_ble_eq_true rfl, Nat.le_of_ble_eq_true rfl⟩) (fun h_2 => ?_)
  refine lv_aload_n hx hb dX5_view_7 rfl (lv_at hl 0 rfl) ?_
  refine g_get hx hb hts hi5 hown hK hG (lay_main) rfl 0 (by decide) (hts (.fieldLink RX5 12 "Satellitering" "sky" "LSatellitering$Sky;") (by decide +kernel)) rfl dX5_view_8 ?_
  refine lv_iload_n hx hb dX5_view_11 rfl (lv_at hl 1 rfl) ?_
  refine lv_iload_n hx hb dX5_view_12 rfl (lv_at hl 2 rfl) ?_
  refine lv_iload_n hx hb dX5_view_13 rfl (lv_at hl 3 rfl) ?_
  refine vp_callSi (W.runV (As := [.int (nI a), .int (nI b), .int (nI t)]) (rest := []) ⟨hx, hb, hml, hown, hts⟩ (c_contactLength l (show a < 10 by omega) (show b < 32 by omega) (show t + 360 < 2 ^ 31 by omega)) (cwV 3 hts gX5_view_X2_contactLength rfl rfl rfl (by decide +kernel) ⟨Nat.le_of_ble_eq_true rfl, Nat.le_of_ble_eq_true rfl⟩) (g_preV hF hG hS (lay_sky) rfl) rfl rfl hl.1 rfl (lv_room (Nat.le_of_ble_eq_true rfl)) dX5_view_14 ⟨Nat.le_of_ble_eq_true rfl, Nat.le_of_ble_eq_true rfl⟩) (fun r_3 h_4 => ?_)
  exact W.iret (v := r_3) hx hb hr (fun t9 ht9 hW9 => ⟨_, rfl, h_4, ht9⟩) (fun q h => nomatch h) dX5_view_17

set_option maxHeartbeats 4000000 in
set_option maxRecDepth 100000 in
theorem c_arrival (l : Launch) {D : va_G} {C : g_C} {g : g_k → Nat → Int32} {ad ln : g_k → Nat} {ex : g_k → Option va_E} {B : Nat} {n : Nat} (hn : n ≤ 10) (hc : g (1, 0, 0) 4 = nI n) {a b t : Nat} (ha : a < n) (hb9 : b < n) (ht : t ≤ 1000000) : Met l yX5_arrival wsX5_arrival ({ frames := 5, cells := 0, slots := 0, locals := 120 } : Room) (va_Pc [.ref (ad (0, 0, 0)), .int (nI a), .int (nI b), .int (nI t)] (g_S D C (lay C g ad ln ex) ad B)) (va_Qi (fun (r : Int32) (g1 : g_k → Nat → Int32) => arr_P g n a t b r ∧ ∀ c, c ≠ (10, 0, 0) → g1 c = g c) (fun g1 t => g_P D (lay C g1 ad ln ex) ad B t.heap) (g_A B)) 0 0 (g_A B) := by
  refine Met.ofW (cc := cX5_arrival) (maxL := 4) (ret := (some .int)) (by decide) rfl ?_
  intro p e s m args below meth c s₁ B₀ hml hv
  obtain ⟨rfl, hG, hF⟩ := hv
  have hK := hF.1
  have hN := hF.2.1
  have hB := hF.2.2.2
  have hx := B₀.exec
  have hb := B₀.bytes
  have hr := B₀.returns
  have hts := atoms_spec (ws := wsX5_arrival) B₀.pre
  have hown : s.vm.findClass RX5 = some m.cls := findClass_of_methodNamed B₀.named
  have hlocks := B₀.notSynchronized
  have hS : va_S (g_A B) s.heap s.heap [] := va_S.rf
  have hi5 : ∀ w ∈ wsX50, w ∈ wsX5_arrival := by decide +kernel
  have hl := lv_entry [.ref (ad (0, 0, 0)), .int (nI a), .int (nI b), .int (nI t)] (n := 4) (Nat.le_of_ble_eq_true rfl)
  rw [lg_entry_eq]
  generalize (lg_sl [.ref (ad (0, 0, 0)), .int (nI a), .int (nI b), .int (nI t)] ++ List.replicate (4 - (lg_sl [.ref (ad (0, 0, 0)), .int (nI a), .int (nI b), .int (nI t)]).length) Slot.unset).toArray = ls at hl ⊢
  have hl : lv_has ls 4 [(0, .ref (ad (0, 0, 0))), (1, .int (nI a)), (2, .int (nI b)), (3, .int (nI t))] := hl
  refine lv_aload_n hx hb dX5_arrival_0 rfl (lv_at hl 0 rfl) ?_
  refine lv_iload_n hx hb dX5_arrival_1 rfl (lv_at hl 1 rfl) ?_
  refine lv_iload_n hx hb dX5_arrival_2 rfl (lv_at hl 2 rfl) ?_
  refine lv_iload_n hx hb dX5_arrival_3 rfl (lv_at hl 3 rfl) ?_
  refine va_csv (W.runV (As := [.int (nI a), .int (nI b), .int (nI t)]) (rest := []) ⟨hx, hb, hml, hown, hts⟩ (c_requireTwo l hn hc ha hb9 ht) (cwV 3 hts gX5_arrival_X5_requireTwoNodesAndMinute rfl rfl rfl (by decide +kernel) ⟨Nat.le_of_ble_eq_true rfl, Nat.le_of_ble_eq_true rfl⟩) (g_preV hF hG hS (lay_main) rfl) rfl rfl hl.1 rfl (lv_room (Nat.le_of_ble_eq_true rfl)) dX5_arrival_4 ⟨Nat.le_of_ble_eq_true rfl, Nat.le_of_ble_eq_true rfl⟩) (fun h_2 => ?_)
  refine lv_aload_n hx hb dX5_arrival_7 rfl (lv_at hl 0 rfl) ?_
  refine g_get hx hb hts hi5 hown hK hG (lay_main) rfl 1 (by decide) (hts (.fieldLink RX5 21 "Satellitering" "search" "LSatellitering$Search;") (by decide +kernel)) rfl dX5_arrival_8 ?_
  refine lv_iload_n hx hb dX5_arrival_11 rfl (lv_at hl 1 rfl) ?_
  refine lv_iload_n hx hb dX5_arrival_12 rfl (lv_at hl 2 rfl) ?_
  refine lv_iload_n hx hb dX5_arrival_13 rfl (lv_at hl 3 rfl) ?_
  refine va_calli (va_runV (As := [.int (nI a), .int (nI b), .int (nI t)]) (rest := []) ⟨hx, hb, hml, hown, hts⟩ (c_byContacts l hn hc ha hb9 (show t < 2 ^ 29 by omega)) (cwV 3 hts gX5_arrival_X1_byContacts rfl rfl rfl (by decide +kernel) ⟨Nat.le_of_ble_eq_true rfl, Nat.le_of_ble_eq_true rfl⟩) (g_preV hF hG hS (lay_search) rfl) rfl rfl hl.1 rfl (lv_room (Nat.le_of_ble_eq_true rfl)) dX5_arrival_14 ⟨Nat.le_of_ble_eq_true rfl, Nat.le_of_ble_eq_true rfl⟩) hS (fun q _ h => h) (fun q h => h) (fun r_3 g_5 t9 H locs ht9 _ h_4 hB1 _ _ hS => ?_)
  have hG : g_P D (lay C g_5 ad ln ex) ad B H := by rw [← ht9]; exact hB1
  exact W.iret (v := r_3) hx hb hr (fun t9 ht9 hW9 => ⟨⟨_, _, rfl, h_4, by show g_P _ _ _ _ t9.heap; rw [ht9]; exact hG⟩, hS.F ht9⟩) hS.2.2 dX5_arrival_17

set_option maxHeartbeats 4000000 in
set_option maxRecDepth 100000 in
theorem c_arrivalByFlooding (l : Launch) {D : va_G} {C : g_C} {g : g_k → Nat → Int32} {ad ln : g_k → Nat} {ex : g_k → Option va_E} {B : Nat} {n : Nat} (hn : n ≤ 10) (hc : g (1, 0, 0) 4 = nI n) {a b t : Nat} (ha : a < n) (hb9 : b < n) (ht : t ≤ 1000000) : Met l yX5_arrivalByFlooding wsX5_arrivalByFlooding ({ frames := 3, cells := 0, slots := 0, locals := 71 } : Room) (va_Pc [.ref (ad (0, 0, 0)), .int (nI a), .int (nI b), .int (nI t)] (g_S D C (lay C g ad ln ex) ad B)) (vp_Si (fun r => arr_P g n a t b r)) 0 0 (fun _ => False) := by
  refine Met.ofW (cc := cX5_arrivalByFlooding) (maxL := 4) (ret := (some .int)) (by decide) rfl ?_
  intro p e s m args below meth c s₁ B₀ hml hv
  obtain ⟨rfl, hG, hF⟩ := hv
  have hK := hF.1
  have hN := hF.2.1
  have hB := hF.2.2.2
  have hx := B₀.exec
  have hb := B₀.bytes
  have hr := B₀.returns
  have hts := atoms_spec (ws := wsX5_arrivalByFlooding) B₀.pre
  have hown : s.vm.findClass RX5 = some m.cls := findClass_of_methodNamed B₀.named
  have hlocks := B₀.notSynchronized
  have hS : va_S (g_A B) s.heap s.heap [] := va_S.rf
  have hi5 : ∀ w ∈ wsX50, w ∈ wsX5_arrivalByFlooding := by decide +kernel
  have hl := lv_entry [.ref (ad (0, 0, 0)), .int (nI a), .int (nI b), .int (nI t)] (n := 4) (Nat.le_of_ble_eq_true rfl)
  rw [lg_entry_eq]
  generalize (lg_sl [.ref (ad (0, 0, 0)), .int (nI a), .int (nI b), .int (nI t)] ++ List.replicate (4 - (lg_sl [.ref (ad (0, 0, 0)), .int (nI a), .int (nI b), .int (nI t)]).length) Slot.unset).toArray = ls at hl ⊢
  have hl : lv_has ls 4 [(0, .ref (ad (0, 0, 0))), (1, .int (nI a)), (2, .int (nI b)), (3, .int (nI t))] := hl
  refine lv_aload_n hx hb dX5_arrivalByFlooding_0 rfl (lv_at hl 0 rfl) ?_
  refine lv_iload_n hx hb dX5_arrivalByFlooding_1 rfl (lv_at hl 1 rfl) ?_
  refine lv_iload_n hx hb dX5_arrivalByFlooding_2 rfl (lv_at hl 2 rfl) ?_
  refine lv_iload_n hx hb dX5_arrivalByFlooding_3 rfl (lv_at hl 3 rfl) ?_
  refine va_csv (W.runV (As := [.int (nI a), .int (nI b), .int (nI t)]) (rest := []) ⟨hx, hb, hml, hown, hts⟩ (c_requireTwo l hn hc ha hb9 ht) (cwV 3 hts gX5_arrivalByFlooding_X5_requireTwoNodesAndMinute rfl rfl rfl (by decide +kernel) ⟨Nat.le_of_ble_eq_true rfl, Nat.le_of_ble_eq_true rfl⟩) (g_preV hF hG hS (lay_main) rfl) rfl rfl hl.1 rfl (lv_room (Nat.le_of_ble_eq_true rfl)) dX5_arrivalByFlooding_4 ⟨Nat.le_of_ble_eq_true rfl, Nat.le_of_ble_eq_true rfl⟩) (fun h_2 => ?_)
  refine lv_aload_n hx hb dX5_arrivalByFlooding_7 rfl (lv_at hl 0 rfl) ?_
  refine g_get hx hb hts hi5 hown hK hG (lay_main) rfl 1 (by decide) (hts (.fieldLink RX5 21 "Satellitering" "search" "LSatellitering$Search;") (by decide +kernel)) rfl dX5_arrivalByFlooding_8 ?_
  refine lv_iload_n hx hb dX5_arrivalByFlooding_11 rfl (lv_at hl 1 rfl) ?_
  refine lv_iload_n hx hb dX5_arrivalByFlooding_12 rfl (lv_at hl 2 rfl) ?_
  refine lv_iload_n hx hb dX5_arrivalByFlooding_13 rfl (lv_at hl 3 rfl) ?_
  refine vp_callSi (W.runV (As := [.int (nI a), .int (nI b), .int (nI t)]) (rest := []) ⟨hx, hb, hml, hown, hts⟩ (c_byFlooding l hn hc (show a < 32 by omega) (show b < 32 by omega) (show t < 2 ^ 30 by omega)) (cwV 3 hts gX5_arrivalByFlooding_X1_byFlooding rfl rfl rfl (by decide +kernel) ⟨Nat.le_of_ble_eq_true rfl, Nat.le_of_ble_eq_true rfl⟩) (g_preV hF hG hS (lay_search) rfl) rfl rfl hl.1 rfl (lv_room (Nat.le_of_ble_eq_true rfl)) dX5_arrivalByFlooding_14 ⟨Nat.le_of_ble_eq_true rfl, Nat.le_of_ble_eq_true rfl⟩) (fun r_3 h_4 => ?_)
  exact W.iret (v := r_3) hx hb hr (fun t9 ht9 hW9 => ⟨_, rfl, h_4, ht9⟩) (fun q h => nomatch h) dX5_arrivalByFlooding_17

def bc1 (x : Int32) : Int32 := x - ((x.toUInt32 >>> ((nI 1).toUInt32 &&& Int32.toUInt32 31)).toInt32 &&& 1431655765)
def bc2 (x : Int32) : Int32 := (x &&& 858993459) + ((x.toUInt32 >>> ((nI 2).toUInt32 &&& Int32.toUInt32 31)).toInt32 &&& 858993459)
def bc3 (x : Int32) : Int32 := x + (x.toUInt32 >>> ((nI 4).toUInt32 &&& Int32.toUInt32 31)).toInt32 &&& 252645135
def bc4 (x : Int32) : Int32 := x + (x.toUInt32 >>> ((nI 8).toUInt32 &&& Int32.toUInt32 31)).toInt32
def bc5 (x : Int32) : Int32 := x + (x.toUInt32 >>> ((nI 16).toUInt32 &&& Int32.toUInt32 31)).toInt32
def bc6 (x : Int32) : Int32 := bc5 (bc4 (bc3 (bc2 (bc1 x)))) &&& nI 63
theorem bc_ok : ∀ v, v < 1024 → bc6 (nI v) = nI (b_cnt (nI v) 10) := by decide +kernel
theorem b_small {x : Int32} (h : ∀ i, 10 ≤ i → i < 32 → bt x i = false) : ∃ v, v < 1024 ∧ x = nI v := by
  obtain ⟨j, hj, e⟩ := pk_andE x (m := nI 1023) 10 (by decide +kernel)
  refine ⟨j, hj, ?_⟩
  rw [← e]
  refine b_ext (fun i hi => ?_)
  rw [b_and]
  have e2 : ∀ i, i < 32 → bt (nI 1023) i = decide (i < 10) := by decide +kernel
  rw [e2 i hi]
  by_cases h9 : i < 10
  · simp [h9]
  · rw [h i (by omega) hi]; simp [h9]
theorem bc_of {x : Int32} (h : ∀ i, 10 ≤ i → i < 32 → bt x i = false) : bc6 x = nI (b_cnt x 10) := by
  obtain ⟨v, hv, rfl⟩ := b_small h
  exact bc_ok v hv
theorem fl_lt {g : g_k → Nat → Int32} {n a t : Nat} (hn : n ≤ 10) (hk : sk1 g n) (ha : a < n) : ∀ k v, v < 32 → fl g n a t k v → v < n
  | 0, v, hv, h => by
    have := (fl_0 (by omega) hv).mp h
    omega
  | k + 1, v, hv, h => by
    rcases fl_s.mp h with h | ⟨u, hu, h1, h2⟩
    · exact fl_lt hn hk ha k v hv h
    · exact (hk u v _ (by omega) hv h2).2.1

set_option maxHeartbeats 4000000 in
set_option maxRecDepth 100000 in
theorem c_bitCount (l : Launch) {D : va_G} {C : g_C} {g : g_k → Nat → Int32} {ad ln : g_k → Nat} {ex : g_k → Option va_E} {B : Nat} {x : Int32} : Met l yJ6_bitCount_0f7a4 wsJ6_bitCount_0f7a4 ({ frames := 0, cells := 0, slots := 0, locals := 0 } : Room) (va_Pc [.int x] (g_S D C (lay C g ad ln ex) ad B)) (vp_Si (fun r => r = bc6 x)) 0 0 (fun _ => False) := by
  refine g_ofWF (cc := cJ6_bitCount_0f7a4) (maxL := 1) (ret := (some .int)) (by decide +kernel) rfl ?_
  intro p e s m args below meth c s₁ B₀ hml hv
  obtain ⟨rfl, hG, hF⟩ := hv
  have hK := hF.1
  have hN := hF.2.1
  have hB := hF.2.2.2
  have hx := B₀.exec
  have hb := B₀.bytes
  have hr := B₀.returns
  have hts := atoms_spec (ws := wsJ6_bitCount_0f7a4) B₀.pre
  have hown : s.vm.findClass RJ6 = some m.cls := findClass_of_methodNamed B₀.named
  have hlocks := B₀.notSynchronized
  have hS : va_S (g_A B) s.heap s.heap [] := va_S.rf
  have hl := lv_entry [.int x] (n := 1) (Nat.le_of_ble_eq_true rfl)
  rw [lg_entry_eq]
  generalize (lg_sl [.int x] ++ List.replicate (1 - (lg_sl [.int x]).length) Slot.unset).toArray = ls at hl ⊢
  have hl : lv_has ls 1 [(0, .int x)] := hl
  refine lv_iload_n hx hb dJ6_bitCount_0f7a4_0 rfl (lv_at hl 0 rfl) ?_
  refine lv_iload_n hx hb dJ6_bitCount_0f7a4_1 rfl (lv_at hl 0 rfl) ?_
  refine lv_iconst (v := nI 1) hx hb dJ6_bitCount_0f7a4_2 (by decide) ?_
  refine lv_iushr hx hb dJ6_bitCount_0f7a4_3 (v := (x.toUInt32 >>> ((nI 1).toUInt32 &&& Int32.toUInt32 31)).toInt32) rfl ?_
  refine lv_ldcw (v := 1431655765) hx hb hown (hts (.constant RJ6 265 (1431655765)) (by decide +kernel)) dJ6_bitCount_0f7a4_4 ?_
  refine lv_iand hx hb dJ6_bitCount_0f7a4_7 ?_
  refine lv_isub hx hb dJ6_bitCount_0f7a4_8 ?_
  refine lv_to (y := bc1 x) (rfl) ?_
  refine lv_istore_n (lv' := [(0, .int (bc1 x))]) hx hb dJ6_bitCount_0f7a4_9 rfl hl (by decide) rfl (fun ls hl => ?_)
  refine lv_iload_n hx hb dJ6_bitCount_0f7a4_10 rfl (lv_at hl 0 rfl) ?_
  refine lv_ldcw (v := 858993459) hx hb hown (hts (.constant RJ6 266 (858993459)) (by decide +kernel)) dJ6_bitCount_0f7a4_11 ?_
  refine lv_to (y := nI 858993459) (by decide) ?_
  refine lv_iand hx hb dJ6_bitCount_0f7a4_14 ?_
  refine lv_iload_n hx hb dJ6_bitCount_0f7a4_15 rfl (lv_at hl 0 rfl) ?_
  refine lv_iconst (v := nI 2) hx hb dJ6_bitCount_0f7a4_16 (by decide) ?_
  refine lv_iushr hx hb dJ6_bitCount_0f7a4_17 (v := ((bc1 x).toUInt32 >>> ((nI 2).toUInt32 &&& Int32.toUInt32 31)).toInt32) rfl ?_
  refine lv_ldcw (v := 858993459) hx hb hown (hts (.constant RJ6 266 (858993459)) (by decide +kernel)) dJ6_bitCount_0f7a4_18 ?_
  refine lv_to (y := nI 858993459) (by decide) ?_
  refine lv_iand hx hb dJ6_bitCount_0f7a4_21 ?_
  refine lv_iadd hx hb dJ6_bitCount_0f7a4_22 ?_
  refine lv_to (y := bc2 (bc1 x)) (rfl) ?_
  refine lv_istore_n (lv' := [(0, .int (bc2 (bc1 x)))]) hx hb dJ6_bitCount_0f7a4_23 rfl hl (by decide) rfl (fun ls hl => ?_)
  refine lv_iload_n hx hb dJ6_bitCount_0f7a4_24 rfl (lv_at hl 0 rfl) ?_
  refine lv_iload_n hx hb dJ6_bitCount_0f7a4_25 rfl (lv_at hl 0 rfl) ?_
  refine lv_iconst (v := nI 4) hx hb dJ6_bitCount_0f7a4_26 (by decide) ?_
  refine lv_iushr hx hb dJ6_bitCount_0f7a4_27 (v := ((bc2 (bc1 x)).toUInt32 >>> ((nI 4).toUInt32 &&& Int32.toUInt32 31)).toInt32) rfl ?_
  refine lv_iadd hx hb dJ6_bitCount_0f7a4_28 ?_
  refine lv_ldcw (v := 252645135) hx hb hown (hts (.constant RJ6 267 (252645135)) (by decide +kernel)) dJ6_bitCount_0f7a4_29 ?_
  refine lv_to (y := nI 252645135) (by decide) ?_
  refine lv_iand hx hb dJ6_bitCount_0f7a4_32 ?_
  refine lv_to (y := bc3 (bc2 (bc1 x))) (rfl) ?_
  refine lv_istore_n (lv' := [(0, .int (bc3 (bc2 (bc1 x))))]) hx hb dJ6_bitCount_0f7a4_33 rfl hl (by decide) rfl (fun ls hl => ?_)
  refine lv_iload_n hx hb dJ6_bitCount_0f7a4_34 rfl (lv_at hl 0 rfl) ?_
  refine lv_iload_n hx hb dJ6_bitCount_0f7a4_35 rfl (lv_at hl 0 rfl) ?_
  refine lv_bipush (v := nI 8) hx hb dJ6_bitCount_0f7a4_36 (by decide) ?_
  refine lv_iushr hx hb dJ6_bitCount_0f7a4_38 (v := ((bc3 (bc2 (bc1 x))).toUInt32 >>> ((nI 8).toUInt32 &&& Int32.toUInt32 31)).toInt32) rfl ?_
  refine lv_iadd hx hb dJ6_bitCount_0f7a4_39 ?_
  refine lv_to (y := bc4 (bc3 (bc2 (bc1 x)))) (rfl) ?_
  refine lv_istore_n (lv' := [(0, .int (bc4 (bc3 (bc2 (bc1 x)))))]) hx hb dJ6_bitCount_0f7a4_40 rfl hl (by decide) rfl (fun ls hl => ?_)
  refine lv_iload_n hx hb dJ6_bitCount_0f7a4_41 rfl (lv_at hl 0 rfl) ?_
  refine lv_iload_n hx hb dJ6_bitCount_0f7a4_42 rfl (lv_at hl 0 rfl) ?_
  refine lv_bipush (v := nI 16) hx hb dJ6_bitCount_0f7a4_43 (by decide) ?_
  refine lv_iushr hx hb dJ6_bitCount_0f7a4_45 (v := ((bc4 (bc3 (bc2 (bc1 x)))).toUInt32 >>> ((nI 16).toUInt32 &&& Int32.toUInt32 31)).toInt32) rfl ?_
  refine lv_iadd hx hb dJ6_bitCount_0f7a4_46 ?_
  refine lv_to (y := bc5 (bc4 (bc3 (bc2 (bc1 x))))) (rfl) ?_
  refine lv_istore_n (lv' := [(0, .int (bc5 (bc4 (bc3 (bc2 (bc1 x))))))]) hx hb dJ6_bitCount_0f7a4_47 rfl hl (by decide) rfl (fun ls hl => ?_)
  refine lv_iload_n hx hb dJ6_bitCount_0f7a4_48 rfl (lv_at hl 0 rfl) ?_
  refine lv_bipush (v := nI 63) hx hb dJ6_bitCount_0f7a4_49 (by decide) ?_
  refine lv_iand hx hb dJ6_bitCount_0f7a4_51 ?_
  refine lv_to (y := bc6 x) (rfl) ?_
  exact W.iret (v := bc6 x) hx hb hr (fun t9 ht9 hW9 => ⟨_, rfl, rfl, ht9⟩) (fun q h => nomatch h) dJ6_bitCount_0f7a4_52

set_option maxHeartbeats 4000000 in
set_option maxRecDepth 100000 in
theorem c_spread (l : Launch) {D : va_G} {C : g_C} {g : g_k → Nat → Int32} {ad ln : g_k → Nat} {ex : g_k → Option va_E} {B : Nat} {n : Nat} (hn : n ≤ 10) (hc : g (1, 0, 0) 4 = nI n) (hsk : sk1 g n) {a t k : Nat} (ha : a < n) (ht : t ≤ 1000000) (hk9 : k ≤ 400) : Met l yX5_spread wsX5_spread ({ frames := 3, cells := 0, slots := 0, locals := 71 } : Room) (va_Pc [.ref (ad (0, 0, 0)), .int (nI a), .int (nI t), .int (nI k)] (g_S D C (lay C g ad ln ex) ad B)) (vp_Si (fun r => r = nI (b_cnt (flI g n a t k) 10))) 0 0 (fun _ => False) := by
  refine Met.ofW (cc := cX5_spread) (maxL := 4) (ret := (some .int)) (by decide) rfl ?_
  intro p e s m args below meth c s₁ B₀ hml hv
  obtain ⟨rfl, hG, hF⟩ := hv
  have hK := hF.1
  have hN := hF.2.1
  have hB := hF.2.2.2
  have hx := B₀.exec
  have hb := B₀.bytes
  have hr := B₀.returns
  have hts := atoms_spec (ws := wsX5_spread) B₀.pre
  have hown : s.vm.findClass RX5 = some m.cls := findClass_of_methodNamed B₀.named
  have hlocks := B₀.notSynchronized
  have hS : va_S (g_A B) s.heap s.heap [] := va_S.rf
  have hi5 : ∀ w ∈ wsX50, w ∈ wsX5_spread := by decide +kernel
  have hl := lv_entry [.ref (ad (0, 0, 0)), .int (nI a), .int (nI t), .int (nI k)] (n := 4) (Nat.le_of_ble_eq_true rfl)
  rw [lg_entry_eq]
  generalize (lg_sl [.ref (ad (0, 0, 0)), .int (nI a), .int (nI t), .int (nI k)] ++ List.replicate (4 - (lg_sl [.ref (ad (0, 0, 0)), .int (nI a), .int (nI t), .int (nI k)]).length) Slot.unset).toArray = ls at hl ⊢
  have hl : lv_has ls 4 [(0, .ref (ad (0, 0, 0))), (1, .int (nI a)), (2, .int (nI t)), (3, .int (nI k))] := hl
  refine lv_aload_n hx hb dX5_spread_0 rfl (lv_at hl 0 rfl) ?_
  refine lv_iload_n hx hb dX5_spread_1 rfl (lv_at hl 1 rfl) ?_
  refine va_csv (W.runV (As := [.int (nI a)]) (rest := []) ⟨hx, hb, hml, hown, hts⟩ (c_requireNode l hn hc ha) (cwV 1 hts gX5_spread_X5_requireNode rfl rfl rfl (by decide +kernel) ⟨Nat.le_of_ble_eq_true rfl, Nat.le_of_ble_eq_true rfl⟩) (g_preV hF hG hS (lay_main) rfl) rfl rfl hl.1 rfl (lv_room (Nat.le_of_ble_eq_true rfl)) dX5_spread_2 ⟨Nat.le_of_ble_eq_true rfl, Nat.le_of_ble_eq_true rfl⟩) (fun h_2 => ?_)
  refine lv_iload_n hx hb dX5_spread_5 rfl (lv_at hl 2 rfl) ?_
  refine va_csv (W.runS (As := [.int (nI t)]) (rest := []) ⟨hx, hb, hml, hown, hts⟩ (c_requireMinute l ht) (va_cwS 1 hts gX5_spread_X5_requireMinute rfl rfl rfl (by decide +kernel) ⟨Nat.le_of_ble_eq_true rfl, Nat.le_of_ble_eq_true rfl⟩) (g_preS hF hG hS) rfl rfl hl.1 rfl (lv_room (Nat.le_of_ble_eq_true rfl)) dX5_spread_6 ⟨Nat.le_of_ble_eq_true rfl, Nat.le_of_ble_eq_true rfl⟩) (fun h_4 => ?_)
  refine lv_iload_n hx hb dX5_spread_9 rfl (lv_at hl 3 rfl) ?_
  refine lv_iconst (v := nI 0) hx hb dX5_spread_10 (by decide) ?_
  refine lv_sipush (v := nI 400) hx hb dX5_spread_11 (by decide) ?_
  refine vp_callSi (W.runS (As := [.int (nI k), .int (nI 0), .int (nI 400)]) (rest := []) ⟨hx, hb, hml, hown, hts⟩ (c_inRange l ) (va_cwS 3 hts gX5_spread_X5_inRange rfl rfl rfl (by decide +kernel) ⟨Nat.le_of_ble_eq_true rfl, Nat.le_of_ble_eq_true rfl⟩) (g_preS hF hG hS) rfl rfl hl.1 rfl (lv_room (Nat.le_of_ble_eq_true rfl)) dX5_spread_14 ⟨Nat.le_of_ble_eq_true rfl, Nat.le_of_ble_eq_true rfl⟩) (fun r_5 h_6 => ?_)
  refine lv_to (y := nI 1) (h_6.trans (if_pos (⟨nI_le (Nat.zero_le k) (by omega), nI_le hk9 (by decide)⟩))) ?_
  refine va_csv (W.runS (As := [.int (nI 1)]) (rest := []) ⟨hx, hb, hml, hown, hts⟩ (c_requireArgument l ) (va_cwS 1 hts gX5_spread_X5_requireArgument rfl rfl rfl (by decide +kernel) ⟨Nat.le_of_ble_eq_true rfl, Nat.le_of_ble_eq_true rfl⟩) (g_preS hF hG hS) rfl rfl hl.1 rfl (lv_room (Nat.le_of_ble_eq_true rfl)) dX5_spread_17 ⟨Nat.le_of_ble_eq_true rfl, Nat.le_of_ble_eq_true rfl⟩) (fun h_8 => ?_)
  refine lv_aload_n hx hb dX5_spread_20 rfl (lv_at hl 0 rfl) ?_
  refine g_get hx hb hts hi5 hown hK hG (lay_main) rfl 1 (by decide) (hts (.fieldLink RX5 21 "Satellitering" "search" "LSatellitering$Search;") (by decide +kernel)) rfl dX5_spread_21 ?_
  refine lv_iload_n hx hb dX5_spread_24 rfl (lv_at hl 1 rfl) ?_
  refine lv_iload_n hx hb dX5_spread_25 rfl (lv_at hl 2 rfl) ?_
  refine lv_iload_n hx hb dX5_spread_26 rfl (lv_at hl 3 rfl) ?_
  refine vp_callSi (W.runV (As := [.int (nI a), .int (nI t), .int (nI k)]) (rest := []) ⟨hx, hb, hml, hown, hts⟩ (c_flooded l hn hc (show a < 32 by omega) (show k < 2 ^ 30 by omega) (show t < 2 ^ 30 by omega)) (cwV 3 hts gX5_spread_X1_flooded rfl rfl rfl (by decide +kernel) ⟨Nat.le_of_ble_eq_true rfl, Nat.le_of_ble_eq_true rfl⟩) (g_preV hF hG hS (lay_search) rfl) rfl rfl hl.1 rfl (lv_room (Nat.le_of_ble_eq_true rfl)) dX5_spread_27 ⟨Nat.le_of_ble_eq_true rfl, Nat.le_of_ble_eq_true rfl⟩) (fun r_9 h_10 => ?_)
  refine lv_to (y := flI g n a t k) (h_10) ?_
  refine vp_callSi (W.runS (As := [.int (flI g n a t k)]) (rest := []) ⟨hx, hb, hml, hown, hts⟩ (c_bitCount l ) (va_cwS 1 hts gX5_spread_J6_bitCount_0f7a4 rfl rfl rfl (by decide +kernel) ⟨Nat.le_of_ble_eq_true rfl, Nat.le_of_ble_eq_true rfl⟩) (g_preS hF hG hS) rfl rfl hl.1 rfl (lv_room (Nat.le_of_ble_eq_true rfl)) dX5_spread_30 ⟨Nat.le_of_ble_eq_true rfl, Nat.le_of_ble_eq_true rfl⟩) (fun r_11 h_12 => ?_)
  exact W.iret (v := r_11) hx hb hr (fun t9 ht9 hW9 => ⟨_, rfl, h_12.trans (bc_of (fun i i1 i2 => eq_false_of_ne_true (fun z => absurd (fl_lt hn hsk ha k i i2 z) (by omega)))), ht9⟩) (fun q h => nomatch h) dX5_spread_33

set_option maxHeartbeats 4000000 in
set_option maxRecDepth 100000 in
theorem c_nodeOf (l : Launch) {D : va_G} {C : g_C} {g : g_k → Nat → Int32} {ad ln : g_k → Nat} {ex : g_k → Option va_E} {B : Nat} {M : Nat} (hM : ln (5, 0, 0) = M) (hM20 : M ≤ 20) (hs : g (0, 0, 0) 7 = nI M) {a : Nat} (ha : a < M) : Met l yX5_nodeOf wsX5_nodeOf ({ frames := 2, cells := 0, slots := 0, locals := 43 } : Room) (va_Pc [.ref (ad (0, 0, 0)), .int (nI a)] (g_S D C (lay C g ad ln ex) ad B)) (vp_Si (fun r => r = g (40, a, 0) 2)) 0 0 (fun _ => False) := by
  refine Met.ofW (cc := cX5_nodeOf) (maxL := 2) (ret := (some .int)) (by decide) rfl ?_
  intro p e s m args below meth c s₁ B₀ hml hv
  obtain ⟨rfl, hG, hF⟩ := hv
  have hK := hF.1
  have hN := hF.2.1
  have hB := hF.2.2.2
  have hx := B₀.exec
  have hb := B₀.bytes
  have hr := B₀.returns
  have hts := atoms_spec (ws := wsX5_nodeOf) B₀.pre
  have hown : s.vm.findClass RX5 = some m.cls := findClass_of_methodNamed B₀.named
  have hlocks := B₀.notSynchronized
  have hS : va_S (g_A B) s.heap s.heap [] := va_S.rf
  have hi0 : ∀ w ∈ wsX00, w ∈ wsX5_nodeOf := by decide +kernel
  have hl := lv_entry [.ref (ad (0, 0, 0)), .int (nI a)] (n := 2) (Nat.le_of_ble_eq_true rfl)
  rw [lg_entry_eq]
  generalize (lg_sl [.ref (ad (0, 0, 0)), .int (nI a)] ++ List.replicate (2 - (lg_sl [.ref (ad (0, 0, 0)), .int (nI a)]).length) Slot.unset).toArray = ls at hl ⊢
  have hl : lv_has ls 2 [(0, .ref (ad (0, 0, 0))), (1, .int (nI a))] := hl
  refine lv_aload_n hx hb dX5_nodeOf_0 rfl (lv_at hl 0 rfl) ?_
  refine lv_iload_n hx hb dX5_nodeOf_1 rfl (lv_at hl 1 rfl) ?_
  refine va_csr (W.runV (As := [.int (nI a)]) (rest := []) ⟨hx, hb, hml, hown, hts⟩ (c_requireMessage l hM hM20 hs ha) (cwV 1 hts gX5_nodeOf_X5_requireMessage rfl rfl rfl (by decide +kernel) ⟨Nat.le_of_ble_eq_true rfl, Nat.le_of_ble_eq_true rfl⟩) (g_preV hF hG hS (lay_main) rfl) rfl rfl hl.1 rfl (lv_room (Nat.le_of_ble_eq_true rfl)) dX5_nodeOf_2 ⟨Nat.le_of_ble_eq_true rfl, Nat.le_of_ble_eq_true rfl⟩) (fun k_3 h_2 => ?_)
  rw [show k_3 = a from h_2]
  refine g_getN hx hb hts hi0 hown hK hG (lay_msg (show a < ln (5, 0, 0) by omega)) rfl 2 (by decide) (va_Nw.use rfl hN.2.1) rfl dX5_nodeOf_5 ?_
  exact W.iret (v := g (40, a, 0) 2) hx hb hr (fun t9 ht9 hW9 => ⟨_, rfl, rfl, ht9⟩) (fun q h => nomatch h) dX5_nodeOf_8

set_option maxHeartbeats 4000000 in
set_option maxRecDepth 100000 in
theorem c_hops (l : Launch) {D : va_G} {C : g_C} {g : g_k → Nat → Int32} {ad ln : g_k → Nat} {ex : g_k → Option va_E} {B : Nat} {M : Nat} (hM : ln (5, 0, 0) = M) (hM20 : M ≤ 20) (hs : g (0, 0, 0) 7 = nI M) {a : Nat} (ha : a < M) : Met l yX5_hops wsX5_hops ({ frames := 2, cells := 0, slots := 0, locals := 43 } : Room) (va_Pc [.ref (ad (0, 0, 0)), .int (nI a)] (g_S D C (lay C g ad ln ex) ad B)) (vp_Si (fun r => r = g (40, a, 0) 5)) 0 0 (fun _ => False) := by
  refine Met.ofW (cc := cX5_hops) (maxL := 2) (ret := (some .int)) (by decide) rfl ?_
  intro p e s m args below meth c s₁ B₀ hml hv
  obtain ⟨rfl, hG, hF⟩ := hv
  have hK := hF.1
  have hN := hF.2.1
  have hB := hF.2.2.2
  have hx := B₀.exec
  have hb := B₀.bytes
  have hr := B₀.returns
  have hts := atoms_spec (ws := wsX5_hops) B₀.pre
  have hown : s.vm.findClass RX5 = some m.cls := findClass_of_methodNamed B₀.named
  have hlocks := B₀.notSynchronized
  have hS : va_S (g_A B) s.heap s.heap [] := va_S.rf
  have hi0 : ∀ w ∈ wsX00, w ∈ wsX5_hops := by decide +kernel
  have hl := lv_entry [.ref (ad (0, 0, 0)), .int (nI a)] (n := 2) (Nat.le_of_ble_eq_true rfl)
  rw [lg_entry_eq]
  generalize (lg_sl [.ref (ad (0, 0, 0)), .int (nI a)] ++ List.replicate (2 - (lg_sl [.ref (ad (0, 0, 0)), .int (nI a)]).length) Slot.unset).toArray = ls at hl ⊢
  have hl : lv_has ls 2 [(0, .ref (ad (0, 0, 0))), (1, .int (nI a))] := hl
  refine lv_aload_n hx hb dX5_hops_0 rfl (lv_at hl 0 rfl) ?_
  refine lv_iload_n hx hb dX5_hops_1 rfl (lv_at hl 1 rfl) ?_
  refine va_csr (W.runV (As := [.int (nI a)]) (rest := []) ⟨hx, hb, hml, hown, hts⟩ (c_requireMessage l hM hM20 hs ha) (cwV 1 hts gX5_hops_X5_requireMessage rfl rfl rfl (by decide +kernel) ⟨Nat.le_of_ble_eq_true rfl, Nat.le_of_ble_eq_true rfl⟩) (g_preV hF hG hS (lay_main) rfl) rfl rfl hl.1 rfl (lv_room (Nat.le_of_ble_eq_true rfl)) dX5_hops_2 ⟨Nat.le_of_ble_eq_true rfl, Nat.le_of_ble_eq_true rfl⟩) (fun k_3 h_2 => ?_)
  rw [show k_3 = a from h_2]
  refine g_getN hx hb hts hi0 hown hK hG (lay_msg (show a < ln (5, 0, 0) by omega)) rfl 5 (by decide) (va_Nw.use rfl hN.2.2.2.1) rfl dX5_hops_5 ?_
  exact W.iret (v := g (40, a, 0) 5) hx hb hr (fun t9 ht9 hW9 => ⟨_, rfl, rfl, ht9⟩) (fun q h => nomatch h) dX5_hops_8

set_option maxHeartbeats 4000000 in
set_option maxRecDepth 100000 in
theorem c_blocked (l : Launch) {D : va_G} {C : g_C} {g : g_k → Nat → Int32} {ad ln : g_k → Nat} {ex : g_k → Option va_E} {B : Nat} {M : Nat} (hM : ln (5, 0, 0) = M) (hM20 : M ≤ 20) (hs : g (0, 0, 0) 7 = nI M) {a : Nat} (ha : a < M) : Met l yX5_blocked wsX5_blocked ({ frames := 2, cells := 0, slots := 0, locals := 43 } : Room) (va_Pc [.ref (ad (0, 0, 0)), .int (nI a)] (g_S D C (lay C g ad ln ex) ad B)) (vp_Si (fun r => r = g (40, a, 0) 4)) 0 0 (fun _ => False) := by
  refine Met.ofW (cc := cX5_blocked) (maxL := 2) (ret := (some .int)) (by decide) rfl ?_
  intro p e s m args below meth c s₁ B₀ hml hv
  obtain ⟨rfl, hG, hF⟩ := hv
  have hK := hF.1
  have hN := hF.2.1
  have hB := hF.2.2.2
  have hx := B₀.exec
  have hb := B₀.bytes
  have hr := B₀.returns
  have hts := atoms_spec (ws := wsX5_blocked) B₀.pre
  have hown : s.vm.findClass RX5 = some m.cls := findClass_of_methodNamed B₀.named
  have hlocks := B₀.notSynchronized
  have hS : va_S (g_A B) s.heap s.heap [] := va_S.rf
  have hi0 : ∀ w ∈ wsX00, w ∈ wsX5_blocked := by decide +kernel
  have hl := lv_entry [.ref (ad (0, 0, 0)), .int (nI a)] (n := 2) (Nat.le_of_ble_eq_true rfl)
  rw [lg_entry_eq]
  generalize (lg_sl [.ref (ad (0, 0, 0)), .int (nI a)] ++ List.replicate (2 - (lg_sl [.ref (ad (0, 0, 0)), .int (nI a)]).length) Slot.unset).toArray = ls at hl ⊢
  have hl : lv_has ls 2 [(0, .ref (ad (0, 0, 0))), (1, .int (nI a))] := hl
  refine lv_aload_n hx hb dX5_blocked_0 rfl (lv_at hl 0 rfl) ?_
  refine lv_iload_n hx hb dX5_blocked_1 rfl (lv_at hl 1 rfl) ?_
  refine va_csr (W.runV (As := [.int (nI a)]) (rest := []) ⟨hx, hb, hml, hown, hts⟩ (c_requireMessage l hM hM20 hs ha) (cwV 1 hts gX5_blocked_X5_requireMessage rfl rfl rfl (by decide +kernel) ⟨Nat.le_of_ble_eq_true rfl, Nat.le_of_ble_eq_true rfl⟩) (g_preV hF hG hS (lay_main) rfl) rfl rfl hl.1 rfl (lv_room (Nat.le_of_ble_eq_true rfl)) dX5_blocked_2 ⟨Nat.le_of_ble_eq_true rfl, Nat.le_of_ble_eq_true rfl⟩) (fun k_3 h_2 => ?_)
  rw [show k_3 = a from h_2]
  refine g_getN hx hb hts hi0 hown hK hG (lay_msg (show a < ln (5, 0, 0) by omega)) rfl 4 (by decide) (va_Nw.use rfl hN.2.2.2.2.2.2.1) rfl dX5_blocked_5 ?_
  exact W.iret (v := g (40, a, 0) 4) hx hb hr (fun t9 ht9 hW9 => ⟨_, rfl, rfl, ht9⟩) (fun q h => nomatch h) dX5_blocked_8

set_option maxHeartbeats 4000000 in
set_option maxRecDepth 100000 in
theorem c_arrivedAt (l : Launch) {D : va_G} {C : g_C} {g : g_k → Nat → Int32} {ad ln : g_k → Nat} {ex : g_k → Option va_E} {B : Nat} {M : Nat} (hM : ln (5, 0, 0) = M) (hM20 : M ≤ 20) (hs : g (0, 0, 0) 7 = nI M) {a : Nat} (ha : a < M) (hat : g (40, a, 0) 2 = g (40, a, 0) 0) : Met l yX5_arrivedAt wsX5_arrivedAt ({ frames := 2, cells := 0, slots := 0, locals := 43 } : Room) (va_Pc [.ref (ad (0, 0, 0)), .int (nI a)] (g_S D C (lay C g ad ln ex) ad B)) (vp_Si (fun r => r = g (40, a, 0) 3)) 0 0 (fun _ => False) := by
  refine Met.ofW (cc := cX5_arrivedAt) (maxL := 3) (ret := (some .int)) (by decide) rfl ?_
  intro p e s m args below meth c s₁ B₀ hml hv
  obtain ⟨rfl, hG, hF⟩ := hv
  have hK := hF.1
  have hN := hF.2.1
  have hB := hF.2.2.2
  have hx := B₀.exec
  have hb := B₀.bytes
  have hr := B₀.returns
  have hts := atoms_spec (ws := wsX5_arrivedAt) B₀.pre
  have hown : s.vm.findClass RX5 = some m.cls := findClass_of_methodNamed B₀.named
  have hlocks := B₀.notSynchronized
  have hS : va_S (g_A B) s.heap s.heap [] := va_S.rf
  have hi0 : ∀ w ∈ wsX00, w ∈ wsX5_arrivedAt := by decide +kernel
  have hl := lv_entry [.ref (ad (0, 0, 0)), .int (nI a)] (n := 3) (Nat.le_of_ble_eq_true rfl)
  rw [lg_entry_eq]
  generalize (lg_sl [.ref (ad (0, 0, 0)), .int (nI a)] ++ List.replicate (3 - (lg_sl [.ref (ad (0, 0, 0)), .int (nI a)]).length) Slot.unset).toArray = ls at hl ⊢
  have hl : lv_has ls 3 [(0, .ref (ad (0, 0, 0))), (1, .int (nI a))] := hl
  refine lv_aload_n hx hb dX5_arrivedAt_0 rfl (lv_at hl 0 rfl) ?_
  refine lv_iload_n hx hb dX5_arrivedAt_1 rfl (lv_at hl 1 rfl) ?_
  refine va_csr (W.runV (As := [.int (nI a)]) (rest := []) ⟨hx, hb, hml, hown, hts⟩ (c_requireMessage l hM hM20 hs ha) (cwV 1 hts gX5_arrivedAt_X5_requireMessage rfl rfl rfl (by decide +kernel) ⟨Nat.le_of_ble_eq_true rfl, Nat.le_of_ble_eq_true rfl⟩) (g_preV hF hG hS (lay_main) rfl) rfl rfl hl.1 rfl (lv_room (Nat.le_of_ble_eq_true rfl)) dX5_arrivedAt_2 ⟨Nat.le_of_ble_eq_true rfl, Nat.le_of_ble_eq_true rfl⟩) (fun k_3 h_2 => ?_)
  rw [show k_3 = a from h_2]
  refine lv_astore_n (lv' := [(2, .ref (ad (40, a, 0))), (0, .ref (ad (0, 0, 0))), (1, .int (nI a))]) hx hb dX5_arrivedAt_5 rfl hl (by decide) rfl (fun ls hl => ?_)
  refine lv_aload_n hx hb dX5_arrivedAt_6 rfl (lv_at hl 0 rfl) ?_
  refine vp_callSi (W.runV (As := []) (rest := []) ⟨hx, hb, hml, hown, hts⟩ (c_isAtGoal l (show a < ln (5, 0, 0) by omega)) (cwV 0 hts gX5_arrivedAt_X0_isAtGoal rfl rfl rfl (by decide +kernel) ⟨Nat.le_of_ble_eq_true rfl, Nat.le_of_ble_eq_true rfl⟩) (g_preV hF hG hS (lay_msg (show a < ln (5, 0, 0) by omega)) rfl) rfl rfl hl.1 rfl (lv_room (Nat.le_of_ble_eq_true rfl)) dX5_arrivedAt_7 ⟨Nat.le_of_ble_eq_true rfl, Nat.le_of_ble_eq_true rfl⟩) (fun r_4 h_5 => ?_)
  refine lv_to (y := nI 1) (h_5.trans (if_pos hat)) ?_
  refine lv_if_ne (tgt := 23) hx hb dX5_arrivedAt_10 (by decide) (fun c_6 => ?_) (fun c_6 => ?_)
  · refine lv_aload_n hx hb dX5_arrivedAt_23 rfl (lv_at hl 0 rfl) ?_
    refine g_getN hx hb hts hi0 hown hK hG (lay_msg (show a < ln (5, 0, 0) by omega)) rfl 3 (by decide) (va_Nw.use rfl hN.2.2.1) rfl dX5_arrivedAt_24 ?_
    exact W.iret (v := g (40, a, 0) 3) hx hb hr (fun t9 ht9 hW9 => ⟨_, rfl, rfl, ht9⟩) (fun q h => nomatch h) dX5_arrivedAt_27
  · exact absurd (show nI 1 = 0 from c_6) (by decide)

set_option maxHeartbeats 4000000 in
set_option maxRecDepth 100000 in
theorem c_hopNode (l : Launch) {D : va_G} {C : g_C} {g : g_k → Nat → Int32} {ad ln : g_k → Nat} {ex : g_k → Option va_E} {B : Nat} {M : Nat} (hM : ln (5, 0, 0) = M) (hM20 : M ≤ 20) (hs : g (0, 0, 0) 7 = nI M) {a h i : Nat} (ha : a < M) (hh : g (40, a, 0) 5 = nI h) (hh30 : h < 2 ^ 30) (hi9 : i < h) (hil : i < ln (41, a, 0)) (hL30 : ln (41, a, 0) < 2 ^ 30) : Met l yX5_hopNode wsX5_hopNode ({ frames := 2, cells := 0, slots := 0, locals := 43 } : Room) (va_Pc [.ref (ad (0, 0, 0)), .int (nI a), .int (nI i)] (g_S D C (lay C g ad ln ex) ad B)) (vp_Si (fun r => r = g (41, a, 0) i)) 0 0 (fun _ => False) := by
  refine Met.ofW (cc := cX5_hopNode) (maxL := 4) (ret := (some .int)) (by decide) rfl ?_
  intro p e s m args below meth c s₁ B₀ hml hv
  obtain ⟨rfl, hG, hF⟩ := hv
  have hK := hF.1
  have hN := hF.2.1
  have hB := hF.2.2.2
  have hx := B₀.exec
  have hb := B₀.bytes
  have hr := B₀.returns
  have hts := atoms_spec (ws := wsX5_hopNode) B₀.pre
  have hown : s.vm.findClass RX5 = some m.cls := findClass_of_methodNamed B₀.named
  have hlocks := B₀.notSynchronized
  have hS : va_S (g_A B) s.heap s.heap [] := va_S.rf
  have hi0 : ∀ w ∈ wsX00, w ∈ wsX5_hopNode := by decide +kernel
  have hl := lv_entry [.ref (ad (0, 0, 0)), .int (nI a), .int (nI i)] (n := 4) (Nat.le_of_ble_eq_true rfl)
  rw [lg_entry_eq]
  generalize (lg_sl [.ref (ad (0, 0, 0)), .int (nI a), .int (nI i)] ++ List.replicate (4 - (lg_sl [.ref (ad (0, 0, 0)), .int (nI a), .int (nI i)]).length) Slot.unset).toArray = ls at hl ⊢
  have hl : lv_has ls 4 [(0, .ref (ad (0, 0, 0))), (1, .int (nI a)), (2, .int (nI i))] := hl
  refine lv_aload_n hx hb dX5_hopNode_0 rfl (lv_at hl 0 rfl) ?_
  refine lv_iload_n hx hb dX5_hopNode_1 rfl (lv_at hl 1 rfl) ?_
  refine va_csr (W.runV (As := [.int (nI a)]) (rest := []) ⟨hx, hb, hml, hown, hts⟩ (c_requireMessage l hM hM20 hs ha) (cwV 1 hts gX5_hopNode_X5_requireMessage rfl rfl rfl (by decide +kernel) ⟨Nat.le_of_ble_eq_true rfl, Nat.le_of_ble_eq_true rfl⟩) (g_preV hF hG hS (lay_main) rfl) rfl rfl hl.1 rfl (lv_room (Nat.le_of_ble_eq_true rfl)) dX5_hopNode_2 ⟨Nat.le_of_ble_eq_true rfl, Nat.le_of_ble_eq_true rfl⟩) (fun k_3 h_2 => ?_)
  rw [show k_3 = a from h_2]
  refine lv_astore_n (lv' := [(3, .ref (ad (40, a, 0))), (0, .ref (ad (0, 0, 0))), (1, .int (nI a)), (2, .int (nI i))]) hx hb dX5_hopNode_5 rfl hl (by decide) rfl (fun ls hl => ?_)
  refine lv_aload_n hx hb dX5_hopNode_6 rfl (lv_at hl 0 rfl) ?_
  refine lv_iload_n hx hb dX5_hopNode_7 rfl (lv_at hl 3 rfl) ?_
  refine va_csv (W.runS (As := [.ref (ad (40, a, 0)), .int (nI i)]) (rest := []) ⟨hx, hb, hml, hown, hts⟩ (c_requireHop l (show a < ln (5, 0, 0) by omega) hh hh30 hi9) (va_cwS 2 hts gX5_hopNode_X5_requireHop rfl rfl rfl (by decide +kernel) ⟨Nat.le_of_ble_eq_true rfl, Nat.le_of_ble_eq_true rfl⟩) (g_preS hF hG hS) rfl rfl hl.1 rfl (lv_room (Nat.le_of_ble_eq_true rfl)) dX5_hopNode_8 ⟨Nat.le_of_ble_eq_true rfl, Nat.le_of_ble_eq_true rfl⟩) (fun h_5 => ?_)
  refine lv_aload_n hx hb dX5_hopNode_11 rfl (lv_at hl 0 rfl) ?_
  refine g_getN hx hb hts hi0 hown hK hG (lay_msg (show a < ln (5, 0, 0) by omega)) rfl 6 (by decide) (va_Nw.use rfl hN.2.2.2.2.1) rfl dX5_hopNode_12 ?_
  refine lv_iload_n hx hb dX5_hopNode_15 rfl (lv_at hl 3 rfl) ?_
  refine g_iald hx hb hK hG (lay_hopN (show a < ln (5, 0, 0) by omega)) (hil) (by first | decide | omega) dX5_hopNode_16 ?_
  exact W.iret (v := g (41, a, 0) i) hx hb hr (fun t9 ht9 hW9 => ⟨_, rfl, rfl, ht9⟩) (fun q h => nomatch h) dX5_hopNode_17

set_option maxHeartbeats 4000000 in
set_option maxRecDepth 100000 in
theorem c_hopMinute (l : Launch) {D : va_G} {C : g_C} {g : g_k → Nat → Int32} {ad ln : g_k → Nat} {ex : g_k → Option va_E} {B : Nat} {M : Nat} (hM : ln (5, 0, 0) = M) (hM20 : M ≤ 20) (hs : g (0, 0, 0) 7 = nI M) {a h i : Nat} (ha : a < M) (hh : g (40, a, 0) 5 = nI h) (hh30 : h < 2 ^ 30) (hi9 : i < h) (hil : i < ln (42, a, 0)) (hL30 : ln (42, a, 0) < 2 ^ 30) : Met l yX5_hopMinute wsX5_hopMinute ({ frames := 2, cells := 0, slots := 0, locals := 43 } : Room) (va_Pc [.ref (ad (0, 0, 0)), .int (nI a), .int (nI i)] (g_S D C (lay C g ad ln ex) ad B)) (vp_Si (fun r => r = g (42, a, 0) i)) 0 0 (fun _ => False) := by
  refine Met.ofW (cc := cX5_hopMinute) (maxL := 4) (ret := (some .int)) (by decide) rfl ?_
  intro p e s m args below meth c s₁ B₀ hml hv
  obtain ⟨rfl, hG, hF⟩ := hv
  have hK := hF.1
  have hN := hF.2.1
  have hB := hF.2.2.2
  have hx := B₀.exec
  have hb := B₀.bytes
  have hr := B₀.returns
  have hts := atoms_spec (ws := wsX5_hopMinute) B₀.pre
  have hown : s.vm.findClass RX5 = some m.cls := findClass_of_methodNamed B₀.named
  have hlocks := B₀.notSynchronized
  have hS : va_S (g_A B) s.heap s.heap [] := va_S.rf
  have hi0 : ∀ w ∈ wsX00, w ∈ wsX5_hopMinute := by decide +kernel
  have hl := lv_entry [.ref (ad (0, 0, 0)), .int (nI a), .int (nI i)] (n := 4) (Nat.le_of_ble_eq_true rfl)
  rw [lg_entry_eq]
  generalize (lg_sl [.ref (ad (0, 0, 0)), .int (nI a), .int (nI i)] ++ List.replicate (4 - (lg_sl [.ref (ad (0, 0, 0)), .int (nI a), .int (nI i)]).length) Slot.unset).toArray = ls at hl ⊢
  have hl : lv_has ls 4 [(0, .ref (ad (0, 0, 0))), (1, .int (nI a)), (2, .int (nI i))] := hl
  refine lv_aload_n hx hb dX5_hopMinute_0 rfl (lv_at hl 0 rfl) ?_
  refine lv_iload_n hx hb dX5_hopMinute_1 rfl (lv_at hl 1 rfl) ?_
  refine va_csr (W.runV (As := [.int (nI a)]) (rest := []) ⟨hx, hb, hml, hown, hts⟩ (c_requireMessage l hM hM20 hs ha) (cwV 1 hts gX5_hopMinute_X5_requireMessage rfl rfl rfl (by decide +kernel) ⟨Nat.le_of_ble_eq_true rfl, Nat.le_of_ble_eq_true rfl⟩) (g_preV hF hG hS (lay_main) rfl) rfl rfl hl.1 rfl (lv_room (Nat.le_of_ble_eq_true rfl)) dX5_hopMinute_2 ⟨Nat.le_of_ble_eq_true rfl, Nat.le_of_ble_eq_true rfl⟩) (fun k_3 h_2 => ?_)
  rw [show k_3 = a from h_2]
  refine lv_astore_n (lv' := [(3, .ref (ad (40, a, 0))), (0, .ref (ad (0, 0, 0))), (1, .int (nI a)), (2, .int (nI i))]) hx hb dX5_hopMinute_5 rfl hl (by decide) rfl (fun ls hl => ?_)
  refine lv_aload_n hx hb dX5_hopMinute_6 rfl (lv_at hl 0 rfl) ?_
  refine lv_iload_n hx hb dX5_hopMinute_7 rfl (lv_at hl 3 rfl) ?_
  refine va_csv (W.runS (As := [.ref (ad (40, a, 0)), .int (nI i)]) (rest := []) ⟨hx, hb, hml, hown, hts⟩ (c_requireHop l (show a < ln (5, 0, 0) by omega) hh hh30 hi9) (va_cwS 2 hts gX5_hopMinute_X5_requireHop rfl rfl rfl (by decide +kernel) ⟨Nat.le_of_ble_eq_true rfl, Nat.le_of_ble_eq_true rfl⟩) (g_preS hF hG hS) rfl rfl hl.1 rfl (lv_room (Nat.le_of_ble_eq_true rfl)) dX5_hopMinute_8 ⟨Nat.le_of_ble_eq_true rfl, Nat.le_of_ble_eq_true rfl⟩) (fun h_5 => ?_)
  refine lv_aload_n hx hb dX5_hopMinute_11 rfl (lv_at hl 0 rfl) ?_
  refine g_getN hx hb hts hi0 hown hK hG (lay_msg (show a < ln (5, 0, 0) by omega)) rfl 7 (by decide) (va_Nw.use rfl hN.2.2.2.2.2.1) rfl dX5_hopMinute_12 ?_
  refine lv_iload_n hx hb dX5_hopMinute_15 rfl (lv_at hl 3 rfl) ?_
  refine g_iald hx hb hK hG (lay_hopM (show a < ln (5, 0, 0) by omega)) (hil) (by first | decide | omega) dX5_hopMinute_16 ?_
  exact W.iret (v := g (42, a, 0) i) hx hb hr (fun t9 ht9 hW9 => ⟨_, rfl, rfl, ht9⟩) (fun q h => nomatch h) dX5_hopMinute_17

set_option maxHeartbeats 4000000 in
set_option maxRecDepth 100000 in
theorem c_relayOf (l : Launch) {D : va_G} {C : g_C} {g : g_k → Nat → Int32} {ad ln : g_k → Nat} {ex : g_k → Option va_E} {B : Nat} {n : Nat} (hn : n ≤ 10) (hc : g (1, 0, 0) 4 = nI n) {a : Nat} (ha : a < n) (hl9 : ln (30, a, 0) = 1) : Met l yX5_relayOf wsX5_relayOf ({ frames := 3, cells := 0, slots := 0, locals := 65 } : Room) (va_Pc [.ref (ad (0, 0, 0)), .int (nI a)] (g_S D C (lay C g ad ln ex) ad B)) (vp_Si (fun r => r = g (30, a, 0) 1)) 0 0 (fun _ => False) := by
  refine Met.ofW (cc := cX5_relayOf) (maxL := 2) (ret := (some .int)) (by decide) rfl ?_
  intro p e s m args below meth c s₁ B₀ hml hv
  obtain ⟨rfl, hG, hF⟩ := hv
  have hK := hF.1
  have hN := hF.2.1
  have hB := hF.2.2.2
  have hx := B₀.exec
  have hb := B₀.bytes
  have hr := B₀.returns
  have hts := atoms_spec (ws := wsX5_relayOf) B₀.pre
  have hown : s.vm.findClass RX5 = some m.cls := findClass_of_methodNamed B₀.named
  have hlocks := B₀.notSynchronized
  have hS : va_S (g_A B) s.heap s.heap [] := va_S.rf
  have hi3 : ∀ w ∈ wsX30, w ∈ wsX5_relayOf := by decide +kernel
  have hl := lv_entry [.ref (ad (0, 0, 0)), .int (nI a)] (n := 2) (Nat.le_of_ble_eq_true rfl)
  rw [lg_entry_eq]
  generalize (lg_sl [.ref (ad (0, 0, 0)), .int (nI a)] ++ List.replicate (2 - (lg_sl [.ref (ad (0, 0, 0)), .int (nI a)]).length) Slot.unset).toArray = ls at hl ⊢
  have hl : lv_has ls 2 [(0, .ref (ad (0, 0, 0))), (1, .int (nI a))] := hl
  refine lv_aload_n hx hb dX5_relayOf_0 rfl (lv_at hl 0 rfl) ?_
  refine lv_iload_n hx hb dX5_relayOf_1 rfl (lv_at hl 1 rfl) ?_
  refine va_csr (W.runV (As := [.int (nI a)]) (rest := []) ⟨hx, hb, hml, hown, hts⟩ (c_requireStation l hn hc ha hl9) (cwV 1 hts gX5_relayOf_X5_requireStation rfl rfl rfl (by decide +kernel) ⟨Nat.le_of_ble_eq_true rfl, Nat.le_of_ble_eq_true rfl⟩) (g_preV hF hG hS (lay_main) rfl) rfl rfl hl.1 rfl (lv_room (Nat.le_of_ble_eq_true rfl)) dX5_relayOf_2 ⟨Nat.le_of_ble_eq_true rfl, Nat.le_of_ble_eq_true rfl⟩) (fun k_3 h_2 => ?_)
  rw [show k_3 = a from h_2]
  refine g_getN hx hb hts hi3 hown hK hG (lay_station (show a < 10 by omega) hl9) rfl 1 (by decide) (va_Nw.use rfl hN.2.2.2.2.2.2.2.1) rfl dX5_relayOf_5 ?_
  exact W.iret (v := g (30, a, 0) 1) hx hb hr (fun t9 ht9 hW9 => ⟨_, rfl, rfl, ht9⟩) (fun q h => nomatch h) dX5_relayOf_8

set_option maxHeartbeats 4000000 in
set_option maxRecDepth 100000 in
theorem c_handovers (l : Launch) {D : va_G} {C : g_C} {g : g_k → Nat → Int32} {ad ln : g_k → Nat} {ex : g_k → Option va_E} {B : Nat} {n : Nat} (hn : n ≤ 10) (hc : g (1, 0, 0) 4 = nI n) {a : Nat} (ha : a < n) (hl9 : ln (30, a, 0) = 1) : Met l yX5_handovers wsX5_handovers ({ frames := 3, cells := 0, slots := 0, locals := 65 } : Room) (va_Pc [.ref (ad (0, 0, 0)), .int (nI a)] (g_S D C (lay C g ad ln ex) ad B)) (vp_Si (fun r => r = g (30, a, 0) 2)) 0 0 (fun _ => False) := by
  refine Met.ofW (cc := cX5_handovers) (maxL := 2) (ret := (some .int)) (by decide) rfl ?_
  intro p e s m args below meth c s₁ B₀ hml hv
  obtain ⟨rfl, hG, hF⟩ := hv
  have hK := hF.1
  have hN := hF.2.1
  have hB := hF.2.2.2
  have hx := B₀.exec
  have hb := B₀.bytes
  have hr := B₀.returns
  have hts := atoms_spec (ws := wsX5_handovers) B₀.pre
  have hown : s.vm.findClass RX5 = some m.cls := findClass_of_methodNamed B₀.named
  have hlocks := B₀.notSynchronized
  have hS : va_S (g_A B) s.heap s.heap [] := va_S.rf
  have hi3 : ∀ w ∈ wsX30, w ∈ wsX5_handovers := by decide +kernel
  have hl := lv_entry [.ref (ad (0, 0, 0)), .int (nI a)] (n := 2) (Nat.le_of_ble_eq_true rfl)
  rw [lg_entry_eq]
  generalize (lg_sl [.ref (ad (0, 0, 0)), .int (nI a)] ++ List.replicate (2 - (lg_sl [.ref (ad (0, 0, 0)), .int (nI a)]).length) Slot.unset).toArray = ls at hl ⊢
  have hl : lv_has ls 2 [(0, .ref (ad (0, 0, 0))), (1, .int (nI a))] := hl
  refine lv_aload_n hx hb dX5_handovers_0 rfl (lv_at hl 0 rfl) ?_
  refine lv_iload_n hx hb dX5_handovers_1 rfl (lv_at hl 1 rfl) ?_
  refine va_csr (W.runV (As := [.int (nI a)]) (rest := []) ⟨hx, hb, hml, hown, hts⟩ (c_requireStation l hn hc ha hl9) (cwV 1 hts gX5_handovers_X5_requireStation rfl rfl rfl (by decide +kernel) ⟨Nat.le_of_ble_eq_true rfl, Nat.le_of_ble_eq_true rfl⟩) (g_preV hF hG hS (lay_main) rfl) rfl rfl hl.1 rfl (lv_room (Nat.le_of_ble_eq_true rfl)) dX5_handovers_2 ⟨Nat.le_of_ble_eq_true rfl, Nat.le_of_ble_eq_true rfl⟩) (fun k_3 h_2 => ?_)
  rw [show k_3 = a from h_2]
  refine g_getN hx hb hts hi3 hown hK hG (lay_station (show a < 10 by omega) hl9) rfl 2 (by decide) (va_Nw.use rfl hN.2.2.2.2.2.2.2.2.1) rfl dX5_handovers_5 ?_
  exact W.iret (v := g (30, a, 0) 2) hx hb hr (fun t9 ht9 hW9 => ⟨_, rfl, rfl, ht9⟩) (fun q h => nomatch h) dX5_handovers_8
