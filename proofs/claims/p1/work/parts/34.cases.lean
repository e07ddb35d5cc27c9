/-- the room, whatever its numbers are: so much of it is used -/
theorem r1c {a : Nat} (h : a ≤ 2000) : a ≤ room_1.cells := Nat.le_trans h (Nat.le_of_ble_eq_true rfl)
theorem r1s {a : Nat} (h : a ≤ 100000) : a ≤ room_1.slots := Nat.le_trans h (Nat.le_of_ble_eq_true rfl)
theorem mo_50 {E : m_C} {C : g_C} {h : g_k → Nat → Int32} {ad : g_k → Nat} {vw : g_k → Option va_E} : mo E C h ad vw (50, 0, 0) = vw (50, 0, 0) := by
  unfold mo
  rw [mo0_lo (by decide)]
  rfl
theorem cmp_s (x : Int64) : lg_cmp x x = nI 0 := by
  unfold lg_cmp
  rw [if_neg (show ¬ x > x from fun h9 => Int64.lt_irrefl h9), if_pos rfl]
  rfl
set_option maxHeartbeats 4000000 in
set_option maxRecDepth 100000 in
theorem k_addStation {p : Program} {e : Env} {s : State} {m : MethodId} {below : List Frame} {meth : Method} {c : Code} {Q : State → Prop} (l : Launch) (hst : l.stackTraces = false) {D : va_G} {C : g_C} {E : m_C} {b L : Nat} {xs : Nat → Int32} (hL : L ≤ 5) (hx : p.tables.exec = Jvm.exec) (hb : c.code = cL_law) (hml : c.maxLocals = 7) (hown : s.vm.findClass RL = some m.cls) (hts : ∀ w ∈ wsL_law, w.before #[Value.ref b] s = true) (hX : va_X b L xs s s.heap) (hbl : b < s.heap.size) (hF : g_F D C s.heap.size s) (hK2 : va_K D vwCl (m_T E) s) (hCA : va_Nw (.castable IAE IAE) s) {A ln : g_k → Nat} {EX EX1 : g_k → Option va_E} {g0 h0 : g_k → Nat → Int32} (hg0 : ∀ c j, g0 c j = 0) (hl0 : ∀ c, ln c = 0) (hz0 : ∀ c j, h0 c j = 0) {f : Nat → Int64} (hex : EX (50, 0, 0) = some (.inl (E.2, 1, .inr (.inl f)))) (hmo : ∀ c : g_k, 51 ≤ c.1 → EX c = mo E C h0 A EX1 c) {H : Heap} {locs : List Loc} (hG : g_P D (lay C g0 A ln EX) A s.heap.size H) (hS : va_S (g_A s.heap.size) s.heap H locs) (hL5 : 5 ≤ L) (cont : ∀ (H : Heap) (locs : List Loc), va_S (g_A s.heap.size) s.heap H locs → ∀ ls, lv_has ls 7 [(4, .int (nI 0)), (0, .ref b)] → W p l e room_1 s m #[Value.ref b] below meth c H locs 2000 100000 Q (F0 m 1610 ls [])) {ls : Array Slot} (hl : lv_has ls 7 [(4, .int (nI 0)), (3, .ref (A (50, 0, 0))), (2, .ref (A (60, 0, 0))), (1, .ref (A (0, 0, 0))), (0, .ref b)]) : W p l e room_1 s m #[Value.ref b] below meth c H locs 36 67476 Q (F0 m 148 ls []) := by
  have hK := hF.1
  have hN := hF.2.1
  have hB : s.heap.size ≤ s.heap.size := Nat.le_refl _
  refine lv_aload_n hx hb dL_law_148 rfl (lv_at hl 3 rfl) ?_
  refine lv_aload_n hx hb dL_law_149 rfl (lv_at hl 4 rfl) ?_
  refine lv_iload hx hb dL_law_150 (lv_at hl 0 rfl) ?_
  refine lv_iconst (v := nI 1) hx hb dL_law_152 (by decide) ?_
  refine lv_iadd hx hb dL_law_153 ?_
  refine lv_to (y := nI (0 + 1)) (nI_add 0 1) ?_
  refine va_sld hx hb hX hbl (Nat.not_le.mpr hbl) hS (vp_in_nI (show 0 + 1 < L by omega) (by omega)) dL_law_154 ?_
  refine lv_aload_n hx hb dL_law_155 rfl (lv_at hl 1 rfl) ?_
  refine va_calli (vx_runSW (As := [.ref (A (0, 0, 0)), .int (xs (nI (0 + 1)).toNatClampNeg), .ref (A (50, 0, 0))]) (rest := []) ⟨hx, hb, hml, hown, hts⟩ (p_addStation l hst (E := E) hg0 hl0 hex) (vx_cwSW 3 hts gL_law_L_addStation rfl rfl rfl (by decide +kernel) ⟨Nat.le_of_ble_eq_true rfl, Nat.le_of_ble_eq_true rfl⟩) (m_preS hF hK2 hCA hG hS) rfl rfl hl.1 rfl (lv_room (Nat.le_of_ble_eq_true rfl)) dL_law_156 ⟨r1c (show 36 + 15 ≤ 2000 by omega), r1s (show 67476 + 3639 ≤ 100000 by omega)⟩) hS (fun q _ h => h) (fun q h => h) (fun r9 u9 t9 H locs ht9 _ hu9 hB1 _ _ hS => ?_)
  obtain ⟨v1, A1, f1⟩ := u9
  dsimp only at hu9
  obtain ⟨⟨ho1, ho2, ho3⟩, hu9⟩ := hu9
  dsimp only at ho1 ho2 ho3
  have hG : g_P D v1 A1 s.heap.size H := by rw [← ht9]; exact hB1
  have hmv : mo E C h0 A1 v1 = v1 := mo_fix (fun c hc9 => (ho1 c hc9).1.trans (hmo c hc9)) (fun c hc9 => (ho1 c hc9).2)
  have hG : g_P D (mo E C h0 A1 v1) A1 s.heap.size H := by rw [hmv]; exact hG
  refine W.widen (k := 51) (n := 71115) (by omega) (by omega) ?_
  have hl : lv_has ls 7 [(4, .int (nI 0)), (3, .ref (A1 (50, 0, 0))), (2, .ref (A1 (60, 0, 0))), (0, .ref b)] := by rw [ho3, (ho1 (60, 0, 0) (by decide)).2]; exact lv_sub hl [0, 1, 2, 4] rfl
  rcases hu9 with ⟨hgood, hr9, hf9⟩ | ⟨hgood, hr9⟩
  · refine lv_to (y := nI 0) (hr9) ?_
    refine lv_istore (lv' := [(5, .int (nI 0)), (4, .int (nI 0)), (3, .ref (A1 (50, 0, 0))), (2, .ref (A1 (60, 0, 0))), (0, .ref b)]) hx hb dL_law_159 hl (by decide) rfl (fun ls hl => ?_)
    refine lv_aload_n hx hb dL_law_161 rfl (lv_at hl 3 rfl) ?_
    refine lv_aload_n hx hb dL_law_162 rfl (lv_at hl 4 rfl) ?_
    refine lv_iload hx hb dL_law_163 (lv_at hl 1 rfl) ?_
    refine lv_iconst (v := nI 1) hx hb dL_law_165 (by decide) ?_
    refine lv_iadd hx hb dL_law_166 ?_
    refine lv_to (y := nI (0 + 1)) (nI_add 0 1) ?_
    refine va_sld hx hb hX hbl (Nat.not_le.mpr hbl) hS (vp_in_nI (show 0 + 1 < L by omega) (by omega)) dL_law_167 ?_
    refine va_calli (va_runV (As := [.int (xs (nI (0 + 1)).toNatClampNeg)]) (rest := []) ⟨hx, hb, hml, hown, hts⟩ (m_addStation l (h := h0) hz0) (cwV 1 hts gL_law_X6_addStation rfl rfl rfl (by decide +kernel) ⟨Nat.le_of_ble_eq_true rfl, Nat.le_of_ble_eq_true rfl⟩) (m_preV hF hK2 hCA hG hS (mo_obj) rfl) rfl rfl hl.1 rfl (lv_room (Nat.le_of_ble_eq_true rfl)) dL_law_168 ⟨r1c (show 51 + 0 ≤ 2000 by omega), r1s (show 71115 + 0 ≤ 100000 by omega)⟩) hS (fun q _ h => h) (fun q h => h) (fun r_51 g_53 t9 H locs ht9 _ h_52 hB1 _ _ hS => ?_)
    have hG : g_P D (mo E C g_53 A1 v1) A1 s.heap.size H := by rw [← ht9]; exact hB1
    rcases h_52 with ⟨hg2, hr2, hth⟩ | ⟨hg2, hth⟩
    · refine lv_to (y := nI 0) (hr2) ?_
      refine lv_istore (lv' := [(6, .int (nI 0)), (5, .int (nI 0)), (4, .int (nI 0)), (3, .ref (A1 (50, 0, 0))), (2, .ref (A1 (60, 0, 0))), (0, .ref b)]) hx hb dL_law_171 hl (by decide) rfl (fun ls hl => ?_)
      refine lv_aload_n hx hb dL_law_173 rfl (lv_at hl 4 rfl) ?_
      refine vp_callSi (W.runV (As := []) (rest := []) ⟨hx, hb, hml, hown, hts⟩ (m_thrown l ) (cwV 0 hts gL_law_X6_thrown rfl rfl rfl (by decide +kernel) ⟨Nat.le_of_ble_eq_true rfl, Nat.le_of_ble_eq_true rfl⟩) (m_preV hF hK2 hCA hG hS (mo_obj) rfl) rfl rfl hl.1 rfl (lv_room (Nat.le_of_ble_eq_true rfl)) dL_law_174 ⟨r1c (show 51 + 0 ≤ 2000 by omega), r1s (show 71115 + 0 ≤ 100000 by omega)⟩) (fun r_54 h_55 => ?_)
      refine lv_to (y := nI 0) (h_55.trans hth) ?_
      refine lv_iload hx hb dL_law_177 (lv_at hl 1 rfl) ?_
      refine lv_icmp_eq (tgt := 184) hx hb dL_law_179 (by decide) (fun _ => ?_) (fun c => absurd (rfl) c)
      refine lv_iload hx hb dL_law_184 (lv_at hl 1 rfl) ?_
      refine lv_if_ne (tgt := 201) hx hb dL_law_186 (by decide) (fun c => absurd (by decide) c) (fun _ => ?_)
      refine lv_aload_n hx hb dL_law_189 rfl (lv_at hl 3 rfl) ?_
      refine lv_iconst (v := nI 0) hx hb dL_law_190 (by decide) ?_
      refine g_lald hx hb hK2 hG (cd := (50, 0, 0)) ((mo_50 (C := C)).trans ho2) (j := 0) (by decide) (by decide) dL_law_191 ?_
      refine lv_iload hx hb dL_law_192 (lv_at hl 0 rfl) ?_
      refine lv_i2l hx hb dL_law_194 rfl ?_
      refine W.lcmp hx hb dL_law_195 ?_
      refine lv_to (y := nI 0) (by rw [hf9]; exact cmp_s _) ?_
      refine lv_if_eq (tgt := 201) hx hb dL_law_196 (by decide) (fun _ => ?_) (fun c => absurd (by decide) c)
      refine lv_goto (tgt := 1610) hx hb dL_law_201 (by decide) ?_
      refine W.widen (k := 2000) (n := 100000) (by omega) (by omega) ?_
      exact cont _ _ hS ls (lv_sub hl [2, 5] rfl)
    · exact absurd hgood hg2
  · refine lv_to (y := nI 1) (hr9) ?_
    refine lv_istore (lv' := [(5, .int (nI 1)), (4, .int (nI 0)), (3, .ref (A1 (50, 0, 0))), (2, .ref (A1 (60, 0, 0))), (0, .ref b)]) hx hb dL_law_159 hl (by decide) rfl (fun ls hl => ?_)
    refine lv_aload_n hx hb dL_law_161 rfl (lv_at hl 3 rfl) ?_
    refine lv_aload_n hx hb dL_law_162 rfl (lv_at hl 4 rfl) ?_
    refine lv_iload hx hb dL_law_163 (lv_at hl 1 rfl) ?_
    refine lv_iconst (v := nI 1) hx hb dL_law_165 (by decide) ?_
    refine lv_iadd hx hb dL_law_166 ?_
    refine lv_to (y := nI (0 + 1)) (nI_add 0 1) ?_
    refine va_sld hx hb hX hbl (Nat.not_le.mpr hbl) hS (vp_in_nI (show 0 + 1 < L by omega) (by omega)) dL_law_167 ?_
    refine va_calli (va_runV (As := [.int (xs (nI (0 + 1)).toNatClampNeg)]) (rest := []) ⟨hx, hb, hml, hown, hts⟩ (m_addStation l (h := h0) hz0) (cwV 1 hts gL_law_X6_addStation rfl rfl rfl (by decide +kernel) ⟨Nat.le_of_ble_eq_true rfl, Nat.le_of_ble_eq_true rfl⟩) (m_preV hF hK2 hCA hG hS (mo_obj) rfl) rfl rfl hl.1 rfl (lv_room (Nat.le_of_ble_eq_true rfl)) dL_law_168 ⟨r1c (show 51 + 0 ≤ 2000 by omega), r1s (show 71115 + 0 ≤ 100000 by omega)⟩) hS (fun q _ h => h) (fun q h => h) (fun r_51 g_53 t9 H locs ht9 _ h_52 hB1 _ _ hS => ?_)
    have hG : g_P D (mo E C g_53 A1 v1) A1 s.heap.size H := by rw [← ht9]; exact hB1
    rcases h_52 with ⟨hg2, hr2, hth⟩ | ⟨hg2, hth⟩
    · exact absurd hg2 hgood
    · refine lv_istore (lv' := [(6, .int r_51), (5, .int (nI 1)), (4, .int (nI 0)), (3, .ref (A1 (50, 0, 0))), (2, .ref (A1 (60, 0, 0))), (0, .ref b)]) hx hb dL_law_171 hl (by decide) rfl (fun ls hl => ?_)
      refine lv_aload_n hx hb dL_law_173 rfl (lv_at hl 4 rfl) ?_
      refine vp_callSi (W.runV (As := []) (rest := []) ⟨hx, hb, hml, hown, hts⟩ (m_thrown l ) (cwV 0 hts gL_law_X6_thrown rfl rfl rfl (by decide +kernel) ⟨Nat.le_of_ble_eq_true rfl, Nat.le_of_ble_eq_true rfl⟩) (m_preV hF hK2 hCA hG hS (mo_obj) rfl) rfl rfl hl.1 rfl (lv_room (Nat.le_of_ble_eq_true rfl)) dL_law_174 ⟨r1c (show 51 + 0 ≤ 2000 by omega), r1s (show 71115 + 0 ≤ 100000 by omega)⟩) (fun r_54 h_55 => ?_)
      refine lv_to (y := nI 1) (h_55.trans hth) ?_
      refine lv_iload hx hb dL_law_177 (lv_at hl 1 rfl) ?_
      refine lv_icmp_eq (tgt := 184) hx hb dL_law_179 (by decide) (fun _ => ?_) (fun c => absurd (rfl) c)
      refine lv_iload hx hb dL_law_184 (lv_at hl 1 rfl) ?_
      refine lv_if_ne (tgt := 201) hx hb dL_law_186 (by decide) (fun _ => ?_) (fun c => absurd c (by decide))
      refine lv_goto (tgt := 1610) hx hb dL_law_201 (by decide) ?_
      refine W.widen (k := 2000) (n := 100000) (by omega) (by omega) ?_
      exact cont _ _ hS ls (lv_sub hl [2, 5] rfl)

set_option maxHeartbeats 4000000 in
set_option maxRecDepth 100000 in
theorem k_addRelay {p : Program} {e : Env} {s : State} {m : MethodId} {below : List Frame} {meth : Method} {c : Code} {Q : State → Prop} (l : Launch) (hst : l.stackTraces = false) {D : va_G} {C : g_C} {E : m_C} {b L : Nat} {xs : Nat → Int32} (hL : L ≤ 5) (hx : p.tables.exec = Jvm.exec) (hb : c.code = cL_law) (hml : c.maxLocals = 7) (hown : s.vm.findClass RL = some m.cls) (hts : ∀ w ∈ wsL_law, w.before #[Value.ref b] s = true) (hX : va_X b L xs s s.heap) (hbl : b < s.heap.size) (hF : g_F D C s.heap.size s) (hK2 : va_K D vwCl (m_T E) s) (hCA : va_Nw (.castable IAE IAE) s) {A ln : g_k → Nat} {EX EX1 : g_k → Option va_E} {g0 h0 : g_k → Nat → Int32} (hg0 : ∀ c j, g0 c j = 0) (hl0 : ∀ c, ln c = 0) (hz0 : ∀ c j, h0 c j = 0) {f : Nat → Int64} (hex : EX (50, 0, 0) = some (.inl (E.2, 1, .inr (.inl f)))) (hmo : ∀ c : g_k, 51 ≤ c.1 → EX c = mo E C h0 A EX1 c) {H : Heap} {locs : List Loc} (hG : g_P D (lay C g0 A ln EX) A s.heap.size H) (hS : va_S (g_A s.heap.size) s.heap H locs) (hL5 : 5 ≤ L) (cont : ∀ (H : Heap) (locs : List Loc), va_S (g_A s.heap.size) s.heap H locs → ∀ ls, lv_has ls 7 [(4, .int (nI 0)), (0, .ref b)] → W p l e room_1 s m #[Value.ref b] below meth c H locs 2000 100000 Q (F0 m 1610 ls [])) {ls : Array Slot} (hl : lv_has ls 7 [(4, .int (nI 0)), (3, .ref (A (50, 0, 0))), (2, .ref (A (60, 0, 0))), (1, .ref (A (0, 0, 0))), (0, .ref b)]) : W p l e room_1 s m #[Value.ref b] below meth c H locs 36 67476 Q (F0 m 204 ls []) := by
  have hK := hF.1
  have hN := hF.2.1
  have hB : s.heap.size ≤ s.heap.size := Nat.le_refl _
  refine lv_aload_n hx hb dL_law_204 rfl (lv_at hl 3 rfl) ?_
  refine lv_aload_n hx hb dL_law_205 rfl (lv_at hl 4 rfl) ?_
  refine lv_iload hx hb dL_law_206 (lv_at hl 0 rfl) ?_
  refine lv_iconst (v := nI 1) hx hb dL_law_208 (by decide) ?_
  refine lv_iadd hx hb dL_law_209 ?_
  refine lv_to (y := nI (0 + 1)) (nI_add 0 1) ?_
  refine va_sld hx hb hX hbl (Nat.not_le.mpr hbl) hS (vp_in_nI (show 0 + 1 < L by omega) (by omega)) dL_law_210 ?_
  refine lv_aload_n hx hb dL_law_211 rfl (lv_at hl 4 rfl) ?_
  refine lv_iload hx hb dL_law_212 (lv_at hl 0 rfl) ?_
  refine lv_iconst (v := nI 2) hx hb dL_law_214 (by decide) ?_
  refine lv_iadd hx hb dL_law_215 ?_
  refine lv_to (y := nI (0 + 2)) (nI_add 0 2) ?_
  refine va_sld hx hb hX hbl (Nat.not_le.mpr hbl) hS (vp_in_nI (show 0 + 2 < L by omega) (by omega)) dL_law_216 ?_
  refine lv_aload_n hx hb dL_law_217 rfl (lv_at hl 4 rfl) ?_
  refine lv_iload hx hb dL_law_218 (lv_at hl 0 rfl) ?_
  refine lv_iconst (v := nI 3) hx hb dL_law_220 (by decide) ?_
  refine lv_iadd hx hb dL_law_221 ?_
  refine lv_to (y := nI (0 + 3)) (nI_add 0 3) ?_
  refine va_sld hx hb hX hbl (Nat.not_le.mpr hbl) hS (vp_in_nI (show 0 + 3 < L by omega) (by omega)) dL_law_222 ?_
  refine lv_aload_n hx hb dL_law_223 rfl (lv_at hl 4 rfl) ?_
  refine lv_iload hx hb dL_law_224 (lv_at hl 0 rfl) ?_
  refine lv_iconst (v := nI 4) hx hb dL_law_226 (by decide) ?_
  refine lv_iadd hx hb dL_law_227 ?_
  refine lv_to (y := nI (0 + 4)) (nI_add 0 4) ?_
  refine va_sld hx hb hX hbl (Nat.not_le.mpr hbl) hS (vp_in_nI (show 0 + 4 < L by omega) (by omega)) dL_law_228 ?_
  refine lv_aload_n hx hb dL_law_229 rfl (lv_at hl 1 rfl) ?_
  refine va_calli (vx_runSW (As := [.ref (A (0, 0, 0)), .int (xs (nI (0 + 1)).toNatClampNeg), .int (xs (nI (0 + 2)).toNatClampNeg), .int (xs (nI (0 + 3)).toNatClampNeg), .int (xs (nI (0 + 4)).toNatClampNeg), .ref (A (50, 0, 0))]) (rest := []) ⟨hx, hb, hml, hown, hts⟩ (p_addRelay l hst (E := E) hg0 hl0 hex) (vx_cwSW 6 hts gL_law_L_addRelay rfl rfl rfl (by decide +kernel) ⟨Nat.le_of_ble_eq_true rfl, Nat.le_of_ble_eq_true rfl⟩) (m_preS hF hK2 hCA hG hS) rfl rfl hl.1 rfl (lv_room (Nat.le_of_ble_eq_true rfl)) dL_law_230 ⟨r1c (show 36 + 1 ≤ 2000 by omega), r1s (show 67476 + 6 ≤ 100000 by omega)⟩) hS (fun q _ h => h) (fun q h => h) (fun r9 u9 t9 H locs ht9 _ hu9 hB1 _ _ hS => ?_)
  obtain ⟨v1, A1, f1⟩ := u9
  dsimp only at hu9
  obtain ⟨⟨ho1, ho2, ho3⟩, hu9⟩ := hu9
  dsimp only at ho1 ho2 ho3
  have hG : g_P D v1 A1 s.heap.size H := by rw [← ht9]; exact hB1
  have hmv : mo E C h0 A1 v1 = v1 := mo_fix (fun c hc9 => (ho1 c hc9).1.trans (hmo c hc9)) (fun c hc9 => (ho1 c hc9).2)
  have hG : g_P D (mo E C h0 A1 v1) A1 s.heap.size H := by rw [hmv]; exact hG
  refine W.widen (k := 37) (n := 67482) (by omega) (by omega) ?_
  have hl : lv_has ls 7 [(4, .int (nI 0)), (3, .ref (A1 (50, 0, 0))), (2, .ref (A1 (60, 0, 0))), (0, .ref b)] := by rw [ho3, (ho1 (60, 0, 0) (by decide)).2]; exact lv_sub hl [0, 1, 2, 4] rfl
  rcases hu9 with ⟨hgood, hr9, hf9⟩ | ⟨hgood, hr9⟩
  · refine lv_to (y := nI 0) (hr9) ?_
    refine lv_istore (lv' := [(5, .int (nI 0)), (4, .int (nI 0)), (3, .ref (A1 (50, 0, 0))), (2, .ref (A1 (60, 0, 0))), (0, .ref b)]) hx hb dL_law_233 hl (by decide) rfl (fun ls hl => ?_)
    refine lv_aload_n hx hb dL_law_235 rfl (lv_at hl 3 rfl) ?_
    refine lv_aload_n hx hb dL_law_236 rfl (lv_at hl 4 rfl) ?_
    refine lv_iload hx hb dL_law_237 (lv_at hl 1 rfl) ?_
    refine lv_iconst (v := nI 1) hx hb dL_law_239 (by decide) ?_
    refine lv_iadd hx hb dL_law_240 ?_
    refine lv_to (y := nI (0 + 1)) (nI_add 0 1) ?_
    refine va_sld hx hb hX hbl (Nat.not_le.mpr hbl) hS (vp_in_nI (show 0 + 1 < L by omega) (by omega)) dL_law_241 ?_
    refine lv_aload_n hx hb dL_law_242 rfl (lv_at hl 4 rfl) ?_
    refine lv_iload hx hb dL_law_243 (lv_at hl 1 rfl) ?_
    refine lv_iconst (v := nI 2) hx hb dL_law_245 (by decide) ?_
    refine lv_iadd hx hb dL_law_246 ?_
    refine lv_to (y := nI (0 + 2)) (nI_add 0 2) ?_
    refine va_sld hx hb hX hbl (Nat.not_le.mpr hbl) hS (vp_in_nI (show 0 + 2 < L by omega) (by omega)) dL_law_247 ?_
    refine lv_aload_n hx hb dL_law_248 rfl (lv_at hl 4 rfl) ?_
    refine lv_iload hx hb dL_law_249 (lv_at hl 1 rfl) ?_
    refine lv_iconst (v := nI 3) hx hb dL_law_251 (by decide) ?_
    refine lv_iadd hx hb dL_law_252 ?_
    refine lv_to (y := nI (0 + 3)) (nI_add 0 3) ?_
    refine va_sld hx hb hX hbl (Nat.not_le.mpr hbl) hS (vp_in_nI (show 0 + 3 < L by omega) (by omega)) dL_law_253 ?_
    refine lv_aload_n hx hb dL_law_254 rfl (lv_at hl 4 rfl) ?_
    refine lv_iload hx hb dL_law_255 (lv_at hl 1 rfl) ?_
    refine lv_iconst (v := nI 4) hx hb dL_law_257 (by decide) ?_
    refine lv_iadd hx hb dL_law_258 ?_
    refine lv_to (y := nI (0 + 4)) (nI_add 0 4) ?_
    refine va_sld hx hb hX hbl (Nat.not_le.mpr hbl) hS (vp_in_nI (show 0 + 4 < L by omega) (by omega)) dL_law_259 ?_
    refine va_calli (va_runV (As := [.int (xs (nI (0 + 1)).toNatClampNeg), .int (xs (nI (0 + 2)).toNatClampNeg), .int (xs (nI (0 + 3)).toNatClampNeg), .int (xs (nI (0 + 4)).toNatClampNeg)]) (rest := []) ⟨hx, hb, hml, hown, hts⟩ (m_addRelay l (h := h0) hz0) (cwV 4 hts gL_law_X6_addRelay rfl rfl rfl (by decide +kernel) ⟨Nat.le_of_ble_eq_true rfl, Nat.le_of_ble_eq_true rfl⟩) (m_preV hF hK2 hCA hG hS (mo_obj) rfl) rfl rfl hl.1 rfl (lv_room (Nat.le_of_ble_eq_true rfl)) dL_law_260 ⟨r1c (show 37 + 0 ≤ 2000 by omega), r1s (show 67482 + 0 ≤ 100000 by omega)⟩) hS (fun q _ h => h) (fun q h => h) (fun r_51 g_53 t9 H locs ht9 _ h_52 hB1 _ _ hS => ?_)
    have hG : g_P D (mo E C g_53 A1 v1) A1 s.heap.size H := by rw [← ht9]; exact hB1
    rcases h_52 with ⟨hg2, hr2, hth⟩ | ⟨hg2, hth⟩
    · refine lv_to (y := nI 0) (hr2) ?_
      refine lv_istore (lv' := [(6, .int (nI 0)), (5, .int (nI 0)), (4, .int (nI 0)), (3, .ref (A1 (50, 0, 0))), (2, .ref (A1 (60, 0, 0))), (0, .ref b)]) hx hb dL_law_263 hl (by decide) rfl (fun ls hl => ?_)
      refine lv_aload_n hx hb dL_law_265 rfl (lv_at hl 4 rfl) ?_
      refine vp_callSi (W.runV (As := []) (rest := []) ⟨hx, hb, hml, hown, hts⟩ (m_thrown l ) (cwV 0 hts gL_law_X6_thrown rfl rfl rfl (by decide +kernel) ⟨Nat.le_of_ble_eq_true rfl, Nat.le_of_ble_eq_true rfl⟩) (m_preV hF hK2 hCA hG hS (mo_obj) rfl) rfl rfl hl.1 rfl (lv_room (Nat.le_of_ble_eq_true rfl)) dL_law_266 ⟨r1c (show 37 + 0 ≤ 2000 by omega), r1s (show 67482 + 0 ≤ 100000 by omega)⟩) (fun r_54 h_55 => ?_)
      refine lv_to (y := nI 0) (h_55.trans hth) ?_
      refine lv_iload hx hb dL_law_269 (lv_at hl 1 rfl) ?_
      refine lv_icmp_eq (tgt := 276) hx hb dL_law_271 (by decide) (fun _ => ?_) (fun c => absurd (rfl) c)
      refine lv_iload hx hb dL_law_276 (lv_at hl 1 rfl) ?_
      refine lv_if_ne (tgt := 293) hx hb dL_law_278 (by decide) (fun c => absurd (by decide) c) (fun _ => ?_)
      refine lv_aload_n hx hb dL_law_281 rfl (lv_at hl 3 rfl) ?_
      refine lv_iconst (v := nI 0) hx hb dL_law_282 (by decide) ?_
      refine g_lald hx hb hK2 hG (cd := (50, 0, 0)) ((mo_50 (C := C)).trans ho2) (j := 0) (by decide) (by decide) dL_law_283 ?_
      refine lv_iload hx hb dL_law_284 (lv_at hl 0 rfl) ?_
      refine lv_i2l hx hb dL_law_286 rfl ?_
      refine W.lcmp hx hb dL_law_287 ?_
      refine lv_to (y := nI 0) (by rw [hf9]; exact cmp_s _) ?_
      refine lv_if_eq (tgt := 293) hx hb dL_law_288 (by decide) (fun _ => ?_) (fun c => absurd (by decide) c)
      refine lv_goto (tgt := 1610) hx hb dL_law_293 (by decide) ?_
      refine W.widen (k := 2000) (n := 100000) (by omega) (by omega) ?_
      exact cont _ _ hS ls (lv_sub hl [2, 5] rfl)
    · exact absurd hgood hg2
  · refine lv_to (y := nI 1) (hr9) ?_
    refine lv_istore (lv' := [(5, .int (nI 1)), (4, .int (nI 0)), (3, .ref (A1 (50, 0, 0))), (2, .ref (A1 (60, 0, 0))), (0, .ref b)]) hx hb dL_law_233 hl (by decide) rfl (fun ls hl => ?_)
    refine lv_aload_n hx hb dL_law_235 rfl (lv_at hl 3 rfl) ?_
    refine lv_aload_n hx hb dL_law_236 rfl (lv_at hl 4 rfl) ?_
    refine lv_iload hx hb dL_law_237 (lv_at hl 1 rfl) ?_
    refine lv_iconst (v := nI 1) hx hb dL_law_239 (by decide) ?_
    refine lv_iadd hx hb dL_law_240 ?_
    refine lv_to (y := nI (0 + 1)) (nI_add 0 1) ?_
    refine va_sld hx hb hX hbl (Nat.not_le.mpr hbl) hS (vp_in_nI (show 0 + 1 < L by omega) (by omega)) dL_law_241 ?_
    refine lv_aload_n hx hb dL_law_242 rfl (lv_at hl 4 rfl) ?_
    refine lv_iload hx hb dL_law_243 (lv_at hl 1 rfl) ?_
    refine lv_iconst (v := nI 2) hx hb dL_law_245 (by decide) ?_
    refine lv_iadd hx hb dL_law_246 ?_
    refine lv_to (y := nI (0 + 2)) (nI_add 0 2) ?_
    refine va_sld hx hb hX hbl (Nat.not_le.mpr hbl) hS (vp_in_nI (show 0 + 2 < L by omega) (by omega)) dL_law_247 ?_
    refine lv_aload_n hx hb dL_law_248 rfl (lv_at hl 4 rfl) ?_
    refine lv_iload hx hb dL_law_249 (lv_at hl 1 rfl) ?_
    refine lv_iconst (v := nI 3) hx hb dL_law_251 (by decide) ?_
    refine lv_iadd hx hb dL_law_252 ?_
    refine lv_to (y := nI (0 + 3)) (nI_add 0 3) ?_
    refine va_sld hx hb hX hbl (Nat.not_le.mpr hbl) hS (vp_in_nI (show 0 + 3 < L by omega) (by omega)) dL_law_253 ?_
    refine lv_aload_n hx hb dL_law_254 rfl (lv_at hl 4 rfl) ?_
    refine lv_iload hx hb dL_law_255 (lv_at hl 1 rfl) ?_
    refine lv_iconst (v := nI 4) hx hb dL_law_257 (by decide) ?_
    refine lv_iadd hx hb dL_law_258 ?_
    refine lv_to (y := nI (0 + 4)) (nI_add 0 4) ?_
    refine va_sld hx hb hX hbl (Nat.not_le.mpr hbl) hS (vp_in_nI (show 0 + 4 < L by omega) (by omega)) dL_law_259 ?_
    refine va_calli (va_runV (As := [.int (xs (nI (0 + 1)).toNatClampNeg), .int (xs (nI (0 + 2)).toNatClampNeg), .int (xs (nI (0 + 3)).toNatClampNeg), .int (xs (nI (0 + 4)).toNatClampNeg)]) (rest := []) ⟨hx, hb, hml, hown, hts⟩ (m_addRelay l (h := h0) hz0) (cwV 4 hts gL_law_X6_addRelay rfl rfl rfl (by decide +kernel) ⟨Nat.le_of_ble_eq_true rfl, Nat.le_of_ble_eq_true rfl⟩) (m_preV hF hK2 hCA hG hS (mo_obj) rfl) rfl rfl hl.1 rfl (lv_room (Nat.le_of_ble_eq_true rfl)) dL_law_260 ⟨r1c (show 37 + 0 ≤ 2000 by omega), r1s (show 67482 + 0 ≤ 100000 by omega)⟩) hS (fun q _ h => h) (fun q h => h) (fun r_51 g_53 t9 H locs ht9 _ h_52 hB1 _ _ hS => ?_)
    have hG : g_P D (mo E C g_53 A1 v1) A1 s.heap.size H := by rw [← ht9]; exact hB1
    rcases h_52 with ⟨hg2, hr2, hth⟩ | ⟨hg2, hth⟩
    · exact absurd hg2 hgood
    · refine lv_istore (lv' := [(6, .int r_51), (5, .int (nI 1)), (4, .int (nI 0)), (3, .ref (A1 (50, 0, 0))), (2, .ref (A1 (60, 0, 0))), (0, .ref b)]) hx hb dL_law_263 hl (by decide) rfl (fun ls hl => ?_)
      refine lv_aload_n hx hb dL_law_265 rfl (lv_at hl 4 rfl) ?_
      refine vp_callSi (W.runV (As := []) (rest := []) ⟨hx, hb, hml, hown, hts⟩ (m_thrown l ) (cwV 0 hts gL_law_X6_thrown rfl rfl rfl (by decide +kernel) ⟨Nat.le_of_ble_eq_true rfl, Nat.le_of_ble_eq_true rfl⟩) (m_preV hF hK2 hCA hG hS (mo_obj) rfl) rfl rfl hl.1 rfl (lv_room (Nat.le_of_ble_eq_true rfl)) dL_law_266 ⟨r1c (show 37 + 0 ≤ 2000 by omega), r1s (show 67482 + 0 ≤ 100000 by omega)⟩) (fun r_54 h_55 => ?_)
      refine lv_to (y := nI 1) (h_55.trans hth) ?_
      refine lv_iload hx hb dL_law_269 (lv_at hl 1 rfl) ?_
      refine lv_icmp_eq (tgt := 276) hx hb dL_law_271 (by decide) (fun _ => ?_) (fun c => absurd (rfl) c)
      refine lv_iload hx hb dL_law_276 (lv_at hl 1 rfl) ?_
      refine lv_if_ne (tgt := 293) hx hb dL_law_278 (by decide) (fun _ => ?_) (fun c => absurd c (by decide))
      refine lv_goto (tgt := 1610) hx hb dL_law_293 (by decide) ?_
      refine W.widen (k := 2000) (n := 100000) (by omega) (by omega) ?_
      exact cont _ _ hS ls (lv_sub hl [2, 5] rfl)

set_option maxHeartbeats 4000000 in
set_option maxRecDepth 100000 in
theorem k_setCapacity {p : Program} {e : Env} {s : State} {m : MethodId} {below : List Frame} {meth : Method} {c : Code} {Q : State → Prop} (l : Launch) (hst : l.stackTraces = false) {D : va_G} {C : g_C} {E : m_C} {b L : Nat} {xs : Nat → Int32} (hL : L ≤ 5) (hx : p.tables.exec = Jvm.exec) (hb : c.code = cL_law) (hml : c.maxLocals = 7) (hown : s.vm.findClass RL = some m.cls) (hts : ∀ w ∈ wsL_law, w.before #[Value.ref b] s = true) (hX : va_X b L xs s s.heap) (hbl : b < s.heap.size) (hF : g_F D C s.heap.size s) (hK2 : va_K D vwCl (m_T E) s) (hCA : va_Nw (.castable IAE IAE) s) {A ln : g_k → Nat} {EX EX1 : g_k → Option va_E} {g0 h0 : g_k → Nat → Int32} (hg0 : ∀ c j, g0 c j = 0) (hl0 : ∀ c, ln c = 0) (hz0 : ∀ c j, h0 c j = 0) {f : Nat → Int64} (hex : EX (50, 0, 0) = some (.inl (E.2, 1, .inr (.inl f)))) (hmo : ∀ c : g_k, 51 ≤ c.1 → EX c = mo E C h0 A EX1 c) {H : Heap} {locs : List Loc} (hG : g_P D (lay C g0 A ln EX) A s.heap.size H) (hS : va_S (g_A s.heap.size) s.heap H locs) (hL5 : 5 ≤ L) (cont : ∀ (H : Heap) (locs : List Loc), va_S (g_A s.heap.size) s.heap H locs → ∀ ls, lv_has ls 7 [(4, .int (nI 0)), (0, .ref b)] → W p l e room_1 s m #[Value.ref b] below meth c H locs 2000 100000 Q (F0 m 1610 ls [])) {ls : Array Slot} (hl : lv_has ls 7 [(4, .int (nI 0)), (3, .ref (A (50, 0, 0))), (2, .ref (A (60, 0, 0))), (1, .ref (A (0, 0, 0))), (0, .ref b)]) : W p l e room_1 s m #[Value.ref b] below meth c H locs 36 67476 Q (F0 m 296 ls []) := by
  have hK := hF.1
  have hN := hF.2.1
  have hB : s.heap.size ≤ s.heap.size := Nat.le_refl _
  refine lv_aload_n hx hb dL_law_296 rfl (lv_at hl 3 rfl) ?_
  refine lv_aload_n hx hb dL_law_297 rfl (lv_at hl 4 rfl) ?_
  refine lv_iload hx hb dL_law_298 (lv_at hl 0 rfl) ?_
  refine lv_iconst (v := nI 1) hx hb dL_law_300 (by decide) ?_
  refine lv_iadd hx hb dL_law_301 ?_
  refine lv_to (y := nI (0 + 1)) (nI_add 0 1) ?_
  refine va_sld hx hb hX hbl (Nat.not_le.mpr hbl) hS (vp_in_nI (show 0 + 1 < L by omega) (by omega)) dL_law_302 ?_
  refine lv_aload_n hx hb dL_law_303 rfl (lv_at hl 4 rfl) ?_
  refine lv_iload hx hb dL_law_304 (lv_at hl 0 rfl) ?_
  refine lv_iconst (v := nI 2) hx hb dL_law_306 (by decide) ?_
  refine lv_iadd hx hb dL_law_307 ?_
  refine lv_to (y := nI (0 + 2)) (nI_add 0 2) ?_
  refine va_sld hx hb hX hbl (Nat.not_le.mpr hbl) hS (vp_in_nI (show 0 + 2 < L by omega) (by omega)) dL_law_308 ?_
  refine lv_aload_n hx hb dL_law_309 rfl (lv_at hl 1 rfl) ?_
  refine va_calli (vx_runSW (As := [.ref (A (0, 0, 0)), .int (xs (nI (0 + 1)).toNatClampNeg), .int (xs (nI (0 + 2)).toNatClampNeg), .ref (A (50, 0, 0))]) (rest := []) ⟨hx, hb, hml, hown, hts⟩ (p_setCapacity l hst (E := E) ((hg0 _ _).trans nI_0.symm)) (vx_cwSW 4 hts gL_law_L_setCapacity rfl rfl rfl (by decide +kernel) ⟨Nat.le_of_ble_eq_true rfl, Nat.le_of_ble_eq_true rfl⟩) (g_preS hF hG hS) rfl rfl hl.1 rfl (lv_room (Nat.le_of_ble_eq_true rfl)) dL_law_310 ⟨r1c (show 36 + 1 ≤ 2000 by omega), r1s (show 67476 + 6 ≤ 100000 by omega)⟩) hS (fun q _ h => h) (fun q h => h) (fun r9 u9 t9 H locs ht9 _ hu9 hB1 _ _ hS => ?_)
  have hG : g_P D (lay C g0 A ln EX) A s.heap.size H := by rw [← ht9]; exact hB1
  have hmv : mo E C h0 A (lay C g0 A ln EX) = lay C g0 A ln EX := mo_fix (fun c hc9 => by obtain ⟨a, i, j⟩ := c; exact (lay_ex (show 50 ≤ a by have : 51 ≤ a := hc9; omega)).trans (hmo _ hc9)) (fun _ _ => rfl)
  have hG : g_P D (mo E C h0 A (lay C g0 A ln EX)) A s.heap.size H := by rw [hmv]; exact hG
  refine W.widen (k := 37) (n := 67482) (by omega) (by omega) ?_
  refine lv_to (y := nI 1) (hu9) ?_
  refine lv_istore (lv' := [(5, .int (nI 1)), (4, .int (nI 0)), (3, .ref (A (50, 0, 0))), (2, .ref (A (60, 0, 0))), (1, .ref (A (0, 0, 0))), (0, .ref b)]) hx hb dL_law_313 hl (by decide) rfl (fun ls hl => ?_)
  refine lv_aload_n hx hb dL_law_315 rfl (lv_at hl 3 rfl) ?_
  refine lv_aload_n hx hb dL_law_316 rfl (lv_at hl 5 rfl) ?_
  refine lv_iload hx hb dL_law_317 (lv_at hl 1 rfl) ?_
  refine lv_iconst (v := nI 1) hx hb dL_law_319 (by decide) ?_
  refine lv_iadd hx hb dL_law_320 ?_
  refine lv_to (y := nI (0 + 1)) (nI_add 0 1) ?_
  refine va_sld hx hb hX hbl (Nat.not_le.mpr hbl) hS (vp_in_nI (show 0 + 1 < L by omega) (by omega)) dL_law_321 ?_
  refine lv_aload_n hx hb dL_law_322 rfl (lv_at hl 5 rfl) ?_
  refine lv_iload hx hb dL_law_323 (lv_at hl 1 rfl) ?_
  refine lv_iconst (v := nI 2) hx hb dL_law_325 (by decide) ?_
  refine lv_iadd hx hb dL_law_326 ?_
  refine lv_to (y := nI (0 + 2)) (nI_add 0 2) ?_
  refine va_sld hx hb hX hbl (Nat.not_le.mpr hbl) hS (vp_in_nI (show 0 + 2 < L by omega) (by omega)) dL_law_327 ?_
  refine va_calli (va_runV (As := [.int (xs (nI (0 + 1)).toNatClampNeg), .int (xs (nI (0 + 2)).toNatClampNeg)]) (rest := []) ⟨hx, hb, hml, hown, hts⟩ (m_setCapacity l ((hz0 _ _).trans nI_0.symm) ((hz0 _ _).trans nI_0.symm)) (cwV 2 hts gL_law_X6_setCapacity rfl rfl rfl (by decide +kernel) ⟨Nat.le_of_ble_eq_true rfl, Nat.le_of_ble_eq_true rfl⟩) (m_preV hF hK2 hCA hG hS (mo_obj) rfl) rfl rfl hl.1 rfl (lv_room (Nat.le_of_ble_eq_true rfl)) dL_law_328 ⟨r1c (show 37 + 0 ≤ 2000 by omega), r1s (show 67482 + 0 ≤ 100000 by omega)⟩) hS (fun q _ h => h) (fun q h => h) (fun r_51 g_53 t9 H locs ht9 _ h_52 hB1 _ _ hS => ?_)
  have hG : g_P D (mo E C g_53 A (lay C g0 A ln EX)) A s.heap.size H := by rw [← ht9]; exact hB1
  refine lv_istore (lv' := [(6, .int r_51), (5, .int (nI 1)), (4, .int (nI 0)), (3, .ref (A (50, 0, 0))), (2, .ref (A (60, 0, 0))), (1, .ref (A (0, 0, 0))), (0, .ref b)]) hx hb dL_law_331 hl (by decide) rfl (fun ls hl => ?_)
  refine lv_aload_n hx hb dL_law_333 rfl (lv_at hl 4 rfl) ?_
  refine vp_callSi (W.runV (As := []) (rest := []) ⟨hx, hb, hml, hown, hts⟩ (m_thrown l ) (cwV 0 hts gL_law_X6_thrown rfl rfl rfl (by decide +kernel) ⟨Nat.le_of_ble_eq_true rfl, Nat.le_of_ble_eq_true rfl⟩) (m_preV hF hK2 hCA hG hS (mo_obj) rfl) rfl rfl hl.1 rfl (lv_room (Nat.le_of_ble_eq_true rfl)) dL_law_334 ⟨r1c (show 37 + 0 ≤ 2000 by omega), r1s (show 67482 + 0 ≤ 100000 by omega)⟩) (fun r_54 h_55 => ?_)
  refine lv_to (y := nI 1) (h_55.trans h_52) ?_
  refine lv_iload hx hb dL_law_337 (lv_at hl 1 rfl) ?_
  refine lv_icmp_eq (tgt := 344) hx hb dL_law_339 (by decide) (fun _ => ?_) (fun c => absurd (rfl) c)
  refine lv_iload hx hb dL_law_344 (lv_at hl 1 rfl) ?_
  refine lv_if_ne (tgt := 361) hx hb dL_law_346 (by decide) (fun _ => ?_) (fun c => absurd c (by decide))
  refine lv_goto (tgt := 1610) hx hb dL_law_361 (by decide) ?_
  refine W.widen (k := 2000) (n := 100000) (by omega) (by omega) ?_
  exact cont _ _ hS ls (lv_sub hl [2, 6] rfl)

set_option maxHeartbeats 4000000 in
set_option maxRecDepth 100000 in
theorem k_nodes {p : Program} {e : Env} {s : State} {m : MethodId} {below : List Frame} {meth : Method} {c : Code} {Q : State → Prop} (l : Launch) (hst : l.stackTraces = false) {D : va_G} {C : g_C} {E : m_C} {b L : Nat} {xs : Nat → Int32} (hL : L ≤ 5) (hx : p.tables.exec = Jvm.exec) (hb : c.code = cL_law) (hml : c.maxLocals = 7) (hown : s.vm.findClass RL = some m.cls) (hts : ∀ w ∈ wsL_law, w.before #[Value.ref b] s = true) (hX : va_X b L xs s s.heap) (hbl : b < s.heap.size) (hF : g_F D C s.heap.size s) (hK2 : va_K D vwCl (m_T E) s) (hCA : va_Nw (.castable IAE IAE) s) {A ln : g_k → Nat} {EX EX1 : g_k → Option va_E} {g0 h0 : g_k → Nat → Int32} (hg0 : ∀ c j, g0 c j = 0) (hl0 : ∀ c, ln c = 0) (hz0 : ∀ c j, h0 c j = 0) {f : Nat → Int64} (hex : EX (50, 0, 0) = some (.inl (E.2, 1, .inr (.inl f)))) (hmo : ∀ c : g_k, 51 ≤ c.1 → EX c = mo E C h0 A EX1 c) {H : Heap} {locs : List Loc} (hG : g_P D (lay C g0 A ln EX) A s.heap.size H) (hS : va_S (g_A s.heap.size) s.heap H locs) (hL5 : 5 ≤ L) (cont : ∀ (H : Heap) (locs : List Loc), va_S (g_A s.heap.size) s.heap H locs → ∀ ls, lv_has ls 7 [(4, .int (nI 0)), (0, .ref b)] → W p l e room_1 s m #[Value.ref b] below meth c H locs 2000 100000 Q (F0 m 1610 ls [])) {ls : Array Slot} (hl : lv_has ls 7 [(4, .int (nI 0)), (3, .ref (A (50, 0, 0))), (2, .ref (A (60, 0, 0))), (1, .ref (A (0, 0, 0))), (0, .ref b)]) : W p l e room_1 s m #[Value.ref b] below meth c H locs 36 67476 Q (F0 m 364 ls []) := by
  have hK := hF.1
  have hN := hF.2.1
  have hB : s.heap.size ≤ s.heap.size := Nat.le_refl _
  refine lv_aload_n hx hb dL_law_364 rfl (lv_at hl 3 rfl) ?_
  refine vp_callSi (W.runV (As := []) (rest := []) ⟨hx, hb, hml, hown, hts⟩ (c_nodes l (n := 0) (by decide) ((hg0 _ _).trans nI_0.symm)) (cwV 0 hts gL_law_X5_nodes rfl rfl rfl (by decide +kernel) ⟨Nat.le_of_ble_eq_true rfl, Nat.le_of_ble_eq_true rfl⟩) (g_preV hF hG hS (lay_main) rfl) rfl rfl hl.1 rfl (lv_room (Nat.le_of_ble_eq_true rfl)) dL_law_365 ⟨r1c (show 36 + 0 ≤ 2000 by omega), r1s (show 67476 + 0 ≤ 100000 by omega)⟩) (fun r_1 h_2 => ?_)
  refine lv_to (y := nI 0) (h_2) ?_
  have hmv : mo E C h0 A (lay C g0 A ln EX) = lay C g0 A ln EX := mo_fix (fun c hc9 => by obtain ⟨a, i, j⟩ := c; exact (lay_ex (show 50 ≤ a by have : 51 ≤ a := hc9; omega)).trans (hmo _ hc9)) (fun _ _ => rfl)
  have hG : g_P D (mo E C h0 A (lay C g0 A ln EX)) A s.heap.size H := by rw [hmv]; exact hG
  refine lv_aload_n hx hb dL_law_368 rfl (lv_at hl 2 rfl) ?_
  refine va_calli (va_runV (As := []) (rest := [.int (nI 0)]) ⟨hx, hb, hml, hown, hts⟩ (m_nodes l (v := nI 0) ((hz0 _ _).trans nI_0.symm)) (cwV 0 hts gL_law_X6_nodes rfl rfl rfl (by decide +kernel) ⟨Nat.le_of_ble_eq_true rfl, Nat.le_of_ble_eq_true rfl⟩) (m_preV hF hK2 hCA hG hS (mo_obj) rfl) rfl rfl hl.1 rfl (lv_room (Nat.le_of_ble_eq_true rfl)) dL_law_369 ⟨r1c (show 36 + 0 ≤ 2000 by omega), r1s (show 67476 + 0 ≤ 100000 by omega)⟩) hS (fun q _ h => h) (fun q h => h) (fun r_53 g_55 t9 H locs ht9 _ h_54 hB1 _ _ hS => ?_)
  have hG : g_P D (mo E C g_55 A (lay C g0 A ln EX)) A s.heap.size H := by rw [← ht9]; exact hB1
  refine lv_to (y := nI 0) (h_54) ?_
  refine lv_icmp_eq (tgt := 1610) hx hb dL_law_372 (by decide) (fun _ => ?_) (fun c => absurd (rfl) c)
  refine W.widen (k := 2000) (n := 100000) (by omega) (by omega) ?_
  exact cont _ _ hS ls (lv_sub hl [0, 4] rfl)

set_option maxHeartbeats 4000000 in
set_option maxRecDepth 100000 in
theorem k_placeAt {p : Program} {e : Env} {s : State} {m : MethodId} {below : List Frame} {meth : Method} {c : Code} {Q : State → Prop} (l : Launch) (hst : l.stackTraces = false) {D : va_G} {C : g_C} {E : m_C} {b L : Nat} {xs : Nat → Int32} (hL : L ≤ 5) (hx : p.tables.exec = Jvm.exec) (hb : c.code = cL_law) (hml : c.maxLocals = 7) (hown : s.vm.findClass RL = some m.cls) (hts : ∀ w ∈ wsL_law, w.before #[Value.ref b] s = true) (hX : va_X b L xs s s.heap) (hbl : b < s.heap.size) (hF : g_F D C s.heap.size s) (hK2 : va_K D vwCl (m_T E) s) (hCA : va_Nw (.castable IAE IAE) s) {A ln : g_k → Nat} {EX EX1 : g_k → Option va_E} {g0 h0 : g_k → Nat → Int32} (hg0 : ∀ c j, g0 c j = 0) (hl0 : ∀ c, ln c = 0) (hz0 : ∀ c j, h0 c j = 0) {f : Nat → Int64} (hex : EX (50, 0, 0) = some (.inl (E.2, 1, .inr (.inl f)))) (hmo : ∀ c : g_k, 51 ≤ c.1 → EX c = mo E C h0 A EX1 c) {H : Heap} {locs : List Loc} (hG : g_P D (lay C g0 A ln EX) A s.heap.size H) (hS : va_S (g_A s.heap.size) s.heap H locs) (hL5 : 5 ≤ L) (cont : ∀ (H : Heap) (locs : List Loc), va_S (g_A s.heap.size) s.heap H locs → ∀ ls, lv_has ls 7 [(4, .int (nI 0)), (0, .ref b)] → W p l e room_1 s m #[Value.ref b] below meth c H locs 2000 100000 Q (F0 m 1610 ls [])) {ls : Array Slot} (hl : lv_has ls 7 [(4, .int (nI 0)), (3, .ref (A (50, 0, 0))), (2, .ref (A (60, 0, 0))), (1, .ref (A (0, 0, 0))), (0, .ref b)]) : W p l e room_1 s m #[Value.ref b] below meth c H locs 36 67476 Q (F0 m 377 ls []) := by
  have hK := hF.1
  have hN := hF.2.1
  have hB : s.heap.size ≤ s.heap.size := Nat.le_refl _
  refine lv_aload_n hx hb dL_law_377 rfl (lv_at hl 3 rfl) ?_
  refine lv_aload_n hx hb dL_law_378 rfl (lv_at hl 4 rfl) ?_
  refine lv_iload hx hb dL_law_379 (lv_at hl 0 rfl) ?_
  refine lv_iconst (v := nI 1) hx hb dL_law_381 (by decide) ?_
  refine lv_iadd hx hb dL_law_382 ?_
  refine lv_to (y := nI (0 + 1)) (nI_add 0 1) ?_
  refine va_sld hx hb hX hbl (Nat.not_le.mpr hbl) hS (vp_in_nI (show 0 + 1 < L by omega) (by omega)) dL_law_383 ?_
  refine lv_aload_n hx hb dL_law_384 rfl (lv_at hl 4 rfl) ?_
  refine lv_iload hx hb dL_law_385 (lv_at hl 0 rfl) ?_
  refine lv_iconst (v := nI 2) hx hb dL_law_387 (by decide) ?_
  refine lv_iadd hx hb dL_law_388 ?_
  refine lv_to (y := nI (0 + 2)) (nI_add 0 2) ?_
  refine va_sld hx hb hX hbl (Nat.not_le.mpr hbl) hS (vp_in_nI (show 0 + 2 < L by omega) (by omega)) dL_law_389 ?_
  refine lv_aload_n hx hb dL_law_390 rfl (lv_at hl 1 rfl) ?_
  refine va_calli (vx_runSW (As := [.ref (A (0, 0, 0)), .int (xs (nI (0 + 1)).toNatClampNeg), .int (xs (nI (0 + 2)).toNatClampNeg), .ref (A (50, 0, 0))]) (rest := []) ⟨hx, hb, hml, hown, hts⟩ (p_placeAt l hst (E := E) ((hg0 _ _).trans nI_0.symm)) (vx_cwSW 4 hts gL_law_L_placeAt rfl rfl rfl (by decide +kernel) ⟨Nat.le_of_ble_eq_true rfl, Nat.le_of_ble_eq_true rfl⟩) (g_preS hF hG hS) rfl rfl hl.1 rfl (lv_room (Nat.le_of_ble_eq_true rfl)) dL_law_391 ⟨r1c (show 36 + 1 ≤ 2000 by omega), r1s (show 67476 + 6 ≤ 100000 by omega)⟩) hS (fun q _ h => h) (fun q h => h) (fun r9 u9 t9 H locs ht9 _ hu9 hB1 _ _ hS => ?_)
  have hG : g_P D (lay C g0 A ln EX) A s.heap.size H := by rw [← ht9]; exact hB1
  have hmv : mo E C h0 A (lay C g0 A ln EX) = lay C g0 A ln EX := mo_fix (fun c hc9 => by obtain ⟨a, i, j⟩ := c; exact (lay_ex (show 50 ≤ a by have : 51 ≤ a := hc9; omega)).trans (hmo _ hc9)) (fun _ _ => rfl)
  have hG : g_P D (mo E C h0 A (lay C g0 A ln EX)) A s.heap.size H := by rw [hmv]; exact hG
  refine W.widen (k := 37) (n := 67482) (by omega) (by omega) ?_
  refine lv_to (y := nI 1) (hu9) ?_
  refine lv_istore (lv' := [(5, .int (nI 1)), (4, .int (nI 0)), (3, .ref (A (50, 0, 0))), (2, .ref (A (60, 0, 0))), (1, .ref (A (0, 0, 0))), (0, .ref b)]) hx hb dL_law_394 hl (by decide) rfl (fun ls hl => ?_)
  refine lv_aload_n hx hb dL_law_396 rfl (lv_at hl 3 rfl) ?_
  refine lv_aload_n hx hb dL_law_397 rfl (lv_at hl 5 rfl) ?_
  refine lv_iload hx hb dL_law_398 (lv_at hl 1 rfl) ?_
  refine lv_iconst (v := nI 1) hx hb dL_law_400 (by decide) ?_
  refine lv_iadd hx hb dL_law_401 ?_
  refine lv_to (y := nI (0 + 1)) (nI_add 0 1) ?_
  refine va_sld hx hb hX hbl (Nat.not_le.mpr hbl) hS (vp_in_nI (show 0 + 1 < L by omega) (by omega)) dL_law_402 ?_
  refine lv_aload_n hx hb dL_law_403 rfl (lv_at hl 5 rfl) ?_
  refine lv_iload hx hb dL_law_404 (lv_at hl 1 rfl) ?_
  refine lv_iconst (v := nI 2) hx hb dL_law_406 (by decide) ?_
  refine lv_iadd hx hb dL_law_407 ?_
  refine lv_to (y := nI (0 + 2)) (nI_add 0 2) ?_
  refine va_sld hx hb hX hbl (Nat.not_le.mpr hbl) hS (vp_in_nI (show 0 + 2 < L by omega) (by omega)) dL_law_408 ?_
  refine va_calli (va_runV (As := [.int (xs (nI (0 + 1)).toNatClampNeg), .int (xs (nI (0 + 2)).toNatClampNeg)]) (rest := []) ⟨hx, hb, hml, hown, hts⟩ (m_placeAt l ((hz0 _ _).trans nI_0.symm) ((hz0 _ _).trans nI_0.symm)) (cwV 2 hts gL_law_X6_placeAt rfl rfl rfl (by decide +kernel) ⟨Nat.le_of_ble_eq_true rfl, Nat.le_of_ble_eq_true rfl⟩) (m_preV hF hK2 hCA hG hS (mo_obj) rfl) rfl rfl hl.1 rfl (lv_room (Nat.le_of_ble_eq_true rfl)) dL_law_409 ⟨r1c (show 37 + 0 ≤ 2000 by omega), r1s (show 67482 + 0 ≤ 100000 by omega)⟩) hS (fun q _ h => h) (fun q h => h) (fun r_51 g_53 t9 H locs ht9 _ h_52 hB1 _ _ hS => ?_)
  have hG : g_P D (mo E C g_53 A (lay C g0 A ln EX)) A s.heap.size H := by rw [← ht9]; exact hB1
  refine lv_istore (lv' := [(6, .int r_51), (5, .int (nI 1)), (4, .int (nI 0)), (3, .ref (A (50, 0, 0))), (2, .ref (A (60, 0, 0))), (1, .ref (A (0, 0, 0))), (0, .ref b)]) hx hb dL_law_412 hl (by decide) rfl (fun ls hl => ?_)
  refine lv_aload_n hx hb dL_law_414 rfl (lv_at hl 4 rfl) ?_
  refine vp_callSi (W.runV (As := []) (rest := []) ⟨hx, hb, hml, hown, hts⟩ (m_thrown l ) (cwV 0 hts gL_law_X6_thrown rfl rfl rfl (by decide +kernel) ⟨Nat.le_of_ble_eq_true rfl, Nat.le_of_ble_eq_true rfl⟩) (m_preV hF hK2 hCA hG hS (mo_obj) rfl) rfl rfl hl.1 rfl (lv_room (Nat.le_of_ble_eq_true rfl)) dL_law_415 ⟨r1c (show 37 + 0 ≤ 2000 by omega), r1s (show 67482 + 0 ≤ 100000 by omega)⟩) (fun r_54 h_55 => ?_)
  refine lv_to (y := nI 1) (h_55.trans h_52) ?_
  refine lv_iload hx hb dL_law_418 (lv_at hl 1 rfl) ?_
  refine lv_icmp_eq (tgt := 425) hx hb dL_law_420 (by decide) (fun _ => ?_) (fun c => absurd (rfl) c)
  refine lv_iload hx hb dL_law_425 (lv_at hl 1 rfl) ?_
  refine lv_if_ne (tgt := 442) hx hb dL_law_427 (by decide) (fun _ => ?_) (fun c => absurd c (by decide))
  refine lv_goto (tgt := 1610) hx hb dL_law_442 (by decide) ?_
  refine W.widen (k := 2000) (n := 100000) (by omega) (by omega) ?_
  exact cont _ _ hS ls (lv_sub hl [2, 6] rfl)

set_option maxHeartbeats 4000000 in
set_option maxRecDepth 100000 in
theorem k_see {p : Program} {e : Env} {s : State} {m : MethodId} {below : List Frame} {meth : Method} {c : Code} {Q : State → Prop} (l : Launch) (hst : l.stackTraces = false) {D : va_G} {C : g_C} {E : m_C} {b L : Nat} {xs : Nat → Int32} (hL : L ≤ 5) (hx : p.tables.exec = Jvm.exec) (hb : c.code = cL_law) (hml : c.maxLocals = 7) (hown : s.vm.findClass RL = some m.cls) (hts : ∀ w ∈ wsL_law, w.before #[Value.ref b] s = true) (hX : va_X b L xs s s.heap) (hbl : b < s.heap.size) (hF : g_F D C s.heap.size s) (hK2 : va_K D vwCl (m_T E) s) (hCA : va_Nw (.castable IAE IAE) s) {A ln : g_k → Nat} {EX EX1 : g_k → Option va_E} {g0 h0 : g_k → Nat → Int32} (hg0 : ∀ c j, g0 c j = 0) (hl0 : ∀ c, ln c = 0) (hz0 : ∀ c j, h0 c j = 0) {f : Nat → Int64} (hex : EX (50, 0, 0) = some (.inl (E.2, 1, .inr (.inl f)))) (hmo : ∀ c : g_k, 51 ≤ c.1 → EX c = mo E C h0 A EX1 c) {H : Heap} {locs : List Loc} (hG : g_P D (lay C g0 A ln EX) A s.heap.size H) (hS : va_S (g_A s.heap.size) s.heap H locs) (hL5 : 5 ≤ L) (cont : ∀ (H : Heap) (locs : List Loc), va_S (g_A s.heap.size) s.heap H locs → ∀ ls, lv_has ls 7 [(4, .int (nI 0)), (0, .ref b)] → W p l e room_1 s m #[Value.ref b] below meth c H locs 2000 100000 Q (F0 m 1610 ls [])) {ls : Array Slot} (hl : lv_has ls 7 [(4, .int (nI 0)), (3, .ref (A (50, 0, 0))), (2, .ref (A (60, 0, 0))), (1, .ref (A (0, 0, 0))), (0, .ref b)]) : W p l e room_1 s m #[Value.ref b] below meth c H locs 36 67476 Q (F0 m 445 ls []) := by
  have hK := hF.1
  have hN := hF.2.1
  have hB : s.heap.size ≤ s.heap.size := Nat.le_refl _
  refine lv_aload_n hx hb dL_law_445 rfl (lv_at hl 3 rfl) ?_
  refine lv_aload_n hx hb dL_law_446 rfl (lv_at hl 4 rfl) ?_
  refine lv_iload hx hb dL_law_447 (lv_at hl 0 rfl) ?_
  refine lv_iconst (v := nI 1) hx hb dL_law_449 (by decide) ?_
  refine lv_iadd hx hb dL_law_450 ?_
  refine lv_to (y := nI (0 + 1)) (nI_add 0 1) ?_
  refine va_sld hx hb hX hbl (Nat.not_le.mpr hbl) hS (vp_in_nI (show 0 + 1 < L by omega) (by omega)) dL_law_451 ?_
  refine lv_aload_n hx hb dL_law_452 rfl (lv_at hl 4 rfl) ?_
  refine lv_iload hx hb dL_law_453 (lv_at hl 0 rfl) ?_
  refine lv_iconst (v := nI 2) hx hb dL_law_455 (by decide) ?_
  refine lv_iadd hx hb dL_law_456 ?_
  refine lv_to (y := nI (0 + 2)) (nI_add 0 2) ?_
  refine va_sld hx hb hX hbl (Nat.not_le.mpr hbl) hS (vp_in_nI (show 0 + 2 < L by omega) (by omega)) dL_law_457 ?_
  refine lv_aload_n hx hb dL_law_458 rfl (lv_at hl 4 rfl) ?_
  refine lv_iload hx hb dL_law_459 (lv_at hl 0 rfl) ?_
  refine lv_iconst (v := nI 3) hx hb dL_law_461 (by decide) ?_
  refine lv_iadd hx hb dL_law_462 ?_
  refine lv_to (y := nI (0 + 3)) (nI_add 0 3) ?_
  refine va_sld hx hb hX hbl (Nat.not_le.mpr hbl) hS (vp_in_nI (show 0 + 3 < L by omega) (by omega)) dL_law_463 ?_
  refine lv_aload_n hx hb dL_law_464 rfl (lv_at hl 1 rfl) ?_
  refine va_calli (vx_runSW (As := [.ref (A (0, 0, 0)), .int (xs (nI (0 + 1)).toNatClampNeg), .int (xs (nI (0 + 2)).toNatClampNeg), .int (xs (nI (0 + 3)).toNatClampNeg), .ref (A (50, 0, 0))]) (rest := []) ⟨hx, hb, hml, hown, hts⟩ (p_see l hst (E := E) ((hg0 _ _).trans nI_0.symm)) (vx_cwSW 5 hts gL_law_L_see rfl rfl rfl (by decide +kernel) ⟨Nat.le_of_ble_eq_true rfl, Nat.le_of_ble_eq_true rfl⟩) (g_preS hF hG hS) rfl rfl hl.1 rfl (lv_room (Nat.le_of_ble_eq_true rfl)) dL_law_465 ⟨r1c (show 36 + 1 ≤ 2000 by omega), r1s (show 67476 + 6 ≤ 100000 by omega)⟩) hS (fun q _ h => h) (fun q h => h) (fun r9 u9 t9 H locs ht9 _ hu9 hB1 _ _ hS => ?_)
  have hG : g_P D (lay C g0 A ln EX) A s.heap.size H := by rw [← ht9]; exact hB1
  have hmv : mo E C h0 A (lay C g0 A ln EX) = lay C g0 A ln EX := mo_fix (fun c hc9 => by obtain ⟨a, i, j⟩ := c; exact (lay_ex (show 50 ≤ a by have : 51 ≤ a := hc9; omega)).trans (hmo _ hc9)) (fun _ _ => rfl)
  have hG : g_P D (mo E C h0 A (lay C g0 A ln EX)) A s.heap.size H := by rw [hmv]; exact hG
  refine W.widen (k := 37) (n := 67482) (by omega) (by omega) ?_
  refine lv_to (y := nI 1) (hu9) ?_
  refine lv_istore (lv' := [(5, .int (nI 1)), (4, .int (nI 0)), (3, .ref (A (50, 0, 0))), (2, .ref (A (60, 0, 0))), (1, .ref (A (0, 0, 0))), (0, .ref b)]) hx hb dL_law_468 hl (by decide) rfl (fun ls hl => ?_)
  refine lv_aload_n hx hb dL_law_470 rfl (lv_at hl 3 rfl) ?_
  refine lv_aload_n hx hb dL_law_471 rfl (lv_at hl 5 rfl) ?_
  refine lv_iload hx hb dL_law_472 (lv_at hl 1 rfl) ?_
  refine lv_iconst (v := nI 1) hx hb dL_law_474 (by decide) ?_
  refine lv_iadd hx hb dL_law_475 ?_
  refine lv_to (y := nI (0 + 1)) (nI_add 0 1) ?_
  refine va_sld hx hb hX hbl (Nat.not_le.mpr hbl) hS (vp_in_nI (show 0 + 1 < L by omega) (by omega)) dL_law_476 ?_
  refine lv_aload_n hx hb dL_law_477 rfl (lv_at hl 5 rfl) ?_
  refine lv_iload hx hb dL_law_478 (lv_at hl 1 rfl) ?_
  refine lv_iconst (v := nI 2) hx hb dL_law_480 (by decide) ?_
  refine lv_iadd hx hb dL_law_481 ?_
  refine lv_to (y := nI (0 + 2)) (nI_add 0 2) ?_
  refine va_sld hx hb hX hbl (Nat.not_le.mpr hbl) hS (vp_in_nI (show 0 + 2 < L by omega) (by omega)) dL_law_482 ?_
  refine lv_aload_n hx hb dL_law_483 rfl (lv_at hl 5 rfl) ?_
  refine lv_iload hx hb dL_law_484 (lv_at hl 1 rfl) ?_
  refine lv_iconst (v := nI 3) hx hb dL_law_486 (by decide) ?_
  refine lv_iadd hx hb dL_law_487 ?_
  refine lv_to (y := nI (0 + 3)) (nI_add 0 3) ?_
  refine va_sld hx hb hX hbl (Nat.not_le.mpr hbl) hS (vp_in_nI (show 0 + 3 < L by omega) (by omega)) dL_law_488 ?_
  refine va_calli (va_runV (As := [.int (xs (nI (0 + 1)).toNatClampNeg), .int (xs (nI (0 + 2)).toNatClampNeg), .int (xs (nI (0 + 3)).toNatClampNeg)]) (rest := []) ⟨hx, hb, hml, hown, hts⟩ (m_see l ((hz0 _ _).trans nI_0.symm) ((hz0 _ _).trans nI_0.symm)) (cwV 3 hts gL_law_X6_see rfl rfl rfl (by decide +kernel) ⟨Nat.le_of_ble_eq_true rfl, Nat.le_of_ble_eq_true rfl⟩) (m_preV hF hK2 hCA hG hS (mo_obj) rfl) rfl rfl hl.1 rfl (lv_room (Nat.le_of_ble_eq_true rfl)) dL_law_489 ⟨r1c (show 37 + 0 ≤ 2000 by omega), r1s (show 67482 + 0 ≤ 100000 by omega)⟩) hS (fun q _ h => h) (fun q h => h) (fun r_51 g_53 t9 H locs ht9 _ h_52 hB1 _ _ hS => ?_)
  have hG : g_P D (mo E C g_53 A (lay C g0 A ln EX)) A s.heap.size H := by rw [← ht9]; exact hB1
  refine lv_istore (lv' := [(6, .int r_51), (5, .int (nI 1)), (4, .int (nI 0)), (3, .ref (A (50, 0, 0))), (2, .ref (A (60, 0, 0))), (1, .ref (A (0, 0, 0))), (0, .ref b)]) hx hb dL_law_492 hl (by decide) rfl (fun ls hl => ?_)
  refine lv_aload_n hx hb dL_law_494 rfl (lv_at hl 4 rfl) ?_
  refine vp_callSi (W.runV (As := []) (rest := []) ⟨hx, hb, hml, hown, hts⟩ (m_thrown l ) (cwV 0 hts gL_law_X6_thrown rfl rfl rfl (by decide +kernel) ⟨Nat.le_of_ble_eq_true rfl, Nat.le_of_ble_eq_true rfl⟩) (m_preV hF hK2 hCA hG hS (mo_obj) rfl) rfl rfl hl.1 rfl (lv_room (Nat.le_of_ble_eq_true rfl)) dL_law_495 ⟨r1c (show 37 + 0 ≤ 2000 by omega), r1s (show 67482 + 0 ≤ 100000 by omega)⟩) (fun r_54 h_55 => ?_)
  refine lv_to (y := nI 1) (h_55.trans h_52) ?_
  refine lv_iload hx hb dL_law_498 (lv_at hl 1 rfl) ?_
  refine lv_icmp_eq (tgt := 505) hx hb dL_law_500 (by decide) (fun _ => ?_) (fun c => absurd (rfl) c)
  refine lv_iload hx hb dL_law_505 (lv_at hl 1 rfl) ?_
  refine lv_if_ne (tgt := 529) hx hb dL_law_507 (by decide) (fun _ => ?_) (fun c => absurd c (by decide))
  refine lv_goto (tgt := 1610) hx hb dL_law_529 (by decide) ?_
  refine W.widen (k := 2000) (n := 100000) (by omega) (by omega) ?_
  exact cont _ _ hS ls (lv_sub hl [2, 6] rfl)

set_option maxHeartbeats 4000000 in
set_option maxRecDepth 100000 in
theorem k_nextContact {p : Program} {e : Env} {s : State} {m : MethodId} {below : List Frame} {meth : Method} {c : Code} {Q : State → Prop} (l : Launch) (hst : l.stackTraces = false) {D : va_G} {C : g_C} {E : m_C} {b L : Nat} {xs : Nat → Int32} (hL : L ≤ 5) (hx : p.tables.exec = Jvm.exec) (hb : c.code = cL_law) (hml : c.maxLocals = 7) (hown : s.vm.findClass RL = some m.cls) (hts : ∀ w ∈ wsL_law, w.before #[Value.ref b] s = true) (hX : va_X b L xs s s.heap) (hbl : b < s.heap.size) (hF : g_F D C s.heap.size s) (hK2 : va_K D vwCl (m_T E) s) (hCA : va_Nw (.castable IAE IAE) s) {A ln : g_k → Nat} {EX EX1 : g_k → Option va_E} {g0 h0 : g_k → Nat → Int32} (hg0 : ∀ c j, g0 c j = 0) (hl0 : ∀ c, ln c = 0) (hz0 : ∀ c j, h0 c j = 0) {f : Nat → Int64} (hex : EX (50, 0, 0) = some (.inl (E.2, 1, .inr (.inl f)))) (hmo : ∀ c : g_k, 51 ≤ c.1 → EX c = mo E C h0 A EX1 c) {H : Heap} {locs : List Loc} (hG : g_P D (lay C g0 A ln EX) A s.heap.size H) (hS : va_S (g_A s.heap.size) s.heap H locs) (hL5 : 5 ≤ L) (cont : ∀ (H : Heap) (locs : List Loc), va_S (g_A s.heap.size) s.heap H locs → ∀ ls, lv_has ls 7 [(4, .int (nI 0)), (0, .ref b)] → W p l e room_1 s m #[Value.ref b] below meth c H locs 2000 100000 Q (F0 m 1610 ls [])) {ls : Array Slot} (hl : lv_has ls 7 [(4, .int (nI 0)), (3, .ref (A (50, 0, 0))), (2, .ref (A (60, 0, 0))), (1, .ref (A (0, 0, 0))), (0, .ref b)]) : W p l e room_1 s m #[Value.ref b] below meth c H locs 36 67476 Q (F0 m 532 ls []) := by
  have hK := hF.1
  have hN := hF.2.1
  have hB : s.heap.size ≤ s.heap.size := Nat.le_refl _
  refine lv_aload_n hx hb dL_law_532 rfl (lv_at hl 3 rfl) ?_
  refine lv_aload_n hx hb dL_law_533 rfl (lv_at hl 4 rfl) ?_
  refine lv_iload hx hb dL_law_534 (lv_at hl 0 rfl) ?_
  refine lv_iconst (v := nI 1) hx hb dL_law_536 (by decide) ?_
  refine lv_iadd hx hb dL_law_537 ?_
  refine lv_to (y := nI (0 + 1)) (nI_add 0 1) ?_
  refine va_sld hx hb hX hbl (Nat.not_le.mpr hbl) hS (vp_in_nI (show 0 + 1 < L by omega) (by omega)) dL_law_538 ?_
  refine lv_aload_n hx hb dL_law_539 rfl (lv_at hl 4 rfl) ?_
  refine lv_iload hx hb dL_law_540 (lv_at hl 0 rfl) ?_
  refine lv_iconst (v := nI 2) hx hb dL_law_542 (by decide) ?_
  refine lv_iadd hx hb dL_law_543 ?_
  refine lv_to (y := nI (0 + 2)) (nI_add 0 2) ?_
  refine va_sld hx hb hX hbl (Nat.not_le.mpr hbl) hS (vp_in_nI (show 0 + 2 < L by omega) (by omega)) dL_law_544 ?_
  refine lv_aload_n hx hb dL_law_545 rfl (lv_at hl 4 rfl) ?_
  refine lv_iload hx hb dL_law_546 (lv_at hl 0 rfl) ?_
  refine lv_iconst (v := nI 3) hx hb dL_law_548 (by decide) ?_
  refine lv_iadd hx hb dL_law_549 ?_
  refine lv_to (y := nI (0 + 3)) (nI_add 0 3) ?_
  refine va_sld hx hb hX hbl (Nat.not_le.mpr hbl) hS (vp_in_nI (show 0 + 3 < L by omega) (by omega)) dL_law_550 ?_
  refine lv_aload_n hx hb dL_law_551 rfl (lv_at hl 1 rfl) ?_
  refine va_calli (vx_runSW (As := [.ref (A (0, 0, 0)), .int (xs (nI (0 + 1)).toNatClampNeg), .int (xs (nI (0 + 2)).toNatClampNeg), .int (xs (nI (0 + 3)).toNatClampNeg), .ref (A (50, 0, 0))]) (rest := []) ⟨hx, hb, hml, hown, hts⟩ (p_nextContact l hst (E := E) ((hg0 _ _).trans nI_0.symm)) (vx_cwSW 5 hts gL_law_L_nextContact rfl rfl rfl (by decide +kernel) ⟨Nat.le_of_ble_eq_true rfl, Nat.le_of_ble_eq_true rfl⟩) (g_preS hF hG hS) rfl rfl hl.1 rfl (lv_room (Nat.le_of_ble_eq_true rfl)) dL_law_552 ⟨r1c (show 36 + 1 ≤ 2000 by omega), r1s (show 67476 + 6 ≤ 100000 by omega)⟩) hS (fun q _ h => h) (fun q h => h) (fun r9 u9 t9 H locs ht9 _ hu9 hB1 _ _ hS => ?_)
  have hG : g_P D (lay C g0 A ln EX) A s.heap.size H := by rw [← ht9]; exact hB1
  have hmv : mo E C h0 A (lay C g0 A ln EX) = lay C g0 A ln EX := mo_fix (fun c hc9 => by obtain ⟨a, i, j⟩ := c; exact (lay_ex (show 50 ≤ a by have : 51 ≤ a := hc9; omega)).trans (hmo _ hc9)) (fun _ _ => rfl)
  have hG : g_P D (mo E C h0 A (lay C g0 A ln EX)) A s.heap.size H := by rw [hmv]; exact hG
  refine W.widen (k := 37) (n := 67482) (by omega) (by omega) ?_
  refine lv_to (y := nI 1) (hu9) ?_
  refine lv_istore (lv' := [(5, .int (nI 1)), (4, .int (nI 0)), (3, .ref (A (50, 0, 0))), (2, .ref (A (60, 0, 0))), (1, .ref (A (0, 0, 0))), (0, .ref b)]) hx hb dL_law_555 hl (by decide) rfl (fun ls hl => ?_)
  refine lv_aload_n hx hb dL_law_557 rfl (lv_at hl 3 rfl) ?_
  refine lv_aload_n hx hb dL_law_558 rfl (lv_at hl 5 rfl) ?_
  refine lv_iload hx hb dL_law_559 (lv_at hl 1 rfl) ?_
  refine lv_iconst (v := nI 1) hx hb dL_law_561 (by decide) ?_
  refine lv_iadd hx hb dL_law_562 ?_
  refine lv_to (y := nI (0 + 1)) (nI_add 0 1) ?_
  refine va_sld hx hb hX hbl (Nat.not_le.mpr hbl) hS (vp_in_nI (show 0 + 1 < L by omega) (by omega)) dL_law_563 ?_
  refine lv_aload_n hx hb dL_law_564 rfl (lv_at hl 5 rfl) ?_
  refine lv_iload hx hb dL_law_565 (lv_at hl 1 rfl) ?_
  refine lv_iconst (v := nI 2) hx hb dL_law_567 (by decide) ?_
  refine lv_iadd hx hb dL_law_568 ?_
  refine lv_to (y := nI (0 + 2)) (nI_add 0 2) ?_
  refine va_sld hx hb hX hbl (Nat.not_le.mpr hbl) hS (vp_in_nI (show 0 + 2 < L by omega) (by omega)) dL_law_569 ?_
  refine lv_aload_n hx hb dL_law_570 rfl (lv_at hl 5 rfl) ?_
  refine lv_iload hx hb dL_law_571 (lv_at hl 1 rfl) ?_
  refine lv_iconst (v := nI 3) hx hb dL_law_573 (by decide) ?_
  refine lv_iadd hx hb dL_law_574 ?_
  refine lv_to (y := nI (0 + 3)) (nI_add 0 3) ?_
  refine va_sld hx hb hX hbl (Nat.not_le.mpr hbl) hS (vp_in_nI (show 0 + 3 < L by omega) (by omega)) dL_law_575 ?_
  refine va_calli (va_runV (As := [.int (xs (nI (0 + 1)).toNatClampNeg), .int (xs (nI (0 + 2)).toNatClampNeg), .int (xs (nI (0 + 3)).toNatClampNeg)]) (rest := []) ⟨hx, hb, hml, hown, hts⟩ (m_nextContact l ((hz0 _ _).trans nI_0.symm) ((hz0 _ _).trans nI_0.symm)) (cwV 3 hts gL_law_X6_nextContact rfl rfl rfl (by decide +kernel) ⟨Nat.le_of_ble_eq_true rfl, Nat.le_of_ble_eq_true rfl⟩) (m_preV hF hK2 hCA hG hS (mo_obj) rfl) rfl rfl hl.1 rfl (lv_room (Nat.le_of_ble_eq_true rfl)) dL_law_576 ⟨r1c (show 37 + 0 ≤ 2000 by omega), r1s (show 67482 + 0 ≤ 100000 by omega)⟩) hS (fun q _ h => h) (fun q h => h) (fun r_51 g_53 t9 H locs ht9 _ h_52 hB1 _ _ hS => ?_)
  have hG : g_P D (mo E C g_53 A (lay C g0 A ln EX)) A s.heap.size H := by rw [← ht9]; exact hB1
  refine lv_istore (lv' := [(6, .int r_51), (5, .int (nI 1)), (4, .int (nI 0)), (3, .ref (A (50, 0, 0))), (2, .ref (A (60, 0, 0))), (1, .ref (A (0, 0, 0))), (0, .ref b)]) hx hb dL_law_579 hl (by decide) rfl (fun ls hl => ?_)
  refine lv_aload_n hx hb dL_law_581 rfl (lv_at hl 4 rfl) ?_
  refine vp_callSi (W.runV (As := []) (rest := []) ⟨hx, hb, hml, hown, hts⟩ (m_thrown l ) (cwV 0 hts gL_law_X6_thrown rfl rfl rfl (by decide +kernel) ⟨Nat.le_of_ble_eq_true rfl, Nat.le_of_ble_eq_true rfl⟩) (m_preV hF hK2 hCA hG hS (mo_obj) rfl) rfl rfl hl.1 rfl (lv_room (Nat.le_of_ble_eq_true rfl)) dL_law_582 ⟨r1c (show 37 + 0 ≤ 2000 by omega), r1s (show 67482 + 0 ≤ 100000 by omega)⟩) (fun r_54 h_55 => ?_)
  refine lv_to (y := nI 1) (h_55.trans h_52) ?_
  refine lv_iload hx hb dL_law_585 (lv_at hl 1 rfl) ?_
  refine lv_icmp_eq (tgt := 592) hx hb dL_law_587 (by decide) (fun _ => ?_) (fun c => absurd (rfl) c)
  refine lv_iload hx hb dL_law_592 (lv_at hl 1 rfl) ?_
  refine lv_if_ne (tgt := 609) hx hb dL_law_594 (by decide) (fun _ => ?_) (fun c => absurd c (by decide))
  refine lv_goto (tgt := 1610) hx hb dL_law_609 (by decide) ?_
  refine W.widen (k := 2000) (n := 100000) (by omega) (by omega) ?_
  exact cont _ _ hS ls (lv_sub hl [2, 6] rfl)

set_option maxHeartbeats 4000000 in
set_option maxRecDepth 100000 in
theorem k_view {p : Program} {e : Env} {s : State} {m : MethodId} {below : List Frame} {meth : Method} {c : Code} {Q : State → Prop} (l : Launch) (hst : l.stackTraces = false) {D : va_G} {C : g_C} {E : m_C} {b L : Nat} {xs : Nat → Int32} (hL : L ≤ 5) (hx : p.tables.exec = Jvm.exec) (hb : c.code = cL_law) (hml : c.maxLocals = 7) (hown : s.vm.findClass RL = some m.cls) (hts : ∀ w ∈ wsL_law, w.before #[Value.ref b] s = true) (hX : va_X b L xs s s.heap) (hbl : b < s.heap.size) (hF : g_F D C s.heap.size s) (hK2 : va_K D vwCl (m_T E) s) (hCA : va_Nw (.castable IAE IAE) s) {A ln : g_k → Nat} {EX EX1 : g_k → Option va_E} {g0 h0 : g_k → Nat → Int32} (hg0 : ∀ c j, g0 c j = 0) (hl0 : ∀ c, ln c = 0) (hz0 : ∀ c j, h0 c j = 0) {f : Nat → Int64} (hex : EX (50, 0, 0) = some (.inl (E.2, 1, .inr (.inl f)))) (hmo : ∀ c : g_k, 51 ≤ c.1 → EX c = mo E C h0 A EX1 c) {H : Heap} {locs : List Loc} (hG : g_P D (lay C g0 A ln EX) A s.heap.size H) (hS : va_S (g_A s.heap.size) s.heap H locs) (hL5 : 5 ≤ L) (cont : ∀ (H : Heap) (locs : List Loc), va_S (g_A s.heap.size) s.heap H locs → ∀ ls, lv_has ls 7 [(4, .int (nI 0)), (0, .ref b)] → W p l e room_1 s m #[Value.ref b] below meth c H locs 2000 100000 Q (F0 m 1610 ls [])) {ls : Array Slot} (hl : lv_has ls 7 [(4, .int (nI 0)), (3, .ref (A (50, 0, 0))), (2, .ref (A (60, 0, 0))), (1, .ref (A (0, 0, 0))), (0, .ref b)]) : W p l e room_1 s m #[Value.ref b] below meth c H locs 36 67476 Q (F0 m 612 ls []) := by
  have hK := hF.1
  have hN := hF.2.1
  have hB : s.heap.size ≤ s.heap.size := Nat.le_refl _
  refine lv_aload_n hx hb dL_law_612 rfl (lv_at hl 3 rfl) ?_
  refine lv_aload_n hx hb dL_law_613 rfl (lv_at hl 4 rfl) ?_
  refine lv_iload hx hb dL_law_614 (lv_at hl 0 rfl) ?_
  refine lv_iconst (v := nI 1) hx hb dL_law_616 (by decide) ?_
  refine lv_iadd hx hb dL_law_617 ?_
  refine lv_to (y := nI (0 + 1)) (nI_add 0 1) ?_
  refine va_sld hx hb hX hbl (Nat.not_le.mpr hbl) hS (vp_in_nI (show 0 + 1 < L by omega) (by omega)) dL_law_618 ?_
  refine lv_aload_n hx hb dL_law_619 rfl (lv_at hl 4 rfl) ?_
  refine lv_iload hx hb dL_law_620 (lv_at hl 0 rfl) ?_
  refine lv_iconst (v := nI 2) hx hb dL_law_622 (by decide) ?_
  refine lv_iadd hx hb dL_law_623 ?_
  refine lv_to (y := nI (0 + 2)) (nI_add 0 2) ?_
  refine va_sld hx hb hX hbl (Nat.not_le.mpr hbl) hS (vp_in_nI (show 0 + 2 < L by omega) (by omega)) dL_law_624 ?_
  refine lv_aload_n hx hb dL_law_625 rfl (lv_at hl 4 rfl) ?_
  refine lv_iload hx hb dL_law_626 (lv_at hl 0 rfl) ?_
  refine lv_iconst (v := nI 3) hx hb dL_law_628 (by decide) ?_
  refine lv_iadd hx hb dL_law_629 ?_
  refine lv_to (y := nI (0 + 3)) (nI_add 0 3) ?_
  refine va_sld hx hb hX hbl (Nat.not_le.mpr hbl) hS (vp_in_nI (show 0 + 3 < L by omega) (by omega)) dL_law_630 ?_
  refine lv_aload_n hx hb dL_law_631 rfl (lv_at hl 1 rfl) ?_
  refine va_calli (vx_runSW (As := [.ref (A (0, 0, 0)), .int (xs (nI (0 + 1)).toNatClampNeg), .int (xs (nI (0 + 2)).toNatClampNeg), .int (xs (nI (0 + 3)).toNatClampNeg), .ref (A (50, 0, 0))]) (rest := []) ⟨hx, hb, hml, hown, hts⟩ (p_view l hst (E := E) ((hg0 _ _).trans nI_0.symm)) (vx_cwSW 5 hts gL_law_L_view rfl rfl rfl (by decide +kernel) ⟨Nat.le_of_ble_eq_true rfl, Nat.le_of_ble_eq_true rfl⟩) (g_preS hF hG hS) rfl rfl hl.1 rfl (lv_room (Nat.le_of_ble_eq_true rfl)) dL_law_632 ⟨r1c (show 36 + 1 ≤ 2000 by omega), r1s (show 67476 + 6 ≤ 100000 by omega)⟩) hS (fun q _ h => h) (fun q h => h) (fun r9 u9 t9 H locs ht9 _ hu9 hB1 _ _ hS => ?_)
  have hG : g_P D (lay C g0 A ln EX) A s.heap.size H := by rw [← ht9]; exact hB1
  have hmv : mo E C h0 A (lay C g0 A ln EX) = lay C g0 A ln EX := mo_fix (fun c hc9 => by obtain ⟨a, i, j⟩ := c; exact (lay_ex (show 50 ≤ a by have : 51 ≤ a := hc9; omega)).trans (hmo _ hc9)) (fun _ _ => rfl)
  have hG : g_P D (mo E C h0 A (lay C g0 A ln EX)) A s.heap.size H := by rw [hmv]; exact hG
  refine W.widen (k := 37) (n := 67482) (by omega) (by omega) ?_
  refine lv_to (y := nI 1) (hu9) ?_
  refine lv_istore (lv' := [(5, .int (nI 1)), (4, .int (nI 0)), (3, .ref (A (50, 0, 0))), (2, .ref (A (60, 0, 0))), (1, .ref (A (0, 0, 0))), (0, .ref b)]) hx hb dL_law_635 hl (by decide) rfl (fun ls hl => ?_)
  refine lv_aload_n hx hb dL_law_637 rfl (lv_at hl 3 rfl) ?_
  refine lv_aload_n hx hb dL_law_638 rfl (lv_at hl 5 rfl) ?_
  refine lv_iload hx hb dL_law_639 (lv_at hl 1 rfl) ?_
  refine lv_iconst (v := nI 1) hx hb dL_law_641 (by decide) ?_
  refine lv_iadd hx hb dL_law_642 ?_
  refine lv_to (y := nI (0 + 1)) (nI_add 0 1) ?_
  refine va_sld hx hb hX hbl (Nat.not_le.mpr hbl) hS (vp_in_nI (show 0 + 1 < L by omega) (by omega)) dL_law_643 ?_
  refine lv_aload_n hx hb dL_law_644 rfl (lv_at hl 5 rfl) ?_
  refine lv_iload hx hb dL_law_645 (lv_at hl 1 rfl) ?_
  refine lv_iconst (v := nI 2) hx hb dL_law_647 (by decide) ?_
  refine lv_iadd hx hb dL_law_648 ?_
  refine lv_to (y := nI (0 + 2)) (nI_add 0 2) ?_
  refine va_sld hx hb hX hbl (Nat.not_le.mpr hbl) hS (vp_in_nI (show 0 + 2 < L by omega) (by omega)) dL_law_649 ?_
  refine lv_aload_n hx hb dL_law_650 rfl (lv_at hl 5 rfl) ?_
  refine lv_iload hx hb dL_law_651 (lv_at hl 1 rfl) ?_
  refine lv_iconst (v := nI 3) hx hb dL_law_653 (by decide) ?_
  refine lv_iadd hx hb dL_law_654 ?_
  refine lv_to (y := nI (0 + 3)) (nI_add 0 3) ?_
  refine va_sld hx hb hX hbl (Nat.not_le.mpr hbl) hS (vp_in_nI (show 0 + 3 < L by omega) (by omega)) dL_law_655 ?_
  refine va_calli (va_runV (As := [.int (xs (nI (0 + 1)).toNatClampNeg), .int (xs (nI (0 + 2)).toNatClampNeg), .int (xs (nI (0 + 3)).toNatClampNeg)]) (rest := []) ⟨hx, hb, hml, hown, hts⟩ (m_view l ((hz0 _ _).trans nI_0.symm) ((hz0 _ _).trans nI_0.symm)) (cwV 3 hts gL_law_X6_view rfl rfl rfl (by decide +kernel) ⟨Nat.le_of_ble_eq_true rfl, Nat.le_of_ble_eq_true rfl⟩) (m_preV hF hK2 hCA hG hS (mo_obj) rfl) rfl rfl hl.1 rfl (lv_room (Nat.le_of_ble_eq_true rfl)) dL_law_656 ⟨r1c (show 37 + 0 ≤ 2000 by omega), r1s (show 67482 + 0 ≤ 100000 by omega)⟩) hS (fun q _ h => h) (fun q h => h) (fun r_51 g_53 t9 H locs ht9 _ h_52 hB1 _ _ hS => ?_)
  have hG : g_P D (mo E C g_53 A (lay C g0 A ln EX)) A s.heap.size H := by rw [← ht9]; exact hB1
  refine lv_istore (lv' := [(6, .int r_51), (5, .int (nI 1)), (4, .int (nI 0)), (3, .ref (A (50, 0, 0))), (2, .ref (A (60, 0, 0))), (1, .ref (A (0, 0, 0))), (0, .ref b)]) hx hb dL_law_659 hl (by decide) rfl (fun ls hl => ?_)
  refine lv_aload_n hx hb dL_law_661 rfl (lv_at hl 4 rfl) ?_
  refine vp_callSi (W.runV (As := []) (rest := []) ⟨hx, hb, hml, hown, hts⟩ (m_thrown l ) (cwV 0 hts gL_law_X6_thrown rfl rfl rfl (by decide +kernel) ⟨Nat.le_of_ble_eq_true rfl, Nat.le_of_ble_eq_true rfl⟩) (m_preV hF hK2 hCA hG hS (mo_obj) rfl) rfl rfl hl.1 rfl (lv_room (Nat.le_of_ble_eq_true rfl)) dL_law_662 ⟨r1c (show 37 + 0 ≤ 2000 by omega), r1s (show 67482 + 0 ≤ 100000 by omega)⟩) (fun r_54 h_55 => ?_)
  refine lv_to (y := nI 1) (h_55.trans h_52) ?_
  refine lv_iload hx hb dL_law_665 (lv_at hl 1 rfl) ?_
  refine lv_icmp_eq (tgt := 672) hx hb dL_law_667 (by decide) (fun _ => ?_) (fun c => absurd (rfl) c)
  refine lv_iload hx hb dL_law_672 (lv_at hl 1 rfl) ?_
  refine lv_if_ne (tgt := 689) hx hb dL_law_674 (by decide) (fun _ => ?_) (fun c => absurd c (by decide))
  refine lv_goto (tgt := 1610) hx hb dL_law_689 (by decide) ?_
  refine W.widen (k := 2000) (n := 100000) (by omega) (by omega) ?_
  exact cont _ _ hS ls (lv_sub hl [2, 6] rfl)

set_option maxHeartbeats 4000000 in
set_option maxRecDepth 100000 in
theorem k_arrival {p : Program} {e : Env} {s : State} {m : MethodId} {below : List Frame} {meth : Method} {c : Code} {Q : State → Prop} (l : Launch) (hst : l.stackTraces = false) {D : va_G} {C : g_C} {E : m_C} {b L : Nat} {xs : Nat → Int32} (hL : L ≤ 5) (hx : p.tables.exec = Jvm.exec) (hb : c.code = cL_law) (hml : c.maxLocals = 7) (hown : s.vm.findClass RL = some m.cls) (hts : ∀ w ∈ wsL_law, w.before #[Value.ref b] s = true) (hX : va_X b L xs s s.heap) (hbl : b < s.heap.size) (hF : g_F D C s.heap.size s) (hK2 : va_K D vwCl (m_T E) s) (hCA : va_Nw (.castable IAE IAE) s) {A ln : g_k → Nat} {EX EX1 : g_k → Option va_E} {g0 h0 : g_k → Nat → Int32} (hg0 : ∀ c j, g0 c j = 0) (hl0 : ∀ c, ln c = 0) (hz0 : ∀ c j, h0 c j = 0) {f : Nat → Int64} (hex : EX (50, 0, 0) = some (.inl (E.2, 1, .inr (.inl f)))) (hmo : ∀ c : g_k, 51 ≤ c.1 → EX c = mo E C h0 A EX1 c) {H : Heap} {locs : List Loc} (hG : g_P D (lay C g0 A ln EX) A s.heap.size H) (hS : va_S (g_A s.heap.size) s.heap H locs) (hL5 : 5 ≤ L) (cont : ∀ (H : Heap) (locs : List Loc), va_S (g_A s.heap.size) s.heap H locs → ∀ ls, lv_has ls 7 [(4, .int (nI 0)), (0, .ref b)] → W p l e room_1 s m #[Value.ref b] below meth c H locs 2000 100000 Q (F0 m 1610 ls [])) {ls : Array Slot} (hl : lv_has ls 7 [(4, .int (nI 0)), (3, .ref (A (50, 0, 0))), (2, .ref (A (60, 0, 0))), (1, .ref (A (0, 0, 0))), (0, .ref b)]) : W p l e room_1 s m #[Value.ref b] below meth c H locs 36 67476 Q (F0 m 692 ls []) := by
  have hK := hF.1
  have hN := hF.2.1
  have hB : s.heap.size ≤ s.heap.size := Nat.le_refl _
  refine lv_aload_n hx hb dL_law_692 rfl (lv_at hl 3 rfl) ?_
  refine lv_aload_n hx hb dL_law_693 rfl (lv_at hl 4 rfl) ?_
  refine lv_iload hx hb dL_law_694 (lv_at hl 0 rfl) ?_
  refine lv_iconst (v := nI 1) hx hb dL_law_696 (by decide) ?_
  refine lv_iadd hx hb dL_law_697 ?_
  refine lv_to (y := nI (0 + 1)) (nI_add 0 1) ?_
  refine va_sld hx hb hX hbl (Nat.not_le.mpr hbl) hS (vp_in_nI (show 0 + 1 < L by omega) (by omega)) dL_law_698 ?_
  refine lv_aload_n hx hb dL_law_699 rfl (lv_at hl 4 rfl) ?_
  refine lv_iload hx hb dL_law_700 (lv_at hl 0 rfl) ?_
  refine lv_iconst (v := nI 2) hx hb dL_law_702 (by decide) ?_
  refine lv_iadd hx hb dL_law_703 ?_
  refine lv_to (y := nI (0 + 2)) (nI_add 0 2) ?_
  refine va_sld hx hb hX hbl (Nat.not_le.mpr hbl) hS (vp_in_nI (show 0 + 2 < L by omega) (by omega)) dL_law_704 ?_
  refine lv_aload_n hx hb dL_law_705 rfl (lv_at hl 4 rfl) ?_
  refine lv_iload hx hb dL_law_706 (lv_at hl 0 rfl) ?_
  refine lv_iconst (v := nI 3) hx hb dL_law_708 (by decide) ?_
  refine lv_iadd hx hb dL_law_709 ?_
  refine lv_to (y := nI (0 + 3)) (nI_add 0 3) ?_
  refine va_sld hx hb hX hbl (Nat.not_le.mpr hbl) hS (vp_in_nI (show 0 + 3 < L by omega) (by omega)) dL_law_710 ?_
  refine lv_aload_n hx hb dL_law_711 rfl (lv_at hl 1 rfl) ?_
  refine va_calli (vx_runSW (As := [.ref (A (0, 0, 0)), .int (xs (nI (0 + 1)).toNatClampNeg), .int (xs (nI (0 + 2)).toNatClampNeg), .int (xs (nI (0 + 3)).toNatClampNeg), .ref (A (50, 0, 0))]) (rest := []) ⟨hx, hb, hml, hown, hts⟩ (p_arrival l hst (E := E) ((hg0 _ _).trans nI_0.symm)) (vx_cwSW 5 hts gL_law_L_arrival rfl rfl rfl (by decide +kernel) ⟨Nat.le_of_ble_eq_true rfl, Nat.le_of_ble_eq_true rfl⟩) (g_preS hF hG hS) rfl rfl hl.1 rfl (lv_room (Nat.le_of_ble_eq_true rfl)) dL_law_712 ⟨r1c (show 36 + 1 ≤ 2000 by omega), r1s (show 67476 + 6 ≤ 100000 by omega)⟩) hS (fun q _ h => h) (fun q h => h) (fun r9 u9 t9 H locs ht9 _ hu9 hB1 _ _ hS => ?_)
  have hG : g_P D (lay C g0 A ln EX) A s.heap.size H := by rw [← ht9]; exact hB1
  have hmv : mo E C h0 A (lay C g0 A ln EX) = lay C g0 A ln EX := mo_fix (fun c hc9 => by obtain ⟨a, i, j⟩ := c; exact (lay_ex (show 50 ≤ a by have : 51 ≤ a := hc9; omega)).trans (hmo _ hc9)) (fun _ _ => rfl)
  have hG : g_P D (mo E C h0 A (lay C g0 A ln EX)) A s.heap.size H := by rw [hmv]; exact hG
  refine W.widen (k := 37) (n := 67482) (by omega) (by omega) ?_
  refine lv_to (y := nI 1) (hu9) ?_
  refine lv_istore (lv' := [(5, .int (nI 1)), (4, .int (nI 0)), (3, .ref (A (50, 0, 0))), (2, .ref (A (60, 0, 0))), (1, .ref (A (0, 0, 0))), (0, .ref b)]) hx hb dL_law_715 hl (by decide) rfl (fun ls hl => ?_)
  refine lv_aload_n hx hb dL_law_717 rfl (lv_at hl 3 rfl) ?_
  refine lv_aload_n hx hb dL_law_718 rfl (lv_at hl 5 rfl) ?_
  refine lv_iload hx hb dL_law_719 (lv_at hl 1 rfl) ?_
  refine lv_iconst (v := nI 1) hx hb dL_law_721 (by decide) ?_
  refine lv_iadd hx hb dL_law_722 ?_
  refine lv_to (y := nI (0 + 1)) (nI_add 0 1) ?_
  refine va_sld hx hb hX hbl (Nat.not_le.mpr hbl) hS (vp_in_nI (show 0 + 1 < L by omega) (by omega)) dL_law_723 ?_
  refine lv_aload_n hx hb dL_law_724 rfl (lv_at hl 5 rfl) ?_
  refine lv_iload hx hb dL_law_725 (lv_at hl 1 rfl) ?_
  refine lv_iconst (v := nI 2) hx hb dL_law_727 (by decide) ?_
  refine lv_iadd hx hb dL_law_728 ?_
  refine lv_to (y := nI (0 + 2)) (nI_add 0 2) ?_
  refine va_sld hx hb hX hbl (Nat.not_le.mpr hbl) hS (vp_in_nI (show 0 + 2 < L by omega) (by omega)) dL_law_729 ?_
  refine lv_aload_n hx hb dL_law_730 rfl (lv_at hl 5 rfl) ?_
  refine lv_iload hx hb dL_law_731 (lv_at hl 1 rfl) ?_
  refine lv_iconst (v := nI 3) hx hb dL_law_733 (by decide) ?_
  refine lv_iadd hx hb dL_law_734 ?_
  refine lv_to (y := nI (0 + 3)) (nI_add 0 3) ?_
  refine va_sld hx hb hX hbl (Nat.not_le.mpr hbl) hS (vp_in_nI (show 0 + 3 < L by omega) (by omega)) dL_law_735 ?_
  refine va_calli (va_runV (As := [.int (xs (nI (0 + 1)).toNatClampNeg), .int (xs (nI (0 + 2)).toNatClampNeg), .int (xs (nI (0 + 3)).toNatClampNeg)]) (rest := []) ⟨hx, hb, hml, hown, hts⟩ (m_arrival l ((hz0 _ _).trans nI_0.symm) ((hz0 _ _).trans nI_0.symm)) (cwV 3 hts gL_law_X6_arrival rfl rfl rfl (by decide +kernel) ⟨Nat.le_of_ble_eq_true rfl, Nat.le_of_ble_eq_true rfl⟩) (m_preV hF hK2 hCA hG hS (mo_obj) rfl) rfl rfl hl.1 rfl (lv_room (Nat.le_of_ble_eq_true rfl)) dL_law_736 ⟨r1c (show 37 + 0 ≤ 2000 by omega), r1s (show 67482 + 0 ≤ 100000 by omega)⟩) hS (fun q _ h => h) (fun q h => h) (fun r_51 g_53 t9 H locs ht9 _ h_52 hB1 _ _ hS => ?_)
  have hG : g_P D (mo E C g_53 A (lay C g0 A ln EX)) A s.heap.size H := by rw [← ht9]; exact hB1
  refine lv_istore (lv' := [(6, .int r_51), (5, .int (nI 1)), (4, .int (nI 0)), (3, .ref (A (50, 0, 0))), (2, .ref (A (60, 0, 0))), (1, .ref (A (0, 0, 0))), (0, .ref b)]) hx hb dL_law_739 hl (by decide) rfl (fun ls hl => ?_)
  refine lv_aload_n hx hb dL_law_741 rfl (lv_at hl 4 rfl) ?_
  refine vp_callSi (W.runV (As := []) (rest := []) ⟨hx, hb, hml, hown, hts⟩ (m_thrown l ) (cwV 0 hts gL_law_X6_thrown rfl rfl rfl (by decide +kernel) ⟨Nat.le_of_ble_eq_true rfl, Nat.le_of_ble_eq_true rfl⟩) (m_preV hF hK2 hCA hG hS (mo_obj) rfl) rfl rfl hl.1 rfl (lv_room (Nat.le_of_ble_eq_true rfl)) dL_law_742 ⟨r1c (show 37 + 0 ≤ 2000 by omega), r1s (show 67482 + 0 ≤ 100000 by omega)⟩) (fun r_54 h_55 => ?_)
  refine lv_to (y := nI 1) (h_55.trans h_52) ?_
  refine lv_iload hx hb dL_law_745 (lv_at hl 1 rfl) ?_
  refine lv_icmp_eq (tgt := 752) hx hb dL_law_747 (by decide) (fun _ => ?_) (fun c => absurd (rfl) c)
  refine lv_iload hx hb dL_law_752 (lv_at hl 1 rfl) ?_
  refine lv_if_ne (tgt := 769) hx hb dL_law_754 (by decide) (fun _ => ?_) (fun c => absurd c (by decide))
  refine lv_goto (tgt := 1610) hx hb dL_law_769 (by decide) ?_
  refine W.widen (k := 2000) (n := 100000) (by omega) (by omega) ?_
  exact cont _ _ hS ls (lv_sub hl [2, 6] rfl)

set_option maxHeartbeats 4000000 in
set_option maxRecDepth 100000 in
theorem k_arrivalByFlooding {p : Program} {e : Env} {s : State} {m : MethodId} {below : List Frame} {meth : Method} {c : Code} {Q : State → Prop} (l : Launch) (hst : l.stackTraces = false) {D : va_G} {C : g_C} {E : m_C} {b L : Nat} {xs : Nat → Int32} (hL : L ≤ 5) (hx : p.tables.exec = Jvm.exec) (hb : c.code = cL_law) (hml : c.maxLocals = 7) (hown : s.vm.findClass RL = some m.cls) (hts : ∀ w ∈ wsL_law, w.before #[Value.ref b] s = true) (hX : va_X b L xs s s.heap) (hbl : b < s.heap.size) (hF : g_F D C s.heap.size s) (hK2 : va_K D vwCl (m_T E) s) (hCA : va_Nw (.castable IAE IAE) s) {A ln : g_k → Nat} {EX EX1 : g_k → Option va_E} {g0 h0 : g_k → Nat → Int32} (hg0 : ∀ c j, g0 c j = 0) (hl0 : ∀ c, ln c = 0) (hz0 : ∀ c j, h0 c j = 0) {f : Nat → Int64} (hex : EX (50, 0, 0) = some (.inl (E.2, 1, .inr (.inl f)))) (hmo : ∀ c : g_k, 51 ≤ c.1 → EX c = mo E C h0 A EX1 c) {H : Heap} {locs : List Loc} (hG : g_P D (lay C g0 A ln EX) A s.heap.size H) (hS : va_S (g_A s.heap.size) s.heap H locs) (hL5 : 5 ≤ L) (cont : ∀ (H : Heap) (locs : List Loc), va_S (g_A s.heap.size) s.heap H locs → ∀ ls, lv_has ls 7 [(4, .int (nI 0)), (0, .ref b)] → W p l e room_1 s m #[Value.ref b] below meth c H locs 2000 100000 Q (F0 m 1610 ls [])) {ls : Array Slot} (hl : lv_has ls 7 [(4, .int (nI 0)), (3, .ref (A (50, 0, 0))), (2, .ref (A (60, 0, 0))), (1, .ref (A (0, 0, 0))), (0, .ref b)]) : W p l e room_1 s m #[Value.ref b] below meth c H locs 36 67476 Q (F0 m 772 ls []) := by
  have hK := hF.1
  have hN := hF.2.1
  have hB : s.heap.size ≤ s.heap.size := Nat.le_refl _
  refine lv_aload_n hx hb dL_law_772 rfl (lv_at hl 3 rfl) ?_
  refine lv_aload_n hx hb dL_law_773 rfl (lv_at hl 4 rfl) ?_
  refine lv_iload hx hb dL_law_774 (lv_at hl 0 rfl) ?_
  refine lv_iconst (v := nI 1) hx hb dL_law_776 (by decide) ?_
  refine lv_iadd hx hb dL_law_777 ?_
  refine lv_to (y := nI (0 + 1)) (nI_add 0 1) ?_
  refine va_sld hx hb hX hbl (Nat.not_le.mpr hbl) hS (vp_in_nI (show 0 + 1 < L by omega) (by omega)) dL_law_778 ?_
  refine lv_aload_n hx hb dL_law_779 rfl (lv_at hl 4 rfl) ?_
  refine lv_iload hx hb dL_law_780 (lv_at hl 0 rfl) ?_
  refine lv_iconst (v := nI 2) hx hb dL_law_782 (by decide) ?_
  refine lv_iadd hx hb dL_law_783 ?_
  refine lv_to (y := nI (0 + 2)) (nI_add 0 2) ?_
  refine va_sld hx hb hX hbl (Nat.not_le.mpr hbl) hS (vp_in_nI (show 0 + 2 < L by omega) (by omega)) dL_law_784 ?_
  refine lv_aload_n hx hb dL_law_785 rfl (lv_at hl 4 rfl) ?_
  refine lv_iload hx hb dL_law_786 (lv_at hl 0 rfl) ?_
  refine lv_iconst (v := nI 3) hx hb dL_law_788 (by decide) ?_
  refine lv_iadd hx hb dL_law_789 ?_
  refine lv_to (y := nI (0 + 3)) (nI_add 0 3) ?_
  refine va_sld hx hb hX hbl (Nat.not_le.mpr hbl) hS (vp_in_nI (show 0 + 3 < L by omega) (by omega)) dL_law_790 ?_
  refine lv_aload_n hx hb dL_law_791 rfl (lv_at hl 1 rfl) ?_
  refine va_calli (vx_runSW (As := [.ref (A (0, 0, 0)), .int (xs (nI (0 + 1)).toNatClampNeg), .int (xs (nI (0 + 2)).toNatClampNeg), .int (xs (nI (0 + 3)).toNatClampNeg), .ref (A (50, 0, 0))]) (rest := []) ⟨hx, hb, hml, hown, hts⟩ (p_arrivalByFlooding l hst (E := E) ((hg0 _ _).trans nI_0.symm)) (vx_cwSW 5 hts gL_law_L_arrivalByFlooding rfl rfl rfl (by decide +kernel) ⟨Nat.le_of_ble_eq_true rfl, Nat.le_of_ble_eq_true rfl⟩) (g_preS hF hG hS) rfl rfl hl.1 rfl (lv_room (Nat.le_of_ble_eq_true rfl)) dL_law_792 ⟨r1c (show 36 + 1 ≤ 2000 by omega), r1s (show 67476 + 6 ≤ 100000 by omega)⟩) hS (fun q _ h => h) (fun q h => h) (fun r9 u9 t9 H locs ht9 _ hu9 hB1 _ _ hS => ?_)
  have hG : g_P D (lay C g0 A ln EX) A s.heap.size H := by rw [← ht9]; exact hB1
  have hmv : mo E C h0 A (lay C g0 A ln EX) = lay C g0 A ln EX := mo_fix (fun c hc9 => by obtain ⟨a, i, j⟩ := c; exact (lay_ex (show 50 ≤ a by have : 51 ≤ a := hc9; omega)).trans (hmo _ hc9)) (fun _ _ => rfl)
  have hG : g_P D (mo E C h0 A (lay C g0 A ln EX)) A s.heap.size H := by rw [hmv]; exact hG
  refine W.widen (k := 37) (n := 67482) (by omega) (by omega) ?_
  refine lv_to (y := nI 1) (hu9) ?_
  refine lv_istore (lv' := [(5, .int (nI 1)), (4, .int (nI 0)), (3, .ref (A (50, 0, 0))), (2, .ref (A (60, 0, 0))), (1, .ref (A (0, 0, 0))), (0, .ref b)]) hx hb dL_law_795 hl (by decide) rfl (fun ls hl => ?_)
  refine lv_aload_n hx hb dL_law_797 rfl (lv_at hl 3 rfl) ?_
  refine lv_aload_n hx hb dL_law_798 rfl (lv_at hl 5 rfl) ?_
  refine lv_iload hx hb dL_law_799 (lv_at hl 1 rfl) ?_
  refine lv_iconst (v := nI 1) hx hb dL_law_801 (by decide) ?_
  refine lv_iadd hx hb dL_law_802 ?_
  refine lv_to (y := nI (0 + 1)) (nI_add 0 1) ?_
  refine va_sld hx hb hX hbl (Nat.not_le.mpr hbl) hS (vp_in_nI (show 0 + 1 < L by omega) (by omega)) dL_law_803 ?_
  refine lv_aload_n hx hb dL_law_804 rfl (lv_at hl 5 rfl) ?_
  refine lv_iload hx hb dL_law_805 (lv_at hl 1 rfl) ?_
  refine lv_iconst (v := nI 2) hx hb dL_law_807 (by decide) ?_
  refine lv_iadd hx hb dL_law_808 ?_
  refine lv_to (y := nI (0 + 2)) (nI_add 0 2) ?_
  refine va_sld hx hb hX hbl (Nat.not_le.mpr hbl) hS (vp_in_nI (show 0 + 2 < L by omega) (by omega)) dL_law_809 ?_
  refine lv_aload_n hx hb dL_law_810 rfl (lv_at hl 5 rfl) ?_
  refine lv_iload hx hb dL_law_811 (lv_at hl 1 rfl) ?_
  refine lv_iconst (v := nI 3) hx hb dL_law_813 (by decide) ?_
  refine lv_iadd hx hb dL_law_814 ?_
  refine lv_to (y := nI (0 + 3)) (nI_add 0 3) ?_
  refine va_sld hx hb hX hbl (Nat.not_le.mpr hbl) hS (vp_in_nI (show 0 + 3 < L by omega) (by omega)) dL_law_815 ?_
  refine va_calli (va_runV (As := [.int (xs (nI (0 + 1)).toNatClampNeg), .int (xs (nI (0 + 2)).toNatClampNeg), .int (xs (nI (0 + 3)).toNatClampNeg)]) (rest := []) ⟨hx, hb, hml, hown, hts⟩ (m_arrivalByFlooding l ((hz0 _ _).trans nI_0.symm) ((hz0 _ _).trans nI_0.symm)) (cwV 3 hts gL_law_X6_arrivalByFlooding rfl rfl rfl (by decide +kernel) ⟨Nat.le_of_ble_eq_true rfl, Nat.le_of_ble_eq_true rfl⟩) (m_preV hF hK2 hCA hG hS (mo_obj) rfl) rfl rfl hl.1 rfl (lv_room (Nat.le_of_ble_eq_true rfl)) dL_law_816 ⟨r1c (show 37 + 0 ≤ 2000 by omega), r1s (show 67482 + 0 ≤ 100000 by omega)⟩) hS (fun q _ h => h) (fun q h => h) (fun r_51 g_53 t9 H locs ht9 _ h_52 hB1 _ _ hS => ?_)
  have hG : g_P D (mo E C g_53 A (lay C g0 A ln EX)) A s.heap.size H := by rw [← ht9]; exact hB1
  refine lv_istore (lv' := [(6, .int r_51), (5, .int (nI 1)), (4, .int (nI 0)), (3, .ref (A (50, 0, 0))), (2, .ref (A (60, 0, 0))), (1, .ref (A (0, 0, 0))), (0, .ref b)]) hx hb dL_law_819 hl (by decide) rfl (fun ls hl => ?_)
  refine lv_aload_n hx hb dL_law_821 rfl (lv_at hl 4 rfl) ?_
  refine vp_callSi (W.runV (As := []) (rest := []) ⟨hx, hb, hml, hown, hts⟩ (m_thrown l ) (cwV 0 hts gL_law_X6_thrown rfl rfl rfl (by decide +kernel) ⟨Nat.le_of_ble_eq_true rfl, Nat.le_of_ble_eq_true rfl⟩) (m_preV hF hK2 hCA hG hS (mo_obj) rfl) rfl rfl hl.1 rfl (lv_room (Nat.le_of_ble_eq_true rfl)) dL_law_822 ⟨r1c (show 37 + 0 ≤ 2000 by omega), r1s (show 67482 + 0 ≤ 100000 by omega)⟩) (fun r_54 h_55 => ?_)
  refine lv_to (y := nI 1) (h_55.trans h_52) ?_
  refine lv_iload hx hb dL_law_825 (lv_at hl 1 rfl) ?_
  refine lv_icmp_eq (tgt := 832) hx hb dL_law_827 (by decide) (fun _ => ?_) (fun c => absurd (rfl) c)
  refine lv_iload hx hb dL_law_832 (lv_at hl 1 rfl) ?_
  refine lv_if_ne (tgt := 849) hx hb dL_law_834 (by decide) (fun _ => ?_) (fun c => absurd c (by decide))
  refine lv_goto (tgt := 1610) hx hb dL_law_849 (by decide) ?_
  refine W.widen (k := 2000) (n := 100000) (by omega) (by omega) ?_
  exact cont _ _ hS ls (lv_sub hl [2, 6] rfl)

set_option maxHeartbeats 4000000 in
set_option maxRecDepth 100000 in
theorem k_spread {p : Program} {e : Env} {s : State} {m : MethodId} {below : List Frame} {meth : Method} {c : Code} {Q : State → Prop} (l : Launch) (hst : l.stackTraces = false) {D : va_G} {C : g_C} {E : m_C} {b L : Nat} {xs : Nat → Int32} (hL : L ≤ 5) (hx : p.tables.exec = Jvm.exec) (hb : c.code = cL_law) (hml : c.maxLocals = 7) (hown : s.vm.findClass RL = some m.cls) (hts : ∀ w ∈ wsL_law, w.before #[Value.ref b] s = true) (hX : va_X b L xs s s.heap) (hbl : b < s.heap.size) (hF : g_F D C s.heap.size s) (hK2 : va_K D vwCl (m_T E) s) (hCA : va_Nw (.castable IAE IAE) s) {A ln : g_k → Nat} {EX EX1 : g_k → Option va_E} {g0 h0 : g_k → Nat → Int32} (hg0 : ∀ c j, g0 c j = 0) (hl0 : ∀ c, ln c = 0) (hz0 : ∀ c j, h0 c j = 0) {f : Nat → Int64} (hex : EX (50, 0, 0) = some (.inl (E.2, 1, .inr (.inl f)))) (hmo : ∀ c : g_k, 51 ≤ c.1 → EX c = mo E C h0 A EX1 c) {H : Heap} {locs : List Loc} (hG : g_P D (lay C g0 A ln EX) A s.heap.size H) (hS : va_S (g_A s.heap.size) s.heap H locs) (hL5 : 5 ≤ L) (cont : ∀ (H : Heap) (locs : List Loc), va_S (g_A s.heap.size) s.heap H locs → ∀ ls, lv_has ls 7 [(4, .int (nI 0)), (0, .ref b)] → W p l e room_1 s m #[Value.ref b] below meth c H locs 2000 100000 Q (F0 m 1610 ls [])) {ls : Array Slot} (hl : lv_has ls 7 [(4, .int (nI 0)), (3, .ref (A (50, 0, 0))), (2, .ref (A (60, 0, 0))), (1, .ref (A (0, 0, 0))), (0, .ref b)]) : W p l e room_1 s m #[Value.ref b] below meth c H locs 36 67476 Q (F0 m 852 ls []) := by
  have hK := hF.1
  have hN := hF.2.1
  have hB : s.heap.size ≤ s.heap.size := Nat.le_refl _
  refine lv_aload_n hx hb dL_law_852 rfl (lv_at hl 3 rfl) ?_
  refine lv_aload_n hx hb dL_law_853 rfl (lv_at hl 4 rfl) ?_
  refine lv_iload hx hb dL_law_854 (lv_at hl 0 rfl) ?_
  refine lv_iconst (v := nI 1) hx hb dL_law_856 (by decide) ?_
  refine lv_iadd hx hb dL_law_857 ?_
  refine lv_to (y := nI (0 + 1)) (nI_add 0 1) ?_
  refine va_sld hx hb hX hbl (Nat.not_le.mpr hbl) hS (vp_in_nI (show 0 + 1 < L by omega) (by omega)) dL_law_858 ?_
  refine lv_aload_n hx hb dL_law_859 rfl (lv_at hl 4 rfl) ?_
  refine lv_iload hx hb dL_law_860 (lv_at hl 0 rfl) ?_
  refine lv_iconst (v := nI 2) hx hb dL_law_862 (by decide) ?_
  refine lv_iadd hx hb dL_law_863 ?_
  refine lv_to (y := nI (0 + 2)) (nI_add 0 2) ?_
  refine va_sld hx hb hX hbl (Nat.not_le.mpr hbl) hS (vp_in_nI (show 0 + 2 < L by omega) (by omega)) dL_law_864 ?_
  refine lv_aload_n hx hb dL_law_865 rfl (lv_at hl 4 rfl) ?_
  refine lv_iload hx hb dL_law_866 (lv_at hl 0 rfl) ?_
  refine lv_iconst (v := nI 3) hx hb dL_law_868 (by decide) ?_
  refine lv_iadd hx hb dL_law_869 ?_
  refine lv_to (y := nI (0 + 3)) (nI_add 0 3) ?_
  refine va_sld hx hb hX hbl (Nat.not_le.mpr hbl) hS (vp_in_nI (show 0 + 3 < L by omega) (by omega)) dL_law_870 ?_
  refine lv_aload_n hx hb dL_law_871 rfl (lv_at hl 1 rfl) ?_
  refine va_calli (vx_runSW (As := [.ref (A (0, 0, 0)), .int (xs (nI (0 + 1)).toNatClampNeg), .int (xs (nI (0 + 2)).toNatClampNeg), .int (xs (nI (0 + 3)).toNatClampNeg), .ref (A (50, 0, 0))]) (rest := []) ⟨hx, hb, hml, hown, hts⟩ (p_spread l hst (E := E) ((hg0 _ _).trans nI_0.symm)) (vx_cwSW 5 hts gL_law_L_spread rfl rfl rfl (by decide +kernel) ⟨Nat.le_of_ble_eq_true rfl, Nat.le_of_ble_eq_true rfl⟩) (g_preS hF hG hS) rfl rfl hl.1 rfl (lv_room (Nat.le_of_ble_eq_true rfl)) dL_law_872 ⟨r1c (show 36 + 1 ≤ 2000 by omega), r1s (show 67476 + 6 ≤ 100000 by omega)⟩) hS (fun q _ h => h) (fun q h => h) (fun r9 u9 t9 H locs ht9 _ hu9 hB1 _ _ hS => ?_)
  have hG : g_P D (lay C g0 A ln EX) A s.heap.size H := by rw [← ht9]; exact hB1
  have hmv : mo E C h0 A (lay C g0 A ln EX) = lay C g0 A ln EX := mo_fix (fun c hc9 => by obtain ⟨a, i, j⟩ := c; exact (lay_ex (show 50 ≤ a by have : 51 ≤ a := hc9; omega)).trans (hmo _ hc9)) (fun _ _ => rfl)
  have hG : g_P D (mo E C h0 A (lay C g0 A ln EX)) A s.heap.size H := by rw [hmv]; exact hG
  refine W.widen (k := 37) (n := 67482) (by omega) (by omega) ?_
  refine lv_to (y := nI 1) (hu9) ?_
  refine lv_istore (lv' := [(5, .int (nI 1)), (4, .int (nI 0)), (3, .ref (A (50, 0, 0))), (2, .ref (A (60, 0, 0))), (1, .ref (A (0, 0, 0))), (0, .ref b)]) hx hb dL_law_875 hl (by decide) rfl (fun ls hl => ?_)
  refine lv_aload_n hx hb dL_law_877 rfl (lv_at hl 3 rfl) ?_
  refine lv_aload_n hx hb dL_law_878 rfl (lv_at hl 5 rfl) ?_
  refine lv_iload hx hb dL_law_879 (lv_at hl 1 rfl) ?_
  refine lv_iconst (v := nI 1) hx hb dL_law_881 (by decide) ?_
  refine lv_iadd hx hb dL_law_882 ?_
  refine lv_to (y := nI (0 + 1)) (nI_add 0 1) ?_
  refine va_sld hx hb hX hbl (Nat.not_le.mpr hbl) hS (vp_in_nI (show 0 + 1 < L by omega) (by omega)) dL_law_883 ?_
  refine lv_aload_n hx hb dL_law_884 rfl (lv_at hl 5 rfl) ?_
  refine lv_iload hx hb dL_law_885 (lv_at hl 1 rfl) ?_
  refine lv_iconst (v := nI 2) hx hb dL_law_887 (by decide) ?_
  refine lv_iadd hx hb dL_law_888 ?_
  refine lv_to (y := nI (0 + 2)) (nI_add 0 2) ?_
  refine va_sld hx hb hX hbl (Nat.not_le.mpr hbl) hS (vp_in_nI (show 0 + 2 < L by omega) (by omega)) dL_law_889 ?_
  refine lv_aload_n hx hb dL_law_890 rfl (lv_at hl 5 rfl) ?_
  refine lv_iload hx hb dL_law_891 (lv_at hl 1 rfl) ?_
  refine lv_iconst (v := nI 3) hx hb dL_law_893 (by decide) ?_
  refine lv_iadd hx hb dL_law_894 ?_
  refine lv_to (y := nI (0 + 3)) (nI_add 0 3) ?_
  refine va_sld hx hb hX hbl (Nat.not_le.mpr hbl) hS (vp_in_nI (show 0 + 3 < L by omega) (by omega)) dL_law_895 ?_
  refine va_calli (va_runV (As := [.int (xs (nI (0 + 1)).toNatClampNeg), .int (xs (nI (0 + 2)).toNatClampNeg), .int (xs (nI (0 + 3)).toNatClampNeg)]) (rest := []) ⟨hx, hb, hml, hown, hts⟩ (m_spread l ((hz0 _ _).trans nI_0.symm) ((hz0 _ _).trans nI_0.symm)) (cwV 3 hts gL_law_X6_spread rfl rfl rfl (by decide +kernel) ⟨Nat.le_of_ble_eq_true rfl, Nat.le_of_ble_eq_true rfl⟩) (m_preV hF hK2 hCA hG hS (mo_obj) rfl) rfl rfl hl.1 rfl (lv_room (Nat.le_of_ble_eq_true rfl)) dL_law_896 ⟨r1c (show 37 + 0 ≤ 2000 by omega), r1s (show 67482 + 0 ≤ 100000 by omega)⟩) hS (fun q _ h => h) (fun q h => h) (fun r_51 g_53 t9 H locs ht9 _ h_52 hB1 _ _ hS => ?_)
  have hG : g_P D (mo E C g_53 A (lay C g0 A ln EX)) A s.heap.size H := by rw [← ht9]; exact hB1
  refine lv_istore (lv' := [(6, .int r_51), (5, .int (nI 1)), (4, .int (nI 0)), (3, .ref (A (50, 0, 0))), (2, .ref (A (60, 0, 0))), (1, .ref (A (0, 0, 0))), (0, .ref b)]) hx hb dL_law_899 hl (by decide) rfl (fun ls hl => ?_)
  refine lv_aload_n hx hb dL_law_901 rfl (lv_at hl 4 rfl) ?_
  refine vp_callSi (W.runV (As := []) (rest := []) ⟨hx, hb, hml, hown, hts⟩ (m_thrown l ) (cwV 0 hts gL_law_X6_thrown rfl rfl rfl (by decide +kernel) ⟨Nat.le_of_ble_eq_true rfl, Nat.le_of_ble_eq_true rfl⟩) (m_preV hF hK2 hCA hG hS (mo_obj) rfl) rfl rfl hl.1 rfl (lv_room (Nat.le_of_ble_eq_true rfl)) dL_law_902 ⟨r1c (show 37 + 0 ≤ 2000 by omega), r1s (show 67482 + 0 ≤ 100000 by omega)⟩) (fun r_54 h_55 => ?_)
  refine lv_to (y := nI 1) (h_55.trans h_52) ?_
  refine lv_iload hx hb dL_law_905 (lv_at hl 1 rfl) ?_
  refine lv_icmp_eq (tgt := 912) hx hb dL_law_907 (by decide) (fun _ => ?_) (fun c => absurd (rfl) c)
  refine lv_iload hx hb dL_law_912 (lv_at hl 1 rfl) ?_
  refine lv_if_ne (tgt := 929) hx hb dL_law_914 (by decide) (fun _ => ?_) (fun c => absurd c (by decide))
  refine lv_goto (tgt := 1610) hx hb dL_law_929 (by decide) ?_
  refine W.widen (k := 2000) (n := 100000) (by omega) (by omega) ?_
  exact cont _ _ hS ls (lv_sub hl [2, 6] rfl)

set_option maxHeartbeats 4000000 in
set_option maxRecDepth 100000 in
theorem k_send {p : Program} {e : Env} {s : State} {m : MethodId} {below : List Frame} {meth : Method} {c : Code} {Q : State → Prop} (l : Launch) (hst : l.stackTraces = false) {D : va_G} {C : g_C} {E : m_C} {b L : Nat} {xs : Nat → Int32} (hL : L ≤ 5) (hx : p.tables.exec = Jvm.exec) (hb : c.code = cL_law) (hml : c.maxLocals = 7) (hown : s.vm.findClass RL = some m.cls) (hts : ∀ w ∈ wsL_law, w.before #[Value.ref b] s = true) (hX : va_X b L xs s s.heap) (hbl : b < s.heap.size) (hF : g_F D C s.heap.size s) (hK2 : va_K D vwCl (m_T E) s) (hCA : va_Nw (.castable IAE IAE) s) {A ln : g_k → Nat} {EX EX1 : g_k → Option va_E} {g0 h0 : g_k → Nat → Int32} (hg0 : ∀ c j, g0 c j = 0) (hl0 : ∀ c, ln c = 0) (hz0 : ∀ c j, h0 c j = 0) {f : Nat → Int64} (hex : EX (50, 0, 0) = some (.inl (E.2, 1, .inr (.inl f)))) (hmo : ∀ c : g_k, 51 ≤ c.1 → EX c = mo E C h0 A EX1 c) {H : Heap} {locs : List Loc} (hG : g_P D (lay C g0 A ln EX) A s.heap.size H) (hS : va_S (g_A s.heap.size) s.heap H locs) (hL5 : 5 ≤ L) (cont : ∀ (H : Heap) (locs : List Loc), va_S (g_A s.heap.size) s.heap H locs → ∀ ls, lv_has ls 7 [(4, .int (nI 0)), (0, .ref b)] → W p l e room_1 s m #[Value.ref b] below meth c H locs 2000 100000 Q (F0 m 1610 ls [])) {ls : Array Slot} (hl : lv_has ls 7 [(4, .int (nI 0)), (3, .ref (A (50, 0, 0))), (2, .ref (A (60, 0, 0))), (1, .ref (A (0, 0, 0))), (0, .ref b)]) : W p l e room_1 s m #[Value.ref b] below meth c H locs 36 67476 Q (F0 m 932 ls []) := by
  have hK := hF.1
  have hN := hF.2.1
  have hB : s.heap.size ≤ s.heap.size := Nat.le_refl _
  refine lv_aload_n hx hb dL_law_932 rfl (lv_at hl 3 rfl) ?_
  refine lv_aload_n hx hb dL_law_933 rfl (lv_at hl 4 rfl) ?_
  refine lv_iload hx hb dL_law_934 (lv_at hl 0 rfl) ?_
  refine lv_iconst (v := nI 1) hx hb dL_law_936 (by decide) ?_
  refine lv_iadd hx hb dL_law_937 ?_
  refine lv_to (y := nI (0 + 1)) (nI_add 0 1) ?_
  refine va_sld hx hb hX hbl (Nat.not_le.mpr hbl) hS (vp_in_nI (show 0 + 1 < L by omega) (by omega)) dL_law_938 ?_
  refine lv_aload_n hx hb dL_law_939 rfl (lv_at hl 4 rfl) ?_
  refine lv_iload hx hb dL_law_940 (lv_at hl 0 rfl) ?_
  refine lv_iconst (v := nI 2) hx hb dL_law_942 (by decide) ?_
  refine lv_iadd hx hb dL_law_943 ?_
  refine lv_to (y := nI (0 + 2)) (nI_add 0 2) ?_
  refine va_sld hx hb hX hbl (Nat.not_le.mpr hbl) hS (vp_in_nI (show 0 + 2 < L by omega) (by omega)) dL_law_944 ?_
  refine lv_aload_n hx hb dL_law_945 rfl (lv_at hl 1 rfl) ?_
  refine va_calli (vx_runSW (As := [.ref (A (0, 0, 0)), .int (xs (nI (0 + 1)).toNatClampNeg), .int (xs (nI (0 + 2)).toNatClampNeg), .ref (A (50, 0, 0))]) (rest := []) ⟨hx, hb, hml, hown, hts⟩ (p_send l hst (E := E) ((hg0 _ _).trans nI_0.symm)) (vx_cwSW 4 hts gL_law_L_send rfl rfl rfl (by decide +kernel) ⟨Nat.le_of_ble_eq_true rfl, Nat.le_of_ble_eq_true rfl⟩) (g_preS hF hG hS) rfl rfl hl.1 rfl (lv_room (Nat.le_of_ble_eq_true rfl)) dL_law_946 ⟨r1c (show 36 + 1 ≤ 2000 by omega), r1s (show 67476 + 6 ≤ 100000 by omega)⟩) hS (fun q _ h => h) (fun q h => h) (fun r9 u9 t9 H locs ht9 _ hu9 hB1 _ _ hS => ?_)
  have hG : g_P D (lay C g0 A ln EX) A s.heap.size H := by rw [← ht9]; exact hB1
  have hmv : mo E C h0 A (lay C g0 A ln EX) = lay C g0 A ln EX := mo_fix (fun c hc9 => by obtain ⟨a, i, j⟩ := c; exact (lay_ex (show 50 ≤ a by have : 51 ≤ a := hc9; omega)).trans (hmo _ hc9)) (fun _ _ => rfl)
  have hG : g_P D (mo E C h0 A (lay C g0 A ln EX)) A s.heap.size H := by rw [hmv]; exact hG
  refine W.widen (k := 37) (n := 67482) (by omega) (by omega) ?_
  refine lv_to (y := nI 1) (hu9) ?_
  refine lv_istore (lv' := [(5, .int (nI 1)), (4, .int (nI 0)), (3, .ref (A (50, 0, 0))), (2, .ref (A (60, 0, 0))), (1, .ref (A (0, 0, 0))), (0, .ref b)]) hx hb dL_law_949 hl (by decide) rfl (fun ls hl => ?_)
  refine lv_aload_n hx hb dL_law_951 rfl (lv_at hl 3 rfl) ?_
  refine lv_aload_n hx hb dL_law_952 rfl (lv_at hl 5 rfl) ?_
  refine lv_iload hx hb dL_law_953 (lv_at hl 1 rfl) ?_
  refine lv_iconst (v := nI 1) hx hb dL_law_955 (by decide) ?_
  refine lv_iadd hx hb dL_law_956 ?_
  refine lv_to (y := nI (0 + 1)) (nI_add 0 1) ?_
  refine va_sld hx hb hX hbl (Nat.not_le.mpr hbl) hS (vp_in_nI (show 0 + 1 < L by omega) (by omega)) dL_law_957 ?_
  refine lv_aload_n hx hb dL_law_958 rfl (lv_at hl 5 rfl) ?_
  refine lv_iload hx hb dL_law_959 (lv_at hl 1 rfl) ?_
  refine lv_iconst (v := nI 2) hx hb dL_law_961 (by decide) ?_
  refine lv_iadd hx hb dL_law_962 ?_
  refine lv_to (y := nI (0 + 2)) (nI_add 0 2) ?_
  refine va_sld hx hb hX hbl (Nat.not_le.mpr hbl) hS (vp_in_nI (show 0 + 2 < L by omega) (by omega)) dL_law_963 ?_
  refine va_calli (va_runV (As := [.int (xs (nI (0 + 1)).toNatClampNeg), .int (xs (nI (0 + 2)).toNatClampNeg)]) (rest := []) ⟨hx, hb, hml, hown, hts⟩ (m_send l ((hz0 _ _).trans nI_0.symm) ((hz0 _ _).trans nI_0.symm)) (cwV 2 hts gL_law_X6_send rfl rfl rfl (by decide +kernel) ⟨Nat.le_of_ble_eq_true rfl, Nat.le_of_ble_eq_true rfl⟩) (m_preV hF hK2 hCA hG hS (mo_obj) rfl) rfl rfl hl.1 rfl (lv_room (Nat.le_of_ble_eq_true rfl)) dL_law_964 ⟨r1c (show 37 + 0 ≤ 2000 by omega), r1s (show 67482 + 0 ≤ 100000 by omega)⟩) hS (fun q _ h => h) (fun q h => h) (fun r_51 g_53 t9 H locs ht9 _ h_52 hB1 _ _ hS => ?_)
  have hG : g_P D (mo E C g_53 A (lay C g0 A ln EX)) A s.heap.size H := by rw [← ht9]; exact hB1
  refine lv_istore (lv' := [(6, .int r_51), (5, .int (nI 1)), (4, .int (nI 0)), (3, .ref (A (50, 0, 0))), (2, .ref (A (60, 0, 0))), (1, .ref (A (0, 0, 0))), (0, .ref b)]) hx hb dL_law_967 hl (by decide) rfl (fun ls hl => ?_)
  refine lv_aload_n hx hb dL_law_969 rfl (lv_at hl 4 rfl) ?_
  refine vp_callSi (W.runV (As := []) (rest := []) ⟨hx, hb, hml, hown, hts⟩ (m_thrown l ) (cwV 0 hts gL_law_X6_thrown rfl rfl rfl (by decide +kernel) ⟨Nat.le_of_ble_eq_true rfl, Nat.le_of_ble_eq_true rfl⟩) (m_preV hF hK2 hCA hG hS (mo_obj) rfl) rfl rfl hl.1 rfl (lv_room (Nat.le_of_ble_eq_true rfl)) dL_law_970 ⟨r1c (show 37 + 0 ≤ 2000 by omega), r1s (show 67482 + 0 ≤ 100000 by omega)⟩) (fun r_54 h_55 => ?_)
  refine lv_to (y := nI 1) (h_55.trans h_52) ?_
  refine lv_iload hx hb dL_law_973 (lv_at hl 1 rfl) ?_
  refine lv_icmp_eq (tgt := 980) hx hb dL_law_975 (by decide) (fun _ => ?_) (fun c => absurd (rfl) c)
  refine lv_iload hx hb dL_law_980 (lv_at hl 1 rfl) ?_
  refine lv_if_ne (tgt := 997) hx hb dL_law_982 (by decide) (fun _ => ?_) (fun c => absurd c (by decide))
  refine lv_goto (tgt := 1610) hx hb dL_law_997 (by decide) ?_
  refine W.widen (k := 2000) (n := 100000) (by omega) (by omega) ?_
  exact cont _ _ hS ls (lv_sub hl [2, 6] rfl)

set_option maxHeartbeats 4000000 in
set_option maxRecDepth 100000 in
theorem k_pass {p : Program} {e : Env} {s : State} {m : MethodId} {below : List Frame} {meth : Method} {c : Code} {Q : State → Prop} (l : Launch) (hst : l.stackTraces = false) {D : va_G} {C : g_C} {E : m_C} {b L : Nat} {xs : Nat → Int32} (hL : L ≤ 5) (hx : p.tables.exec = Jvm.exec) (hb : c.code = cL_law) (hml : c.maxLocals = 7) (hown : s.vm.findClass RL = some m.cls) (hts : ∀ w ∈ wsL_law, w.before #[Value.ref b] s = true) (hX : va_X b L xs s s.heap) (hbl : b < s.heap.size) (hF : g_F D C s.heap.size s) (hK2 : va_K D vwCl (m_T E) s) (hCA : va_Nw (.castable IAE IAE) s) {A ln : g_k → Nat} {EX EX1 : g_k → Option va_E} {g0 h0 : g_k → Nat → Int32} (hg0 : ∀ c j, g0 c j = 0) (hl0 : ∀ c, ln c = 0) (hz0 : ∀ c j, h0 c j = 0) {f : Nat → Int64} (hex : EX (50, 0, 0) = some (.inl (E.2, 1, .inr (.inl f)))) (hmo : ∀ c : g_k, 51 ≤ c.1 → EX c = mo E C h0 A EX1 c) {H : Heap} {locs : List Loc} (hG : g_P D (lay C g0 A ln EX) A s.heap.size H) (hS : va_S (g_A s.heap.size) s.heap H locs) (hL5 : 5 ≤ L) (cont : ∀ (H : Heap) (locs : List Loc), va_S (g_A s.heap.size) s.heap H locs → ∀ ls, lv_has ls 7 [(4, .int (nI 0)), (0, .ref b)] → W p l e room_1 s m #[Value.ref b] below meth c H locs 2000 100000 Q (F0 m 1610 ls [])) {ls : Array Slot} (hl : lv_has ls 7 [(4, .int (nI 0)), (3, .ref (A (50, 0, 0))), (2, .ref (A (60, 0, 0))), (1, .ref (A (0, 0, 0))), (0, .ref b)]) : W p l e room_1 s m #[Value.ref b] below meth c H locs 36 67476 Q (F0 m 1000 ls []) := by
  have hK := hF.1
  have hN := hF.2.1
  have hB : s.heap.size ≤ s.heap.size := Nat.le_refl _
  refine lv_aload_n hx hb dL_law_1000 rfl (lv_at hl 3 rfl) ?_
  refine lv_aload_n hx hb dL_law_1001 rfl (lv_at hl 4 rfl) ?_
  refine lv_iload hx hb dL_law_1002 (lv_at hl 0 rfl) ?_
  refine lv_iconst (v := nI 1) hx hb dL_law_1004 (by decide) ?_
  refine lv_iadd hx hb dL_law_1005 ?_
  refine lv_to (y := nI (0 + 1)) (nI_add 0 1) ?_
  refine va_sld hx hb hX hbl (Nat.not_le.mpr hbl) hS (vp_in_nI (show 0 + 1 < L by omega) (by omega)) dL_law_1006 ?_
  refine lv_aload_n hx hb dL_law_1007 rfl (lv_at hl 1 rfl) ?_
  refine va_calli (vx_runSW (As := [.ref (A (0, 0, 0)), .int (xs (nI (0 + 1)).toNatClampNeg), .ref (A (50, 0, 0))]) (rest := []) ⟨hx, hb, hml, hown, hts⟩ (p_pass l hst (E := E) hg0 hl0 hex) (vx_cwSW 3 hts gL_law_L_pass rfl rfl rfl (by decide +kernel) ⟨Nat.le_of_ble_eq_true rfl, Nat.le_of_ble_eq_true rfl⟩) (m_preS hF hK2 hCA hG hS) rfl rfl hl.1 rfl (lv_room (Nat.le_of_ble_eq_true rfl)) dL_law_1008 ⟨r1c (show 36 + 1200 ≤ 2000 by omega), r1s (show 67476 + 30000 ≤ 100000 by omega)⟩) hS (fun q _ h => h) (fun q h => h) (fun r9 u9 t9 H locs ht9 _ hu9 hB1 _ _ hS => ?_)
  obtain ⟨v1, A1, f1⟩ := u9
  dsimp only at hu9
  obtain ⟨⟨ho1, ho2, ho3⟩, hu9⟩ := hu9
  dsimp only at ho1 ho2 ho3
  have hG : g_P D v1 A1 s.heap.size H := by rw [← ht9]; exact hB1
  have hmv : mo E C h0 A1 v1 = v1 := mo_fix (fun c hc9 => (ho1 c hc9).1.trans (hmo c hc9)) (fun c hc9 => (ho1 c hc9).2)
  have hG : g_P D (mo E C h0 A1 v1) A1 s.heap.size H := by rw [hmv]; exact hG
  refine W.widen (k := 1236) (n := 97476) (by omega) (by omega) ?_
  have hl : lv_has ls 7 [(4, .int (nI 0)), (3, .ref (A1 (50, 0, 0))), (2, .ref (A1 (60, 0, 0))), (0, .ref b)] := by rw [ho3, (ho1 (60, 0, 0) (by decide)).2]; exact lv_sub hl [0, 1, 2, 4] rfl
  rcases hu9 with ⟨hgood, hr9, hf9⟩ | ⟨hgood, hr9⟩
  · refine lv_to (y := nI 0) (hr9) ?_
    refine lv_istore (lv' := [(5, .int (nI 0)), (4, .int (nI 0)), (3, .ref (A1 (50, 0, 0))), (2, .ref (A1 (60, 0, 0))), (0, .ref b)]) hx hb dL_law_1011 hl (by decide) rfl (fun ls hl => ?_)
    refine lv_aload_n hx hb dL_law_1013 rfl (lv_at hl 3 rfl) ?_
    refine lv_aload_n hx hb dL_law_1014 rfl (lv_at hl 4 rfl) ?_
    refine lv_iload hx hb dL_law_1015 (lv_at hl 1 rfl) ?_
    refine lv_iconst (v := nI 1) hx hb dL_law_1017 (by decide) ?_
    refine lv_iadd hx hb dL_law_1018 ?_
    refine lv_to (y := nI (0 + 1)) (nI_add 0 1) ?_
    refine va_sld hx hb hX hbl (Nat.not_le.mpr hbl) hS (vp_in_nI (show 0 + 1 < L by omega) (by omega)) dL_law_1019 ?_
    refine va_calli (va_runV (As := [.int (xs (nI (0 + 1)).toNatClampNeg)]) (rest := []) ⟨hx, hb, hml, hown, hts⟩ (m_pass l (h := h0) hz0) (cwV 1 hts gL_law_X6_pass rfl rfl rfl (by decide +kernel) ⟨Nat.le_of_ble_eq_true rfl, Nat.le_of_ble_eq_true rfl⟩) (m_preV hF hK2 hCA hG hS (mo_obj) rfl) rfl rfl hl.1 rfl (lv_room (Nat.le_of_ble_eq_true rfl)) dL_law_1020 ⟨r1c (show 1236 + 0 ≤ 2000 by omega), r1s (show 97476 + 0 ≤ 100000 by omega)⟩) hS (fun q _ h => h) (fun q h => h) (fun r_51 g_53 t9 H locs ht9 _ h_52 hB1 _ _ hS => ?_)
    have hG : g_P D (mo E C g_53 A1 v1) A1 s.heap.size H := by rw [← ht9]; exact hB1
    rcases h_52 with ⟨hg2, hr2, hth⟩ | ⟨hg2, hth⟩
    · refine lv_to (y := nI 0) (hr2) ?_
      refine lv_istore (lv' := [(6, .int (nI 0)), (5, .int (nI 0)), (4, .int (nI 0)), (3, .ref (A1 (50, 0, 0))), (2, .ref (A1 (60, 0, 0))), (0, .ref b)]) hx hb dL_law_1023 hl (by decide) rfl (fun ls hl => ?_)
      refine lv_aload_n hx hb dL_law_1025 rfl (lv_at hl 4 rfl) ?_
      refine vp_callSi (W.runV (As := []) (rest := []) ⟨hx, hb, hml, hown, hts⟩ (m_thrown l ) (cwV 0 hts gL_law_X6_thrown rfl rfl rfl (by decide +kernel) ⟨Nat.le_of_ble_eq_true rfl, Nat.le_of_ble_eq_true rfl⟩) (m_preV hF hK2 hCA hG hS (mo_obj) rfl) rfl rfl hl.1 rfl (lv_room (Nat.le_of_ble_eq_true rfl)) dL_law_1026 ⟨r1c (show 1236 + 0 ≤ 2000 by omega), r1s (show 97476 + 0 ≤ 100000 by omega)⟩) (fun r_54 h_55 => ?_)
      refine lv_to (y := nI 0) (h_55.trans hth) ?_
      refine lv_iload hx hb dL_law_1029 (lv_at hl 1 rfl) ?_
      refine lv_icmp_eq (tgt := 1036) hx hb dL_law_1031 (by decide) (fun _ => ?_) (fun c => absurd (rfl) c)
      refine lv_iload hx hb dL_law_1036 (lv_at hl 1 rfl) ?_
      refine lv_if_ne (tgt := 1053) hx hb dL_law_1038 (by decide) (fun c => absurd (by decide) c) (fun _ => ?_)
      refine lv_aload_n hx hb dL_law_1041 rfl (lv_at hl 3 rfl) ?_
      refine lv_iconst (v := nI 0) hx hb dL_law_1042 (by decide) ?_
      refine g_lald hx hb hK2 hG (cd := (50, 0, 0)) ((mo_50 (C := C)).trans ho2) (j := 0) (by decide) (by decide) dL_law_1043 ?_
      refine lv_iload hx hb dL_law_1044 (lv_at hl 0 rfl) ?_
      refine lv_i2l hx hb dL_law_1046 rfl ?_
      refine W.lcmp hx hb dL_law_1047 ?_
      refine lv_to (y := nI 0) (by rw [hf9]; exact cmp_s _) ?_
      refine lv_if_eq (tgt := 1053) hx hb dL_law_1048 (by decide) (fun _ => ?_) (fun c => absurd (by decide) c)
      refine lv_goto (tgt := 1610) hx hb dL_law_1053 (by decide) ?_
      refine W.widen (k := 2000) (n := 100000) (by omega) (by omega) ?_
      exact cont _ _ hS ls (lv_sub hl [2, 5] rfl)
    · exact absurd hgood hg2
  · refine lv_to (y := nI 1) (hr9) ?_
    refine lv_istore (lv' := [(5, .int (nI 1)), (4, .int (nI 0)), (3, .ref (A1 (50, 0, 0))), (2, .ref (A1 (60, 0, 0))), (0, .ref b)]) hx hb dL_law_1011 hl (by decide) rfl (fun ls hl => ?_)
    refine lv_aload_n hx hb dL_law_1013 rfl (lv_at hl 3 rfl) ?_
    refine lv_aload_n hx hb dL_law_1014 rfl (lv_at hl 4 rfl) ?_
    refine lv_iload hx hb dL_law_1015 (lv_at hl 1 rfl) ?_
    refine lv_iconst (v := nI 1) hx hb dL_law_1017 (by decide) ?_
    refine lv_iadd hx hb dL_law_1018 ?_
    refine lv_to (y := nI (0 + 1)) (nI_add 0 1) ?_
    refine va_sld hx hb hX hbl (Nat.not_le.mpr hbl) hS (vp_in_nI (show 0 + 1 < L by omega) (by omega)) dL_law_1019 ?_
    refine va_calli (va_runV (As := [.int (xs (nI (0 + 1)).toNatClampNeg)]) (rest := []) ⟨hx, hb, hml, hown, hts⟩ (m_pass l (h := h0) hz0) (cwV 1 hts gL_law_X6_pass rfl rfl rfl (by decide +kernel) ⟨Nat.le_of_ble_eq_true rfl, Nat.le_of_ble_eq_true rfl⟩) (m_preV hF hK2 hCA hG hS (mo_obj) rfl) rfl rfl hl.1 rfl (lv_room (Nat.le_of_ble_eq_true rfl)) dL_law_1020 ⟨r1c (show 1236 + 0 ≤ 2000 by omega), r1s (show 97476 + 0 ≤ 100000 by omega)⟩) hS (fun q _ h => h) (fun q h => h) (fun r_51 g_53 t9 H locs ht9 _ h_52 hB1 _ _ hS => ?_)
    have hG : g_P D (mo E C g_53 A1 v1) A1 s.heap.size H := by rw [← ht9]; exact hB1
    rcases h_52 with ⟨hg2, hr2, hth⟩ | ⟨hg2, hth⟩
    · exact absurd hg2 hgood
    · refine lv_istore (lv' := [(6, .int r_51), (5, .int (nI 1)), (4, .int (nI 0)), (3, .ref (A1 (50, 0, 0))), (2, .ref (A1 (60, 0, 0))), (0, .ref b)]) hx hb dL_law_1023 hl (by decide) rfl (fun ls hl => ?_)
      refine lv_aload_n hx hb dL_law_1025 rfl (lv_at hl 4 rfl) ?_
      refine vp_callSi (W.runV (As := []) (rest := []) ⟨hx, hb, hml, hown, hts⟩ (m_thrown l ) (cwV 0 hts gL_law_X6_thrown rfl rfl rfl (by decide +kernel) ⟨Nat.le_of_ble_eq_true rfl, Nat.le_of_ble_eq_true rfl⟩) (m_preV hF hK2 hCA hG hS (mo_obj) rfl) rfl rfl hl.1 rfl (lv_room (Nat.le_of_ble_eq_true rfl)) dL_law_1026 ⟨r1c (show 1236 + 0 ≤ 2000 by omega), r1s (show 97476 + 0 ≤ 100000 by omega)⟩) (fun r_54 h_55 => ?_)
      refine lv_to (y := nI 1) (h_55.trans hth) ?_
      refine lv_iload hx hb dL_law_1029 (lv_at hl 1 rfl) ?_
      refine lv_icmp_eq (tgt := 1036) hx hb dL_law_1031 (by decide) (fun _ => ?_) (fun c => absurd (rfl) c)
      refine lv_iload hx hb dL_law_1036 (lv_at hl 1 rfl) ?_
      refine lv_if_ne (tgt := 1053) hx hb dL_law_1038 (by decide) (fun _ => ?_) (fun c => absurd c (by decide))
      refine lv_goto (tgt := 1610) hx hb dL_law_1053 (by decide) ?_
      refine W.widen (k := 2000) (n := 100000) (by omega) (by omega) ?_
      exact cont _ _ hS ls (lv_sub hl [2, 5] rfl)

set_option maxHeartbeats 4000000 in
set_option maxRecDepth 100000 in
theorem k_now {p : Program} {e : Env} {s : State} {m : MethodId} {below : List Frame} {meth : Method} {c : Code} {Q : State → Prop} (l : Launch) (hst : l.stackTraces = false) {D : va_G} {C : g_C} {E : m_C} {b L : Nat} {xs : Nat → Int32} (hL : L ≤ 5) (hx : p.tables.exec = Jvm.exec) (hb : c.code = cL_law) (hml : c.maxLocals = 7) (hown : s.vm.findClass RL = some m.cls) (hts : ∀ w ∈ wsL_law, w.before #[Value.ref b] s = true) (hX : va_X b L xs s s.heap) (hbl : b < s.heap.size) (hF : g_F D C s.heap.size s) (hK2 : va_K D vwCl (m_T E) s) (hCA : va_Nw (.castable IAE IAE) s) {A ln : g_k → Nat} {EX EX1 : g_k → Option va_E} {g0 h0 : g_k → Nat → Int32} (hg0 : ∀ c j, g0 c j = 0) (hl0 : ∀ c, ln c = 0) (hz0 : ∀ c j, h0 c j = 0) {f : Nat → Int64} (hex : EX (50, 0, 0) = some (.inl (E.2, 1, .inr (.inl f)))) (hmo : ∀ c : g_k, 51 ≤ c.1 → EX c = mo E C h0 A EX1 c) {H : Heap} {locs : List Loc} (hG : g_P D (lay C g0 A ln EX) A s.heap.size H) (hS : va_S (g_A s.heap.size) s.heap H locs) (hL5 : 5 ≤ L) (cont : ∀ (H : Heap) (locs : List Loc), va_S (g_A s.heap.size) s.heap H locs → ∀ ls, lv_has ls 7 [(4, .int (nI 0)), (0, .ref b)] → W p l e room_1 s m #[Value.ref b] below meth c H locs 2000 100000 Q (F0 m 1610 ls [])) {ls : Array Slot} (hl : lv_has ls 7 [(4, .int (nI 0)), (3, .ref (A (50, 0, 0))), (2, .ref (A (60, 0, 0))), (1, .ref (A (0, 0, 0))), (0, .ref b)]) : W p l e room_1 s m #[Value.ref b] below meth c H locs 36 67476 Q (F0 m 1056 ls []) := by
  have hK := hF.1
  have hN := hF.2.1
  have hB : s.heap.size ≤ s.heap.size := Nat.le_refl _
  refine lv_aload_n hx hb dL_law_1056 rfl (lv_at hl 3 rfl) ?_
  refine vp_callSi (W.runV (As := []) (rest := []) ⟨hx, hb, hml, hown, hts⟩ (c_now l ) (cwV 0 hts gL_law_X5_now rfl rfl rfl (by decide +kernel) ⟨Nat.le_of_ble_eq_true rfl, Nat.le_of_ble_eq_true rfl⟩) (g_preV hF hG hS (lay_main) rfl) rfl rfl hl.1 rfl (lv_room (Nat.le_of_ble_eq_true rfl)) dL_law_1057 ⟨r1c (show 36 + 0 ≤ 2000 by omega), r1s (show 67476 + 0 ≤ 100000 by omega)⟩) (fun r_1 h_2 => ?_)
  refine lv_to (y := nI 0) (h_2.trans ((hg0 _ _).trans nI_0.symm)) ?_
  have hmv : mo E C h0 A (lay C g0 A ln EX) = lay C g0 A ln EX := mo_fix (fun c hc9 => by obtain ⟨a, i, j⟩ := c; exact (lay_ex (show 50 ≤ a by have : 51 ≤ a := hc9; omega)).trans (hmo _ hc9)) (fun _ _ => rfl)
  have hG : g_P D (mo E C h0 A (lay C g0 A ln EX)) A s.heap.size H := by rw [hmv]; exact hG
  refine lv_aload_n hx hb dL_law_1060 rfl (lv_at hl 2 rfl) ?_
  refine va_calli (va_runV (As := []) (rest := [.int (nI 0)]) ⟨hx, hb, hml, hown, hts⟩ (m_now l (v := nI 0) ((hz0 _ _).trans nI_0.symm)) (cwV 0 hts gL_law_X6_now rfl rfl rfl (by decide +kernel) ⟨Nat.le_of_ble_eq_true rfl, Nat.le_of_ble_eq_true rfl⟩) (m_preV hF hK2 hCA hG hS (mo_obj) rfl) rfl rfl hl.1 rfl (lv_room (Nat.le_of_ble_eq_true rfl)) dL_law_1061 ⟨r1c (show 36 + 0 ≤ 2000 by omega), r1s (show 67476 + 0 ≤ 100000 by omega)⟩) hS (fun q _ h => h) (fun q h => h) (fun r_53 g_55 t9 H locs ht9 _ h_54 hB1 _ _ hS => ?_)
  have hG : g_P D (mo E C g_55 A (lay C g0 A ln EX)) A s.heap.size H := by rw [← ht9]; exact hB1
  refine lv_to (y := nI 0) (h_54) ?_
  refine lv_icmp_eq (tgt := 1610) hx hb dL_law_1064 (by decide) (fun _ => ?_) (fun c => absurd (rfl) c)
  refine W.widen (k := 2000) (n := 100000) (by omega) (by omega) ?_
  exact cont _ _ hS ls (lv_sub hl [0, 4] rfl)

set_option maxHeartbeats 4000000 in
set_option maxRecDepth 100000 in
theorem k_messages {p : Program} {e : Env} {s : State} {m : MethodId} {below : List Frame} {meth : Method} {c : Code} {Q : State → Prop} (l : Launch) (hst : l.stackTraces = false) {D : va_G} {C : g_C} {E : m_C} {b L : Nat} {xs : Nat → Int32} (hL : L ≤ 5) (hx : p.tables.exec = Jvm.exec) (hb : c.code = cL_law) (hml : c.maxLocals = 7) (hown : s.vm.findClass RL = some m.cls) (hts : ∀ w ∈ wsL_law, w.before #[Value.ref b] s = true) (hX : va_X b L xs s s.heap) (hbl : b < s.heap.size) (hF : g_F D C s.heap.size s) (hK2 : va_K D vwCl (m_T E) s) (hCA : va_Nw (.castable IAE IAE) s) {A ln : g_k → Nat} {EX EX1 : g_k → Option va_E} {g0 h0 : g_k → Nat → Int32} (hg0 : ∀ c j, g0 c j = 0) (hl0 : ∀ c, ln c = 0) (hz0 : ∀ c j, h0 c j = 0) {f : Nat → Int64} (hex : EX (50, 0, 0) = some (.inl (E.2, 1, .inr (.inl f)))) (hmo : ∀ c : g_k, 51 ≤ c.1 → EX c = mo E C h0 A EX1 c) {H : Heap} {locs : List Loc} (hG : g_P D (lay C g0 A ln EX) A s.heap.size H) (hS : va_S (g_A s.heap.size) s.heap H locs) (hL5 : 5 ≤ L) (cont : ∀ (H : Heap) (locs : List Loc), va_S (g_A s.heap.size) s.heap H locs → ∀ ls, lv_has ls 7 [(4, .int (nI 0)), (0, .ref b)] → W p l e room_1 s m #[Value.ref b] below meth c H locs 2000 100000 Q (F0 m 1610 ls [])) {ls : Array Slot} (hl : lv_has ls 7 [(4, .int (nI 0)), (3, .ref (A (50, 0, 0))), (2, .ref (A (60, 0, 0))), (1, .ref (A (0, 0, 0))), (0, .ref b)]) : W p l e room_1 s m #[Value.ref b] below meth c H locs 36 67476 Q (F0 m 1069 ls []) := by
  have hK := hF.1
  have hN := hF.2.1
  have hB : s.heap.size ≤ s.heap.size := Nat.le_refl _
  refine lv_aload_n hx hb dL_law_1069 rfl (lv_at hl 3 rfl) ?_
  refine vp_callSi (W.runV (As := []) (rest := []) ⟨hx, hb, hml, hown, hts⟩ (c_messages l ) (cwV 0 hts gL_law_X5_messages rfl rfl rfl (by decide +kernel) ⟨Nat.le_of_ble_eq_true rfl, Nat.le_of_ble_eq_true rfl⟩) (g_preV hF hG hS (lay_main) rfl) rfl rfl hl.1 rfl (lv_room (Nat.le_of_ble_eq_true rfl)) dL_law_1070 ⟨r1c (show 36 + 0 ≤ 2000 by omega), r1s (show 67476 + 0 ≤ 100000 by omega)⟩) (fun r_1 h_2 => ?_)
  refine lv_to (y := nI 0) (h_2.trans ((hg0 _ _).trans nI_0.symm)) ?_
  have hmv : mo E C h0 A (lay C g0 A ln EX) = lay C g0 A ln EX := mo_fix (fun c hc9 => by obtain ⟨a, i, j⟩ := c; exact (lay_ex (show 50 ≤ a by have : 51 ≤ a := hc9; omega)).trans (hmo _ hc9)) (fun _ _ => rfl)
  have hG : g_P D (mo E C h0 A (lay C g0 A ln EX)) A s.heap.size H := by rw [hmv]; exact hG
  refine lv_aload_n hx hb dL_law_1073 rfl (lv_at hl 2 rfl) ?_
  refine va_calli (va_runV (As := []) (rest := [.int (nI 0)]) ⟨hx, hb, hml, hown, hts⟩ (m_messages l (v := nI 0) ((hz0 _ _).trans nI_0.symm)) (cwV 0 hts gL_law_X6_messages rfl rfl rfl (by decide +kernel) ⟨Nat.le_of_ble_eq_true rfl, Nat.le_of_ble_eq_true rfl⟩) (m_preV hF hK2 hCA hG hS (mo_obj) rfl) rfl rfl hl.1 rfl (lv_room (Nat.le_of_ble_eq_true rfl)) dL_law_1074 ⟨r1c (show 36 + 0 ≤ 2000 by omega), r1s (show 67476 + 0 ≤ 100000 by omega)⟩) hS (fun q _ h => h) (fun q h => h) (fun r_53 g_55 t9 H locs ht9 _ h_54 hB1 _ _ hS => ?_)
  have hG : g_P D (mo E C g_55 A (lay C g0 A ln EX)) A s.heap.size H := by rw [← ht9]; exact hB1
  refine lv_to (y := nI 0) (h_54) ?_
  refine lv_icmp_eq (tgt := 1610) hx hb dL_law_1077 (by decide) (fun _ => ?_) (fun c => absurd (rfl) c)
  refine W.widen (k := 2000) (n := 100000) (by omega) (by omega) ?_
  exact cont _ _ hS ls (lv_sub hl [0, 4] rfl)

set_option maxHeartbeats 4000000 in
set_option maxRecDepth 100000 in
theorem k_nodeOf {p : Program} {e : Env} {s : State} {m : MethodId} {below : List Frame} {meth : Method} {c : Code} {Q : State → Prop} (l : Launch) (hst : l.stackTraces = false) {D : va_G} {C : g_C} {E : m_C} {b L : Nat} {xs : Nat → Int32} (hL : L ≤ 5) (hx : p.tables.exec = Jvm.exec) (hb : c.code = cL_law) (hml : c.maxLocals = 7) (hown : s.vm.findClass RL = some m.cls) (hts : ∀ w ∈ wsL_law, w.before #[Value.ref b] s = true) (hX : va_X b L xs s s.heap) (hbl : b < s.heap.size) (hF : g_F D C s.heap.size s) (hK2 : va_K D vwCl (m_T E) s) (hCA : va_Nw (.castable IAE IAE) s) {A ln : g_k → Nat} {EX EX1 : g_k → Option va_E} {g0 h0 : g_k → Nat → Int32} (hg0 : ∀ c j, g0 c j = 0) (hl0 : ∀ c, ln c = 0) (hz0 : ∀ c j, h0 c j = 0) {f : Nat → Int64} (hex : EX (50, 0, 0) = some (.inl (E.2, 1, .inr (.inl f)))) (hmo : ∀ c : g_k, 51 ≤ c.1 → EX c = mo E C h0 A EX1 c) {H : Heap} {locs : List Loc} (hG : g_P D (lay C g0 A ln EX) A s.heap.size H) (hS : va_S (g_A s.heap.size) s.heap H locs) (hL5 : 5 ≤ L) (cont : ∀ (H : Heap) (locs : List Loc), va_S (g_A s.heap.size) s.heap H locs → ∀ ls, lv_has ls 7 [(4, .int (nI 0)), (0, .ref b)] → W p l e room_1 s m #[Value.ref b] below meth c H locs 2000 100000 Q (F0 m 1610 ls [])) {ls : Array Slot} (hl : lv_has ls 7 [(4, .int (nI 0)), (3, .ref (A (50, 0, 0))), (2, .ref (A (60, 0, 0))), (1, .ref (A (0, 0, 0))), (0, .ref b)]) : W p l e room_1 s m #[Value.ref b] below meth c H locs 36 67476 Q (F0 m 1082 ls []) := by
  have hK := hF.1
  have hN := hF.2.1
  have hB : s.heap.size ≤ s.heap.size := Nat.le_refl _
  refine lv_aload_n hx hb dL_law_1082 rfl (lv_at hl 3 rfl) ?_
  refine lv_aload_n hx hb dL_law_1083 rfl (lv_at hl 4 rfl) ?_
  refine lv_iload hx hb dL_law_1084 (lv_at hl 0 rfl) ?_
  refine lv_iconst (v := nI 1) hx hb dL_law_1086 (by decide) ?_
  refine lv_iadd hx hb dL_law_1087 ?_
  refine lv_to (y := nI (0 + 1)) (nI_add 0 1) ?_
  refine va_sld hx hb hX hbl (Nat.not_le.mpr hbl) hS (vp_in_nI (show 0 + 1 < L by omega) (by omega)) dL_law_1088 ?_
  refine lv_aload_n hx hb dL_law_1089 rfl (lv_at hl 1 rfl) ?_
  refine va_calli (vx_runSW (As := [.ref (A (0, 0, 0)), .int (xs (nI (0 + 1)).toNatClampNeg), .ref (A (50, 0, 0))]) (rest := []) ⟨hx, hb, hml, hown, hts⟩ (p_nodeOf l hst (E := E) (hl0 _) ((hg0 _ _).trans nI_0.symm)) (vx_cwSW 3 hts gL_law_L_nodeOf rfl rfl rfl (by decide +kernel) ⟨Nat.le_of_ble_eq_true rfl, Nat.le_of_ble_eq_true rfl⟩) (g_preS hF hG hS) rfl rfl hl.1 rfl (lv_room (Nat.le_of_ble_eq_true rfl)) dL_law_1090 ⟨r1c (show 36 + 1 ≤ 2000 by omega), r1s (show 67476 + 6 ≤ 100000 by omega)⟩) hS (fun q _ h => h) (fun q h => h) (fun r9 u9 t9 H locs ht9 _ hu9 hB1 _ _ hS => ?_)
  have hG : g_P D (lay C g0 A ln EX) A s.heap.size H := by rw [← ht9]; exact hB1
  have hmv : mo E C h0 A (lay C g0 A ln EX) = lay C g0 A ln EX := mo_fix (fun c hc9 => by obtain ⟨a, i, j⟩ := c; exact (lay_ex (show 50 ≤ a by have : 51 ≤ a := hc9; omega)).trans (hmo _ hc9)) (fun _ _ => rfl)
  have hG : g_P D (mo E C h0 A (lay C g0 A ln EX)) A s.heap.size H := by rw [hmv]; exact hG
  refine W.widen (k := 37) (n := 67482) (by omega) (by omega) ?_
  refine lv_to (y := nI 1) (hu9) ?_
  refine lv_istore (lv' := [(5, .int (nI 1)), (4, .int (nI 0)), (3, .ref (A (50, 0, 0))), (2, .ref (A (60, 0, 0))), (1, .ref (A (0, 0, 0))), (0, .ref b)]) hx hb dL_law_1093 hl (by decide) rfl (fun ls hl => ?_)
  refine lv_aload_n hx hb dL_law_1095 rfl (lv_at hl 3 rfl) ?_
  refine lv_aload_n hx hb dL_law_1096 rfl (lv_at hl 5 rfl) ?_
  refine lv_iload hx hb dL_law_1097 (lv_at hl 1 rfl) ?_
  refine lv_iconst (v := nI 1) hx hb dL_law_1099 (by decide) ?_
  refine lv_iadd hx hb dL_law_1100 ?_
  refine lv_to (y := nI (0 + 1)) (nI_add 0 1) ?_
  refine va_sld hx hb hX hbl (Nat.not_le.mpr hbl) hS (vp_in_nI (show 0 + 1 < L by omega) (by omega)) dL_law_1101 ?_
  refine va_calli (va_runV (As := [.int (xs (nI (0 + 1)).toNatClampNeg)]) (rest := []) ⟨hx, hb, hml, hown, hts⟩ (m_nodeOf l ((hz0 _ _).trans nI_0.symm) ((hz0 _ _).trans nI_0.symm)) (cwV 1 hts gL_law_X6_nodeOf rfl rfl rfl (by decide +kernel) ⟨Nat.le_of_ble_eq_true rfl, Nat.le_of_ble_eq_true rfl⟩) (m_preV hF hK2 hCA hG hS (mo_obj) rfl) rfl rfl hl.1 rfl (lv_room (Nat.le_of_ble_eq_true rfl)) dL_law_1102 ⟨r1c (show 37 + 0 ≤ 2000 by omega), r1s (show 67482 + 0 ≤ 100000 by omega)⟩) hS (fun q _ h => h) (fun q h => h) (fun r_51 g_53 t9 H locs ht9 _ h_52 hB1 _ _ hS => ?_)
  have hG : g_P D (mo E C g_53 A (lay C g0 A ln EX)) A s.heap.size H := by rw [← ht9]; exact hB1
  refine lv_istore (lv' := [(6, .int r_51), (5, .int (nI 1)), (4, .int (nI 0)), (3, .ref (A (50, 0, 0))), (2, .ref (A (60, 0, 0))), (1, .ref (A (0, 0, 0))), (0, .ref b)]) hx hb dL_law_1105 hl (by decide) rfl (fun ls hl => ?_)
  refine lv_aload_n hx hb dL_law_1107 rfl (lv_at hl 4 rfl) ?_
  refine vp_callSi (W.runV (As := []) (rest := []) ⟨hx, hb, hml, hown, hts⟩ (m_thrown l ) (cwV 0 hts gL_law_X6_thrown rfl rfl rfl (by decide +kernel) ⟨Nat.le_of_ble_eq_true rfl, Nat.le_of_ble_eq_true rfl⟩) (m_preV hF hK2 hCA hG hS (mo_obj) rfl) rfl rfl hl.1 rfl (lv_room (Nat.le_of_ble_eq_true rfl)) dL_law_1108 ⟨r1c (show 37 + 0 ≤ 2000 by omega), r1s (show 67482 + 0 ≤ 100000 by omega)⟩) (fun r_54 h_55 => ?_)
  refine lv_to (y := nI 1) (h_55.trans h_52) ?_
  refine lv_iload hx hb dL_law_1111 (lv_at hl 1 rfl) ?_
  refine lv_icmp_eq (tgt := 1118) hx hb dL_law_1113 (by decide) (fun _ => ?_) (fun c => absurd (rfl) c)
  refine lv_iload hx hb dL_law_1118 (lv_at hl 1 rfl) ?_
  refine lv_if_ne (tgt := 1135) hx hb dL_law_1120 (by decide) (fun _ => ?_) (fun c => absurd c (by decide))
  refine lv_goto (tgt := 1610) hx hb dL_law_1135 (by decide) ?_
  refine W.widen (k := 2000) (n := 100000) (by omega) (by omega) ?_
  exact cont _ _ hS ls (lv_sub hl [2, 6] rfl)

set_option maxHeartbeats 4000000 in
set_option maxRecDepth 100000 in
theorem k_arrivedAt {p : Program} {e : Env} {s : State} {m : MethodId} {below : List Frame} {meth : Method} {c : Code} {Q : State → Prop} (l : Launch) (hst : l.stackTraces = false) {D : va_G} {C : g_C} {E : m_C} {b L : Nat} {xs : Nat → Int32} (hL : L ≤ 5) (hx : p.tables.exec = Jvm.exec) (hb : c.code = cL_law) (hml : c.maxLocals = 7) (hown : s.vm.findClass RL = some m.cls) (hts : ∀ w ∈ wsL_law, w.before #[Value.ref b] s = true) (hX : va_X b L xs s s.heap) (hbl : b < s.heap.size) (hF : g_F D C s.heap.size s) (hK2 : va_K D vwCl (m_T E) s) (hCA : va_Nw (.castable IAE IAE) s) {A ln : g_k → Nat} {EX EX1 : g_k → Option va_E} {g0 h0 : g_k → Nat → Int32} (hg0 : ∀ c j, g0 c j = 0) (hl0 : ∀ c, ln c = 0) (hz0 : ∀ c j, h0 c j = 0) {f : Nat → Int64} (hex : EX (50, 0, 0) = some (.inl (E.2, 1, .inr (.inl f)))) (hmo : ∀ c : g_k, 51 ≤ c.1 → EX c = mo E C h0 A EX1 c) {H : Heap} {locs : List Loc} (hG : g_P D (lay C g0 A ln EX) A s.heap.size H) (hS : va_S (g_A s.heap.size) s.heap H locs) (hL5 : 5 ≤ L) (cont : ∀ (H : Heap) (locs : List Loc), va_S (g_A s.heap.size) s.heap H locs → ∀ ls, lv_has ls 7 [(4, .int (nI 0)), (0, .ref b)] → W p l e room_1 s m #[Value.ref b] below meth c H locs 2000 100000 Q (F0 m 1610 ls [])) {ls : Array Slot} (hl : lv_has ls 7 [(4, .int (nI 0)), (3, .ref (A (50, 0, 0))), (2, .ref (A (60, 0, 0))), (1, .ref (A (0, 0, 0))), (0, .ref b)]) : W p l e room_1 s m #[Value.ref b] below meth c H locs 36 67476 Q (F0 m 1138 ls []) := by
  have hK := hF.1
  have hN := hF.2.1
  have hB : s.heap.size ≤ s.heap.size := Nat.le_refl _
  refine lv_aload_n hx hb dL_law_1138 rfl (lv_at hl 3 rfl) ?_
  refine lv_aload_n hx hb dL_law_1139 rfl (lv_at hl 4 rfl) ?_
  refine lv_iload hx hb dL_law_1140 (lv_at hl 0 rfl) ?_
  refine lv_iconst (v := nI 1) hx hb dL_law_1142 (by decide) ?_
  refine lv_iadd hx hb dL_law_1143 ?_
  refine lv_to (y := nI (0 + 1)) (nI_add 0 1) ?_
  refine va_sld hx hb hX hbl (Nat.not_le.mpr hbl) hS (vp_in_nI (show 0 + 1 < L by omega) (by omega)) dL_law_1144 ?_
  refine lv_aload_n hx hb dL_law_1145 rfl (lv_at hl 1 rfl) ?_
  refine va_calli (vx_runSW (As := [.ref (A (0, 0, 0)), .int (xs (nI (0 + 1)).toNatClampNeg), .ref (A (50, 0, 0))]) (rest := []) ⟨hx, hb, hml, hown, hts⟩ (p_arrivedAt l hst (E := E) (hl0 _) ((hg0 _ _).trans nI_0.symm)) (vx_cwSW 3 hts gL_law_L_arrivedAt rfl rfl rfl (by decide +kernel) ⟨Nat.le_of_ble_eq_true rfl, Nat.le_of_ble_eq_true rfl⟩) (g_preS hF hG hS) rfl rfl hl.1 rfl (lv_room (Nat.le_of_ble_eq_true rfl)) dL_law_1146 ⟨r1c (show 36 + 1 ≤ 2000 by omega), r1s (show 67476 + 6 ≤ 100000 by omega)⟩) hS (fun q _ h => h) (fun q h => h) (fun r9 u9 t9 H locs ht9 _ hu9 hB1 _ _ hS => ?_)
  have hG : g_P D (lay C g0 A ln EX) A s.heap.size H := by rw [← ht9]; exact hB1
  have hmv : mo E C h0 A (lay C g0 A ln EX) = lay C g0 A ln EX := mo_fix (fun c hc9 => by obtain ⟨a, i, j⟩ := c; exact (lay_ex (show 50 ≤ a by have : 51 ≤ a := hc9; omega)).trans (hmo _ hc9)) (fun _ _ => rfl)
  have hG : g_P D (mo E C h0 A (lay C g0 A ln EX)) A s.heap.size H := by rw [hmv]; exact hG
  refine W.widen (k := 37) (n := 67482) (by omega) (by omega) ?_
  refine lv_to (y := nI 1) (hu9) ?_
  refine lv_istore (lv' := [(5, .int (nI 1)), (4, .int (nI 0)), (3, .ref (A (50, 0, 0))), (2, .ref (A (60, 0, 0))), (1, .ref (A (0, 0, 0))), (0, .ref b)]) hx hb dL_law_1149 hl (by decide) rfl (fun ls hl => ?_)
  refine lv_aload_n hx hb dL_law_1151 rfl (lv_at hl 3 rfl) ?_
  refine lv_aload_n hx hb dL_law_1152 rfl (lv_at hl 5 rfl) ?_
  refine lv_iload hx hb dL_law_1153 (lv_at hl 1 rfl) ?_
  refine lv_iconst (v := nI 1) hx hb dL_law_1155 (by decide) ?_
  refine lv_iadd hx hb dL_law_1156 ?_
  refine lv_to (y := nI (0 + 1)) (nI_add 0 1) ?_
  refine va_sld hx hb hX hbl (Nat.not_le.mpr hbl) hS (vp_in_nI (show 0 + 1 < L by omega) (by omega)) dL_law_1157 ?_
  refine va_calli (va_runV (As := [.int (xs (nI (0 + 1)).toNatClampNeg)]) (rest := []) ⟨hx, hb, hml, hown, hts⟩ (m_arrivedAt l ((hz0 _ _).trans nI_0.symm) ((hz0 _ _).trans nI_0.symm)) (cwV 1 hts gL_law_X6_arrivedAt rfl rfl rfl (by decide +kernel) ⟨Nat.le_of_ble_eq_true rfl, Nat.le_of_ble_eq_true rfl⟩) (m_preV hF hK2 hCA hG hS (mo_obj) rfl) rfl rfl hl.1 rfl (lv_room (Nat.le_of_ble_eq_true rfl)) dL_law_1158 ⟨r1c (show 37 + 0 ≤ 2000 by omega), r1s (show 67482 + 0 ≤ 100000 by omega)⟩) hS (fun q _ h => h) (fun q h => h) (fun r_51 g_53 t9 H locs ht9 _ h_52 hB1 _ _ hS => ?_)
  have hG : g_P D (mo E C g_53 A (lay C g0 A ln EX)) A s.heap.size H := by rw [← ht9]; exact hB1
  refine lv_istore (lv' := [(6, .int r_51), (5, .int (nI 1)), (4, .int (nI 0)), (3, .ref (A (50, 0, 0))), (2, .ref (A (60, 0, 0))), (1, .ref (A (0, 0, 0))), (0, .ref b)]) hx hb dL_law_1161 hl (by decide) rfl (fun ls hl => ?_)
  refine lv_aload_n hx hb dL_law_1163 rfl (lv_at hl 4 rfl) ?_
  refine vp_callSi (W.runV (As := []) (rest := []) ⟨hx, hb, hml, hown, hts⟩ (m_thrown l ) (cwV 0 hts gL_law_X6_thrown rfl rfl rfl (by decide +kernel) ⟨Nat.le_of_ble_eq_true rfl, Nat.le_of_ble_eq_true rfl⟩) (m_preV hF hK2 hCA hG hS (mo_obj) rfl) rfl rfl hl.1 rfl (lv_room (Nat.le_of_ble_eq_true rfl)) dL_law_1164 ⟨r1c (show 37 + 0 ≤ 2000 by omega), r1s (show 67482 + 0 ≤ 100000 by omega)⟩) (fun r_54 h_55 => ?_)
  refine lv_to (y := nI 1) (h_55.trans h_52) ?_
  refine lv_iload hx hb dL_law_1167 (lv_at hl 1 rfl) ?_
  refine lv_icmp_eq (tgt := 1174) hx hb dL_law_1169 (by decide) (fun _ => ?_) (fun c => absurd (rfl) c)
  refine lv_iload hx hb dL_law_1174 (lv_at hl 1 rfl) ?_
  refine lv_if_ne (tgt := 1191) hx hb dL_law_1176 (by decide) (fun _ => ?_) (fun c => absurd c (by decide))
  refine lv_goto (tgt := 1610) hx hb dL_law_1191 (by decide) ?_
  refine W.widen (k := 2000) (n := 100000) (by omega) (by omega) ?_
  exact cont _ _ hS ls (lv_sub hl [2, 6] rfl)

set_option maxHeartbeats 4000000 in
set_option maxRecDepth 100000 in
theorem k_hops {p : Program} {e : Env} {s : State} {m : MethodId} {below : List Frame} {meth : Method} {c : Code} {Q : State → Prop} (l : Launch) (hst : l.stackTraces = false) {D : va_G} {C : g_C} {E : m_C} {b L : Nat} {xs : Nat → Int32} (hL : L ≤ 5) (hx : p.tables.exec = Jvm.exec) (hb : c.code = cL_law) (hml : c.maxLocals = 7) (hown : s.vm.findClass RL = some m.cls) (hts : ∀ w ∈ wsL_law, w.before #[Value.ref b] s = true) (hX : va_X b L xs s s.heap) (hbl : b < s.heap.size) (hF : g_F D C s.heap.size s) (hK2 : va_K D vwCl (m_T E) s) (hCA : va_Nw (.castable IAE IAE) s) {A ln : g_k → Nat} {EX EX1 : g_k → Option va_E} {g0 h0 : g_k → Nat → Int32} (hg0 : ∀ c j, g0 c j = 0) (hl0 : ∀ c, ln c = 0) (hz0 : ∀ c j, h0 c j = 0) {f : Nat → Int64} (hex : EX (50, 0, 0) = some (.inl (E.2, 1, .inr (.inl f)))) (hmo : ∀ c : g_k, 51 ≤ c.1 → EX c = mo E C h0 A EX1 c) {H : Heap} {locs : List Loc} (hG : g_P D (lay C g0 A ln EX) A s.heap.size H) (hS : va_S (g_A s.heap.size) s.heap H locs) (hL5 : 5 ≤ L) (cont : ∀ (H : Heap) (locs : List Loc), va_S (g_A s.heap.size) s.heap H locs → ∀ ls, lv_has ls 7 [(4, .int (nI 0)), (0, .ref b)] → W p l e room_1 s m #[Value.ref b] below meth c H locs 2000 100000 Q (F0 m 1610 ls [])) {ls : Array Slot} (hl : lv_has ls 7 [(4, .int (nI 0)), (3, .ref (A (50, 0, 0))), (2, .ref (A (60, 0, 0))), (1, .ref (A (0, 0, 0))), (0, .ref b)]) : W p l e room_1 s m #[Value.ref b] below meth c H locs 36 67476 Q (F0 m 1194 ls []) := by
  have hK := hF.1
  have hN := hF.2.1
  have hB : s.heap.size ≤ s.heap.size := Nat.le_refl _
  refine lv_aload_n hx hb dL_law_1194 rfl (lv_at hl 3 rfl) ?_
  refine lv_aload_n hx hb dL_law_1195 rfl (lv_at hl 4 rfl) ?_
  refine lv_iload hx hb dL_law_1196 (lv_at hl 0 rfl) ?_
  refine lv_iconst (v := nI 1) hx hb dL_law_1198 (by decide) ?_
  refine lv_iadd hx hb dL_law_1199 ?_
  refine lv_to (y := nI (0 + 1)) (nI_add 0 1) ?_
  refine va_sld hx hb hX hbl (Nat.not_le.mpr hbl) hS (vp_in_nI (show 0 + 1 < L by omega) (by omega)) dL_law_1200 ?_
  refine lv_aload_n hx hb dL_law_1201 rfl (lv_at hl 1 rfl) ?_
  refine va_calli (vx_runSW (As := [.ref (A (0, 0, 0)), .int (xs (nI (0 + 1)).toNatClampNeg), .ref (A (50, 0, 0))]) (rest := []) ⟨hx, hb, hml, hown, hts⟩ (p_hops l hst (E := E) (hl0 _) ((hg0 _ _).trans nI_0.symm)) (vx_cwSW 3 hts gL_law_L_hops rfl rfl rfl (by decide +kernel) ⟨Nat.le_of_ble_eq_true rfl, Nat.le_of_ble_eq_true rfl⟩) (g_preS hF hG hS) rfl rfl hl.1 rfl (lv_room (Nat.le_of_ble_eq_true rfl)) dL_law_1202 ⟨r1c (show 36 + 1 ≤ 2000 by omega), r1s (show 67476 + 6 ≤ 100000 by omega)⟩) hS (fun q _ h => h) (fun q h => h) (fun r9 u9 t9 H locs ht9 _ hu9 hB1 _ _ hS => ?_)
  have hG : g_P D (lay C g0 A ln EX) A s.heap.size H := by rw [← ht9]; exact hB1
  have hmv : mo E C h0 A (lay C g0 A ln EX) = lay C g0 A ln EX := mo_fix (fun c hc9 => by obtain ⟨a, i, j⟩ := c; exact (lay_ex (show 50 ≤ a by have : 51 ≤ a := hc9; omega)).trans (hmo _ hc9)) (fun _ _ => rfl)
  have hG : g_P D (mo E C h0 A (lay C g0 A ln EX)) A s.heap.size H := by rw [hmv]; exact hG
  refine W.widen (k := 37) (n := 67482) (by omega) (by omega) ?_
  refine lv_to (y := nI 1) (hu9) ?_
  refine lv_istore (lv' := [(5, .int (nI 1)), (4, .int (nI 0)), (3, .ref (A (50, 0, 0))), (2, .ref (A (60, 0, 0))), (1, .ref (A (0, 0, 0))), (0, .ref b)]) hx hb dL_law_1205 hl (by decide) rfl (fun ls hl => ?_)
  refine lv_aload_n hx hb dL_law_1207 rfl (lv_at hl 3 rfl) ?_
  refine lv_aload_n hx hb dL_law_1208 rfl (lv_at hl 5 rfl) ?_
  refine lv_iload hx hb dL_law_1209 (lv_at hl 1 rfl) ?_
  refine lv_iconst (v := nI 1) hx hb dL_law_1211 (by decide) ?_
  refine lv_iadd hx hb dL_law_1212 ?_
  refine lv_to (y := nI (0 + 1)) (nI_add 0 1) ?_
  refine va_sld hx hb hX hbl (Nat.not_le.mpr hbl) hS (vp_in_nI (show 0 + 1 < L by omega) (by omega)) dL_law_1213 ?_
  refine va_calli (va_runV (As := [.int (xs (nI (0 + 1)).toNatClampNeg)]) (rest := []) ⟨hx, hb, hml, hown, hts⟩ (m_hops l ((hz0 _ _).trans nI_0.symm) ((hz0 _ _).trans nI_0.symm)) (cwV 1 hts gL_law_X6_hops rfl rfl rfl (by decide +kernel) ⟨Nat.le_of_ble_eq_true rfl, Nat.le_of_ble_eq_true rfl⟩) (m_preV hF hK2 hCA hG hS (mo_obj) rfl) rfl rfl hl.1 rfl (lv_room (Nat.le_of_ble_eq_true rfl)) dL_law_1214 ⟨r1c (show 37 + 0 ≤ 2000 by omega), r1s (show 67482 + 0 ≤ 100000 by omega)⟩) hS (fun q _ h => h) (fun q h => h) (fun r_51 g_53 t9 H locs ht9 _ h_52 hB1 _ _ hS => ?_)
  have hG : g_P D (mo E C g_53 A (lay C g0 A ln EX)) A s.heap.size H := by rw [← ht9]; exact hB1
  refine lv_istore (lv' := [(6, .int r_51), (5, .int (nI 1)), (4, .int (nI 0)), (3, .ref (A (50, 0, 0))), (2, .ref (A (60, 0, 0))), (1, .ref (A (0, 0, 0))), (0, .ref b)]) hx hb dL_law_1217 hl (by decide) rfl (fun ls hl => ?_)
  refine lv_aload_n hx hb dL_law_1219 rfl (lv_at hl 4 rfl) ?_
  refine vp_callSi (W.runV (As := []) (rest := []) ⟨hx, hb, hml, hown, hts⟩ (m_thrown l ) (cwV 0 hts gL_law_X6_thrown rfl rfl rfl (by decide +kernel) ⟨Nat.le_of_ble_eq_true rfl, Nat.le_of_ble_eq_true rfl⟩) (m_preV hF hK2 hCA hG hS (mo_obj) rfl) rfl rfl hl.1 rfl (lv_room (Nat.le_of_ble_eq_true rfl)) dL_law_1220 ⟨r1c (show 37 + 0 ≤ 2000 by omega), r1s (show 67482 + 0 ≤ 100000 by omega)⟩) (fun r_54 h_55 => ?_)
  refine lv_to (y := nI 1) (h_55.trans h_52) ?_
  refine lv_iload hx hb dL_law_1223 (lv_at hl 1 rfl) ?_
  refine lv_icmp_eq (tgt := 1230) hx hb dL_law_1225 (by decide) (fun _ => ?_) (fun c => absurd (rfl) c)
  refine lv_iload hx hb dL_law_1230 (lv_at hl 1 rfl) ?_
  refine lv_if_ne (tgt := 1247) hx hb dL_law_1232 (by decide) (fun _ => ?_) (fun c => absurd c (by decide))
  refine lv_goto (tgt := 1610) hx hb dL_law_1247 (by decide) ?_
  refine W.widen (k := 2000) (n := 100000) (by omega) (by omega) ?_
  exact cont _ _ hS ls (lv_sub hl [2, 6] rfl)

set_option maxHeartbeats 4000000 in
set_option maxRecDepth 100000 in
theorem k_hopNode {p : Program} {e : Env} {s : State} {m : MethodId} {below : List Frame} {meth : Method} {c : Code} {Q : State → Prop} (l : Launch) (hst : l.stackTraces = false) {D : va_G} {C : g_C} {E : m_C} {b L : Nat} {xs : Nat → Int32} (hL : L ≤ 5) (hx : p.tables.exec = Jvm.exec) (hb : c.code = cL_law) (hml : c.maxLocals = 7) (hown : s.vm.findClass RL = some m.cls) (hts : ∀ w ∈ wsL_law, w.before #[Value.ref b] s = true) (hX : va_X b L xs s s.heap) (hbl : b < s.heap.size) (hF : g_F D C s.heap.size s) (hK2 : va_K D vwCl (m_T E) s) (hCA : va_Nw (.castable IAE IAE) s) {A ln : g_k → Nat} {EX EX1 : g_k → Option va_E} {g0 h0 : g_k → Nat → Int32} (hg0 : ∀ c j, g0 c j = 0) (hl0 : ∀ c, ln c = 0) (hz0 : ∀ c j, h0 c j = 0) {f : Nat → Int64} (hex : EX (50, 0, 0) = some (.inl (E.2, 1, .inr (.inl f)))) (hmo : ∀ c : g_k, 51 ≤ c.1 → EX c = mo E C h0 A EX1 c) {H : Heap} {locs : List Loc} (hG : g_P D (lay C g0 A ln EX) A s.heap.size H) (hS : va_S (g_A s.heap.size) s.heap H locs) (hL5 : 5 ≤ L) (cont : ∀ (H : Heap) (locs : List Loc), va_S (g_A s.heap.size) s.heap H locs → ∀ ls, lv_has ls 7 [(4, .int (nI 0)), (0, .ref b)] → W p l e room_1 s m #[Value.ref b] below meth c H locs 2000 100000 Q (F0 m 1610 ls [])) {ls : Array Slot} (hl : lv_has ls 7 [(4, .int (nI 0)), (3, .ref (A (50, 0, 0))), (2, .ref (A (60, 0, 0))), (1, .ref (A (0, 0, 0))), (0, .ref b)]) : W p l e room_1 s m #[Value.ref b] below meth c H locs 36 67476 Q (F0 m 1250 ls []) := by
  have hK := hF.1
  have hN := hF.2.1
  have hB : s.heap.size ≤ s.heap.size := Nat.le_refl _
  refine lv_aload_n hx hb dL_law_1250 rfl (lv_at hl 3 rfl) ?_
  refine lv_aload_n hx hb dL_law_1251 rfl (lv_at hl 4 rfl) ?_
  refine lv_iload hx hb dL_law_1252 (lv_at hl 0 rfl) ?_
  refine lv_iconst (v := nI 1) hx hb dL_law_1254 (by decide) ?_
  refine lv_iadd hx hb dL_law_1255 ?_
  refine lv_to (y := nI (0 + 1)) (nI_add 0 1) ?_
  refine va_sld hx hb hX hbl (Nat.not_le.mpr hbl) hS (vp_in_nI (show 0 + 1 < L by omega) (by omega)) dL_law_1256 ?_
  refine lv_aload_n hx hb dL_law_1257 rfl (lv_at hl 4 rfl) ?_
  refine lv_iload hx hb dL_law_1258 (lv_at hl 0 rfl) ?_
  refine lv_iconst (v := nI 2) hx hb dL_law_1260 (by decide) ?_
  refine lv_iadd hx hb dL_law_1261 ?_
  refine lv_to (y := nI (0 + 2)) (nI_add 0 2) ?_
  refine va_sld hx hb hX hbl (Nat.not_le.mpr hbl) hS (vp_in_nI (show 0 + 2 < L by omega) (by omega)) dL_law_1262 ?_
  refine lv_aload_n hx hb dL_law_1263 rfl (lv_at hl 1 rfl) ?_
  refine va_calli (vx_runSW (As := [.ref (A (0, 0, 0)), .int (xs (nI (0 + 1)).toNatClampNeg), .int (xs (nI (0 + 2)).toNatClampNeg), .ref (A (50, 0, 0))]) (rest := []) ⟨hx, hb, hml, hown, hts⟩ (p_hopNode l hst (E := E) (hl0 _) ((hg0 _ _).trans nI_0.symm)) (vx_cwSW 4 hts gL_law_L_hopNode rfl rfl rfl (by decide +kernel) ⟨Nat.le_of_ble_eq_true rfl, Nat.le_of_ble_eq_true rfl⟩) (g_preS hF hG hS) rfl rfl hl.1 rfl (lv_room (Nat.le_of_ble_eq_true rfl)) dL_law_1264 ⟨r1c (show 36 + 1 ≤ 2000 by omega), r1s (show 67476 + 6 ≤ 100000 by omega)⟩) hS (fun q _ h => h) (fun q h => h) (fun r9 u9 t9 H locs ht9 _ hu9 hB1 _ _ hS => ?_)
  have hG : g_P D (lay C g0 A ln EX) A s.heap.size H := by rw [← ht9]; exact hB1
  have hmv : mo E C h0 A (lay C g0 A ln EX) = lay C g0 A ln EX := mo_fix (fun c hc9 => by obtain ⟨a, i, j⟩ := c; exact (lay_ex (show 50 ≤ a by have : 51 ≤ a := hc9; omega)).trans (hmo _ hc9)) (fun _ _ => rfl)
  have hG : g_P D (mo E C h0 A (lay C g0 A ln EX)) A s.heap.size H := by rw [hmv]; exact hG
  refine W.widen (k := 37) (n := 67482) (by omega) (by omega) ?_
  refine lv_to (y := nI 1) (hu9) ?_
  refine lv_istore (lv' := [(5, .int (nI 1)), (4, .int (nI 0)), (3, .ref (A (50, 0, 0))), (2, .ref (A (60, 0, 0))), (1, .ref (A (0, 0, 0))), (0, .ref b)]) hx hb dL_law_1267 hl (by decide) rfl (fun ls hl => ?_)
  refine lv_aload_n hx hb dL_law_1269 rfl (lv_at hl 3 rfl) ?_
  refine lv_aload_n hx hb dL_law_1270 rfl (lv_at hl 5 rfl) ?_
  refine lv_iload hx hb dL_law_1271 (lv_at hl 1 rfl) ?_
  refine lv_iconst (v := nI 1) hx hb dL_law_1273 (by decide) ?_
  refine lv_iadd hx hb dL_law_1274 ?_
  refine lv_to (y := nI (0 + 1)) (nI_add 0 1) ?_
  refine va_sld hx hb hX hbl (Nat.not_le.mpr hbl) hS (vp_in_nI (show 0 + 1 < L by omega) (by omega)) dL_law_1275 ?_
  refine lv_aload_n hx hb dL_law_1276 rfl (lv_at hl 5 rfl) ?_
  refine lv_iload hx hb dL_law_1277 (lv_at hl 1 rfl) ?_
  refine lv_iconst (v := nI 2) hx hb dL_law_1279 (by decide) ?_
  refine lv_iadd hx hb dL_law_1280 ?_
  refine lv_to (y := nI (0 + 2)) (nI_add 0 2) ?_
  refine va_sld hx hb hX hbl (Nat.not_le.mpr hbl) hS (vp_in_nI (show 0 + 2 < L by omega) (by omega)) dL_law_1281 ?_
  refine va_calli (va_runV (As := [.int (xs (nI (0 + 1)).toNatClampNeg), .int (xs (nI (0 + 2)).toNatClampNeg)]) (rest := []) ⟨hx, hb, hml, hown, hts⟩ (m_hopNode l ((hz0 _ _).trans nI_0.symm) ((hz0 _ _).trans nI_0.symm)) (cwV 2 hts gL_law_X6_hopNode rfl rfl rfl (by decide +kernel) ⟨Nat.le_of_ble_eq_true rfl, Nat.le_of_ble_eq_true rfl⟩) (m_preV hF hK2 hCA hG hS (mo_obj) rfl) rfl rfl hl.1 rfl (lv_room (Nat.le_of_ble_eq_true rfl)) dL_law_1282 ⟨r1c (show 37 + 0 ≤ 2000 by omega), r1s (show 67482 + 0 ≤ 100000 by omega)⟩) hS (fun q _ h => h) (fun q h => h) (fun r_51 g_53 t9 H locs ht9 _ h_52 hB1 _ _ hS => ?_)
  have hG : g_P D (mo E C g_53 A (lay C g0 A ln EX)) A s.heap.size H := by rw [← ht9]; exact hB1
  refine lv_istore (lv' := [(6, .int r_51), (5, .int (nI 1)), (4, .int (nI 0)), (3, .ref (A (50, 0, 0))), (2, .ref (A (60, 0, 0))), (1, .ref (A (0, 0, 0))), (0, .ref b)]) hx hb dL_law_1285 hl (by decide) rfl (fun ls hl => ?_)
  refine lv_aload_n hx hb dL_law_1287 rfl (lv_at hl 4 rfl) ?_
  refine vp_callSi (W.runV (As := []) (rest := []) ⟨hx, hb, hml, hown, hts⟩ (m_thrown l ) (cwV 0 hts gL_law_X6_thrown rfl rfl rfl (by decide +kernel) ⟨Nat.le_of_ble_eq_true rfl, Nat.le_of_ble_eq_true rfl⟩) (m_preV hF hK2 hCA hG hS (mo_obj) rfl) rfl rfl hl.1 rfl (lv_room (Nat.le_of_ble_eq_true rfl)) dL_law_1288 ⟨r1c (show 37 + 0 ≤ 2000 by omega), r1s (show 67482 + 0 ≤ 100000 by omega)⟩) (fun r_54 h_55 => ?_)
  refine lv_to (y := nI 1) (h_55.trans h_52) ?_
  refine lv_iload hx hb dL_law_1291 (lv_at hl 1 rfl) ?_
  refine lv_icmp_eq (tgt := 1298) hx hb dL_law_1293 (by decide) (fun _ => ?_) (fun c => absurd (rfl) c)
  refine lv_iload hx hb dL_law_1298 (lv_at hl 1 rfl) ?_
  refine lv_if_ne (tgt := 1315) hx hb dL_law_1300 (by decide) (fun _ => ?_) (fun c => absurd c (by decide))
  refine lv_goto (tgt := 1610) hx hb dL_law_1315 (by decide) ?_
  refine W.widen (k := 2000) (n := 100000) (by omega) (by omega) ?_
  exact cont _ _ hS ls (lv_sub hl [2, 6] rfl)

set_option maxHeartbeats 4000000 in
set_option maxRecDepth 100000 in
theorem k_hopMinute {p : Program} {e : Env} {s : State} {m : MethodId} {below : List Frame} {meth : Method} {c : Code} {Q : State → Prop} (l : Launch) (hst : l.stackTraces = false) {D : va_G} {C : g_C} {E : m_C} {b L : Nat} {xs : Nat → Int32} (hL : L ≤ 5) (hx : p.tables.exec = Jvm.exec) (hb : c.code = cL_law) (hml : c.maxLocals = 7) (hown : s.vm.findClass RL = some m.cls) (hts : ∀ w ∈ wsL_law, w.before #[Value.ref b] s = true) (hX : va_X b L xs s s.heap) (hbl : b < s.heap.size) (hF : g_F D C s.heap.size s) (hK2 : va_K D vwCl (m_T E) s) (hCA : va_Nw (.castable IAE IAE) s) {A ln : g_k → Nat} {EX EX1 : g_k → Option va_E} {g0 h0 : g_k → Nat → Int32} (hg0 : ∀ c j, g0 c j = 0) (hl0 : ∀ c, ln c = 0) (hz0 : ∀ c j, h0 c j = 0) {f : Nat → Int64} (hex : EX (50, 0, 0) = some (.inl (E.2, 1, .inr (.inl f)))) (hmo : ∀ c : g_k, 51 ≤ c.1 → EX c = mo E C h0 A EX1 c) {H : Heap} {locs : List Loc} (hG : g_P D (lay C g0 A ln EX) A s.heap.size H) (hS : va_S (g_A s.heap.size) s.heap H locs) (hL5 : 5 ≤ L) (cont : ∀ (H : Heap) (locs : List Loc), va_S (g_A s.heap.size) s.heap H locs → ∀ ls, lv_has ls 7 [(4, .int (nI 0)), (0, .ref b)] → W p l e room_1 s m #[Value.ref b] below meth c H locs 2000 100000 Q (F0 m 1610 ls [])) {ls : Array Slot} (hl : lv_has ls 7 [(4, .int (nI 0)), (3, .ref (A (50, 0, 0))), (2, .ref (A (60, 0, 0))), (1, .ref (A (0, 0, 0))), (0, .ref b)]) : W p l e room_1 s m #[Value.ref b] below meth c H locs 36 67476 Q (F0 m 1318 ls []) := by
  have hK := hF.1
  have hN := hF.2.1
  have hB : s.heap.size ≤ s.heap.size := Nat.le_refl _
  refine lv_aload_n hx hb dL_law_1318 rfl (lv_at hl 3 rfl) ?_
  refine lv_aload_n hx hb dL_law_1319 rfl (lv_at hl 4 rfl) ?_
  refine lv_iload hx hb dL_law_1320 (lv_at hl 0 rfl) ?_
  refine lv_iconst (v := nI 1) hx hb dL_law_1322 (by decide) ?_
  refine lv_iadd hx hb dL_law_1323 ?_
  refine lv_to (y := nI (0 + 1)) (nI_add 0 1) ?_
  refine va_sld hx hb hX hbl (Nat.not_le.mpr hbl) hS (vp_in_nI (show 0 + 1 < L by omega) (by omega)) dL_law_1324 ?_
  refine lv_aload_n hx hb dL_law_1325 rfl (lv_at hl 4 rfl) ?_
  refine lv_iload hx hb dL_law_1326 (lv_at hl 0 rfl) ?_
  refine lv_iconst (v := nI 2) hx hb dL_law_1328 (by decide) ?_
  refine lv_iadd hx hb dL_law_1329 ?_
  refine lv_to (y := nI (0 + 2)) (nI_add 0 2) ?_
  refine va_sld hx hb hX hbl (Nat.not_le.mpr hbl) hS (vp_in_nI (show 0 + 2 < L by omega) (by omega)) dL_law_1330 ?_
  refine lv_aload_n hx hb dL_law_1331 rfl (lv_at hl 1 rfl) ?_
  refine va_calli (vx_runSW (As := [.ref (A (0, 0, 0)), .int (xs (nI (0 + 1)).toNatClampNeg), .int (xs (nI (0 + 2)).toNatClampNeg), .ref (A (50, 0, 0))]) (rest := []) ⟨hx, hb, hml, hown, hts⟩ (p_hopMinute l hst (E := E) (hl0 _) ((hg0 _ _).trans nI_0.symm)) (vx_cwSW 4 hts gL_law_L_hopMinute rfl rfl rfl (by decide +kernel) ⟨Nat.le_of_ble_eq_true rfl, Nat.le_of_ble_eq_true rfl⟩) (g_preS hF hG hS) rfl rfl hl.1 rfl (lv_room (Nat.le_of_ble_eq_true rfl)) dL_law_1332 ⟨r1c (show 36 + 1 ≤ 2000 by omega), r1s (show 67476 + 6 ≤ 100000 by omega)⟩) hS (fun q _ h => h) (fun q h => h) (fun r9 u9 t9 H locs ht9 _ hu9 hB1 _ _ hS => ?_)
  have hG : g_P D (lay C g0 A ln EX) A s.heap.size H := by rw [← ht9]; exact hB1
  have hmv : mo E C h0 A (lay C g0 A ln EX) = lay C g0 A ln EX := mo_fix (fun c hc9 => by obtain ⟨a, i, j⟩ := c; exact (lay_ex (show 50 ≤ a by have : 51 ≤ a := hc9; omega)).trans (hmo _ hc9)) (fun _ _ => rfl)
  have hG : g_P D (mo E C h0 A (lay C g0 A ln EX)) A s.heap.size H := by rw [hmv]; exact hG
  refine W.widen (k := 37) (n := 67482) (by omega) (by omega) ?_
  refine lv_to (y := nI 1) (hu9) ?_
  refine lv_istore (lv' := [(5, .int (nI 1)), (4, .int (nI 0)), (3, .ref (A (50, 0, 0))), (2, .ref (A (60, 0, 0))), (1, .ref (A (0, 0, 0))), (0, .ref b)]) hx hb dL_law_1335 hl (by decide) rfl (fun ls hl => ?_)
  refine lv_aload_n hx hb dL_law_1337 rfl (lv_at hl 3 rfl) ?_
  refine lv_aload_n hx hb dL_law_1338 rfl (lv_at hl 5 rfl) ?_
  refine lv_iload hx hb dL_law_1339 (lv_at hl 1 rfl) ?_
  refine lv_iconst (v := nI 1) hx hb dL_law_1341 (by decide) ?_
  refine lv_iadd hx hb dL_law_1342 ?_
  refine lv_to (y := nI (0 + 1)) (nI_add 0 1) ?_
  refine va_sld hx hb hX hbl (Nat.not_le.mpr hbl) hS (vp_in_nI (show 0 + 1 < L by omega) (by omega)) dL_law_1343 ?_
  refine lv_aload_n hx hb dL_law_1344 rfl (lv_at hl 5 rfl) ?_
  refine lv_iload hx hb dL_law_1345 (lv_at hl 1 rfl) ?_
  refine lv_iconst (v := nI 2) hx hb dL_law_1347 (by decide) ?_
  refine lv_iadd hx hb dL_law_1348 ?_
  refine lv_to (y := nI (0 + 2)) (nI_add 0 2) ?_
  refine va_sld hx hb hX hbl (Nat.not_le.mpr hbl) hS (vp_in_nI (show 0 + 2 < L by omega) (by omega)) dL_law_1349 ?_
  refine va_calli (va_runV (As := [.int (xs (nI (0 + 1)).toNatClampNeg), .int (xs (nI (0 + 2)).toNatClampNeg)]) (rest := []) ⟨hx, hb, hml, hown, hts⟩ (m_hopMinute l ((hz0 _ _).trans nI_0.symm) ((hz0 _ _).trans nI_0.symm)) (cwV 2 hts gL_law_X6_hopMinute rfl rfl rfl (by decide +kernel) ⟨Nat.le_of_ble_eq_true rfl, Nat.le_of_ble_eq_true rfl⟩) (m_preV hF hK2 hCA hG hS (mo_obj) rfl) rfl rfl hl.1 rfl (lv_room (Nat.le_of_ble_eq_true rfl)) dL_law_1350 ⟨r1c (show 37 + 0 ≤ 2000 by omega), r1s (show 67482 + 0 ≤ 100000 by omega)⟩) hS (fun q _ h => h) (fun q h => h) (fun r_51 g_53 t9 H locs ht9 _ h_52 hB1 _ _ hS => ?_)
  have hG : g_P D (mo E C g_53 A (lay C g0 A ln EX)) A s.heap.size H := by rw [← ht9]; exact hB1
  refine lv_istore (lv' := [(6, .int r_51), (5, .int (nI 1)), (4, .int (nI 0)), (3, .ref (A (50, 0, 0))), (2, .ref (A (60, 0, 0))), (1, .ref (A (0, 0, 0))), (0, .ref b)]) hx hb dL_law_1353 hl (by decide) rfl (fun ls hl => ?_)
  refine lv_aload_n hx hb dL_law_1355 rfl (lv_at hl 4 rfl) ?_
  refine vp_callSi (W.runV (As := []) (rest := []) ⟨hx, hb, hml, hown, hts⟩ (m_thrown l ) (cwV 0 hts gL_law_X6_thrown rfl rfl rfl (by decide +kernel) ⟨Nat.le_of_ble_eq_true rfl, Nat.le_of_ble_eq_true rfl⟩) (m_preV hF hK2 hCA hG hS (mo_obj) rfl) rfl rfl hl.1 rfl (lv_room (Nat.le_of_ble_eq_true rfl)) dL_law_1356 ⟨r1c (show 37 + 0 ≤ 2000 by omega), r1s (show 67482 + 0 ≤ 100000 by omega)⟩) (fun r_54 h_55 => ?_)
  refine lv_to (y := nI 1) (h_55.trans h_52) ?_
  refine lv_iload hx hb dL_law_1359 (lv_at hl 1 rfl) ?_
  refine lv_icmp_eq (tgt := 1366) hx hb dL_law_1361 (by decide) (fun _ => ?_) (fun c => absurd (rfl) c)
  refine lv_iload hx hb dL_law_1366 (lv_at hl 1 rfl) ?_
  refine lv_if_ne (tgt := 1383) hx hb dL_law_1368 (by decide) (fun _ => ?_) (fun c => absurd c (by decide))
  refine lv_goto (tgt := 1610) hx hb dL_law_1383 (by decide) ?_
  refine W.widen (k := 2000) (n := 100000) (by omega) (by omega) ?_
  exact cont _ _ hS ls (lv_sub hl [2, 6] rfl)

set_option maxHeartbeats 4000000 in
set_option maxRecDepth 100000 in
theorem k_blocked {p : Program} {e : Env} {s : State} {m : MethodId} {below : List Frame} {meth : Method} {c : Code} {Q : State → Prop} (l : Launch) (hst : l.stackTraces = false) {D : va_G} {C : g_C} {E : m_C} {b L : Nat} {xs : Nat → Int32} (hL : L ≤ 5) (hx : p.tables.exec = Jvm.exec) (hb : c.code = cL_law) (hml : c.maxLocals = 7) (hown : s.vm.findClass RL = some m.cls) (hts : ∀ w ∈ wsL_law, w.before #[Value.ref b] s = true) (hX : va_X b L xs s s.heap) (hbl : b < s.heap.size) (hF : g_F D C s.heap.size s) (hK2 : va_K D vwCl (m_T E) s) (hCA : va_Nw (.castable IAE IAE) s) {A ln : g_k → Nat} {EX EX1 : g_k → Option va_E} {g0 h0 : g_k → Nat → Int32} (hg0 : ∀ c j, g0 c j = 0) (hl0 : ∀ c, ln c = 0) (hz0 : ∀ c j, h0 c j = 0) {f : Nat → Int64} (hex : EX (50, 0, 0) = some (.inl (E.2, 1, .inr (.inl f)))) (hmo : ∀ c : g_k, 51 ≤ c.1 → EX c = mo E C h0 A EX1 c) {H : Heap} {locs : List Loc} (hG : g_P D (lay C g0 A ln EX) A s.heap.size H) (hS : va_S (g_A s.heap.size) s.heap H locs) (hL5 : 5 ≤ L) (cont : ∀ (H : Heap) (locs : List Loc), va_S (g_A s.heap.size) s.heap H locs → ∀ ls, lv_has ls 7 [(4, .int (nI 0)), (0, .ref b)] → W p l e room_1 s m #[Value.ref b] below meth c H locs 2000 100000 Q (F0 m 1610 ls [])) {ls : Array Slot} (hl : lv_has ls 7 [(4, .int (nI 0)), (3, .ref (A (50, 0, 0))), (2, .ref (A (60, 0, 0))), (1, .ref (A (0, 0, 0))), (0, .ref b)]) : W p l e room_1 s m #[Value.ref b] below meth c H locs 36 67476 Q (F0 m 1386 ls []) := by
  have hK := hF.1
  have hN := hF.2.1
  have hB : s.heap.size ≤ s.heap.size := Nat.le_refl _
  refine lv_aload_n hx hb dL_law_1386 rfl (lv_at hl 3 rfl) ?_
  refine lv_aload_n hx hb dL_law_1387 rfl (lv_at hl 4 rfl) ?_
  refine lv_iload hx hb dL_law_1388 (lv_at hl 0 rfl) ?_
  refine lv_iconst (v := nI 1) hx hb dL_law_1390 (by decide) ?_
  refine lv_iadd hx hb dL_law_1391 ?_
  refine lv_to (y := nI (0 + 1)) (nI_add 0 1) ?_
  refine va_sld hx hb hX hbl (Nat.not_le.mpr hbl) hS (vp_in_nI (show 0 + 1 < L by omega) (by omega)) dL_law_1392 ?_
  refine lv_aload_n hx hb dL_law_1393 rfl (lv_at hl 1 rfl) ?_
  refine va_calli (vx_runSW (As := [.ref (A (0, 0, 0)), .int (xs (nI (0 + 1)).toNatClampNeg), .ref (A (50, 0, 0))]) (rest := []) ⟨hx, hb, hml, hown, hts⟩ (p_blocked l hst (E := E) (hl0 _) ((hg0 _ _).trans nI_0.symm)) (vx_cwSW 3 hts gL_law_L_blocked rfl rfl rfl (by decide +kernel) ⟨Nat.le_of_ble_eq_true rfl, Nat.le_of_ble_eq_true rfl⟩) (g_preS hF hG hS) rfl rfl hl.1 rfl (lv_room (Nat.le_of_ble_eq_true rfl)) dL_law_1394 ⟨r1c (show 36 + 1 ≤ 2000 by omega), r1s (show 67476 + 6 ≤ 100000 by omega)⟩) hS (fun q _ h => h) (fun q h => h) (fun r9 u9 t9 H locs ht9 _ hu9 hB1 _ _ hS => ?_)
  have hG : g_P D (lay C g0 A ln EX) A s.heap.size H := by rw [← ht9]; exact hB1
  have hmv : mo E C h0 A (lay C g0 A ln EX) = lay C g0 A ln EX := mo_fix (fun c hc9 => by obtain ⟨a, i, j⟩ := c; exact (lay_ex (show 50 ≤ a by have : 51 ≤ a := hc9; omega)).trans (hmo _ hc9)) (fun _ _ => rfl)
  have hG : g_P D (mo E C h0 A (lay C g0 A ln EX)) A s.heap.size H := by rw [hmv]; exact hG
  refine W.widen (k := 37) (n := 67482) (by omega) (by omega) ?_
  refine lv_to (y := nI 1) (hu9) ?_
  refine lv_istore (lv' := [(5, .int (nI 1)), (4, .int (nI 0)), (3, .ref (A (50, 0, 0))), (2, .ref (A (60, 0, 0))), (1, .ref (A (0, 0, 0))), (0, .ref b)]) hx hb dL_law_1397 hl (by decide) rfl (fun ls hl => ?_)
  refine lv_aload_n hx hb dL_law_1399 rfl (lv_at hl 3 rfl) ?_
  refine lv_aload_n hx hb dL_law_1400 rfl (lv_at hl 5 rfl) ?_
  refine lv_iload hx hb dL_law_1401 (lv_at hl 1 rfl) ?_
  refine lv_iconst (v := nI 1) hx hb dL_law_1403 (by decide) ?_
  refine lv_iadd hx hb dL_law_1404 ?_
  refine lv_to (y := nI (0 + 1)) (nI_add 0 1) ?_
  refine va_sld hx hb hX hbl (Nat.not_le.mpr hbl) hS (vp_in_nI (show 0 + 1 < L by omega) (by omega)) dL_law_1405 ?_
  refine va_calli (va_runV (As := [.int (xs (nI (0 + 1)).toNatClampNeg)]) (rest := []) ⟨hx, hb, hml, hown, hts⟩ (m_blocked l ((hz0 _ _).trans nI_0.symm) ((hz0 _ _).trans nI_0.symm)) (cwV 1 hts gL_law_X6_blocked rfl rfl rfl (by decide +kernel) ⟨Nat.le_of_ble_eq_true rfl, Nat.le_of_ble_eq_true rfl⟩) (m_preV hF hK2 hCA hG hS (mo_obj) rfl) rfl rfl hl.1 rfl (lv_room (Nat.le_of_ble_eq_true rfl)) dL_law_1406 ⟨r1c (show 37 + 0 ≤ 2000 by omega), r1s (show 67482 + 0 ≤ 100000 by omega)⟩) hS (fun q _ h => h) (fun q h => h) (fun r_51 g_53 t9 H locs ht9 _ h_52 hB1 _ _ hS => ?_)
  have hG : g_P D (mo E C g_53 A (lay C g0 A ln EX)) A s.heap.size H := by rw [← ht9]; exact hB1
  refine lv_istore (lv' := [(6, .int r_51), (5, .int (nI 1)), (4, .int (nI 0)), (3, .ref (A (50, 0, 0))), (2, .ref (A (60, 0, 0))), (1, .ref (A (0, 0, 0))), (0, .ref b)]) hx hb dL_law_1409 hl (by decide) rfl (fun ls hl => ?_)
  refine lv_aload_n hx hb dL_law_1411 rfl (lv_at hl 4 rfl) ?_
  refine vp_callSi (W.runV (As := []) (rest := []) ⟨hx, hb, hml, hown, hts⟩ (m_thrown l ) (cwV 0 hts gL_law_X6_thrown rfl rfl rfl (by decide +kernel) ⟨Nat.le_of_ble_eq_true rfl, Nat.le_of_ble_eq_true rfl⟩) (m_preV hF hK2 hCA hG hS (mo_obj) rfl) rfl rfl hl.1 rfl (lv_room (Nat.le_of_ble_eq_true rfl)) dL_law_1412 ⟨r1c (show 37 + 0 ≤ 2000 by omega), r1s (show 67482 + 0 ≤ 100000 by omega)⟩) (fun r_54 h_55 => ?_)
  refine lv_to (y := nI 1) (h_55.trans h_52) ?_
  refine lv_iload hx hb dL_law_1415 (lv_at hl 1 rfl) ?_
  refine lv_icmp_eq (tgt := 1422) hx hb dL_law_1417 (by decide) (fun _ => ?_) (fun c => absurd (rfl) c)
  refine lv_iload hx hb dL_law_1422 (lv_at hl 1 rfl) ?_
  refine lv_if_ne (tgt := 1439) hx hb dL_law_1424 (by decide) (fun _ => ?_) (fun c => absurd c (by decide))
  refine lv_goto (tgt := 1610) hx hb dL_law_1439 (by decide) ?_
  refine W.widen (k := 2000) (n := 100000) (by omega) (by omega) ?_
  exact cont _ _ hS ls (lv_sub hl [2, 6] rfl)

set_option maxHeartbeats 4000000 in
set_option maxRecDepth 100000 in
theorem k_load {p : Program} {e : Env} {s : State} {m : MethodId} {below : List Frame} {meth : Method} {c : Code} {Q : State → Prop} (l : Launch) (hst : l.stackTraces = false) {D : va_G} {C : g_C} {E : m_C} {b L : Nat} {xs : Nat → Int32} (hL : L ≤ 5) (hx : p.tables.exec = Jvm.exec) (hb : c.code = cL_law) (hml : c.maxLocals = 7) (hown : s.vm.findClass RL = some m.cls) (hts : ∀ w ∈ wsL_law, w.before #[Value.ref b] s = true) (hX : va_X b L xs s s.heap) (hbl : b < s.heap.size) (hF : g_F D C s.heap.size s) (hK2 : va_K D vwCl (m_T E) s) (hCA : va_Nw (.castable IAE IAE) s) {A ln : g_k → Nat} {EX EX1 : g_k → Option va_E} {g0 h0 : g_k → Nat → Int32} (hg0 : ∀ c j, g0 c j = 0) (hl0 : ∀ c, ln c = 0) (hz0 : ∀ c j, h0 c j = 0) {f : Nat → Int64} (hex : EX (50, 0, 0) = some (.inl (E.2, 1, .inr (.inl f)))) (hmo : ∀ c : g_k, 51 ≤ c.1 → EX c = mo E C h0 A EX1 c) {H : Heap} {locs : List Loc} (hG : g_P D (lay C g0 A ln EX) A s.heap.size H) (hS : va_S (g_A s.heap.size) s.heap H locs) (hL5 : 5 ≤ L) (cont : ∀ (H : Heap) (locs : List Loc), va_S (g_A s.heap.size) s.heap H locs → ∀ ls, lv_has ls 7 [(4, .int (nI 0)), (0, .ref b)] → W p l e room_1 s m #[Value.ref b] below meth c H locs 2000 100000 Q (F0 m 1610 ls [])) {ls : Array Slot} (hl : lv_has ls 7 [(4, .int (nI 0)), (3, .ref (A (50, 0, 0))), (2, .ref (A (60, 0, 0))), (1, .ref (A (0, 0, 0))), (0, .ref b)]) : W p l e room_1 s m #[Value.ref b] below meth c H locs 36 67476 Q (F0 m 1442 ls []) := by
  have hK := hF.1
  have hN := hF.2.1
  have hB : s.heap.size ≤ s.heap.size := Nat.le_refl _
  refine lv_aload_n hx hb dL_law_1442 rfl (lv_at hl 3 rfl) ?_
  refine lv_aload_n hx hb dL_law_1443 rfl (lv_at hl 4 rfl) ?_
  refine lv_iload hx hb dL_law_1444 (lv_at hl 0 rfl) ?_
  refine lv_iconst (v := nI 1) hx hb dL_law_1446 (by decide) ?_
  refine lv_iadd hx hb dL_law_1447 ?_
  refine lv_to (y := nI (0 + 1)) (nI_add 0 1) ?_
  refine va_sld hx hb hX hbl (Nat.not_le.mpr hbl) hS (vp_in_nI (show 0 + 1 < L by omega) (by omega)) dL_law_1448 ?_
  refine lv_aload_n hx hb dL_law_1449 rfl (lv_at hl 1 rfl) ?_
  refine va_calli (vx_runSW (As := [.ref (A (0, 0, 0)), .int (xs (nI (0 + 1)).toNatClampNeg), .ref (A (50, 0, 0))]) (rest := []) ⟨hx, hb, hml, hown, hts⟩ (p_load l hst (E := E) ((hg0 _ _).trans nI_0.symm)) (vx_cwSW 3 hts gL_law_L_load rfl rfl rfl (by decide +kernel) ⟨Nat.le_of_ble_eq_true rfl, Nat.le_of_ble_eq_true rfl⟩) (g_preS hF hG hS) rfl rfl hl.1 rfl (lv_room (Nat.le_of_ble_eq_true rfl)) dL_law_1450 ⟨r1c (show 36 + 1 ≤ 2000 by omega), r1s (show 67476 + 6 ≤ 100000 by omega)⟩) hS (fun q _ h => h) (fun q h => h) (fun r9 u9 t9 H locs ht9 _ hu9 hB1 _ _ hS => ?_)
  have hG : g_P D (lay C g0 A ln EX) A s.heap.size H := by rw [← ht9]; exact hB1
  have hmv : mo E C h0 A (lay C g0 A ln EX) = lay C g0 A ln EX := mo_fix (fun c hc9 => by obtain ⟨a, i, j⟩ := c; exact (lay_ex (show 50 ≤ a by have : 51 ≤ a := hc9; omega)).trans (hmo _ hc9)) (fun _ _ => rfl)
  have hG : g_P D (mo E C h0 A (lay C g0 A ln EX)) A s.heap.size H := by rw [hmv]; exact hG
  refine W.widen (k := 37) (n := 67482) (by omega) (by omega) ?_
  refine lv_to (y := nI 1) (hu9) ?_
  refine lv_istore (lv' := [(5, .int (nI 1)), (4, .int (nI 0)), (3, .ref (A (50, 0, 0))), (2, .ref (A (60, 0, 0))), (1, .ref (A (0, 0, 0))), (0, .ref b)]) hx hb dL_law_1453 hl (by decide) rfl (fun ls hl => ?_)
  refine lv_aload_n hx hb dL_law_1455 rfl (lv_at hl 3 rfl) ?_
  refine lv_aload_n hx hb dL_law_1456 rfl (lv_at hl 5 rfl) ?_
  refine lv_iload hx hb dL_law_1457 (lv_at hl 1 rfl) ?_
  refine lv_iconst (v := nI 1) hx hb dL_law_1459 (by decide) ?_
  refine lv_iadd hx hb dL_law_1460 ?_
  refine lv_to (y := nI (0 + 1)) (nI_add 0 1) ?_
  refine va_sld hx hb hX hbl (Nat.not_le.mpr hbl) hS (vp_in_nI (show 0 + 1 < L by omega) (by omega)) dL_law_1461 ?_
  refine va_calli (va_runV (As := [.int (xs (nI (0 + 1)).toNatClampNeg)]) (rest := []) ⟨hx, hb, hml, hown, hts⟩ (m_load l ((hz0 _ _).trans nI_0.symm) ((hz0 _ _).trans nI_0.symm)) (cwV 1 hts gL_law_X6_load rfl rfl rfl (by decide +kernel) ⟨Nat.le_of_ble_eq_true rfl, Nat.le_of_ble_eq_true rfl⟩) (m_preV hF hK2 hCA hG hS (mo_obj) rfl) rfl rfl hl.1 rfl (lv_room (Nat.le_of_ble_eq_true rfl)) dL_law_1462 ⟨r1c (show 37 + 0 ≤ 2000 by omega), r1s (show 67482 + 0 ≤ 100000 by omega)⟩) hS (fun q _ h => h) (fun q h => h) (fun r_51 g_53 t9 H locs ht9 _ h_52 hB1 _ _ hS => ?_)
  have hG : g_P D (mo E C g_53 A (lay C g0 A ln EX)) A s.heap.size H := by rw [← ht9]; exact hB1
  refine lv_istore (lv' := [(6, .int r_51), (5, .int (nI 1)), (4, .int (nI 0)), (3, .ref (A (50, 0, 0))), (2, .ref (A (60, 0, 0))), (1, .ref (A (0, 0, 0))), (0, .ref b)]) hx hb dL_law_1465 hl (by decide) rfl (fun ls hl => ?_)
  refine lv_aload_n hx hb dL_law_1467 rfl (lv_at hl 4 rfl) ?_
  refine vp_callSi (W.runV (As := []) (rest := []) ⟨hx, hb, hml, hown, hts⟩ (m_thrown l ) (cwV 0 hts gL_law_X6_thrown rfl rfl rfl (by decide +kernel) ⟨Nat.le_of_ble_eq_true rfl, Nat.le_of_ble_eq_true rfl⟩) (m_preV hF hK2 hCA hG hS (mo_obj) rfl) rfl rfl hl.1 rfl (lv_room (Nat.le_of_ble_eq_true rfl)) dL_law_1468 ⟨r1c (show 37 + 0 ≤ 2000 by omega), r1s (show 67482 + 0 ≤ 100000 by omega)⟩) (fun r_54 h_55 => ?_)
  refine lv_to (y := nI 1) (h_55.trans h_52) ?_
  refine lv_iload hx hb dL_law_1471 (lv_at hl 1 rfl) ?_
  refine lv_icmp_eq (tgt := 1478) hx hb dL_law_1473 (by decide) (fun _ => ?_) (fun c => absurd (rfl) c)
  refine lv_iload hx hb dL_law_1478 (lv_at hl 1 rfl) ?_
  refine lv_if_ne (tgt := 1495) hx hb dL_law_1480 (by decide) (fun _ => ?_) (fun c => absurd c (by decide))
  refine lv_goto (tgt := 1610) hx hb dL_law_1495 (by decide) ?_
  refine W.widen (k := 2000) (n := 100000) (by omega) (by omega) ?_
  exact cont _ _ hS ls (lv_sub hl [2, 6] rfl)

set_option maxHeartbeats 4000000 in
set_option maxRecDepth 100000 in
theorem k_relayOf {p : Program} {e : Env} {s : State} {m : MethodId} {below : List Frame} {meth : Method} {c : Code} {Q : State → Prop} (l : Launch) (hst : l.stackTraces = false) {D : va_G} {C : g_C} {E : m_C} {b L : Nat} {xs : Nat → Int32} (hL : L ≤ 5) (hx : p.tables.exec = Jvm.exec) (hb : c.code = cL_law) (hml : c.maxLocals = 7) (hown : s.vm.findClass RL = some m.cls) (hts : ∀ w ∈ wsL_law, w.before #[Value.ref b] s = true) (hX : va_X b L xs s s.heap) (hbl : b < s.heap.size) (hF : g_F D C s.heap.size s) (hK2 : va_K D vwCl (m_T E) s) (hCA : va_Nw (.castable IAE IAE) s) {A ln : g_k → Nat} {EX EX1 : g_k → Option va_E} {g0 h0 : g_k → Nat → Int32} (hg0 : ∀ c j, g0 c j = 0) (hl0 : ∀ c, ln c = 0) (hz0 : ∀ c j, h0 c j = 0) {f : Nat → Int64} (hex : EX (50, 0, 0) = some (.inl (E.2, 1, .inr (.inl f)))) (hmo : ∀ c : g_k, 51 ≤ c.1 → EX c = mo E C h0 A EX1 c) {H : Heap} {locs : List Loc} (hG : g_P D (lay C g0 A ln EX) A s.heap.size H) (hS : va_S (g_A s.heap.size) s.heap H locs) (hL5 : 5 ≤ L) (cont : ∀ (H : Heap) (locs : List Loc), va_S (g_A s.heap.size) s.heap H locs → ∀ ls, lv_has ls 7 [(4, .int (nI 0)), (0, .ref b)] → W p l e room_1 s m #[Value.ref b] below meth c H locs 2000 100000 Q (F0 m 1610 ls [])) {ls : Array Slot} (hl : lv_has ls 7 [(4, .int (nI 0)), (3, .ref (A (50, 0, 0))), (2, .ref (A (60, 0, 0))), (1, .ref (A (0, 0, 0))), (0, .ref b)]) : W p l e room_1 s m #[Value.ref b] below meth c H locs 36 67476 Q (F0 m 1498 ls []) := by
  have hK := hF.1
  have hN := hF.2.1
  have hB : s.heap.size ≤ s.heap.size := Nat.le_refl _
  refine lv_aload_n hx hb dL_law_1498 rfl (lv_at hl 3 rfl) ?_
  refine lv_aload_n hx hb dL_law_1499 rfl (lv_at hl 4 rfl) ?_
  refine lv_iload hx hb dL_law_1500 (lv_at hl 0 rfl) ?_
  refine lv_iconst (v := nI 1) hx hb dL_law_1502 (by decide) ?_
  refine lv_iadd hx hb dL_law_1503 ?_
  refine lv_to (y := nI (0 + 1)) (nI_add 0 1) ?_
  refine va_sld hx hb hX hbl (Nat.not_le.mpr hbl) hS (vp_in_nI (show 0 + 1 < L by omega) (by omega)) dL_law_1504 ?_
  refine lv_aload_n hx hb dL_law_1505 rfl (lv_at hl 1 rfl) ?_
  refine va_calli (vx_runSW (As := [.ref (A (0, 0, 0)), .int (xs (nI (0 + 1)).toNatClampNeg), .ref (A (50, 0, 0))]) (rest := []) ⟨hx, hb, hml, hown, hts⟩ (p_relayOf l hst (E := E) ((hg0 _ _).trans nI_0.symm)) (vx_cwSW 3 hts gL_law_L_relayOf rfl rfl rfl (by decide +kernel) ⟨Nat.le_of_ble_eq_true rfl, Nat.le_of_ble_eq_true rfl⟩) (g_preS hF hG hS) rfl rfl hl.1 rfl (lv_room (Nat.le_of_ble_eq_true rfl)) dL_law_1506 ⟨r1c (show 36 + 1 ≤ 2000 by omega), r1s (show 67476 + 6 ≤ 100000 by omega)⟩) hS (fun q _ h => h) (fun q h => h) (fun r9 u9 t9 H locs ht9 _ hu9 hB1 _ _ hS => ?_)
  have hG : g_P D (lay C g0 A ln EX) A s.heap.size H := by rw [← ht9]; exact hB1
  have hmv : mo E C h0 A (lay C g0 A ln EX) = lay C g0 A ln EX := mo_fix (fun c hc9 => by obtain ⟨a, i, j⟩ := c; exact (lay_ex (show 50 ≤ a by have : 51 ≤ a := hc9; omega)).trans (hmo _ hc9)) (fun _ _ => rfl)
  have hG : g_P D (mo E C h0 A (lay C g0 A ln EX)) A s.heap.size H := by rw [hmv]; exact hG
  refine W.widen (k := 37) (n := 67482) (by omega) (by omega) ?_
  refine lv_to (y := nI 1) (hu9) ?_
  refine lv_istore (lv' := [(5, .int (nI 1)), (4, .int (nI 0)), (3, .ref (A (50, 0, 0))), (2, .ref (A (60, 0, 0))), (1, .ref (A (0, 0, 0))), (0, .ref b)]) hx hb dL_law_1509 hl (by decide) rfl (fun ls hl => ?_)
  refine lv_aload_n hx hb dL_law_1511 rfl (lv_at hl 3 rfl) ?_
  refine lv_aload_n hx hb dL_law_1512 rfl (lv_at hl 5 rfl) ?_
  refine lv_iload hx hb dL_law_1513 (lv_at hl 1 rfl) ?_
  refine lv_iconst (v := nI 1) hx hb dL_law_1515 (by decide) ?_
  refine lv_iadd hx hb dL_law_1516 ?_
  refine lv_to (y := nI (0 + 1)) (nI_add 0 1) ?_
  refine va_sld hx hb hX hbl (Nat.not_le.mpr hbl) hS (vp_in_nI (show 0 + 1 < L by omega) (by omega)) dL_law_1517 ?_
  refine va_calli (va_runV (As := [.int (xs (nI (0 + 1)).toNatClampNeg)]) (rest := []) ⟨hx, hb, hml, hown, hts⟩ (m_relayOf l ((hz0 _ _).trans nI_0.symm) ((hz0 _ _).trans nI_0.symm)) (cwV 1 hts gL_law_X6_relayOf rfl rfl rfl (by decide +kernel) ⟨Nat.le_of_ble_eq_true rfl, Nat.le_of_ble_eq_true rfl⟩) (m_preV hF hK2 hCA hG hS (mo_obj) rfl) rfl rfl hl.1 rfl (lv_room (Nat.le_of_ble_eq_true rfl)) dL_law_1518 ⟨r1c (show 37 + 0 ≤ 2000 by omega), r1s (show 67482 + 0 ≤ 100000 by omega)⟩) hS (fun q _ h => h) (fun q h => h) (fun r_51 g_53 t9 H locs ht9 _ h_52 hB1 _ _ hS => ?_)
  have hG : g_P D (mo E C g_53 A (lay C g0 A ln EX)) A s.heap.size H := by rw [← ht9]; exact hB1
  refine lv_istore (lv' := [(6, .int r_51), (5, .int (nI 1)), (4, .int (nI 0)), (3, .ref (A (50, 0, 0))), (2, .ref (A (60, 0, 0))), (1, .ref (A (0, 0, 0))), (0, .ref b)]) hx hb dL_law_1521 hl (by decide) rfl (fun ls hl => ?_)
  refine lv_aload_n hx hb dL_law_1523 rfl (lv_at hl 4 rfl) ?_
  refine vp_callSi (W.runV (As := []) (rest := []) ⟨hx, hb, hml, hown, hts⟩ (m_thrown l ) (cwV 0 hts gL_law_X6_thrown rfl rfl rfl (by decide +kernel) ⟨Nat.le_of_ble_eq_true rfl, Nat.le_of_ble_eq_true rfl⟩) (m_preV hF hK2 hCA hG hS (mo_obj) rfl) rfl rfl hl.1 rfl (lv_room (Nat.le_of_ble_eq_true rfl)) dL_law_1524 ⟨r1c (show 37 + 0 ≤ 2000 by omega), r1s (show 67482 + 0 ≤ 100000 by omega)⟩) (fun r_54 h_55 => ?_)
  refine lv_to (y := nI 1) (h_55.trans h_52) ?_
  refine lv_iload hx hb dL_law_1527 (lv_at hl 1 rfl) ?_
  refine lv_icmp_eq (tgt := 1534) hx hb dL_law_1529 (by decide) (fun _ => ?_) (fun c => absurd (rfl) c)
  refine lv_iload hx hb dL_law_1534 (lv_at hl 1 rfl) ?_
  refine lv_if_ne (tgt := 1551) hx hb dL_law_1536 (by decide) (fun _ => ?_) (fun c => absurd c (by decide))
  refine lv_goto (tgt := 1610) hx hb dL_law_1551 (by decide) ?_
  refine W.widen (k := 2000) (n := 100000) (by omega) (by omega) ?_
  exact cont _ _ hS ls (lv_sub hl [2, 6] rfl)

set_option maxHeartbeats 4000000 in
set_option maxRecDepth 100000 in
theorem k_handovers {p : Program} {e : Env} {s : State} {m : MethodId} {below : List Frame} {meth : Method} {c : Code} {Q : State → Prop} (l : Launch) (hst : l.stackTraces = false) {D : va_G} {C : g_C} {E : m_C} {b L : Nat} {xs : Nat → Int32} (hL : L ≤ 5) (hx : p.tables.exec = Jvm.exec) (hb : c.code = cL_law) (hml : c.maxLocals = 7) (hown : s.vm.findClass RL = some m.cls) (hts : ∀ w ∈ wsL_law, w.before #[Value.ref b] s = true) (hX : va_X b L xs s s.heap) (hbl : b < s.heap.size) (hF : g_F D C s.heap.size s) (hK2 : va_K D vwCl (m_T E) s) (hCA : va_Nw (.castable IAE IAE) s) {A ln : g_k → Nat} {EX EX1 : g_k → Option va_E} {g0 h0 : g_k → Nat → Int32} (hg0 : ∀ c j, g0 c j = 0) (hl0 : ∀ c, ln c = 0) (hz0 : ∀ c j, h0 c j = 0) {f : Nat → Int64} (hex : EX (50, 0, 0) = some (.inl (E.2, 1, .inr (.inl f)))) (hmo : ∀ c : g_k, 51 ≤ c.1 → EX c = mo E C h0 A EX1 c) {H : Heap} {locs : List Loc} (hG : g_P D (lay C g0 A ln EX) A s.heap.size H) (hS : va_S (g_A s.heap.size) s.heap H locs) (hL5 : 5 ≤ L) (cont : ∀ (H : Heap) (locs : List Loc), va_S (g_A s.heap.size) s.heap H locs → ∀ ls, lv_has ls 7 [(4, .int (nI 0)), (0, .ref b)] → W p l e room_1 s m #[Value.ref b] below meth c H locs 2000 100000 Q (F0 m 1610 ls [])) {ls : Array Slot} (hl : lv_has ls 7 [(4, .int (nI 0)), (3, .ref (A (50, 0, 0))), (2, .ref (A (60, 0, 0))), (1, .ref (A (0, 0, 0))), (0, .ref b)]) : W p l e room_1 s m #[Value.ref b] below meth c H locs 36 67476 Q (F0 m 1554 ls []) := by
  have hK := hF.1
  have hN := hF.2.1
  have hB : s.heap.size ≤ s.heap.size := Nat.le_refl _
  refine lv_aload_n hx hb dL_law_1554 rfl (lv_at hl 3 rfl) ?_
  refine lv_aload_n hx hb dL_law_1555 rfl (lv_at hl 4 rfl) ?_
  refine lv_iload hx hb dL_law_1556 (lv_at hl 0 rfl) ?_
  refine lv_iconst (v := nI 1) hx hb dL_law_1558 (by decide) ?_
  refine lv_iadd hx hb dL_law_1559 ?_
  refine lv_to (y := nI (0 + 1)) (nI_add 0 1) ?_
  refine va_sld hx hb hX hbl (Nat.not_le.mpr hbl) hS (vp_in_nI (show 0 + 1 < L by omega) (by omega)) dL_law_1560 ?_
  refine lv_aload_n hx hb dL_law_1561 rfl (lv_at hl 1 rfl) ?_
  refine va_calli (vx_runSW (As := [.ref (A (0, 0, 0)), .int (xs (nI (0 + 1)).toNatClampNeg), .ref (A (50, 0, 0))]) (rest := []) ⟨hx, hb, hml, hown, hts⟩ (p_handovers l hst (E := E) ((hg0 _ _).trans nI_0.symm)) (vx_cwSW 3 hts gL_law_L_handovers rfl rfl rfl (by decide +kernel) ⟨Nat.le_of_ble_eq_true rfl, Nat.le_of_ble_eq_true rfl⟩) (g_preS hF hG hS) rfl rfl hl.1 rfl (lv_room (Nat.le_of_ble_eq_true rfl)) dL_law_1562 ⟨r1c (show 36 + 1 ≤ 2000 by omega), r1s (show 67476 + 6 ≤ 100000 by omega)⟩) hS (fun q _ h => h) (fun q h => h) (fun r9 u9 t9 H locs ht9 _ hu9 hB1 _ _ hS => ?_)
  have hG : g_P D (lay C g0 A ln EX) A s.heap.size H := by rw [← ht9]; exact hB1
  have hmv : mo E C h0 A (lay C g0 A ln EX) = lay C g0 A ln EX := mo_fix (fun c hc9 => by obtain ⟨a, i, j⟩ := c; exact (lay_ex (show 50 ≤ a by have : 51 ≤ a := hc9; omega)).trans (hmo _ hc9)) (fun _ _ => rfl)
  have hG : g_P D (mo E C h0 A (lay C g0 A ln EX)) A s.heap.size H := by rw [hmv]; exact hG
  refine W.widen (k := 37) (n := 67482) (by omega) (by omega) ?_
  refine lv_to (y := nI 1) (hu9) ?_
  refine lv_istore (lv' := [(5, .int (nI 1)), (4, .int (nI 0)), (3, .ref (A (50, 0, 0))), (2, .ref (A (60, 0, 0))), (1, .ref (A (0, 0, 0))), (0, .ref b)]) hx hb dL_law_1565 hl (by decide) rfl (fun ls hl => ?_)
  refine lv_aload_n hx hb dL_law_1567 rfl (lv_at hl 3 rfl) ?_
  refine lv_aload_n hx hb dL_law_1568 rfl (lv_at hl 5 rfl) ?_
  refine lv_iload hx hb dL_law_1569 (lv_at hl 1 rfl) ?_
  refine lv_iconst (v := nI 1) hx hb dL_law_1571 (by decide) ?_
  refine lv_iadd hx hb dL_law_1572 ?_
  refine lv_to (y := nI (0 + 1)) (nI_add 0 1) ?_
  refine va_sld hx hb hX hbl (Nat.not_le.mpr hbl) hS (vp_in_nI (show 0 + 1 < L by omega) (by omega)) dL_law_1573 ?_
  refine va_calli (va_runV (As := [.int (xs (nI (0 + 1)).toNatClampNeg)]) (rest := []) ⟨hx, hb, hml, hown, hts⟩ (m_handovers l ((hz0 _ _).trans nI_0.symm) ((hz0 _ _).trans nI_0.symm)) (cwV 1 hts gL_law_X6_handovers rfl rfl rfl (by decide +kernel) ⟨Nat.le_of_ble_eq_true rfl, Nat.le_of_ble_eq_true rfl⟩) (m_preV hF hK2 hCA hG hS (mo_obj) rfl) rfl rfl hl.1 rfl (lv_room (Nat.le_of_ble_eq_true rfl)) dL_law_1574 ⟨r1c (show 37 + 0 ≤ 2000 by omega), r1s (show 67482 + 0 ≤ 100000 by omega)⟩) hS (fun q _ h => h) (fun q h => h) (fun r_51 g_53 t9 H locs ht9 _ h_52 hB1 _ _ hS => ?_)
  have hG : g_P D (mo E C g_53 A (lay C g0 A ln EX)) A s.heap.size H := by rw [← ht9]; exact hB1
  refine lv_istore (lv' := [(6, .int r_51), (5, .int (nI 1)), (4, .int (nI 0)), (3, .ref (A (50, 0, 0))), (2, .ref (A (60, 0, 0))), (1, .ref (A (0, 0, 0))), (0, .ref b)]) hx hb dL_law_1577 hl (by decide) rfl (fun ls hl => ?_)
  refine lv_aload_n hx hb dL_law_1579 rfl (lv_at hl 4 rfl) ?_
  refine vp_callSi (W.runV (As := []) (rest := []) ⟨hx, hb, hml, hown, hts⟩ (m_thrown l ) (cwV 0 hts gL_law_X6_thrown rfl rfl rfl (by decide +kernel) ⟨Nat.le_of_ble_eq_true rfl, Nat.le_of_ble_eq_true rfl⟩) (m_preV hF hK2 hCA hG hS (mo_obj) rfl) rfl rfl hl.1 rfl (lv_room (Nat.le_of_ble_eq_true rfl)) dL_law_1580 ⟨r1c (show 37 + 0 ≤ 2000 by omega), r1s (show 67482 + 0 ≤ 100000 by omega)⟩) (fun r_54 h_55 => ?_)
  refine lv_to (y := nI 1) (h_55.trans h_52) ?_
  refine lv_iload hx hb dL_law_1583 (lv_at hl 1 rfl) ?_
  refine lv_icmp_eq (tgt := 1590) hx hb dL_law_1585 (by decide) (fun _ => ?_) (fun c => absurd (rfl) c)
  refine lv_iload hx hb dL_law_1590 (lv_at hl 1 rfl) ?_
  refine lv_if_ne (tgt := 1607) hx hb dL_law_1592 (by decide) (fun _ => ?_) (fun c => absurd c (by decide))
  refine lv_goto (tgt := 1610) hx hb dL_law_1607 (by decide) ?_
  refine W.widen (k := 2000) (n := 100000) (by omega) (by omega) ?_
  exact cont _ _ hS ls (lv_sub hl [2, 6] rfl)
