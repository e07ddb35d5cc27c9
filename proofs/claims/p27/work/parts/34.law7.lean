/-- the law's two rows: where the messages start and where they shall go -/
def ea_P (C : g_C) (ex : g_k → Option va_E) (F50 F51 : Nat → Int32) (M : Nat) (src to : Nat → Nat) : Prop := ex (50, 0, 0) = some (.inl (C.1, 20, .inl F50)) ∧ ex (51, 0, 0) = some (.inl (C.1, 20, .inl F51)) ∧ ∀ j, j < M → F50 j = nI (src j) ∧ F51 j = nI (to j)

set_option maxHeartbeats 4000000 in
set_option maxRecDepth 100000 in
theorem lawSend {p : Program} {e : Env} {s : State} {m : MethodId} {below : List Frame} {meth : Method} {c : Code} {Q : State → Prop} (l : Launch) (hst : l.stackTraces = false) {D : va_G} {C : g_C} {b L : Nat} {xs : Nat → Int32} (hL : L ≤ 260) (hx : p.tables.exec = Jvm.exec) (hb : c.code = cL_law) (hml : c.maxLocals = 21) (hown : s.vm.findClass RL = some m.cls) (hts : ∀ w ∈ wsL_law, w.before #[Value.ref b] s = true) (hX : va_X b L xs s s.heap) (hbl : b < s.heap.size) (hF : g_F D C s.heap.size s) {S N i : Nat} (hS2 : 2 ≤ S) (hS3 : S ≤ 3) (hN1 : S + 1 ≤ N) (hN4 : N ≤ S + 4) (hi : i < 36) (cont : ∀ (M t : Nat) (src to : Nat → Nat) (F50 F51 : Nat → Int32) (ex : g_k → Option va_E) (g : g_k → Nat → Int32) (ad ln : g_k → Nat) (H : Heap) (locs : List Loc), M ≤ 20 → t ≤ 12 * (i + 1) → ib_P g ln S N M t src to → ea_P C ex F50 F51 M src to → g_P D (lay C g ad ln ex) ad s.heap.size H → va_S (g_A s.heap.size) s.heap H locs → ∀ ls, lv_has ls 21 [(8, .int (nI i)), (7, .int (nI M)), (6, .ref (ad (51, 0, 0))), (5, .ref (ad (50, 0, 0))), (4, .int (nI N)), (3, .int (nI S)), (2, .int (nI 1)), (1, .ref (ad (0, 0, 0))), (0, .ref b)] → W p l e room_1 s m #[Value.ref b] below meth c H locs (200 + 700 * i + 600) (30000 + 1500 * i + 1000 + us 0 t) Q (F0 m 861 ls [])) :
    ∀ (y z aa bb mi : Nat) (M t : Nat) (src to : Nat → Nat) (F50 F51 : Nat → Int32) (ex : g_k → Option va_E) (g : g_k → Nat → Int32) (ad ln : g_k → Nat) (H : Heap) (locs : List Loc), M < 20 → z < 2 ^ 29 → M ≤ 20 → t ≤ 12 * i → ib_P g ln S N M t src to → ea_P C ex F50 F51 M src to → g_P D (lay C g ad ln ex) ad s.heap.size H → va_S (g_A s.heap.size) s.heap H locs → ∀ ls, lv_has ls 21 [(13, .int (nI mi)), (12, .int (nI bb)), (11, .int (nI aa)), (10, .int (nI z)), (9, .int (nI y)), (8, .int (nI i)), (7, .int (nI M)), (6, .ref (ad (51, 0, 0))), (5, .ref (ad (50, 0, 0))), (4, .int (nI N)), (3, .int (nI S)), (2, .int (nI 1)), (1, .ref (ad (0, 0, 0))), (0, .ref b)] → W p l e room_1 s m #[Value.ref b] below meth c H locs (200 + 700 * i) (30000 + 1500 * i + us 0 t) Q (F0 m 259 ls []) := by
  have hK := hF.1
  have hN := hF.2.1
  have hB : s.heap.size ≤ s.heap.size := Nat.le_refl _
  intro y z aa bb mi M t src to F50 F51 ex g ad ln H locs hMlt hz hM20 htt hI hE hG hS ls hl
  obtain ⟨i1, i2, i3, i4, i5, i6, i7, i8, i9, i10⟩ := id hI
  have hU := Nat.le_trans (us_le 0 (show t ≤ 432 by omega)) us_432
  have hSS : S = 2 ∨ S = 3 := by omega
  obtain ⟨a, ea⟩ : ∃ a, a = z % S := ⟨_, rfl⟩
  obtain ⟨b9, eb⟩ : ∃ b9, b9 = (z % S + 1 + z / 7 % (S - 1)) % S := ⟨_, rfl⟩
  have haS : a < S := by rw [ea]; exact Nat.mod_lt _ (by omega)
  have hbS : b9 < S := by rw [eb]; exact Nat.mod_lt _ (by omega)
  have hab : a ≠ b9 := by rcases hSS with rfl | rfl <;> omega
  have hv9 : z / 7 % (S - 1) < S - 1 := Nat.mod_lt _ (by omega)
  refine lv_aload hx hb dL_law_259 (lv_at hl 8 rfl) ?_
  refine lv_iload hx hb dL_law_261 (lv_at hl 6 rfl) ?_
  refine lv_iload hx hb dL_law_263 (lv_at hl 3 rfl) ?_
  refine lv_iload_n hx hb dL_law_265 rfl (lv_at hl 10 rfl) ?_
  refine lv_irem hx hb dL_law_266 (nI_ne0 (by omega) (by omega)) ?_
  refine lv_to (y := nI a) ((pk_rem (by omega) (by omega) (by omega)).trans (by rw [← ea])) ?_
  refine g_iast hx hb hK hG hS (cd := (50, 0, 0)) ((lay_ex (by decide)).trans hE.1) (show M < 20 by omega) (by decide) dL_law_267 (fun H locs hG hS => ?_)
  rw [lay_exup (by decide)] at hG
  obtain ⟨ex1, eex1⟩ : ∃ q, q = k_up ex (50, 0, 0) (some (.inl (C.1, 20, .inl (upd F50 M (nI a))))) := ⟨_, rfl⟩
  rw [← eex1] at hG
  have hE1 : ex1 (50, 0, 0) = some (.inl (C.1, 20, .inl (upd F50 M (nI a)))) := by rw [eex1, k_up_self]
  have hE2 : ex1 (51, 0, 0) = some (.inl (C.1, 20, .inl F51)) := by rw [eex1, k_up_ne _ _ (by decide)]; exact hE.2.1
  refine lv_aload hx hb dL_law_268 (lv_at hl 7 rfl) ?_
  refine lv_iload hx hb dL_law_270 (lv_at hl 6 rfl) ?_
  refine lv_iload hx hb dL_law_272 (lv_at hl 3 rfl) ?_
  refine lv_iload_n hx hb dL_law_274 rfl (lv_at hl 10 rfl) ?_
  refine lv_irem hx hb dL_law_275 (nI_ne0 (by omega) (by omega)) ?_
  refine lv_to (y := nI a) ((pk_rem (by omega) (by omega) (by omega)).trans (by rw [← ea])) ?_
  refine lv_iconst (v := nI 1) hx hb dL_law_276 (by decide) ?_
  refine lv_iadd hx hb dL_law_277 ?_
  refine lv_to (y := nI (a + 1)) (nI_add a 1) ?_
  refine lv_iload hx hb dL_law_278 (lv_at hl 3 rfl) ?_
  refine lv_bipush (v := nI 7) hx hb dL_law_280 (by decide) ?_
  refine lv_idiv hx hb dL_law_282 (by decide) ?_
  refine lv_to (y := nI (z / 7)) (pk_div (by omega) (by decide) (by decide)) ?_
  refine lv_iload_n hx hb dL_law_283 rfl (lv_at hl 10 rfl) ?_
  refine lv_iconst (v := nI 1) hx hb dL_law_284 (by decide) ?_
  refine lv_isub hx hb dL_law_285 ?_
  refine lv_to (y := nI (S - 1)) (pk_sub (by omega)) ?_
  refine lv_irem hx hb dL_law_286 (nI_ne0 (by omega) (by omega)) ?_
  refine lv_to (y := nI (z / 7 % (S - 1))) (pk_rem (by omega) (by omega) (by omega)) ?_
  refine lv_iadd hx hb dL_law_287 ?_
  refine lv_to (y := nI ((a + 1) + (z / 7 % (S - 1)))) (nI_add (a + 1) (z / 7 % (S - 1))) ?_
  refine lv_iload_n hx hb dL_law_288 rfl (lv_at hl 10 rfl) ?_
  refine lv_irem hx hb dL_law_289 (nI_ne0 (by omega) (by omega)) ?_
  refine lv_to (y := nI b9) ((pk_rem (by omega) (by omega) (by omega)).trans (by rw [eb, ea])) ?_
  refine g_iast hx hb hK hG hS (cd := (51, 0, 0)) ((lay_ex (by decide)).trans hE2) (show M < 20 by omega) (by decide) dL_law_290 (fun H locs hG hS => ?_)
  rw [lay_exup (by decide)] at hG
  obtain ⟨ex2, eex2⟩ : ∃ q, q = k_up ex1 (51, 0, 0) (some (.inl (C.1, 20, .inl (upd F51 M (nI b9))))) := ⟨_, rfl⟩
  rw [← eex2] at hG
  have hE3 : ex2 (51, 0, 0) = some (.inl (C.1, 20, .inl (upd F51 M (nI b9)))) := by rw [eex2, k_up_self]
  have hE4 : ex2 (50, 0, 0) = some (.inl (C.1, 20, .inl (upd F50 M (nI a)))) := by rw [eex2, k_up_ne _ _ (by decide)]; exact hE1
  refine lv_aload_n hx hb dL_law_291 rfl (lv_at hl 12 rfl) ?_
  refine lv_aload hx hb dL_law_292 (lv_at hl 8 rfl) ?_
  refine lv_iload hx hb dL_law_294 (lv_at hl 6 rfl) ?_
  refine g_iald hx hb hK hG ((lay_ex (by decide)).trans hE4) ((show M < 20 by omega)) (by first | decide | omega) dL_law_296 ?_
  refine lv_to (y := nI a) (upd_self _ _ _) ?_
  refine lv_aload hx hb dL_law_297 (lv_at hl 7 rfl) ?_
  refine lv_iload hx hb dL_law_299 (lv_at hl 6 rfl) ?_
  refine g_iald hx hb hK hG ((lay_ex (by decide)).trans hE3) ((show M < 20 by omega)) (by first | decide | omega) dL_law_301 ?_
  refine lv_to (y := nI b9) (upd_self _ _ _) ?_
  refine va_calli (vx_runSW (As := [.ref (ad (0, 0, 0)), .int (nI a), .int (nI b9)]) (rest := []) ⟨hx, hb, hml, hown, hts⟩ (l_send l (show N < 11 by omega) i1 i7 (show M < 20 by omega) i8 (show a < N by omega) (show b9 < N by omega) ((i3 a (by omega)).mpr haS) ((i3 b9 (by omega)).mpr hbS) hab) (vx_cwSW 3 hts gL_law_L_send rfl rfl rfl (by decide +kernel) ⟨Nat.le_of_ble_eq_true rfl, Nat.le_of_ble_eq_true rfl⟩) (g_preS hF hG hS) rfl rfl hl.1 rfl (lv_room (Nat.le_of_ble_eq_true rfl)) dL_law_302 ⟨(r1c (show 200 + 700 * i + 3 ≤ 40000 by omega)), (r1s (show 30000 + 1500 * i + us 0 t + 24 ≤ 5450000 by omega))⟩) hS (fun q _ h => h) (fun q h => h) (fun r_1 u9 t9 H locs ht9 _ h_2 hB1 _ _ hS => ?_)
  obtain ⟨g_3, ad_5, ln_4⟩ := u9
  dsimp only at h_2
  have hG : g_P D (lay C g_3 ad_5 ln_4 ex2) ad_5 s.heap.size H := by rw [← ht9]; exact hB1
  obtain ⟨er, eg, el, ea9⟩ := h_2
  refine lv_to (y := nI M) (er) ?_
  have ea0 : ad_5 (51, 0, 0) = ad (51, 0, 0) := ea9 _ (k3 (Or.inl (by decide))) (k3 (Or.inl (by decide))) (k3 (Or.inl (by decide)))
  have ea1 : ad_5 (50, 0, 0) = ad (50, 0, 0) := ea9 _ (k3 (Or.inl (by decide))) (k3 (Or.inl (by decide))) (k3 (Or.inl (by decide)))
  have ea2 : ad_5 (0, 0, 0) = ad (0, 0, 0) := ea9 _ (k3 (Or.inl (by decide))) (k3 (Or.inl (by decide))) (k3 (Or.inl (by decide)))
  have hl : lv_has ls 21 [(13, .int (nI mi)), (12, .int (nI bb)), (11, .int (nI aa)), (10, .int (nI z)), (9, .int (nI y)), (8, .int (nI i)), (7, .int (nI M)), (6, .ref (ad_5 (51, 0, 0))), (5, .ref (ad_5 (50, 0, 0))), (4, .int (nI N)), (3, .int (nI S)), (2, .int (nI 1)), (1, .ref (ad_5 (0, 0, 0))), (0, .ref b)] := by rw [ea0, ea1, ea2]; exact hl
  have hI2 : ib_P g_3 ln_4 S N (M + 1) t (va_up src M a) (va_up to M b9) := by rw [eg, el]; exact ib_send hI haS hbS hab (by omega)
  obtain ⟨j1, j2, j3, j4, j5, j6, j7, j8, j9, j10⟩ := id hI2
  refine lv_iload hx hb dL_law_305 (lv_at hl 6 rfl) ?_
  refine lv_icmp_ne (tgt := 337) hx hb dL_law_307 (by decide) (fun c => absurd (rfl) c) (fun _ => ?_)
  refine lv_aload_n hx hb dL_law_310 rfl (lv_at hl 12 rfl) ?_
  refine lv_iload hx hb dL_law_311 (lv_at hl 6 rfl) ?_
  refine g_callSi (vx_runSW (As := [.ref (ad_5 (0, 0, 0)), .int (nI M)]) (rest := []) ⟨hx, hb, hml, hown, hts⟩ (l_nodeOf l j7 (show M + 1 ≤ 20 by omega) j8 (Nat.lt_succ_self M)) (vx_cwSW 2 hts gL_law_L_nodeOf rfl rfl rfl (by decide +kernel) ⟨Nat.le_of_ble_eq_true rfl, Nat.le_of_ble_eq_true rfl⟩) (g_preS hF hG hS) rfl rfl hl.1 rfl (lv_room (Nat.le_of_ble_eq_true rfl)) dL_law_313 ⟨(r1c (show 200 + 700 * i + 3 + 0 ≤ 40000 by omega)), (r1s (show 30000 + 1500 * i + us 0 t + 24 + 0 ≤ 5450000 by omega))⟩) (fun r_6 h_7 => ?_)
  refine lv_to (y := nI a) (h_7.trans (by rw [eg, g2_ne _ _ _ (k3 (Or.inl (by decide)))]; simp [g_send])) ?_
  refine lv_aload hx hb dL_law_316 (lv_at hl 8 rfl) ?_
  refine lv_iload hx hb dL_law_318 (lv_at hl 6 rfl) ?_
  refine g_iald hx hb hK hG ((lay_ex (by decide)).trans hE4) ((show M < 20 by omega)) (by first | decide | omega) dL_law_320 ?_
  refine lv_to (y := nI a) (upd_self _ _ _) ?_
  refine lv_icmp_ne (tgt := 337) hx hb dL_law_321 (by decide) (fun c => absurd (rfl) c) (fun _ => ?_)
  refine lv_aload_n hx hb dL_law_324 rfl (lv_at hl 12 rfl) ?_
  refine lv_iload hx hb dL_law_325 (lv_at hl 6 rfl) ?_
  refine g_callSi (vx_runSW (As := [.ref (ad_5 (0, 0, 0)), .int (nI M)]) (rest := []) ⟨hx, hb, hml, hown, hts⟩ (l_hops l j7 (show M + 1 ≤ 20 by omega) j8 (Nat.lt_succ_self M)) (vx_cwSW 2 hts gL_law_L_hops rfl rfl rfl (by decide +kernel) ⟨Nat.le_of_ble_eq_true rfl, Nat.le_of_ble_eq_true rfl⟩) (g_preS hF hG hS) rfl rfl hl.1 rfl (lv_room (Nat.le_of_ble_eq_true rfl)) dL_law_327 ⟨(r1c (show 200 + 700 * i + 3 + 0 ≤ 40000 by omega)), (r1s (show 30000 + 1500 * i + us 0 t + 24 + 0 ≤ 5450000 by omega))⟩) (fun r_8 h_9 => ?_)
  refine lv_to (y := nI 0) (h_9.trans (by rw [eg, g2_ne _ _ _ (k3 (Or.inl (by decide)))]; simp [g_send, nI_0])) ?_
  refine lv_if_ne (tgt := 337) hx hb dL_law_330 (by decide) (fun c => absurd (by decide) c) (fun _ => ?_)
  refine lv_iconst (v := nI 1) hx hb dL_law_333 (by decide) ?_
  refine lv_goto (tgt := 338) hx hb dL_law_334 (by decide) ?_
  refine lv_istore_n (lv' := [(2, .int (nI 1)), (13, .int (nI mi)), (12, .int (nI bb)), (11, .int (nI aa)), (10, .int (nI z)), (9, .int (nI y)), (8, .int (nI i)), (7, .int (nI M)), (6, .ref (ad_5 (51, 0, 0))), (5, .ref (ad_5 (50, 0, 0))), (4, .int (nI N)), (3, .int (nI S)), (1, .ref (ad_5 (0, 0, 0))), (0, .ref b)]) hx hb dL_law_338 rfl hl (by decide) rfl (fun ls hl => ?_)
  refine lv_iinc (v := nI (M + 1)) (lv' := [(7, .int (nI (M + 1))), (2, .int (nI 1)), (13, .int (nI mi)), (12, .int (nI bb)), (11, .int (nI aa)), (10, .int (nI z)), (9, .int (nI y)), (8, .int (nI i)), (6, .ref (ad_5 (51, 0, 0))), (5, .ref (ad_5 (50, 0, 0))), (4, .int (nI N)), (3, .int (nI S)), (1, .ref (ad_5 (0, 0, 0))), (0, .ref b)]) hx hb dL_law_339 hl (k := 7) rfl (nI_add M 1) (by decide) rfl (fun ls hl => ?_)
  refine lv_goto (tgt := 861) hx hb dL_law_342 (by decide) ?_
  refine W.widen (k := 200 + 700 * i + 600) (n := 30000 + 1500 * i + 1000 + us 0 t) (by omega) (by omega) ?_
  exact cont (M + 1) t (va_up src M a) (va_up to M b9) (upd F50 M (nI a)) (upd F51 M (nI b9)) ex2 g_3 ad_5 ln_4 _ _ (by omega) (by omega) hI2 ⟨hE4, hE3, fun j hj => by by_cases q : j = M; rw [q, upd_self, upd_self, va_up_self, va_up_self]; exact ⟨rfl, rfl⟩; rw [upd_ne _ _ q, upd_ne _ _ q, va_up_ne _ _ q, va_up_ne _ _ q]; exact hE.2.2 j (by omega)⟩ hG hS ls (lv_sub hl [7, 0, 8, 9, 10, 11, 1, 12, 13] rfl)

set_option maxHeartbeats 4000000 in
set_option maxRecDepth 100000 in
theorem lawCap {p : Program} {e : Env} {s : State} {m : MethodId} {below : List Frame} {meth : Method} {c : Code} {Q : State → Prop} (l : Launch) (hst : l.stackTraces = false) {D : va_G} {C : g_C} {b L : Nat} {xs : Nat → Int32} (hL : L ≤ 260) (hx : p.tables.exec = Jvm.exec) (hb : c.code = cL_law) (hml : c.maxLocals = 21) (hown : s.vm.findClass RL = some m.cls) (hts : ∀ w ∈ wsL_law, w.before #[Value.ref b] s = true) (hX : va_X b L xs s s.heap) (hbl : b < s.heap.size) (hF : g_F D C s.heap.size s) {S N i : Nat} (hS2 : 2 ≤ S) (hS3 : S ≤ 3) (hN1 : S + 1 ≤ N) (hN4 : N ≤ S + 4) (hi : i < 36) (cont : ∀ (M t : Nat) (src to : Nat → Nat) (F50 F51 : Nat → Int32) (ex : g_k → Option va_E) (g : g_k → Nat → Int32) (ad ln : g_k → Nat) (H : Heap) (locs : List Loc), M ≤ 20 → t ≤ 12 * (i + 1) → ib_P g ln S N M t src to → ea_P C ex F50 F51 M src to → g_P D (lay C g ad ln ex) ad s.heap.size H → va_S (g_A s.heap.size) s.heap H locs → ∀ ls, lv_has ls 21 [(8, .int (nI i)), (7, .int (nI M)), (6, .ref (ad (51, 0, 0))), (5, .ref (ad (50, 0, 0))), (4, .int (nI N)), (3, .int (nI S)), (2, .int (nI 1)), (1, .ref (ad (0, 0, 0))), (0, .ref b)] → W p l e room_1 s m #[Value.ref b] below meth c H locs (200 + 700 * i + 600) (30000 + 1500 * i + 1000 + us 0 t) Q (F0 m 861 ls [])) :
    ∀ (y z aa bb mi : Nat) (M t : Nat) (src to : Nat → Nat) (F50 F51 : Nat → Int32) (ex : g_k → Option va_E) (g : g_k → Nat → Int32) (ad ln : g_k → Nat) (H : Heap) (locs : List Loc), aa < N → M ≤ 20 → t ≤ 12 * i → ib_P g ln S N M t src to → ea_P C ex F50 F51 M src to → g_P D (lay C g ad ln ex) ad s.heap.size H → va_S (g_A s.heap.size) s.heap H locs → ∀ ls, lv_has ls 21 [(13, .int (nI mi)), (12, .int (nI bb)), (11, .int (nI aa)), (10, .int (nI z)), (9, .int (nI y)), (8, .int (nI i)), (7, .int (nI M)), (6, .ref (ad (51, 0, 0))), (5, .ref (ad (50, 0, 0))), (4, .int (nI N)), (3, .int (nI S)), (2, .int (nI 1)), (1, .ref (ad (0, 0, 0))), (0, .ref b)] → W p l e room_1 s m #[Value.ref b] below meth c H locs (200 + 700 * i) (30000 + 1500 * i + us 0 t) Q (F0 m 635 ls []) := by
  have hK := hF.1
  have hN := hF.2.1
  have hB : s.heap.size ≤ s.heap.size := Nat.le_refl _
  intro y z aa bb mi M t src to F50 F51 ex g ad ln H locs haa hM20 htt hI hE hG hS ls hl
  obtain ⟨i1, i2, i3, i4, i5, i6, i7, i8, i9, i10⟩ := id hI
  have hU := Nat.le_trans (us_le 0 (show t ≤ 432 by omega)) us_432
  have haN : aa < N := haa
  refine lv_iload hx hb dL_law_635 (lv_at hl 2 rfl) ?_
  refine lv_iload_n hx hb dL_law_637 rfl (lv_at hl 10 rfl) ?_
  refine lv_icmp_ge (tgt := 671) hx hb dL_law_638 (by decide) (fun c_1 => ?_) (fun c_1 => ?_)
  · have haS : S ≤ aa := (nI_leI (by omega) (by omega)).mp c_1
    have hnl : ln (30, aa, 0) ≠ 1 := fun z => by have := (i3 aa (by omega)).mp z; omega
    obtain ⟨cc, c1, c9, ec⟩ := i6 aa haS haN
    refine lv_aload_n hx hb dL_law_671 rfl (lv_at hl 12 rfl) ?_
    refine lv_iload hx hb dL_law_672 (lv_at hl 2 rfl) ?_
    refine lv_bipush (v := nI 9) hx hb dL_law_674 (by decide) ?_
    refine va_calli (vx_runSW (As := [.ref (ad (0, 0, 0)), .int (nI aa), .int (nI 9)]) (rest := []) ⟨hx, hb, hml, hown, hts⟩ (l_setCapacity l (show N ≤ 10 by omega) i1 haN hnl (show 1 ≤ 9 by decide) (show 9 ≤ 9 by decide)) (vx_cwSW 3 hts gL_law_L_setCapacity rfl rfl rfl (by decide +kernel) ⟨Nat.le_of_ble_eq_true rfl, Nat.le_of_ble_eq_true rfl⟩) (g_preS hF hG hS) rfl rfl hl.1 rfl (lv_room (Nat.le_of_ble_eq_true rfl)) dL_law_676 ⟨(r1c (show 200 + 700 * i + 0 ≤ 40000 by omega)), (r1s (show 30000 + 1500 * i + us 0 t + 0 ≤ 5450000 by omega))⟩) hS (fun q _ h => h) (fun q h => h) (fun r_2 g_4 t9 H locs ht9 _ h_3 hB1 _ _ hS => ?_)
    have hG : g_P D (lay C g_4 ad ln ex) ad s.heap.size H := by rw [← ht9]; exact hB1
    refine lv_to (y := nI cc) (h_3.1.trans ec) ?_
    have hI2 : ib_P g_4 ln S N M t src to := ib_cg hI (fun c _ c4 => h_3.2.1 c c4) (fun j hj1 hj2 => by rw [h_3.2.2]; by_cases q : j = aa; rw [q, upd_self]; exact ⟨9, by decide, by decide, rfl⟩; rw [upd_ne _ _ q]; exact i6 j hj1 hj2)
    refine lv_iconst (v := nI 1) hx hb dL_law_679 (by decide) ?_
    refine lv_icmp_lt (tgt := 698) hx hb dL_law_680 (by decide) (fun c => absurd c (by rw [nI_ltI (by omega) (by omega)]; omega)) (fun _ => ?_)
    refine lv_aload_n hx hb dL_law_683 rfl (lv_at hl 12 rfl) ?_
    refine lv_iload hx hb dL_law_684 (lv_at hl 2 rfl) ?_
    refine va_calli (vx_runSW (As := [.ref (ad (0, 0, 0)), .int (nI aa)]) (rest := []) ⟨hx, hb, hml, hown, hts⟩ (lx_relayOf l hst (show N ≤ 10 by omega) hI2.1 haN hnl) (vx_cwSW 2 hts gL_law_L_relayOf rfl rfl rfl (by decide +kernel) ⟨Nat.le_of_ble_eq_true rfl, Nat.le_of_ble_eq_true rfl⟩) (g_preS hF hG hS) rfl rfl hl.1 rfl (lv_room (Nat.le_of_ble_eq_true rfl)) dL_law_686 ⟨(r1c (show 200 + 700 * i + 0 + 1 ≤ 40000 by omega)), (r1s (show 30000 + 1500 * i + us 0 t + 0 + 6 ≤ 5450000 by omega))⟩) hS (fun q _ h => h) (fun q h => h) (fun r_5 g_7 t9 H locs ht9 _ h_6 hB1 _ _ hS => ?_)
    have hG : g_P D (lay C g_7 ad ln ex) ad s.heap.size H := by rw [← ht9]; exact hB1
    rw [h_6.2] at hG
    refine lv_to (y := (-101)) (h_6.1) ?_
    refine lv_bipush (v := (-101)) hx hb dL_law_689 (by decide) ?_
    refine lv_icmp_ne (tgt := 698) hx hb dL_law_691 (by decide) (fun c => absurd (rfl) c) (fun _ => ?_)
    refine lv_iconst (v := nI 1) hx hb dL_law_694 (by decide) ?_
    refine lv_goto (tgt := 699) hx hb dL_law_695 (by decide) ?_
    refine lv_istore_n (lv' := [(2, .int (nI 1)), (13, .int (nI mi)), (12, .int (nI bb)), (11, .int (nI aa)), (10, .int (nI z)), (9, .int (nI y)), (8, .int (nI i)), (7, .int (nI M)), (6, .ref (ad (51, 0, 0))), (5, .ref (ad (50, 0, 0))), (4, .int (nI N)), (3, .int (nI S)), (1, .ref (ad (0, 0, 0))), (0, .ref b)]) hx hb dL_law_699 rfl hl (by decide) rfl (fun ls hl => ?_)
    refine lv_goto (tgt := 861) hx hb dL_law_700 (by decide) ?_
    refine W.widen (k := 200 + 700 * i + 600) (n := 30000 + 1500 * i + 1000 + us 0 t) (by omega) (by omega) ?_
    exact cont M t src to F50 F51 ex g_4 ad ln _ _ (by omega) (by omega) hI2 hE hG hS ls (lv_sub hl [6, 7, 8, 9, 10, 11, 0, 12, 13] rfl)
  · have haS : aa < S := Nat.lt_of_not_le (fun h9 => c_1 ((nI_leI (by omega) (by omega)).mpr h9))
    have hlv : ln (30, aa, 0) = 1 := (i3 aa (by omega)).mpr haS
    refine lv_aload_n hx hb dL_law_641 rfl (lv_at hl 12 rfl) ?_
    refine lv_iload hx hb dL_law_642 (lv_at hl 2 rfl) ?_
    refine g_callSi (vx_runSW (As := [.ref (ad (0, 0, 0)), .int (nI aa)]) (rest := []) ⟨hx, hb, hml, hown, hts⟩ (l_relayOf l (show N ≤ 10 by omega) i1 haN hlv) (vx_cwSW 2 hts gL_law_L_relayOf rfl rfl rfl (by decide +kernel) ⟨Nat.le_of_ble_eq_true rfl, Nat.le_of_ble_eq_true rfl⟩) (g_preS hF hG hS) rfl rfl hl.1 rfl (lv_room (Nat.le_of_ble_eq_true rfl)) dL_law_644 ⟨(r1c (show 200 + 700 * i + 0 ≤ 40000 by omega)), (r1s (show 30000 + 1500 * i + us 0 t + 0 ≤ 5450000 by omega))⟩) (fun r_8 h_9 => ?_)
    refine lv_iconst (v := (-1)) hx hb dL_law_647 (by decide) ?_
    refine lv_icmp_lt (tgt := 667) hx hb dL_law_648 (by decide) (fun c => absurd c (by rw [show r_8 = _ from h_9]; rcases (i4 aa haS).1 with q | ⟨r9, q1, q⟩; rw [q]; decide; rw [q]; exact fun z => absurd (Int32.lt_trans z (show (-1 : Int32) < 0 by decide)) (nI_pos (by omega)))) (fun _ => ?_)
    refine lv_aload_n hx hb dL_law_651 rfl (lv_at hl 12 rfl) ?_
    refine lv_iload hx hb dL_law_652 (lv_at hl 2 rfl) ?_
    refine lv_iconst (v := nI 3) hx hb dL_law_654 (by decide) ?_
    refine va_calli (vx_runSW (As := [.ref (ad (0, 0, 0)), .int (nI aa), .int (nI 3)]) (rest := []) ⟨hx, hb, hml, hown, hts⟩ (lx_setCapacity l hst (show N ≤ 10 by omega) i1 haN hlv) (vx_cwSW 3 hts gL_law_L_setCapacity rfl rfl rfl (by decide +kernel) ⟨Nat.le_of_ble_eq_true rfl, Nat.le_of_ble_eq_true rfl⟩) (g_preS hF hG hS) rfl rfl hl.1 rfl (lv_room (Nat.le_of_ble_eq_true rfl)) dL_law_655 ⟨(r1c (show 200 + 700 * i + 1 ≤ 40000 by omega)), (r1s (show 30000 + 1500 * i + us 0 t + 6 ≤ 5450000 by omega))⟩) hS (fun q _ h => h) (fun q h => h) (fun r_10 g_12 t9 H locs ht9 _ h_11 hB1 _ _ hS => ?_)
    have hG : g_P D (lay C g_12 ad ln ex) ad s.heap.size H := by rw [← ht9]; exact hB1
    rw [h_11.2] at hG
    refine lv_to (y := (-101)) (h_11.1) ?_
    refine lv_bipush (v := (-101)) hx hb dL_law_658 (by decide) ?_
    refine lv_icmp_ne (tgt := 667) hx hb dL_law_660 (by decide) (fun c => absurd (rfl) c) (fun _ => ?_)
    refine lv_iconst (v := nI 1) hx hb dL_law_663 (by decide) ?_
    refine lv_goto (tgt := 699) hx hb dL_law_664 (by decide) ?_
    refine lv_istore_n (lv' := [(2, .int (nI 1)), (13, .int (nI mi)), (12, .int (nI bb)), (11, .int (nI aa)), (10, .int (nI z)), (9, .int (nI y)), (8, .int (nI i)), (7, .int (nI M)), (6, .ref (ad (51, 0, 0))), (5, .ref (ad (50, 0, 0))), (4, .int (nI N)), (3, .int (nI S)), (1, .ref (ad (0, 0, 0))), (0, .ref b)]) hx hb dL_law_699 rfl hl (by decide) rfl (fun ls hl => ?_)
    refine lv_goto (tgt := 861) hx hb dL_law_700 (by decide) ?_
    refine W.widen (k := 200 + 700 * i + 600) (n := 30000 + 1500 * i + 1000 + us 0 t) (by omega) (by omega) ?_
    exact cont M t src to F50 F51 ex g ad ln _ _ (by omega) (by omega) hI hE hG hS ls (lv_sub hl [6, 7, 8, 9, 10, 11, 0, 12, 13] rfl)
