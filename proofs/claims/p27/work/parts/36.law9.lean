set_option maxHeartbeats 4000000 in
set_option maxRecDepth 100000 in
theorem lawB {p : Program} {e : Env} {s : State} {m : MethodId} {below : List Frame} {meth : Method} {c : Code} {Q : State → Prop} (l : Launch) (hst : l.stackTraces = false) {D : va_G} {C : g_C} {b L : Nat} {xs : Nat → Int32} (hL : L ≤ 260) (hx : p.tables.exec = Jvm.exec) (hb : c.code = cL_law) (hml : c.maxLocals = 21) (hown : s.vm.findClass RL = some m.cls) (hts : ∀ w ∈ wsL_law, w.before #[Value.ref b] s = true) (hX : va_X b L xs s s.heap) (hbl : b < s.heap.size) (hF : g_F D C s.heap.size s) {S N : Nat} (hS2 : 2 ≤ S) (hS3 : S ≤ 3) (hN1 : S + 1 ≤ N) (hN4 : N ≤ S + 4) (fin : ∀ (H : Heap) (ls : Array Slot), W p l e room_1 s m #[Value.ref b] below meth c H [] 40000 5450000 Q (F0 m 893 ls [.int (nI 1)])) :
    ∀ (q i : Nat) (M t : Nat) (src to : Nat → Nat) (F50 F51 : Nat → Int32) (ex : g_k → Option va_E) (g : g_k → Nat → Int32) (ad ln : g_k → Nat) (H : Heap) (locs : List Loc), i ≤ 36 → 36 < i + q → M ≤ 20 → t ≤ 12 * i → ib_P g ln S N M t src to → ea_P C ex F50 F51 M src to → g_P D (lay C g ad ln ex) ad s.heap.size H → va_S (g_A s.heap.size) s.heap H locs → ∀ ls, lv_has ls 21 [(8, .int (nI i)), (7, .int (nI M)), (6, .ref (ad (51, 0, 0))), (5, .ref (ad (50, 0, 0))), (4, .int (nI N)), (3, .int (nI S)), (2, .int (nI 1)), (1, .ref (ad (0, 0, 0))), (0, .ref b)] → W p l e room_1 s m #[Value.ref b] below meth c H locs (200 + 700 * i) (30000 + 1500 * i + us 0 t) Q (F0 m 186 ls []) := by
  have hK := hF.1
  have hN := hF.2.1
  have hB : s.heap.size ≤ s.heap.size := Nat.le_refl _
  intro q
  induction q with
  | zero => intro i M t src to F50 F51 ex g ad ln H locs h1 h2; exact absurd h2 (by omega)
  | succ q ih =>
    intro i M t src to F50 F51 ex g ad ln H locs h1 h2 hM20 htt hI hE hG hS ls hl
    have hU := Nat.le_trans (us_le 0 (show t ≤ 432 by omega)) us_432
    refine lv_iload hx hb dL_law_186 (lv_at hl 0 rfl) ?_
    refine lv_bipush (v := nI 36) hx hb dL_law_188 (by decide) ?_
    refine lv_icmp_ge (tgt := 892) hx hb dL_law_190 (by decide) (fun c_1 => ?_) (fun c_1 => ?_)
    · refine lv_iload_n hx hb dL_law_892 rfl (lv_at hl 6 rfl) ?_
      refine W.widen (k := 40000) (n := 5450000) (by omega) (by omega) ?_
      refine va_forget (fun z hz => hS.2.2 z hz) ?_
      exact fin H ls
    · have hi : i < 36 := Nat.lt_of_not_le (fun h9 => c_1 ((nI_leI (by omega) (by omega)).mpr h9))
      have cont : ∀ (M t : Nat) (src to : Nat → Nat) (F50 F51 : Nat → Int32) (ex : g_k → Option va_E) (g : g_k → Nat → Int32) (ad ln : g_k → Nat) (H : Heap) (locs : List Loc), M ≤ 20 → t ≤ 12 * (i + 1) → ib_P g ln S N M t src to → ea_P C ex F50 F51 M src to → g_P D (lay C g ad ln ex) ad s.heap.size H → va_S (g_A s.heap.size) s.heap H locs → ∀ ls, lv_has ls 21 [(8, .int (nI i)), (7, .int (nI M)), (6, .ref (ad (51, 0, 0))), (5, .ref (ad (50, 0, 0))), (4, .int (nI N)), (3, .int (nI S)), (2, .int (nI 1)), (1, .ref (ad (0, 0, 0))), (0, .ref b)] → W p l e room_1 s m #[Value.ref b] below meth c H locs (200 + 700 * i + 600) (30000 + 1500 * i + 1000 + us 0 t) Q (F0 m 861 ls []) := by
        intro M t src to F50 F51 ex g ad ln H locs hM20 htt hI hE hG hS ls hl
        obtain ⟨i1, i2, i3, i4, i5, i6, i7, i8, i9, i10⟩ := id hI
        have hU := Nat.le_trans (us_le 0 (show t ≤ 432 by omega)) us_432
        refine lv_iload_n hx hb dL_law_861 rfl (lv_at hl 6 rfl) ?_
        refine lv_if_eq (tgt := 884) hx hb dL_law_862 (by decide) (fun c => absurd c (by decide)) (fun _ => ?_)
        refine lv_aload_n hx hb dL_law_865 rfl (lv_at hl 7 rfl) ?_
        refine lv_iload hx hb dL_law_866 (lv_at hl 1 rfl) ?_
        refine lv_aload hx hb dL_law_868 (lv_at hl 3 rfl) ?_
        refine lv_aload hx hb dL_law_870 (lv_at hl 2 rfl) ?_
        refine lv_iload hx hb dL_law_872 (lv_at hl 4 rfl) ?_
        refine va_calli (va_runS (As := [.ref (ad (0, 0, 0)), .int (nI M), .ref (ad (50, 0, 0)), .ref (ad (51, 0, 0)), .int (nI N)]) (rest := []) ⟨hx, hb, hml, hown, hts⟩ (l_carries l hst (show N ≤ 10 by omega) i1 i7 hM20 i8 (show t < 2 ^ 19 by omega) i9 (src := src) (to := to) hE.1 hE.2.1 (fun j hj => (hE.2.2 j hj).1) (fun j hj => (hE.2.2 j hj).2) (fun j hj => ⟨by have := (i10 j hj).2.1; omega, (i10 j hj).2.2.2.1⟩) (fun j hj => (i10 j hj).2.2.2.2)) (va_cwS 5 hts gL_law_L_carries rfl rfl rfl (by decide +kernel) ⟨Nat.le_of_ble_eq_true rfl, Nat.le_of_ble_eq_true rfl⟩) (g_preS hF hG hS) rfl rfl hl.1 rfl (lv_room (Nat.le_of_ble_eq_true rfl)) dL_law_874 ⟨(r1c (show 200 + 700 * i + 600 + 64 ≤ 40000 by omega)), (r1s (show 30000 + 1500 * i + 1000 + us 0 t + 384 ≤ 5450000 by omega))⟩) hS (fun q _ h => h) (fun q h => h) (fun r_2 g_4 t9 H locs ht9 _ h_3 hB1 _ _ hS => ?_)
        have hG : g_P D (lay C g_4 ad ln ex) ad s.heap.size H := by rw [← ht9]; exact hB1
        rw [h_3.2] at hG
        refine lv_to (y := nI 1) (h_3.1) ?_
        refine lv_if_eq (tgt := 884) hx hb dL_law_877 (by decide) (fun c => absurd c (by decide)) (fun _ => ?_)
        refine lv_iconst (v := nI 1) hx hb dL_law_880 (by decide) ?_
        refine lv_goto (tgt := 885) hx hb dL_law_881 (by decide) ?_
        refine lv_istore_n (lv' := [(2, .int (nI 1)), (8, .int (nI i)), (7, .int (nI M)), (6, .ref (ad (51, 0, 0))), (5, .ref (ad (50, 0, 0))), (4, .int (nI N)), (3, .int (nI S)), (1, .ref (ad (0, 0, 0))), (0, .ref b)]) hx hb dL_law_885 rfl hl (by decide) rfl (fun ls hl => ?_)
        refine lv_iinc (v := nI (i + 1)) (lv' := [(8, .int (nI (i + 1))), (2, .int (nI 1)), (7, .int (nI M)), (6, .ref (ad (51, 0, 0))), (5, .ref (ad (50, 0, 0))), (4, .int (nI N)), (3, .int (nI S)), (1, .ref (ad (0, 0, 0))), (0, .ref b)]) hx hb dL_law_886 hl (k := 1) rfl (nI_add i 1) (by decide) rfl (fun ls hl => ?_)
        refine lv_goto (tgt := 186) hx hb dL_law_889 (by decide) ?_
        refine W.widen (k := 200 + 700 * (i + 1)) (n := 30000 + 1500 * (i + 1) + us 0 t) (by omega) (by omega) ?_
        exact ih (i + 1) M t src to F50 F51 ex g ad ln _ _ (by omega) (by omega) hM20 htt hI hE hG hS ls (lv_sub hl [0, 2, 3, 4, 5, 6, 1, 7, 8] rfl)
      refine lv_iload_n hx hb dL_law_193 rfl (lv_at hl 6 rfl) ?_
      refine lv_if_eq (tgt := 892) hx hb dL_law_194 (by decide) (fun c => absurd c (by decide)) (fun _ => ?_)
      refine lv_aload_n hx hb dL_law_197 rfl (lv_at hl 8 rfl) ?_
      refine lv_bipush (v := nI 9) hx hb dL_law_198 (by decide) ?_
      refine lv_iload hx hb dL_law_200 (lv_at hl 0 rfl) ?_
      refine lv_iadd hx hb dL_law_202 ?_
      refine lv_to (y := nI (9 + i)) (nI_add 9 i) ?_
      refine vp_callSi (W.runS (As := [.ref b, .int (nI (9 + i))]) (rest := []) ⟨hx, hb, hml, hown, hts⟩ (l_cell l hL (show 9 + i < 2 ^ 20 by omega)) (va_cwS 2 hts gL_law_L_cell rfl rfl rfl (by decide +kernel) ⟨Nat.le_of_ble_eq_true rfl, Nat.le_of_ble_eq_true rfl⟩) (g_preX hX hbl hS) rfl rfl hl.1 rfl (lv_room (Nat.le_of_ble_eq_true rfl)) dL_law_203 ⟨(r1c (show 200 + 700 * i + 0 ≤ 40000 by omega)), (r1s (show 30000 + 1500 * i + us 0 t + 0 ≤ 5450000 by omega))⟩) (fun r_5 hr_5 => ?_)
      obtain ⟨y, hy, ey⟩ := hr_5
      subst ey
      refine lv_istore (lv' := [(9, .int (nI y)), (8, .int (nI i)), (7, .int (nI M)), (6, .ref (ad (51, 0, 0))), (5, .ref (ad (50, 0, 0))), (4, .int (nI N)), (3, .int (nI S)), (2, .int (nI 1)), (1, .ref (ad (0, 0, 0))), (0, .ref b)]) hx hb dL_law_206 hl (by decide) rfl (fun ls hl => ?_)
      refine lv_iload hx hb dL_law_208 (lv_at hl 0 rfl) ?_
      refine lv_bipush (v := nI 8) hx hb dL_law_210 (by decide) ?_
      refine lv_idiv hx hb dL_law_212 (by decide) ?_
      refine lv_to (y := nI (y / 8)) (pk_div (by omega) (by decide) (by decide)) ?_
      refine lv_istore (lv' := [(10, .int (nI (y / 8))), (9, .int (nI y)), (8, .int (nI i)), (7, .int (nI M)), (6, .ref (ad (51, 0, 0))), (5, .ref (ad (50, 0, 0))), (4, .int (nI N)), (3, .int (nI S)), (2, .int (nI 1)), (1, .ref (ad (0, 0, 0))), (0, .ref b)]) hx hb dL_law_213 hl (by decide) rfl (fun ls hl => ?_)
      refine lv_iload hx hb dL_law_215 (lv_at hl 0 rfl) ?_
      refine lv_iload hx hb dL_law_217 (lv_at hl 6 rfl) ?_
      refine lv_irem hx hb dL_law_219 (nI_ne0 (by omega) (by omega)) ?_
      refine lv_to (y := nI ((y / 8) % N)) (pk_rem (by omega) (by omega) (by omega)) ?_
      refine lv_istore (lv' := [(11, .int (nI ((y / 8) % N))), (10, .int (nI (y / 8))), (9, .int (nI y)), (8, .int (nI i)), (7, .int (nI M)), (6, .ref (ad (51, 0, 0))), (5, .ref (ad (50, 0, 0))), (4, .int (nI N)), (3, .int (nI S)), (2, .int (nI 1)), (1, .ref (ad (0, 0, 0))), (0, .ref b)]) hx hb dL_law_220 hl (by decide) rfl (fun ls hl => ?_)
      refine lv_iload hx hb dL_law_222 (lv_at hl 1 rfl) ?_
      refine lv_bipush (v := nI 7) hx hb dL_law_224 (by decide) ?_
      refine lv_idiv hx hb dL_law_226 (by decide) ?_
      refine lv_to (y := nI ((y / 8) / 7)) (pk_div (by omega) (by decide) (by decide)) ?_
      refine lv_iload hx hb dL_law_227 (lv_at hl 7 rfl) ?_
      refine lv_irem hx hb dL_law_229 (nI_ne0 (by omega) (by omega)) ?_
      refine lv_to (y := nI (((y / 8) / 7) % N)) (pk_rem (by omega) (by omega) (by omega)) ?_
      refine lv_istore (lv' := [(12, .int (nI (((y / 8) / 7) % N))), (11, .int (nI ((y / 8) % N))), (10, .int (nI (y / 8))), (9, .int (nI y)), (8, .int (nI i)), (7, .int (nI M)), (6, .ref (ad (51, 0, 0))), (5, .ref (ad (50, 0, 0))), (4, .int (nI N)), (3, .int (nI S)), (2, .int (nI 1)), (1, .ref (ad (0, 0, 0))), (0, .ref b)]) hx hb dL_law_230 hl (by decide) rfl (fun ls hl => ?_)
      refine lv_iload hx hb dL_law_232 (lv_at hl 2 rfl) ?_
      refine lv_bipush (v := nI 49) hx hb dL_law_234 (by decide) ?_
      refine lv_idiv hx hb dL_law_236 (by decide) ?_
      refine lv_to (y := nI ((y / 8) / 49)) (pk_div (by omega) (by decide) (by decide)) ?_
      refine lv_sipush (v := nI 2000) hx hb dL_law_237 (by decide) ?_
      refine lv_irem hx hb dL_law_240 (by decide) ?_
      refine lv_to (y := nI (((y / 8) / 49) % 2000)) (pk_rem (by omega) (by decide) (by decide)) ?_
      refine lv_istore (lv' := [(13, .int (nI (((y / 8) / 49) % 2000))), (12, .int (nI (((y / 8) / 7) % N))), (11, .int (nI ((y / 8) % N))), (10, .int (nI (y / 8))), (9, .int (nI y)), (8, .int (nI i)), (7, .int (nI M)), (6, .ref (ad (51, 0, 0))), (5, .ref (ad (50, 0, 0))), (4, .int (nI N)), (3, .int (nI S)), (2, .int (nI 1)), (1, .ref (ad (0, 0, 0))), (0, .ref b)]) hx hb dL_law_241 hl (by decide) rfl (fun ls hl => ?_)
      refine lv_iload hx hb dL_law_243 (lv_at hl 4 rfl) ?_
      refine lv_bipush (v := nI 8) hx hb dL_law_245 (by decide) ?_
      refine lv_irem hx hb dL_law_247 (by decide) ?_
      refine lv_to (y := nI (y % 8)) (pk_rem (by omega) (by decide) (by decide)) ?_
      refine lv_iconst (v := nI 2) hx hb dL_law_248 (by decide) ?_
      obtain ⟨z, ez⟩ : ∃ z, z = y / 8 := ⟨_, rfl⟩
      obtain ⟨mi, emi⟩ : ∃ q, q = z / 49 % 2000 := ⟨_, rfl⟩
      obtain ⟨bb, ebb⟩ : ∃ q, q = z / 7 % N := ⟨_, rfl⟩
      obtain ⟨aa, eaa⟩ : ∃ q, q = z % N := ⟨_, rfl⟩
      have hl : lv_has ls 21 [(13, .int (nI mi)), (12, .int (nI bb)), (11, .int (nI aa)), (10, .int (nI z)), (9, .int (nI y)), (8, .int (nI i)), (7, .int (nI M)), (6, .ref (ad (51, 0, 0))), (5, .ref (ad (50, 0, 0))), (4, .int (nI N)), (3, .int (nI S)), (2, .int (nI 1)), (1, .ref (ad (0, 0, 0))), (0, .ref b)] := by rw [emi, ebb, eaa, ez]; exact hl
      have hz9 : z < 2 ^ 29 := by omega
      have haa : aa < N := by rw [eaa]; exact Nat.mod_lt _ (by omega)
      have hbb : bb < N := by rw [ebb]; exact Nat.mod_lt _ (by omega)
      have hmi : mi < 2000 := by rw [emi]; exact Nat.mod_lt _ (by decide)
      refine lv_icmp_ge (tgt := 345) hx hb dL_law_249 (by decide) (fun c_6 => ?_) (fun c_6 => ?_)
      · refine lv_iload hx hb dL_law_345 (lv_at hl 4 rfl) ?_
        refine lv_bipush (v := nI 8) hx hb dL_law_347 (by decide) ?_
        refine lv_irem hx hb dL_law_349 (by decide) ?_
        refine lv_to (y := nI (y % 8)) (pk_rem (by omega) (by decide) (by decide)) ?_
        refine lv_iconst (v := nI 4) hx hb dL_law_350 (by decide) ?_
        refine lv_icmp_ge (tgt := 626) hx hb dL_law_351 (by decide) (fun c_7 => ?_) (fun c_7 => ?_)
        · refine lv_iload hx hb dL_law_626 (lv_at hl 4 rfl) ?_
          refine lv_bipush (v := nI 8) hx hb dL_law_628 (by decide) ?_
          refine lv_irem hx hb dL_law_630 (by decide) ?_
          refine lv_to (y := nI (y % 8)) (pk_rem (by omega) (by decide) (by decide)) ?_
          refine lv_iconst (v := nI 4) hx hb dL_law_631 (by decide) ?_
          refine lv_icmp_ne (tgt := 703) hx hb dL_law_632 (by decide) (fun c_8 => ?_) (fun c_8 => ?_)
          · exact lawMeets l hst hL hx hb hml hown hts hX hbl hF hS2 hS3 hN1 hN4 hi cont y z aa bb mi M t src to F50 F51 ex g ad ln H locs haa hbb hmi hM20 htt hI hE hG hS ls (lv_sub hl [0, 1, 2, 3, 4, 5, 6, 7, 8, 9, 10, 11, 12, 13] rfl)
          · exact lawCap l hst hL hx hb hml hown hts hX hbl hF hS2 hS3 hN1 hN4 hi cont y z aa bb mi M t src to F50 F51 ex g ad ln H locs haa hM20 htt hI hE hG hS ls (lv_sub hl [0, 1, 2, 3, 4, 5, 6, 7, 8, 9, 10, 11, 12, 13] rfl)
        · exact lawPass l hst hL hx hb hml hown hts hX hbl hF hS2 hS3 hN1 hN4 hi cont y z aa bb mi M t src to F50 F51 ex g ad ln H locs hz9 hM20 htt hI hE hG hS ls (lv_sub hl [0, 1, 2, 3, 4, 5, 6, 7, 8, 9, 10, 11, 12, 13] rfl)
      · refine lv_iload hx hb dL_law_252 (lv_at hl 6 rfl) ?_
        refine lv_bipush (v := nI 20) hx hb dL_law_254 (by decide) ?_
        refine lv_icmp_ge (tgt := 345) hx hb dL_law_256 (by decide) (fun c_9 => ?_) (fun c_9 => ?_)
        · refine lv_iload hx hb dL_law_345 (lv_at hl 4 rfl) ?_
          refine lv_bipush (v := nI 8) hx hb dL_law_347 (by decide) ?_
          refine lv_irem hx hb dL_law_349 (by decide) ?_
          refine lv_to (y := nI (y % 8)) (pk_rem (by omega) (by decide) (by decide)) ?_
          refine lv_iconst (v := nI 4) hx hb dL_law_350 (by decide) ?_
          refine lv_icmp_ge (tgt := 626) hx hb dL_law_351 (by decide) (fun c_10 => ?_) (fun c_10 => ?_)
          · refine lv_iload hx hb dL_law_626 (lv_at hl 4 rfl) ?_
            refine lv_bipush (v := nI 8) hx hb dL_law_628 (by decide) ?_
            refine lv_irem hx hb dL_law_630 (by decide) ?_
            refine lv_to (y := nI (y % 8)) (pk_rem (by omega) (by decide) (by decide)) ?_
            refine lv_iconst (v := nI 4) hx hb dL_law_631 (by decide) ?_
            refine lv_icmp_ne (tgt := 703) hx hb dL_law_632 (by decide) (fun c_11 => ?_) (fun c_11 => ?_)
            · exact lawMeets l hst hL hx hb hml hown hts hX hbl hF hS2 hS3 hN1 hN4 hi cont y z aa bb mi M t src to F50 F51 ex g ad ln H locs haa hbb hmi hM20 htt hI hE hG hS ls (lv_sub hl [0, 1, 2, 3, 4, 5, 6, 7, 8, 9, 10, 11, 12, 13] rfl)
            · exact lawCap l hst hL hx hb hml hown hts hX hbl hF hS2 hS3 hN1 hN4 hi cont y z aa bb mi M t src to F50 F51 ex g ad ln H locs haa hM20 htt hI hE hG hS ls (lv_sub hl [0, 1, 2, 3, 4, 5, 6, 7, 8, 9, 10, 11, 12, 13] rfl)
          · exact lawPass l hst hL hx hb hml hown hts hX hbl hF hS2 hS3 hN1 hN4 hi cont y z aa bb mi M t src to F50 F51 ex g ad ln H locs hz9 hM20 htt hI hE hG hS ls (lv_sub hl [0, 1, 2, 3, 4, 5, 6, 7, 8, 9, 10, 11, 12, 13] rfl)
        · have hMlt : M < 20 := Nat.lt_of_not_le (fun h9 => c_9 ((nI_leI (by omega) (by omega)).mpr h9))
          exact lawSend l hst hL hx hb hml hown hts hX hbl hF hS2 hS3 hN1 hN4 hi cont y z aa bb mi M t src to F50 F51 ex g ad ln H locs hMlt hz9 hM20 htt hI hE hG hS ls (lv_sub hl [0, 1, 2, 3, 4, 5, 6, 7, 8, 9, 10, 11, 12, 13] rfl)
