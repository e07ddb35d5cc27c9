theorem nI_over {M : Nat} (h : M < 2 ^ 30) : ¬ (nI 0 ≤ nI M ∧ nI M ≤ nI M - nI 1) := fun z => by
  have h2 := z.2
  rw [Int32.le_iff_toInt_le, nI_toInt (by omega), pk_sub_toInt h (by decide)] at h2
  omega
/-- the minute of the last of i hops, or -1 -/
def lstI (T : Nat → Nat) (i : Nat) : Int32 := if i = 0 then (-1) else nI (T (i - 1))
theorem lst_lt {T : Nat → Nat} {i : Nat} (h : ∀ k, k + 1 = i → T k < T i) (hT : T i < 2 ^ 30) : ¬ nI (T i) ≤ lstI T i := by
  unfold lstI
  by_cases q : i = 0
  · rw [if_pos q, Int32.le_iff_toInt_le, nI_toInt (by omega), show (-1 : Int32).toInt = -1 by decide]
    omega
  · have := h (i - 1) (by omega)
    rw [if_neg q, nI_leI (by omega) (by omega)]
    omega
/-- all that the first k nodes carry -/
def sm (g : g_k → Nat → Int32) (M : Nat) : Nat → Nat
  | 0 => 0
  | k + 1 => sm g M k + at_c g (nI k) M
def sm1 (x : Int32) : Nat → Nat
  | 0 => 0
  | k + 1 => sm1 x k + if x = nI k then 1 else 0
theorem sm_s (g : g_k → Nat → Int32) (M : Nat) : ∀ k, sm g (M + 1) k = sm g M k + sm1 (g (40, M, 0) 2) k
  | 0 => rfl
  | k + 1 => by
    rw [sm, sm, sm1, sm_s g M k, at_c]
    omega
theorem sm1_of {v : Nat} (hv : v < 2 ^ 30) : ∀ k, k < 2 ^ 30 → sm1 (nI v) k = if v < k then 1 else 0
  | 0, _ => rfl
  | k + 1, hk => by
    have e9 : nI v = nI k ↔ v = k := nI_eq (by omega) (by omega)
    rw [sm1, sm1_of hv k (by omega)]
    by_cases q : v < k
    · rw [if_pos q, if_neg (fun z => by have := e9.mp z; omega), if_pos (by omega)]
    · rw [if_neg q]
      by_cases q2 : v = k
      · rw [if_pos (e9.mpr q2), if_pos (by omega)]
      · rw [if_neg (fun z => q2 (e9.mp z)), if_neg (by omega)]
theorem sm_0 (g : g_k → Nat → Int32) : ∀ k, sm g 0 k = 0
  | 0 => rfl
  | k + 1 => by rw [sm, sm_0 g k]; rfl
theorem sm_M {g : g_k → Nat → Int32} {n : Nat} (hn : n ≤ 10) : ∀ M, (∀ j, j < M → ∃ v, v < n ∧ g (40, j, 0) 2 = nI v) → sm g M n = M
  | 0, _ => sm_0 g n
  | M + 1, h => by
    obtain ⟨v, hv, e⟩ := h M (Nat.lt_succ_self M)
    rw [sm_s, sm_M hn M (fun j hj => h j (by omega)), e, sm1_of (by omega) n (by omega), if_pos hv]

set_option maxHeartbeats 4000000 in
set_option maxRecDepth 100000 in
theorem l_carries (l : Launch) (hst : l.stackTraces = false) {D : va_G} {C : g_C} {g : g_k → Nat → Int32} {ad ln : g_k → Nat} {ex : g_k → Option va_E} {B : Nat} {n : Nat} (hn : n ≤ 10) (hc : g (1, 0, 0) 4 = nI n) {M : Nat} (hM : ln (5, 0, 0) = M) (hM20 : M ≤ 20) (hs : g (0, 0, 0) 7 = nI M) {t : Nat} (ht : t < 2 ^ 19) (hnow : g (0, 0, 0) 8 = nI t) {src to : Nat → Nat} {F50 F51 : Nat → Int32} (hF50 : ex (50, 0, 0) = some (.inl (C.1, 20, .inl F50))) (hF51 : ex (51, 0, 0) = some (.inl (C.1, 20, .inl F51))) (hF0 : ∀ j, j < M → F50 j = nI (src j)) (hF1 : ∀ j, j < M → F51 j = nI (to j)) (hto : ∀ j, j < M → to j < 10 ∧ src j ≠ to j) (hmk : ∀ j, j < M → mok g ln n t j (src j) (to j)) : Met l yL_carries wsL_carries ({ frames := 9, cells := 64, slots := 384, locals := 149 } : Room) (va_Pc [.ref (ad (0, 0, 0)), .int (nI M), .ref (ad (50, 0, 0)), .ref (ad (51, 0, 0)), .int (nI n)] (g_S D C (lay C g ad ln ex) ad B)) (va_Qi (fun (r : Int32) (g1 : g_k → Nat → Int32) => r = nI 1 ∧ g1 = g) (fun g1 t => g_P D (lay C g1 ad ln ex) ad B t.heap) (g_A B)) 64 384 (g_A B) := by
  refine Met.ofW (cc := cL_carries) (maxL := 13) (ret := (some .boolean)) (by decide) rfl ?_
  intro p e s m args below meth c s₁ B₀ hml hv
  obtain ⟨rfl, hG, hF⟩ := hv
  have hK := hF.1
  have hN := hF.2.1
  have hB := hF.2.2.2
  have hx := B₀.exec
  have hb := B₀.bytes
  have hr := B₀.returns
  have hts := atoms_spec (ws := wsL_carries) B₀.pre
  have hown : s.vm.findClass RL = some m.cls := findClass_of_methodNamed B₀.named
  have hlocks := B₀.notSynchronized
  have hS : va_S (g_A B) s.heap s.heap [] := va_S.rf
  have hl := lv_entry [.ref (ad (0, 0, 0)), .int (nI M), .ref (ad (50, 0, 0)), .ref (ad (51, 0, 0)), .int (nI n)] (n := 13) (Nat.le_of_ble_eq_true rfl)
  rw [lg_entry_eq]
  generalize (lg_sl [.ref (ad (0, 0, 0)), .int (nI M), .ref (ad (50, 0, 0)), .ref (ad (51, 0, 0)), .int (nI n)] ++ List.replicate (13 - (lg_sl [.ref (ad (0, 0, 0)), .int (nI M), .ref (ad (50, 0, 0)), .ref (ad (51, 0, 0)), .int (nI n)]).length) Slot.unset).toArray = ls at hl ⊢
  have hl : lv_has ls 13 [(0, .ref (ad (0, 0, 0))), (1, .int (nI M)), (2, .ref (ad (50, 0, 0))), (3, .ref (ad (51, 0, 0))), (4, .int (nI n))] := hl
  have seg290 : ∀ (H : Heap) (locs : List Loc), g_P D (lay C g ad ln ex) ad B H → va_S (g_A B) s.heap H locs → ∀ ls, lv_has ls 13 [(5, .int (nI 1)), (0, .ref (ad (0, 0, 0))), (1, .int (nI M)), (2, .ref (ad (50, 0, 0))), (3, .ref (ad (51, 0, 0))), (4, .int (nI n))] → W p l e (headSpec wsL_carries ({ frames := 9, cells := 64, slots := 384, locals := 149 } : Room)).room s m ([.ref (ad (0, 0, 0)), .int (nI M), .ref (ad (50, 0, 0)), .ref (ad (51, 0, 0)), .int (nI n)]).toArray below meth c H locs 64 384 (MQ below (va_Qi (fun (r : Int32) (g1 : g_k → Nat → Int32) => r = nI 1 ∧ g1 = g) (fun g1 t => g_P D (lay C g1 ad ln ex) ad B t.heap) (g_A B)) ([.ref (ad (0, 0, 0)), .int (nI M), .ref (ad (50, 0, 0)), .ref (ad (51, 0, 0)), .int (nI n)]).toArray s 64 384 (g_A B)) (F0 m 290 ls []) := by
    intro H locs hG hS ls hl
    refine lv_iconst (v := nI 0) hx hb dL_carries_290 (by decide) ?_
    refine lv_istore (lv' := [(6, .int (nI 0)), (5, .int (nI 1)), (0, .ref (ad (0, 0, 0))), (1, .int (nI M)), (2, .ref (ad (50, 0, 0))), (3, .ref (ad (51, 0, 0))), (4, .int (nI n))]) hx hb dL_carries_291 hl (by decide) rfl (fun ls hl => ?_)
    refine lv_iconst (v := nI 0) hx hb dL_carries_293 (by decide) ?_
    refine lv_istore (lv' := [(7, .int (nI 0)), (6, .int (nI 0)), (5, .int (nI 1)), (0, .ref (ad (0, 0, 0))), (1, .int (nI M)), (2, .ref (ad (50, 0, 0))), (3, .ref (ad (51, 0, 0))), (4, .int (nI n))]) hx hb dL_carries_294 hl (by decide) rfl (fun ls hl => ?_)
    have loop1 : ∀ (q k : Nat), k ≤ n → n < k + q → ∀ ls, lv_has ls 13 [(7, .int (nI k)), (6, .int (nI (sm g M k))), (5, .int (nI 1)), (0, .ref (ad (0, 0, 0))), (1, .int (nI M)), (2, .ref (ad (50, 0, 0))), (3, .ref (ad (51, 0, 0))), (4, .int (nI n))] → W p l e (headSpec wsL_carries ({ frames := 9, cells := 64, slots := 384, locals := 149 } : Room)).room s m ([.ref (ad (0, 0, 0)), .int (nI M), .ref (ad (50, 0, 0)), .ref (ad (51, 0, 0)), .int (nI n)]).toArray below meth c H locs 64 384 (MQ below (va_Qi (fun (r : Int32) (g1 : g_k → Nat → Int32) => r = nI 1 ∧ g1 = g) (fun g1 t => g_P D (lay C g1 ad ln ex) ad B t.heap) (g_A B)) ([.ref (ad (0, 0, 0)), .int (nI M), .ref (ad (50, 0, 0)), .ref (ad (51, 0, 0)), .int (nI n)]).toArray s 64 384 (g_A B)) (F0 m 296 ls []) := by
      intro q
      induction q with
      | zero => intro k h1 h2; exact absurd h2 (by omega)
      | succ q ih =>
        intro k h1 h2 ls hl
        refine lv_iload hx hb dL_carries_296 (lv_at hl 0 rfl) ?_
        refine lv_iload hx hb dL_carries_298 (lv_at hl 7 rfl) ?_
        refine lv_icmp_ge (tgt := 382) hx hb dL_carries_300 (by decide) (fun c_1 => ?_) (fun c_1 => ?_)
        · have hk : k = n := by have := (nI_leI (by omega) (by omega)).mp c_1; omega
          refine lv_iload hx hb dL_carries_382 (lv_at hl 2 rfl) ?_
          refine lv_if_eq (tgt := 397) hx hb dL_carries_384 (by decide) (fun c => absurd c (by decide)) (fun _ => ?_)
          refine lv_iload hx hb dL_carries_387 (lv_at hl 1 rfl) ?_
          refine lv_iload_n hx hb dL_carries_389 rfl (lv_at hl 4 rfl) ?_
          refine lv_icmp_ne (tgt := 397) hx hb dL_carries_390 (by decide) (fun c => absurd (by rw [hk, sm_M hn M (fun j hj => by obtain ⟨h9, N9, T9, x1, -, -, x2, -⟩ := hmk j hj; exact ⟨_, x2, x1.2.1⟩)]) c) (fun _ => ?_)
          refine lv_iconst (v := nI 1) hx hb dL_carries_393 (by decide) ?_
          refine lv_goto (tgt := 398) hx hb dL_carries_394 (by decide) ?_
          exact W.zret (v := nI 1) hx hb hr rfl (fun t9 ht9 hW9 => ⟨⟨_, g, rfl, ⟨rfl, rfl⟩, by show g_P _ _ _ _ t9.heap; rw [ht9]; exact hG⟩, hS.F ht9⟩) hS.2.2 dL_carries_398
        · have hk : k < n := Nat.lt_of_not_le (fun h9 => c_1 ((nI_leI (by omega) (by omega)).mpr h9))
          refine lv_iload hx hb dL_carries_303 (lv_at hl 2 rfl) ?_
          refine lv_if_eq (tgt := 382) hx hb dL_carries_305 (by decide) (fun c => absurd c (by decide)) (fun _ => ?_)
          refine lv_aload_n hx hb dL_carries_308 rfl (lv_at hl 3 rfl) ?_
          refine lv_iload hx hb dL_carries_309 (lv_at hl 0 rfl) ?_
          refine g_callSi (vx_runSW (As := [.ref (ad (0, 0, 0)), .int (nI k)]) (rest := []) ⟨hx, hb, hml, hown, hts⟩ (l_load l hn hc hM hM20 hs hk) (vx_cwSW 2 hts gL_carries_L_load rfl rfl rfl (by decide +kernel) ⟨Nat.le_of_ble_eq_true rfl, Nat.le_of_ble_eq_true rfl⟩) (g_preS hF hG hS) rfl rfl hl.1 rfl (lv_room (Nat.le_of_ble_eq_true rfl)) dL_carries_311 ⟨Nat.le_refl 64, Nat.le_refl 384⟩) (fun r_2 h_3 => ?_)
          refine lv_to (y := nI (at_c g (nI k) M)) (h_3) ?_
          refine lv_istore (lv' := [(8, .int (nI (at_c g (nI k) M))), (7, .int (nI k)), (6, .int (nI (sm g M k))), (5, .int (nI 1)), (0, .ref (ad (0, 0, 0))), (1, .int (nI M)), (2, .ref (ad (50, 0, 0))), (3, .ref (ad (51, 0, 0))), (4, .int (nI n))]) hx hb dL_carries_314 hl (by decide) rfl (fun ls hl => ?_)
          refine lv_iconst (v := nI 0) hx hb dL_carries_316 (by decide) ?_
          refine lv_istore (lv' := [(9, .int (nI 0)), (8, .int (nI (at_c g (nI k) M))), (7, .int (nI k)), (6, .int (nI (sm g M k))), (5, .int (nI 1)), (0, .ref (ad (0, 0, 0))), (1, .int (nI M)), (2, .ref (ad (50, 0, 0))), (3, .ref (ad (51, 0, 0))), (4, .int (nI n))]) hx hb dL_carries_317 hl (by decide) rfl (fun ls hl => ?_)
          refine lv_iconst (v := nI 0) hx hb dL_carries_319 (by decide) ?_
          refine lv_istore (lv' := [(10, .int (nI 0)), (9, .int (nI 0)), (8, .int (nI (at_c g (nI k) M))), (7, .int (nI k)), (6, .int (nI (sm g M k))), (5, .int (nI 1)), (0, .ref (ad (0, 0, 0))), (1, .int (nI M)), (2, .ref (ad (50, 0, 0))), (3, .ref (ad (51, 0, 0))), (4, .int (nI n))]) hx hb dL_carries_320 hl (by decide) rfl (fun ls hl => ?_)
          have loop2 : ∀ (q i : Nat), i ≤ M → M < i + q → ∀ ls, lv_has ls 13 [(10, .int (nI i)), (9, .int (nI (at_c g (nI k) i))), (8, .int (nI (at_c g (nI k) M))), (7, .int (nI k)), (6, .int (nI (sm g M k))), (5, .int (nI 1)), (0, .ref (ad (0, 0, 0))), (1, .int (nI M)), (2, .ref (ad (50, 0, 0))), (3, .ref (ad (51, 0, 0))), (4, .int (nI n))] → W p l e (headSpec wsL_carries ({ frames := 9, cells := 64, slots := 384, locals := 149 } : Room)).room s m ([.ref (ad (0, 0, 0)), .int (nI M), .ref (ad (50, 0, 0)), .ref (ad (51, 0, 0)), .int (nI n)]).toArray below meth c H locs 64 384 (MQ below (va_Qi (fun (r : Int32) (g1 : g_k → Nat → Int32) => r = nI 1 ∧ g1 = g) (fun g1 t => g_P D (lay C g1 ad ln ex) ad B t.heap) (g_A B)) ([.ref (ad (0, 0, 0)), .int (nI M), .ref (ad (50, 0, 0)), .ref (ad (51, 0, 0)), .int (nI n)]).toArray s 64 384 (g_A B)) (F0 m 322 ls []) := by
            intro q2
            induction q2 with
            | zero => intro i h1 h2; exact absurd h2 (by omega)
            | succ q2 ih2 =>
              intro i h3 h4 ls hl
              refine lv_iload hx hb dL_carries_322 (lv_at hl 0 rfl) ?_
              refine lv_iload_n hx hb dL_carries_324 rfl (lv_at hl 7 rfl) ?_
              refine lv_icmp_ge (tgt := 355) hx hb dL_carries_325 (by decide) (fun c_4 => ?_) (fun c_4 => ?_)
              · have hi : i = M := by have := (nI_leI (by omega) (by omega)).mp c_4; omega
                refine lv_iload hx hb dL_carries_355 (lv_at hl 4 rfl) ?_
                refine lv_iload hx hb dL_carries_357 (lv_at hl 2 rfl) ?_
                refine lv_iadd hx hb dL_carries_359 ?_
                refine lv_to (y := nI ((sm g M k) + (at_c g (nI k) M))) (nI_add (sm g M k) (at_c g (nI k) M)) ?_
                refine lv_istore (lv' := [(6, .int (nI ((sm g M k) + (at_c g (nI k) M)))), (10, .int (nI i)), (9, .int (nI (at_c g (nI k) i))), (8, .int (nI (at_c g (nI k) M))), (7, .int (nI k)), (5, .int (nI 1)), (0, .ref (ad (0, 0, 0))), (1, .int (nI M)), (2, .ref (ad (50, 0, 0))), (3, .ref (ad (51, 0, 0))), (4, .int (nI n))]) hx hb dL_carries_360 hl (by decide) rfl (fun ls hl => ?_)
                refine lv_iload hx hb dL_carries_362 (lv_at hl 3 rfl) ?_
                refine lv_iload hx hb dL_carries_364 (lv_at hl 2 rfl) ?_
                refine lv_icmp_ne (tgt := 373) hx hb dL_carries_366 (by decide) (fun c => absurd (by rw [hi]) c) (fun _ => ?_)
                refine lv_iconst (v := nI 1) hx hb dL_carries_369 (by decide) ?_
                refine lv_goto (tgt := 374) hx hb dL_carries_370 (by decide) ?_
                refine lv_istore (lv' := [(5, .int (nI 1)), (6, .int (nI ((sm g M k) + (at_c g (nI k) M)))), (10, .int (nI i)), (9, .int (nI (at_c g (nI k) i))), (8, .int (nI (at_c g (nI k) M))), (7, .int (nI k)), (0, .ref (ad (0, 0, 0))), (1, .int (nI M)), (2, .ref (ad (50, 0, 0))), (3, .ref (ad (51, 0, 0))), (4, .int (nI n))]) hx hb dL_carries_374 hl (by decide) rfl (fun ls hl => ?_)
                refine lv_iinc (v := nI (k + 1)) (lv' := [(7, .int (nI (k + 1))), (5, .int (nI 1)), (6, .int (nI ((sm g M k) + (at_c g (nI k) M)))), (10, .int (nI i)), (9, .int (nI (at_c g (nI k) i))), (8, .int (nI (at_c g (nI k) M))), (0, .ref (ad (0, 0, 0))), (1, .int (nI M)), (2, .ref (ad (50, 0, 0))), (3, .ref (ad (51, 0, 0))), (4, .int (nI n))]) hx hb dL_carries_376 hl (k := 5) rfl (nI_add k 1) (by decide) rfl (fun ls hl => ?_)
                refine lv_goto (tgt := 296) hx hb dL_carries_379 (by decide) ?_
                exact ih (k + 1) (by omega) (by omega) ls (lv_sub hl [0, 2, 1, 6, 7, 8, 9, 10] rfl)
              · have hi : i < M := Nat.lt_of_not_le (fun h9 => c_4 ((nI_leI (by omega) (by omega)).mpr h9))
                refine lv_iload hx hb dL_carries_328 (lv_at hl 1 rfl) ?_
                refine lv_aload_n hx hb dL_carries_330 rfl (lv_at hl 6 rfl) ?_
                refine lv_iload hx hb dL_carries_331 (lv_at hl 0 rfl) ?_
                refine g_callSi (vx_runSW (As := [.ref (ad (0, 0, 0)), .int (nI i)]) (rest := [.int (nI (at_c g (nI k) i))]) ⟨hx, hb, hml, hown, hts⟩ (l_nodeOf l hM hM20 hs hi) (vx_cwSW 2 hts gL_carries_L_nodeOf rfl rfl rfl (by decide +kernel) ⟨Nat.le_of_ble_eq_true rfl, Nat.le_of_ble_eq_true rfl⟩) (g_preS hF hG hS) rfl rfl hl.1 rfl (lv_room (Nat.le_of_ble_eq_true rfl)) dL_carries_333 ⟨Nat.le_refl 64, Nat.le_refl 384⟩) (fun r_5 h_6 => ?_)
                refine lv_to (y := g (40, i, 0) 2) (h_6) ?_
                refine lv_iload hx hb dL_carries_336 (lv_at hl 3 rfl) ?_
                refine lv_icmp_ne (tgt := 345) hx hb dL_carries_338 (by decide) (fun c_7 => ?_) (fun c_7 => ?_)
                · refine lv_iconst (v := nI 0) hx hb dL_carries_345 (by decide) ?_
                  refine lv_iadd hx hb dL_carries_346 ?_
                  refine lv_to (y := nI ((at_c g (nI k) i) + 0)) (nI_add (at_c g (nI k) i) 0) ?_
                  refine lv_to (y := nI (at_c g (nI k) (i + 1))) (by rw [at_c, if_neg c_7]) ?_
                  refine lv_istore (lv' := [(9, .int (nI (at_c g (nI k) (i + 1)))), (10, .int (nI i)), (8, .int (nI (at_c g (nI k) M))), (7, .int (nI k)), (6, .int (nI (sm g M k))), (5, .int (nI 1)), (0, .ref (ad (0, 0, 0))), (1, .int (nI M)), (2, .ref (ad (50, 0, 0))), (3, .ref (ad (51, 0, 0))), (4, .int (nI n))]) hx hb dL_carries_347 hl (by decide) rfl (fun ls hl => ?_)
                  refine lv_iinc (v := nI (i + 1)) (lv' := [(10, .int (nI (i + 1))), (9, .int (nI (at_c g (nI k) (i + 1)))), (8, .int (nI (at_c g (nI k) M))), (7, .int (nI k)), (6, .int (nI (sm g M k))), (5, .int (nI 1)), (0, .ref (ad (0, 0, 0))), (1, .int (nI M)), (2, .ref (ad (50, 0, 0))), (3, .ref (ad (51, 0, 0))), (4, .int (nI n))]) hx hb dL_carries_349 hl (k := 1) rfl (nI_add i 1) (by decide) rfl (fun ls hl => ?_)
                  refine lv_goto (tgt := 322) hx hb dL_carries_352 (by decide) ?_
                  exact ih2 (i + 1) (by omega) (by omega) ls (lv_sub hl [0, 1, 2, 3, 4, 5, 6, 7, 8, 9, 10] rfl)
                · refine lv_iconst (v := nI 1) hx hb dL_carries_341 (by decide) ?_
                  refine lv_goto (tgt := 346) hx hb dL_carries_342 (by decide) ?_
                  refine lv_iadd hx hb dL_carries_346 ?_
                  refine lv_to (y := nI ((at_c g (nI k) i) + 1)) (nI_add (at_c g (nI k) i) 1) ?_
                  refine lv_to (y := nI (at_c g (nI k) (i + 1))) (by rw [at_c, if_pos c_7]) ?_
                  refine lv_istore (lv' := [(9, .int (nI (at_c g (nI k) (i + 1)))), (10, .int (nI i)), (8, .int (nI (at_c g (nI k) M))), (7, .int (nI k)), (6, .int (nI (sm g M k))), (5, .int (nI 1)), (0, .ref (ad (0, 0, 0))), (1, .int (nI M)), (2, .ref (ad (50, 0, 0))), (3, .ref (ad (51, 0, 0))), (4, .int (nI n))]) hx hb dL_carries_347 hl (by decide) rfl (fun ls hl => ?_)
                  refine lv_iinc (v := nI (i + 1)) (lv' := [(10, .int (nI (i + 1))), (9, .int (nI (at_c g (nI k) (i + 1)))), (8, .int (nI (at_c g (nI k) M))), (7, .int (nI k)), (6, .int (nI (sm g M k))), (5, .int (nI 1)), (0, .ref (ad (0, 0, 0))), (1, .int (nI M)), (2, .ref (ad (50, 0, 0))), (3, .ref (ad (51, 0, 0))), (4, .int (nI n))]) hx hb dL_carries_349 hl (k := 1) rfl (nI_add i 1) (by decide) rfl (fun ls hl => ?_)
                  refine lv_goto (tgt := 322) hx hb dL_carries_352 (by decide) ?_
                  exact ih2 (i + 1) (by omega) (by omega) ls (lv_sub hl [0, 1, 2, 3, 4, 5, 6, 7, 8, 9, 10] rfl)
          exact loop2 (M + 1) 0 (Nat.zero_le M) (by omega) ls (lv_sub hl [0, 1, 2, 3, 4, 5, 6, 7, 8, 9, 10] rfl)
    exact loop1 (n + 1) 0 (Nat.zero_le n) (by omega) ls (lv_sub hl [0, 1, 2, 3, 4, 5, 6, 7] rfl)
  have loop : ∀ (k j : Nat) (H : Heap) (locs : List Loc), j ≤ M → M < j + k → g_P D (lay C g ad ln ex) ad B H → va_S (g_A B) s.heap H locs → ∀ ls, lv_has ls 13 [(6, .int (nI j)), (5, .int (nI 1)), (0, .ref (ad (0, 0, 0))), (1, .int (nI M)), (2, .ref (ad (50, 0, 0))), (3, .ref (ad (51, 0, 0))), (4, .int (nI n))] → W p l e (headSpec wsL_carries ({ frames := 9, cells := 64, slots := 384, locals := 149 } : Room)).room s m ([.ref (ad (0, 0, 0)), .int (nI M), .ref (ad (50, 0, 0)), .ref (ad (51, 0, 0)), .int (nI n)]).toArray below meth c H locs (4 + 3 * j) (24 + 18 * j) (MQ below (va_Qi (fun (r : Int32) (g1 : g_k → Nat → Int32) => r = nI 1 ∧ g1 = g) (fun g1 t => g_P D (lay C g1 ad ln ex) ad B t.heap) (g_A B)) ([.ref (ad (0, 0, 0)), .int (nI M), .ref (ad (50, 0, 0)), .ref (ad (51, 0, 0)), .int (nI n)]).toArray s 64 384 (g_A B)) (F0 m 50 ls []) := by
    intro k
    induction k with
    | zero => intro j H locs h1 h2; exact absurd h2 (by omega)
    | succ k ih =>
      intro j H locs h1 h2 hG hS ls hl
      refine lv_iload hx hb dL_carries_50 (lv_at hl 0 rfl) ?_
      refine lv_iload_n hx hb dL_carries_52 rfl (lv_at hl 3 rfl) ?_
      refine lv_icmp_ge (tgt := 290) hx hb dL_carries_53 (by decide) (fun c_8 => ?_) (fun c_8 => ?_)
      · refine W.widen (k := 64) (n := 384) (by omega) (by omega) ?_
        exact seg290 H locs hG hS ls (lv_sub hl [1, 2, 3, 4, 5, 6] rfl)
      · have hj : j < M := Nat.lt_of_not_le (fun h9 => c_8 ((nI_leI (by omega) (by omega)).mpr h9))
        obtain ⟨h, N, T, ⟨m1, m2, m3, m4, b, m5, m6⟩, ⟨m7, m8, m9, m10, -⟩, m12, m13, m14, m15⟩ := hmk j hj
        obtain ⟨t1, t2⟩ := hto j hj
        refine lv_iload hx hb dL_carries_56 (lv_at hl 1 rfl) ?_
        refine lv_if_eq (tgt := 290) hx hb dL_carries_58 (by decide) (fun c => absurd c (by decide)) (fun _ => ?_)
        refine lv_aload_n hx hb dL_carries_61 rfl (lv_at hl 4 rfl) ?_
        refine lv_iload hx hb dL_carries_62 (lv_at hl 0 rfl) ?_
        refine g_iald hx hb hK hG ((lay_ex (by decide)).trans hF50) ((show j < 20 by omega)) (by first | decide | omega) dL_carries_64 ?_
        refine lv_to (y := nI (N 0)) (by rw [hF0 j hj, m12]) ?_
        refine lv_istore (lv' := [(7, .int (nI (N 0))), (6, .int (nI j)), (5, .int (nI 1)), (0, .ref (ad (0, 0, 0))), (1, .int (nI M)), (2, .ref (ad (50, 0, 0))), (3, .ref (ad (51, 0, 0))), (4, .int (nI n))]) hx hb dL_carries_65 hl (by decide) rfl (fun ls hl => ?_)
        refine lv_iconst (v := (-1)) hx hb dL_carries_67 (by decide) ?_
        refine lv_istore (lv' := [(8, .int (-1)), (7, .int (nI (N 0))), (6, .int (nI j)), (5, .int (nI 1)), (0, .ref (ad (0, 0, 0))), (1, .int (nI M)), (2, .ref (ad (50, 0, 0))), (3, .ref (ad (51, 0, 0))), (4, .int (nI n))]) hx hb dL_carries_68 hl (by decide) rfl (fun ls hl => ?_)
        refine lv_aload_n hx hb dL_carries_70 rfl (lv_at hl 4 rfl) ?_
        refine lv_iload hx hb dL_carries_71 (lv_at hl 2 rfl) ?_
        refine g_callSi (vx_runSW (As := [.ref (ad (0, 0, 0)), .int (nI j)]) (rest := []) ⟨hx, hb, hml, hown, hts⟩ (l_hops l hM hM20 hs hj) (vx_cwSW 2 hts gL_carries_L_hops rfl rfl rfl (by decide +kernel) ⟨Nat.le_of_ble_eq_true rfl, Nat.le_of_ble_eq_true rfl⟩) (g_preS hF hG hS) rfl rfl hl.1 rfl (lv_room (Nat.le_of_ble_eq_true rfl)) dL_carries_73 ⟨(by show 4 + 3 * j + 0 ≤ 64; omega), (by show 24 + 18 * j + 0 ≤ 384; omega)⟩) (fun r_9 h_10 => ?_)
        refine lv_to (y := nI h) (h_10.trans m3) ?_
        refine lv_istore (lv' := [(9, .int (nI h)), (8, .int (-1)), (7, .int (nI (N 0))), (6, .int (nI j)), (5, .int (nI 1)), (0, .ref (ad (0, 0, 0))), (1, .int (nI M)), (2, .ref (ad (50, 0, 0))), (3, .ref (ad (51, 0, 0))), (4, .int (nI n))]) hx hb dL_carries_76 hl (by decide) rfl (fun ls hl => ?_)
        refine lv_iconst (v := nI 0) hx hb dL_carries_78 (by decide) ?_
        refine lv_istore (lv' := [(10, .int (nI 0)), (9, .int (nI h)), (8, .int (-1)), (7, .int (nI (N 0))), (6, .int (nI j)), (5, .int (nI 1)), (0, .ref (ad (0, 0, 0))), (1, .int (nI M)), (2, .ref (ad (50, 0, 0))), (3, .ref (ad (51, 0, 0))), (4, .int (nI n))]) hx hb dL_carries_79 hl (by decide) rfl (fun ls hl => ?_)
        have inner : ∀ (q i : Nat), i ≤ h → h < i + q → ∀ ls, lv_has ls 13 [(10, .int (nI i)), (9, .int (nI h)), (8, .int (lstI T i)), (7, .int (nI (N i))), (6, .int (nI j)), (5, .int (nI 1)), (0, .ref (ad (0, 0, 0))), (1, .int (nI M)), (2, .ref (ad (50, 0, 0))), (3, .ref (ad (51, 0, 0))), (4, .int (nI n))] → W p l e (headSpec wsL_carries ({ frames := 9, cells := 64, slots := 384, locals := 149 } : Room)).room s m ([.ref (ad (0, 0, 0)), .int (nI M), .ref (ad (50, 0, 0)), .ref (ad (51, 0, 0)), .int (nI n)]).toArray below meth c H locs (4 + 3 * j) (24 + 18 * j) (MQ below (va_Qi (fun (r : Int32) (g1 : g_k → Nat → Int32) => r = nI 1 ∧ g1 = g) (fun g1 t => g_P D (lay C g1 ad ln ex) ad B t.heap) (g_A B)) ([.ref (ad (0, 0, 0)), .int (nI M), .ref (ad (50, 0, 0)), .ref (ad (51, 0, 0)), .int (nI n)]).toArray s 64 384 (g_A B)) (F0 m 81 ls []) := by
          intro q
          induction q with
          | zero => intro i h1 h2; exact absurd h2 (by omega)
          | succ q ih2 =>
            intro i h3 h4 ls hl
            refine lv_iload hx hb dL_carries_81 (lv_at hl 0 rfl) ?_
            refine lv_iload hx hb dL_carries_83 (lv_at hl 1 rfl) ?_
            refine lv_icmp_ge (tgt := 173) hx hb dL_carries_85 (by decide) (fun c_11 => ?_) (fun c_11 => ?_)
            · have hi : i = h := by have := (nI_leI (by omega) (by omega)).mp c_11; omega
              refine lv_iload hx hb dL_carries_173 (lv_at hl 5 rfl) ?_
              refine lv_if_eq (tgt := 281) hx hb dL_carries_175 (by decide) (fun c => absurd c (by decide)) (fun _ => ?_)
              refine lv_aload_n hx hb dL_carries_178 rfl (lv_at hl 6 rfl) ?_
              refine lv_iload hx hb dL_carries_179 (lv_at hl 4 rfl) ?_
              refine g_callSi (vx_runSW (As := [.ref (ad (0, 0, 0)), .int (nI j)]) (rest := []) ⟨hx, hb, hml, hown, hts⟩ (l_nodeOf l hM hM20 hs hj) (vx_cwSW 2 hts gL_carries_L_nodeOf rfl rfl rfl (by decide +kernel) ⟨Nat.le_of_ble_eq_true rfl, Nat.le_of_ble_eq_true rfl⟩) (g_preS hF hG hS) rfl rfl hl.1 rfl (lv_room (Nat.le_of_ble_eq_true rfl)) dL_carries_181 ⟨(by show 4 + 3 * j + 0 ≤ 64; omega), (by show 24 + 18 * j + 0 ≤ 384; omega)⟩) (fun r_12 h_13 => ?_)
              refine lv_to (y := nI (N i)) (h_13.trans (m2.trans (by rw [hi]))) ?_
              refine lv_iload hx hb dL_carries_184 (lv_at hl 3 rfl) ?_
              refine lv_icmp_ne (tgt := 281) hx hb dL_carries_186 (by decide) (fun c => absurd (rfl) c) (fun _ => ?_)
              refine lv_aload_n hx hb dL_carries_189 rfl (lv_at hl 6 rfl) ?_
              refine lv_iload hx hb dL_carries_190 (lv_at hl 4 rfl) ?_
              rcases Classical.em (N h = to j) with c_14 | c_14
              · have hat : g (40, j, 0) 2 = g (40, j, 0) 0 := by rw [m1, m2, c_14]
                have hh0 : 0 < h := Nat.pos_of_ne_zero (fun z => t2 (by rw [← m12, ← c_14, z]))
                have hT9 : T (h - 1) < t := (m14 (h - 1) (by omega)).2.2.2.1
                refine g_callSi (vx_runSW (As := [.ref (ad (0, 0, 0)), .int (nI j)]) (rest := []) ⟨hx, hb, hml, hown, hts⟩ (l_arrivedAt l hM hM20 hs hj hat) (vx_cwSW 2 hts gL_carries_L_arrivedAt rfl rfl rfl (by decide +kernel) ⟨Nat.le_of_ble_eq_true rfl, Nat.le_of_ble_eq_true rfl⟩) (g_preS hF hG hS) rfl rfl hl.1 rfl (lv_room (Nat.le_of_ble_eq_true rfl)) dL_carries_192 ⟨(by show 4 + 3 * j + 0 ≤ 64; omega), (by show 24 + 18 * j + 0 ≤ 384; omega)⟩) (fun r_15 h_16 => ?_)
                refine lv_to (y := nI (T (h - 1) + 1)) (h_16.trans (m4 hh0)) ?_
                refine lv_if_lt (tgt := 202) hx hb dL_carries_195 (by decide) (fun c => absurd c (nI_pos (by omega))) (fun _ => ?_)
                refine lv_iconst (v := nI 1) hx hb dL_carries_198 (by decide) ?_
                refine lv_goto (tgt := 203) hx hb dL_carries_199 (by decide) ?_
                refine lv_iload hx hb dL_carries_203 (lv_at hl 3 rfl) ?_
                refine lv_aload_n hx hb dL_carries_205 rfl (lv_at hl 9 rfl) ?_
                refine lv_iload hx hb dL_carries_206 (lv_at hl 4 rfl) ?_
                refine g_iald hx hb hK hG ((lay_ex (by decide)).trans hF51) ((show j < 20 by omega)) (by first | decide | omega) dL_carries_208 ?_
                refine lv_to (y := nI (to j)) (hF1 j hj) ?_
                refine lv_icmp_ne (tgt := 216) hx hb dL_carries_209 (by decide) (fun c => absurd (by rw [hi, c_14]) c) (fun _ => ?_)
                refine lv_iconst (v := nI 1) hx hb dL_carries_212 (by decide) ?_
                refine lv_goto (tgt := 217) hx hb dL_carries_213 (by decide) ?_
                refine lv_icmp_ne (tgt := 281) hx hb dL_carries_217 (by decide) (fun c => absurd (rfl) c) (fun _ => ?_)
                refine lv_iload hx hb dL_carries_220 (lv_at hl 3 rfl) ?_
                refine lv_aload_n hx hb dL_carries_222 rfl (lv_at hl 9 rfl) ?_
                refine lv_iload hx hb dL_carries_223 (lv_at hl 4 rfl) ?_
                refine g_iald hx hb hK hG ((lay_ex (by decide)).trans hF51) ((show j < 20 by omega)) (by first | decide | omega) dL_carries_225 ?_
                refine lv_to (y := nI (to j)) (hF1 j hj) ?_
                refine lv_icmp_ne (tgt := 242) hx hb dL_carries_226 (by decide) (fun c => absurd (by rw [hi, c_14]) c) (fun _ => ?_)
                refine lv_aload_n hx hb dL_carries_229 rfl (lv_at hl 6 rfl) ?_
                refine lv_iload hx hb dL_carries_230 (lv_at hl 4 rfl) ?_
                refine g_callSi (vx_runSW (As := [.ref (ad (0, 0, 0)), .int (nI j)]) (rest := []) ⟨hx, hb, hml, hown, hts⟩ (l_arrivedAt l hM hM20 hs hj hat) (vx_cwSW 2 hts gL_carries_L_arrivedAt rfl rfl rfl (by decide +kernel) ⟨Nat.le_of_ble_eq_true rfl, Nat.le_of_ble_eq_true rfl⟩) (g_preS hF hG hS) rfl rfl hl.1 rfl (lv_room (Nat.le_of_ble_eq_true rfl)) dL_carries_232 ⟨(by show 4 + 3 * j + 0 ≤ 64; omega), (by show 24 + 18 * j + 0 ≤ 384; omega)⟩) (fun r_17 h_18 => ?_)
                refine lv_to (y := nI (T (h - 1) + 1)) (h_18.trans (m4 hh0)) ?_
                refine lv_iload hx hb dL_carries_235 (lv_at hl 2 rfl) ?_
                refine lv_to (y := nI (T (h - 1))) (by unfold lstI; rw [hi, if_neg (by omega)]) ?_
                refine lv_iconst (v := nI 1) hx hb dL_carries_237 (by decide) ?_
                refine lv_iadd hx hb dL_carries_238 ?_
                refine lv_to (y := nI ((T (h - 1)) + 1)) (nI_add (T (h - 1)) 1) ?_
                refine lv_icmp_ne (tgt := 281) hx hb dL_carries_239 (by decide) (fun c => absurd (rfl) c) (fun _ => ?_)
                refine lv_aload_n hx hb dL_carries_242 rfl (lv_at hl 6 rfl) ?_
                refine lv_iload hx hb dL_carries_243 (lv_at hl 4 rfl) ?_
                refine lv_iload hx hb dL_carries_245 (lv_at hl 1 rfl) ?_
                refine va_calli (vx_runSW (As := [.ref (ad (0, 0, 0)), .int (nI j), .int (nI h)]) (rest := []) ⟨hx, hb, hml, hown, hts⟩ (lx_hopNode l hst hM hM20 hs hj m3 (nI_over (by omega))) (vx_cwSW 3 hts gL_carries_L_hopNode rfl rfl rfl (by decide +kernel) ⟨Nat.le_of_ble_eq_true rfl, Nat.le_of_ble_eq_true rfl⟩) (g_preS hF hG hS) rfl rfl hl.1 rfl (lv_room (Nat.le_of_ble_eq_true rfl)) dL_carries_247 ⟨(by show 4 + 3 * j + 1 ≤ 64; omega), (by show 24 + 18 * j + 6 ≤ 384; omega)⟩) hS (fun q _ h => h) (fun q h => h) (fun r_19 g_21 t9 H locs ht9 _ h_20 hB1 _ _ hS => ?_)
                have hG : g_P D (lay C g_21 ad ln ex) ad B H := by rw [← ht9]; exact hB1
                rw [h_20.2] at hG
                refine lv_to (y := (-101)) (h_20.1) ?_
                refine lv_bipush (v := (-101)) hx hb dL_carries_250 (by decide) ?_
                refine lv_icmp_ne (tgt := 281) hx hb dL_carries_252 (by decide) (fun c => absurd (rfl) c) (fun _ => ?_)
                refine lv_aload_n hx hb dL_carries_255 rfl (lv_at hl 6 rfl) ?_
                refine lv_iload hx hb dL_carries_256 (lv_at hl 4 rfl) ?_
                refine lv_iload hx hb dL_carries_258 (lv_at hl 1 rfl) ?_
                refine va_calli (vx_runSW (As := [.ref (ad (0, 0, 0)), .int (nI j), .int (nI h)]) (rest := []) ⟨hx, hb, hml, hown, hts⟩ (lx_hopMinute l hst hM hM20 hs hj m3 (nI_over (by omega))) (vx_cwSW 3 hts gL_carries_L_hopMinute rfl rfl rfl (by decide +kernel) ⟨Nat.le_of_ble_eq_true rfl, Nat.le_of_ble_eq_true rfl⟩) (g_preS hF hG hS) rfl rfl hl.1 rfl (lv_room (Nat.le_of_ble_eq_true rfl)) dL_carries_260 ⟨(by show 4 + 3 * j + 2 ≤ 64; omega), (by show 24 + 18 * j + 12 ≤ 384; omega)⟩) hS (fun q _ h => h) (fun q h => h) (fun r_22 g_24 t9 H locs ht9 _ h_23 hB1 _ _ hS => ?_)
                have hG : g_P D (lay C g_24 ad ln ex) ad B H := by rw [← ht9]; exact hB1
                rw [h_23.2] at hG
                refine lv_to (y := (-101)) (h_23.1) ?_
                refine lv_bipush (v := (-101)) hx hb dL_carries_263 (by decide) ?_
                refine lv_icmp_ne (tgt := 281) hx hb dL_carries_265 (by decide) (fun c => absurd (rfl) c) (fun _ => ?_)
                refine lv_aload_n hx hb dL_carries_268 rfl (lv_at hl 6 rfl) ?_
                refine lv_iload hx hb dL_carries_269 (lv_at hl 4 rfl) ?_
                refine g_callSi (vx_runSW (As := [.ref (ad (0, 0, 0)), .int (nI j)]) (rest := []) ⟨hx, hb, hml, hown, hts⟩ (l_blocked l hM hM20 hs hj) (vx_cwSW 2 hts gL_carries_L_blocked rfl rfl rfl (by decide +kernel) ⟨Nat.le_of_ble_eq_true rfl, Nat.le_of_ble_eq_true rfl⟩) (g_preS hF hG hS) rfl rfl hl.1 rfl (lv_room (Nat.le_of_ble_eq_true rfl)) dL_carries_271 ⟨(by show 4 + 3 * j + 2 ≤ 64; omega), (by show 24 + 18 * j + 12 ≤ 384; omega)⟩) (fun r_25 h_26 => ?_)
                refine lv_to (y := nI b) (h_26.trans m6) ?_
                refine lv_if_lt (tgt := 281) hx hb dL_carries_274 (by decide) (fun c => absurd c (nI_pos (by omega))) (fun _ => ?_)
                refine lv_iconst (v := nI 1) hx hb dL_carries_277 (by decide) ?_
                refine lv_goto (tgt := 282) hx hb dL_carries_278 (by decide) ?_
                refine lv_istore (lv' := [(5, .int (nI 1)), (10, .int (nI i)), (9, .int (nI h)), (8, .int (lstI T i)), (7, .int (nI (N i))), (6, .int (nI j)), (0, .ref (ad (0, 0, 0))), (1, .int (nI M)), (2, .ref (ad (50, 0, 0))), (3, .ref (ad (51, 0, 0))), (4, .int (nI n))]) hx hb dL_carries_282 hl (by decide) rfl (fun ls hl => ?_)
                refine lv_iinc (v := nI (j + 1)) (lv' := [(6, .int (nI (j + 1))), (5, .int (nI 1)), (10, .int (nI i)), (9, .int (nI h)), (8, .int (lstI T i)), (7, .int (nI (N i))), (0, .ref (ad (0, 0, 0))), (1, .int (nI M)), (2, .ref (ad (50, 0, 0))), (3, .ref (ad (51, 0, 0))), (4, .int (nI n))]) hx hb dL_carries_284 hl (k := 5) rfl (nI_add j 1) (by decide) rfl (fun ls hl => ?_)
                refine lv_goto (tgt := 50) hx hb dL_carries_287 (by decide) ?_
                refine W.widen (k := 4 + 3 * (j + 1)) (n := 24 + 18 * (j + 1)) (by omega) (by omega) ?_
                exact ih (j + 1) _ _ (by omega) (by omega) hG hS ls (lv_sub hl [0, 1, 6, 7, 8, 9, 10] rfl)
              · have hat : ¬ g (40, j, 0) 2 = g (40, j, 0) 0 := fun z => c_14 (by rw [m1, m2] at z; exact (nI_eq (by omega) (by omega)).mp z)
                refine va_calli (vx_runSW (As := [.ref (ad (0, 0, 0)), .int (nI j)]) (rest := []) ⟨hx, hb, hml, hown, hts⟩ (lx_arrivedAtN l hst hM hM20 hs hj hat) (vx_cwSW 2 hts gL_carries_L_arrivedAt rfl rfl rfl (by decide +kernel) ⟨Nat.le_of_ble_eq_true rfl, Nat.le_of_ble_eq_true rfl⟩) (g_preS hF hG hS) rfl rfl hl.1 rfl (lv_room (Nat.le_of_ble_eq_true rfl)) dL_carries_192 ⟨(by show 4 + 3 * j + 1 ≤ 64; omega), (by show 24 + 18 * j + 6 ≤ 384; omega)⟩) hS (fun q _ h => h) (fun q h => h) (fun r_27 g_29 t9 H locs ht9 _ h_28 hB1 _ _ hS => ?_)
                have hG : g_P D (lay C g_29 ad ln ex) ad B H := by rw [← ht9]; exact hB1
                rw [h_28.2] at hG
                refine lv_to (y := (-104)) (h_28.1) ?_
                refine lv_if_lt (tgt := 202) hx hb dL_carries_195 (by decide) (fun _ => ?_) (fun c => absurd (by decide) c)
                refine lv_iconst (v := nI 0) hx hb dL_carries_202 (by decide) ?_
                refine lv_iload hx hb dL_carries_203 (lv_at hl 3 rfl) ?_
                refine lv_aload_n hx hb dL_carries_205 rfl (lv_at hl 9 rfl) ?_
                refine lv_iload hx hb dL_carries_206 (lv_at hl 4 rfl) ?_
                refine g_iald hx hb hK hG ((lay_ex (by decide)).trans hF51) ((show j < 20 by omega)) (by first | decide | omega) dL_carries_208 ?_
                refine lv_to (y := nI (to j)) (hF1 j hj) ?_
                refine lv_icmp_ne (tgt := 216) hx hb dL_carries_209 (by decide) (fun _ => ?_) (fun c => absurd c (by rw [hi, nI_eq (by omega) (by omega)]; exact c_14))
                refine lv_iconst (v := nI 0) hx hb dL_carries_216 (by decide) ?_
                refine lv_icmp_ne (tgt := 281) hx hb dL_carries_217 (by decide) (fun c => absurd (rfl) c) (fun _ => ?_)
                refine lv_iload hx hb dL_carries_220 (lv_at hl 3 rfl) ?_
                refine lv_aload_n hx hb dL_carries_222 rfl (lv_at hl 9 rfl) ?_
                refine lv_iload hx hb dL_carries_223 (lv_at hl 4 rfl) ?_
                refine g_iald hx hb hK hG ((lay_ex (by decide)).trans hF51) ((show j < 20 by omega)) (by first | decide | omega) dL_carries_225 ?_
                refine lv_to (y := nI (to j)) (hF1 j hj) ?_
                refine lv_icmp_ne (tgt := 242) hx hb dL_carries_226 (by decide) (fun _ => ?_) (fun c => absurd c (by rw [hi, nI_eq (by omega) (by omega)]; exact c_14))
                refine lv_aload_n hx hb dL_carries_242 rfl (lv_at hl 6 rfl) ?_
                refine lv_iload hx hb dL_carries_243 (lv_at hl 4 rfl) ?_
                refine lv_iload hx hb dL_carries_245 (lv_at hl 1 rfl) ?_
                refine va_calli (vx_runSW (As := [.ref (ad (0, 0, 0)), .int (nI j), .int (nI h)]) (rest := []) ⟨hx, hb, hml, hown, hts⟩ (lx_hopNode l hst hM hM20 hs hj m3 (nI_over (by omega))) (vx_cwSW 3 hts gL_carries_L_hopNode rfl rfl rfl (by decide +kernel) ⟨Nat.le_of_ble_eq_true rfl, Nat.le_of_ble_eq_true rfl⟩) (g_preS hF hG hS) rfl rfl hl.1 rfl (lv_room (Nat.le_of_ble_eq_true rfl)) dL_carries_247 ⟨(by show 4 + 3 * j + 2 ≤ 64; omega), (by show 24 + 18 * j + 12 ≤ 384; omega)⟩) hS (fun q _ h => h) (fun q h => h) (fun r_30 g_32 t9 H locs ht9 _ h_31 hB1 _ _ hS => ?_)
                have hG : g_P D (lay C g_32 ad ln ex) ad B H := by rw [← ht9]; exact hB1
                rw [h_31.2] at hG
                refine lv_to (y := (-101)) (h_31.1) ?_
                refine lv_bipush (v := (-101)) hx hb dL_carries_250 (by decide) ?_
                refine lv_icmp_ne (tgt := 281) hx hb dL_carries_252 (by decide) (fun c => absurd (rfl) c) (fun _ => ?_)
                refine lv_aload_n hx hb dL_carries_255 rfl (lv_at hl 6 rfl) ?_
                refine lv_iload hx hb dL_carries_256 (lv_at hl 4 rfl) ?_
                refine lv_iload hx hb dL_carries_258 (lv_at hl 1 rfl) ?_
                refine va_calli (vx_runSW (As := [.ref (ad (0, 0, 0)), .int (nI j), .int (nI h)]) (rest := []) ⟨hx, hb, hml, hown, hts⟩ (lx_hopMinute l hst hM hM20 hs hj m3 (nI_over (by omega))) (vx_cwSW 3 hts gL_carries_L_hopMinute rfl rfl rfl (by decide +kernel) ⟨Nat.le_of_ble_eq_true rfl, Nat.le_of_ble_eq_true rfl⟩) (g_preS hF hG hS) rfl rfl hl.1 rfl (lv_room (Nat.le_of_ble_eq_true rfl)) dL_carries_260 ⟨(by show 4 + 3 * j + 3 ≤ 64; omega), (by show 24 + 18 * j + 18 ≤ 384; omega)⟩) hS (fun q _ h => h) (fun q h => h) (fun r_33 g_35 t9 H locs ht9 _ h_34 hB1 _ _ hS => ?_)
                have hG : g_P D (lay C g_35 ad ln ex) ad B H := by rw [← ht9]; exact hB1
                rw [h_34.2] at hG
                refine lv_to (y := (-101)) (h_34.1) ?_
                refine lv_bipush (v := (-101)) hx hb dL_carries_263 (by decide) ?_
                refine lv_icmp_ne (tgt := 281) hx hb dL_carries_265 (by decide) (fun c => absurd (rfl) c) (fun _ => ?_)
                refine lv_aload_n hx hb dL_carries_268 rfl (lv_at hl 6 rfl) ?_
                refine lv_iload hx hb dL_carries_269 (lv_at hl 4 rfl) ?_
                refine g_callSi (vx_runSW (As := [.ref (ad (0, 0, 0)), .int (nI j)]) (rest := []) ⟨hx, hb, hml, hown, hts⟩ (l_blocked l hM hM20 hs hj) (vx_cwSW 2 hts gL_carries_L_blocked rfl rfl rfl (by decide +kernel) ⟨Nat.le_of_ble_eq_true rfl, Nat.le_of_ble_eq_true rfl⟩) (g_preS hF hG hS) rfl rfl hl.1 rfl (lv_room (Nat.le_of_ble_eq_true rfl)) dL_carries_271 ⟨(by show 4 + 3 * j + 3 ≤ 64; omega), (by show 24 + 18 * j + 18 ≤ 384; omega)⟩) (fun r_36 h_37 => ?_)
                refine lv_to (y := nI b) (h_37.trans m6) ?_
                refine lv_if_lt (tgt := 281) hx hb dL_carries_274 (by decide) (fun c => absurd c (nI_pos (by omega))) (fun _ => ?_)
                refine lv_iconst (v := nI 1) hx hb dL_carries_277 (by decide) ?_
                refine lv_goto (tgt := 282) hx hb dL_carries_278 (by decide) ?_
                refine lv_istore (lv' := [(5, .int (nI 1)), (10, .int (nI i)), (9, .int (nI h)), (8, .int (lstI T i)), (7, .int (nI (N i))), (6, .int (nI j)), (0, .ref (ad (0, 0, 0))), (1, .int (nI M)), (2, .ref (ad (50, 0, 0))), (3, .ref (ad (51, 0, 0))), (4, .int (nI n))]) hx hb dL_carries_282 hl (by decide) rfl (fun ls hl => ?_)
                refine lv_iinc (v := nI (j + 1)) (lv' := [(6, .int (nI (j + 1))), (5, .int (nI 1)), (10, .int (nI i)), (9, .int (nI h)), (8, .int (lstI T i)), (7, .int (nI (N i))), (0, .ref (ad (0, 0, 0))), (1, .int (nI M)), (2, .ref (ad (50, 0, 0))), (3, .ref (ad (51, 0, 0))), (4, .int (nI n))]) hx hb dL_carries_284 hl (k := 5) rfl (nI_add j 1) (by decide) rfl (fun ls hl => ?_)
                refine lv_goto (tgt := 50) hx hb dL_carries_287 (by decide) ?_
                refine W.widen (k := 4 + 3 * (j + 1)) (n := 24 + 18 * (j + 1)) (by omega) (by omega) ?_
                exact ih (j + 1) _ _ (by omega) (by omega) hG hS ls (lv_sub hl [0, 1, 6, 7, 8, 9, 10] rfl)
            · have hi : i < h := Nat.lt_of_not_le (fun h9 => c_11 ((nI_leI (by omega) (by omega)).mpr h9))
              obtain ⟨n1, n2, n3, n4, n5, n6⟩ := m14 i hi
              have hN1 : N (i + 1) < n := by
                rcases Nat.lt_or_eq_of_le hi with h9 | h9
                · exact (m14 (i + 1) h9).2.2.1
                · have h8 := m13; rw [← h9] at h8; exact h8
              refine lv_iload hx hb dL_carries_88 (lv_at hl 5 rfl) ?_
              refine lv_if_eq (tgt := 173) hx hb dL_carries_90 (by decide) (fun c => absurd c (by decide)) (fun _ => ?_)
              refine lv_aload_n hx hb dL_carries_93 rfl (lv_at hl 6 rfl) ?_
              refine lv_iload hx hb dL_carries_94 (lv_at hl 4 rfl) ?_
              refine lv_iload hx hb dL_carries_96 (lv_at hl 0 rfl) ?_
              refine g_callSi (vx_runSW (As := [.ref (ad (0, 0, 0)), .int (nI j), .int (nI i)]) (rest := []) ⟨hx, hb, hml, hown, hts⟩ (l_hopMinute l hM hM20 hs hj m3 (by omega) hi (by omega) (by omega)) (vx_cwSW 3 hts gL_carries_L_hopMinute rfl rfl rfl (by decide +kernel) ⟨Nat.le_of_ble_eq_true rfl, Nat.le_of_ble_eq_true rfl⟩) (g_preS hF hG hS) rfl rfl hl.1 rfl (lv_room (Nat.le_of_ble_eq_true rfl)) dL_carries_98 ⟨(by show 4 + 3 * j + 0 ≤ 64; omega), (by show 24 + 18 * j + 0 ≤ 384; omega)⟩) (fun r_38 h_39 => ?_)
              refine lv_to (y := nI (T i)) (h_39.trans n2) ?_
              refine lv_istore (lv' := [(11, .int (nI (T i))), (10, .int (nI i)), (9, .int (nI h)), (8, .int (lstI T i)), (7, .int (nI (N i))), (6, .int (nI j)), (5, .int (nI 1)), (0, .ref (ad (0, 0, 0))), (1, .int (nI M)), (2, .ref (ad (50, 0, 0))), (3, .ref (ad (51, 0, 0))), (4, .int (nI n))]) hx hb dL_carries_101 hl (by decide) rfl (fun ls hl => ?_)
              refine lv_aload_n hx hb dL_carries_103 rfl (lv_at hl 7 rfl) ?_
              refine lv_iload hx hb dL_carries_104 (lv_at hl 5 rfl) ?_
              refine lv_iload hx hb dL_carries_106 (lv_at hl 1 rfl) ?_
              refine g_callSi (vx_runSW (As := [.ref (ad (0, 0, 0)), .int (nI j), .int (nI i)]) (rest := []) ⟨hx, hb, hml, hown, hts⟩ (l_hopNode l hM hM20 hs hj m3 (by omega) hi (by omega) (by omega)) (vx_cwSW 3 hts gL_carries_L_hopNode rfl rfl rfl (by decide +kernel) ⟨Nat.le_of_ble_eq_true rfl, Nat.le_of_ble_eq_true rfl⟩) (g_preS hF hG hS) rfl rfl hl.1 rfl (lv_room (Nat.le_of_ble_eq_true rfl)) dL_carries_108 ⟨(by show 4 + 3 * j + 0 ≤ 64; omega), (by show 24 + 18 * j + 0 ≤ 384; omega)⟩) (fun r_40 h_41 => ?_)
              refine lv_to (y := nI (N (i + 1))) (h_41.trans n1) ?_
              refine lv_istore (lv' := [(12, .int (nI (N (i + 1)))), (11, .int (nI (T i))), (10, .int (nI i)), (9, .int (nI h)), (8, .int (lstI T i)), (7, .int (nI (N i))), (6, .int (nI j)), (5, .int (nI 1)), (0, .ref (ad (0, 0, 0))), (1, .int (nI M)), (2, .ref (ad (50, 0, 0))), (3, .ref (ad (51, 0, 0))), (4, .int (nI n))]) hx hb dL_carries_111 hl (by decide) rfl (fun ls hl => ?_)
              refine lv_iload hx hb dL_carries_113 (lv_at hl 1 rfl) ?_
              refine lv_iload hx hb dL_carries_115 (lv_at hl 4 rfl) ?_
              refine lv_icmp_le (tgt := 156) hx hb dL_carries_117 (by decide) (fun c => absurd c (lst_lt (fun k hk => by have := m15 k (by omega); rw [hk] at this; exact this) (by omega))) (fun _ => ?_)
              refine lv_iload hx hb dL_carries_120 (lv_at hl 1 rfl) ?_
              refine lv_aload_n hx hb dL_carries_122 rfl (lv_at hl 8 rfl) ?_
              refine vp_callSi (W.runV (As := []) (rest := [.int (nI (T i))]) ⟨hx, hb, hml, hown, hts⟩ (c_now l ) (cwV 0 hts gL_carries_X5_now rfl rfl rfl (by decide +kernel) ⟨Nat.le_of_ble_eq_true rfl, Nat.le_of_ble_eq_true rfl⟩) (g_preV hF hG hS (lay_main) rfl) rfl rfl hl.1 rfl (lv_room (Nat.le_of_ble_eq_true rfl)) dL_carries_123 ⟨(by show 4 + 3 * j + 0 ≤ 64; omega), (by show 24 + 18 * j + 0 ≤ 384; omega)⟩) (fun r_42 h_43 => ?_)
              refine lv_to (y := nI t) (h_43.trans hnow) ?_
              refine lv_icmp_ge (tgt := 156) hx hb dL_carries_126 (by decide) (fun c => absurd c (by rw [nI_leI (by omega) (by omega)]; omega)) (fun _ => ?_)
              refine lv_aload_n hx hb dL_carries_129 rfl (lv_at hl 8 rfl) ?_
              refine lv_iload hx hb dL_carries_130 (lv_at hl 5 rfl) ?_
              refine lv_iload hx hb dL_carries_132 (lv_at hl 0 rfl) ?_
              refine lv_iload hx hb dL_carries_134 (lv_at hl 1 rfl) ?_
              refine g_callSi (vx_runSW (As := [.ref (ad (0, 0, 0)), .int (nI (N i)), .int (nI (N (i + 1))), .int (nI (T i))]) (rest := []) ⟨hx, hb, hml, hown, hts⟩ (l_see l hn hc n3 hN1 (show T i ≤ 1000000 by omega)) (vx_cwSW 4 hts gL_carries_L_see rfl rfl rfl (by decide +kernel) ⟨Nat.le_of_ble_eq_true rfl, Nat.le_of_ble_eq_true rfl⟩) (g_preS hF hG hS) rfl rfl hl.1 rfl (lv_room (Nat.le_of_ble_eq_true rfl)) dL_carries_136 ⟨(by show 4 + 3 * j + 0 ≤ 64; omega), (by show 24 + 18 * j + 0 ≤ 384; omega)⟩) (fun r_44 h_45 => ?_)
              refine lv_to (y := nI 1) (h_45.trans (sI_t n5)) ?_
              refine lv_iconst (v := nI 1) hx hb dL_carries_139 (by decide) ?_
              refine lv_icmp_ne (tgt := 156) hx hb dL_carries_140 (by decide) (fun c => absurd (rfl) c) (fun _ => ?_)
              refine lv_iload hx hb dL_carries_143 (lv_at hl 5 rfl) ?_
              refine lv_aload_n hx hb dL_carries_145 rfl (lv_at hl 11 rfl) ?_
              refine lv_iload hx hb dL_carries_146 (lv_at hl 6 rfl) ?_
              refine g_iald hx hb hK hG ((lay_ex (by decide)).trans hF51) ((show j < 20 by omega)) (by first | decide | omega) dL_carries_148 ?_
              refine lv_to (y := nI (to j)) (hF1 j hj) ?_
              refine lv_icmp_eq (tgt := 156) hx hb dL_carries_149 (by decide) (fun c => absurd c (by rw [nI_eq (by omega) (by omega)]; exact n6)) (fun _ => ?_)
              refine lv_iconst (v := nI 1) hx hb dL_carries_152 (by decide) ?_
              refine lv_goto (tgt := 157) hx hb dL_carries_153 (by decide) ?_
              refine lv_istore (lv' := [(5, .int (nI 1)), (12, .int (nI (N (i + 1)))), (11, .int (nI (T i))), (10, .int (nI i)), (9, .int (nI h)), (8, .int (lstI T i)), (7, .int (nI (N i))), (6, .int (nI j)), (0, .ref (ad (0, 0, 0))), (1, .int (nI M)), (2, .ref (ad (50, 0, 0))), (3, .ref (ad (51, 0, 0))), (4, .int (nI n))]) hx hb dL_carries_157 hl (by decide) rfl (fun ls hl => ?_)
              refine lv_iload hx hb dL_carries_159 (lv_at hl 1 rfl) ?_
              refine lv_istore (lv' := [(7, .int (nI (N (i + 1)))), (5, .int (nI 1)), (12, .int (nI (N (i + 1)))), (11, .int (nI (T i))), (10, .int (nI i)), (9, .int (nI h)), (8, .int (lstI T i)), (6, .int (nI j)), (0, .ref (ad (0, 0, 0))), (1, .int (nI M)), (2, .ref (ad (50, 0, 0))), (3, .ref (ad (51, 0, 0))), (4, .int (nI n))]) hx hb dL_carries_161 hl (by decide) rfl (fun ls hl => ?_)
              refine lv_iload hx hb dL_carries_163 (lv_at hl 3 rfl) ?_
              refine lv_istore (lv' := [(8, .int (nI (T i))), (7, .int (nI (N (i + 1)))), (5, .int (nI 1)), (12, .int (nI (N (i + 1)))), (11, .int (nI (T i))), (10, .int (nI i)), (9, .int (nI h)), (6, .int (nI j)), (0, .ref (ad (0, 0, 0))), (1, .int (nI M)), (2, .ref (ad (50, 0, 0))), (3, .ref (ad (51, 0, 0))), (4, .int (nI n))]) hx hb dL_carries_165 hl (by decide) rfl (fun ls hl => ?_)
              refine lv_iinc (v := nI (i + 1)) (lv' := [(10, .int (nI (i + 1))), (8, .int (nI (T i))), (7, .int (nI (N (i + 1)))), (5, .int (nI 1)), (12, .int (nI (N (i + 1)))), (11, .int (nI (T i))), (9, .int (nI h)), (6, .int (nI j)), (0, .ref (ad (0, 0, 0))), (1, .int (nI M)), (2, .ref (ad (50, 0, 0))), (3, .ref (ad (51, 0, 0))), (4, .int (nI n))]) hx hb dL_carries_167 hl (k := 5) rfl (nI_add i 1) (by decide) rfl (fun ls hl => ?_)
              refine lv_goto (tgt := 81) hx hb dL_carries_170 (by decide) ?_
              exact ih2 (i + 1) (by omega) (by omega) ls (lv_sub hl [0, 6, 1, 2, 7, 3, 8, 9, 10, 11, 12] rfl)
        exact inner (h + 1) 0 (Nat.zero_le h) (by omega) ls (lv_sub hl [0, 1, 2, 3, 4, 5, 6, 7, 8, 9, 10] rfl)
  refine lv_aload_n hx hb dL_carries_0 rfl (lv_at hl 0 rfl) ?_
  refine lv_iload_n hx hb dL_carries_1 rfl (lv_at hl 1 rfl) ?_
  refine va_calli (vx_runSW (As := [.ref (ad (0, 0, 0)), .int (nI M)]) (rest := []) ⟨hx, hb, hml, hown, hts⟩ (lx_nodeOf l hst hM hM20 hs (nI_over (by omega))) (vx_cwSW 2 hts gL_carries_L_nodeOf rfl rfl rfl (by decide +kernel) ⟨Nat.le_of_ble_eq_true rfl, Nat.le_of_ble_eq_true rfl⟩) (g_preS hF hG hS) rfl rfl hl.1 rfl (lv_room (Nat.le_of_ble_eq_true rfl)) dL_carries_2 ⟨Nat.le_of_ble_eq_true rfl, Nat.le_of_ble_eq_true rfl⟩) hS (fun q _ h => h) (fun q h => h) (fun r_46 g_48 t9 H locs ht9 _ h_47 hB1 _ _ hS => ?_)
  have hG : g_P D (lay C g_48 ad ln ex) ad B H := by rw [← ht9]; exact hB1
  rw [h_47.2] at hG
  refine lv_to (y := (-101)) (h_47.1) ?_
  refine lv_bipush (v := (-101)) hx hb dL_carries_5 (by decide) ?_
  refine lv_icmp_ne (tgt := 44) hx hb dL_carries_7 (by decide) (fun c => absurd (rfl) c) (fun _ => ?_)
  refine lv_aload_n hx hb dL_carries_10 rfl (lv_at hl 0 rfl) ?_
  refine lv_iconst (v := (-1)) hx hb dL_carries_11 (by decide) ?_
  refine va_calli (vx_runSW (As := [.ref (ad (0, 0, 0)), .int (-1)]) (rest := []) ⟨hx, hb, hml, hown, hts⟩ (lx_hops l hst hM hM20 hs (fun z => absurd z.1 (by decide))) (vx_cwSW 2 hts gL_carries_L_hops rfl rfl rfl (by decide +kernel) ⟨Nat.le_of_ble_eq_true rfl, Nat.le_of_ble_eq_true rfl⟩) (g_preS hF hG hS) rfl rfl hl.1 rfl (lv_room (Nat.le_of_ble_eq_true rfl)) dL_carries_12 ⟨Nat.le_of_ble_eq_true rfl, Nat.le_of_ble_eq_true rfl⟩) hS (fun q _ h => h) (fun q h => h) (fun r_49 g_51 t9 H locs ht9 _ h_50 hB1 _ _ hS => ?_)
  have hG : g_P D (lay C g_51 ad ln ex) ad B H := by rw [← ht9]; exact hB1
  rw [h_50.2] at hG
  refine lv_to (y := (-101)) (h_50.1) ?_
  refine lv_bipush (v := (-101)) hx hb dL_carries_15 (by decide) ?_
  refine lv_icmp_ne (tgt := 44) hx hb dL_carries_17 (by decide) (fun c => absurd (rfl) c) (fun _ => ?_)
  refine lv_aload_n hx hb dL_carries_20 rfl (lv_at hl 0 rfl) ?_
  refine lv_iload_n hx hb dL_carries_21 rfl (lv_at hl 1 rfl) ?_
  refine va_calli (vx_runSW (As := [.ref (ad (0, 0, 0)), .int (nI M)]) (rest := []) ⟨hx, hb, hml, hown, hts⟩ (lx_arrivedAt l hst hM hM20 hs (nI_over (by omega))) (vx_cwSW 2 hts gL_carries_L_arrivedAt rfl rfl rfl (by decide +kernel) ⟨Nat.le_of_ble_eq_true rfl, Nat.le_of_ble_eq_true rfl⟩) (g_preS hF hG hS) rfl rfl hl.1 rfl (lv_room (Nat.le_of_ble_eq_true rfl)) dL_carries_22 ⟨Nat.le_of_ble_eq_true rfl, Nat.le_of_ble_eq_true rfl⟩) hS (fun q _ h => h) (fun q h => h) (fun r_52 g_54 t9 H locs ht9 _ h_53 hB1 _ _ hS => ?_)
  have hG : g_P D (lay C g_54 ad ln ex) ad B H := by rw [← ht9]; exact hB1
  rw [h_53.2] at hG
  refine lv_to (y := (-101)) (h_53.1) ?_
  refine lv_bipush (v := (-101)) hx hb dL_carries_25 (by decide) ?_
  refine lv_icmp_ne (tgt := 44) hx hb dL_carries_27 (by decide) (fun c => absurd (rfl) c) (fun _ => ?_)
  refine lv_aload_n hx hb dL_carries_30 rfl (lv_at hl 0 rfl) ?_
  refine lv_iload_n hx hb dL_carries_31 rfl (lv_at hl 1 rfl) ?_
  refine va_calli (vx_runSW (As := [.ref (ad (0, 0, 0)), .int (nI M)]) (rest := []) ⟨hx, hb, hml, hown, hts⟩ (lx_blocked l hst hM hM20 hs (nI_over (by omega))) (vx_cwSW 2 hts gL_carries_L_blocked rfl rfl rfl (by decide +kernel) ⟨Nat.le_of_ble_eq_true rfl, Nat.le_of_ble_eq_true rfl⟩) (g_preS hF hG hS) rfl rfl hl.1 rfl (lv_room (Nat.le_of_ble_eq_true rfl)) dL_carries_32 ⟨Nat.le_of_ble_eq_true rfl, Nat.le_of_ble_eq_true rfl⟩) hS (fun q _ h => h) (fun q h => h) (fun r_55 g_57 t9 H locs ht9 _ h_56 hB1 _ _ hS => ?_)
  have hG : g_P D (lay C g_57 ad ln ex) ad B H := by rw [← ht9]; exact hB1
  rw [h_56.2] at hG
  refine lv_to (y := (-101)) (h_56.1) ?_
  refine lv_bipush (v := (-101)) hx hb dL_carries_35 (by decide) ?_
  refine lv_icmp_ne (tgt := 44) hx hb dL_carries_37 (by decide) (fun c => absurd (rfl) c) (fun _ => ?_)
  refine lv_iconst (v := nI 1) hx hb dL_carries_40 (by decide) ?_
  refine lv_goto (tgt := 45) hx hb dL_carries_41 (by decide) ?_
  refine lv_istore (lv' := [(5, .int (nI 1)), (0, .ref (ad (0, 0, 0))), (1, .int (nI M)), (2, .ref (ad (50, 0, 0))), (3, .ref (ad (51, 0, 0))), (4, .int (nI n))]) hx hb dL_carries_45 hl (by decide) rfl (fun ls hl => ?_)
  refine lv_iconst (v := nI 0) hx hb dL_carries_47 (by decide) ?_
  refine lv_istore (lv' := [(6, .int (nI 0)), (5, .int (nI 1)), (0, .ref (ad (0, 0, 0))), (1, .int (nI M)), (2, .ref (ad (50, 0, 0))), (3, .ref (ad (51, 0, 0))), (4, .int (nI n))]) hx hb dL_carries_48 hl (by decide) rfl (fun ls hl => ?_)
  exact loop (M + 1) 0 _ _ (Nat.zero_le M) (by omega) hG hS ls (lv_sub hl [0, 1, 2, 3, 4, 5, 6] rfl)
