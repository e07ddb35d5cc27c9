theorem nI_m1 {n : Nat} (h : n < 2 ^ 31) : nI n ≠ (-1) := fun h9 => by
  have e := congrArg Int32.toInt h9
  rw [nI_toInt h, show (-1 : Int32).toInt = -1 by decide] at e
  omega

set_option maxHeartbeats 4000000 in
set_option maxRecDepth 100000 in
theorem c_fill (l : Launch) {D : va_G} {C : g_C} {g : g_k → Nat → Int32} {ad ln : g_k → Nat} {ex : g_k → Option va_E} {B : Nat} {cd : g_k} {n : Nat} (hO : ∀ g, lay C g ad ln ex cd = some (.inl (C.1, n, .inl (g cd)))) (hn31 : n < 2 ^ 30) {x : Int32} : Met l yJ7_fill_53178 wsJ7_fill_53178 ({ frames := 0, cells := 0, slots := 0, locals := 0 } : Room) (va_Pc [.ref (ad cd), .int x] (g_S D C (lay C g ad ln ex) ad B)) (va_Qv (fun (g1 : g_k → Nat → Int32) => (∀ c, c ≠ cd → g1 c = g c) ∧ ∀ j, j < n → g1 cd j = x) (fun g1 t => g_P D (lay C g1 ad ln ex) ad B t.heap) (g_A B)) 0 0 (g_A B) := by
  refine Met.ofW (cc := cJ7_fill_53178) (maxL := 4) (ret := none) (by decide) rfl ?_
  intro p e s m args below meth c s₁ B₀ hml hv
  obtain ⟨rfl, hG, hF⟩ := hv
  have hK := hF.1
  have hN := hF.2.1
  have hB := hF.2.2.2
  have hx := B₀.exec
  have hb := B₀.bytes
  have hr := B₀.returns
  have hts := atoms_spec (ws := wsJ7_fill_53178) B₀.pre
  have hown : s.vm.findClass RJ7 = some m.cls := findClass_of_methodNamed B₀.named
  have hlocks := B₀.notSynchronized
  have hS : va_S (g_A B) s.heap s.heap [] := va_S.rf
  have hl := lv_entry [.ref (ad cd), .int x] (n := 4) (Nat.le_of_ble_eq_true rfl)
  rw [lg_entry_eq]
  generalize (lg_sl [.ref (ad cd), .int x] ++ List.replicate (4 - (lg_sl [.ref (ad cd), .int x]).length) Slot.unset).toArray = ls at hl ⊢
  have hl : lv_has ls 4 [(0, .ref (ad cd)), (1, .int x)] := hl
  refine lv_iconst (v := nI 0) hx hb dJ7_fill_53178_0 (by decide) ?_
  refine lv_istore_n (lv' := [(2, .int (nI 0)), (0, .ref (ad cd)), (1, .int x)]) hx hb dJ7_fill_53178_1 rfl hl (by decide) rfl (fun ls hl => ?_)
  refine lv_aload_n hx hb dJ7_fill_53178_2 rfl (lv_at hl 1 rfl) ?_
  refine g_alen hx hb hK hG (hO _) dJ7_fill_53178_3 ?_
  refine lv_istore_n (lv' := [(3, .int (nI n)), (2, .int (nI 0)), (0, .ref (ad cd)), (1, .int x)]) hx hb dJ7_fill_53178_4 rfl hl (by decide) rfl (fun ls hl => ?_)
  have loop : ∀ (k i : Nat) (g1 : g_k → Nat → Int32) (H : Heap) (locs : List Loc), i ≤ n → n < i + k → (∀ c, c ≠ cd → g1 c = g c) → (∀ j, j < i → g1 cd j = x) → g_P D (lay C g1 ad ln ex) ad B H → va_S (g_A B) s.heap H locs → ∀ ls, lv_has ls 4 [(2, .int (nI i)), (0, .ref (ad cd)), (1, .int x), (3, .int (nI n))] → W p l e (headSpec wsJ7_fill_53178 ({ frames := 0, cells := 0, slots := 0, locals := 0 } : Room)).room s m ([.ref (ad cd), .int x]).toArray below meth c H locs 0 0 (MQ below (va_Qv (fun (g1 : g_k → Nat → Int32) => (∀ c, c ≠ cd → g1 c = g c) ∧ ∀ j, j < n → g1 cd j = x) (fun g1 t => g_P D (lay C g1 ad ln ex) ad B t.heap) (g_A B)) ([.ref (ad cd), .int x]).toArray s 0 0 (g_A B)) (F0 m 5 ls []) := by
    intro k
    induction k with
    | zero => intro i g1 H locs h1 h2; exact absurd h2 (by omega)
    | succ k ih =>
      intro i g1 H locs h1 h2 h3 h4 hG hS ls hl
      refine lv_iload_n hx hb dJ7_fill_53178_5 rfl (lv_at hl 0 rfl) ?_
      refine lv_iload_n hx hb dJ7_fill_53178_6 rfl (lv_at hl 3 rfl) ?_
      refine lv_icmp_ge (tgt := 20) hx hb dJ7_fill_53178_7 (by decide) (fun c_1 => ?_) (fun c_1 => ?_)
      · have hi : i = n := by have := (nI_leI (by omega) (by omega)).mp c_1; omega
        subst hi
        exact W.vret hx hb hr (fun t9 ht9 hW9 => ⟨⟨_, rfl, ⟨h3, h4⟩, by show g_P _ _ _ _ t9.heap; rw [ht9]; exact hG⟩, hS.F ht9⟩) hS.2.2 dJ7_fill_53178_20
      · have hi : i < n := Nat.lt_of_not_le (fun h9 => c_1 ((nI_leI (by omega) (by omega)).mpr h9))
        refine lv_aload_n hx hb dJ7_fill_53178_10 rfl (lv_at hl 1 rfl) ?_
        refine lv_iload_n hx hb dJ7_fill_53178_11 rfl (lv_at hl 0 rfl) ?_
        refine lv_iload_n hx hb dJ7_fill_53178_12 rfl (lv_at hl 2 rfl) ?_
        refine o_iast hx hb hK hG hS (cd := cd) (fun _ => hO _) (hi) (by first | decide | omega) dJ7_fill_53178_13 (fun H locs hG hS => ?_)
        refine lv_iinc (v := nI (i + 1)) (lv' := [(2, .int (nI (i + 1))), (0, .ref (ad cd)), (1, .int x), (3, .int (nI n))]) hx hb dJ7_fill_53178_14 hl (k := 0) rfl (nI_add i 1) (by decide) rfl (fun ls hl => ?_)
        refine lv_goto (tgt := 5) hx hb dJ7_fill_53178_17 (by decide) ?_
        exact ih (i + 1) _ _ _ (by omega) (by omega) (fun c hc9 => by rw [g2_ne _ _ _ hc9]; exact h3 c hc9) (fun j hj => by rw [g2_self]; by_cases h9 : j = i; rw [h9, upd_self]; rw [upd_ne _ _ h9]; exact h4 j (by omega)) hG hS ls (lv_sub hl [0, 1, 2, 3] rfl)
  exact loop (n + 1) 0 g s.heap [] (Nat.zero_le n) (by omega) (fun _ _ => rfl) (fun j hj => absurd hj (Nat.not_lt_zero j)) hG hS ls (lv_sub hl [1, 2, 3, 0] rfl)

set_option maxHeartbeats 4000000 in
set_option maxRecDepth 100000 in
theorem c_goOnFrom (l : Launch) {D : va_G} {C : g_C} {g : g_k → Nat → Int32} {ad ln : g_k → Nat} {ex : g_k → Option va_E} {B : Nat} {n : Nat} (hn : n ≤ 10) (hc : g (1, 0, 0) 4 = nI n) {f : Nat} (hf : f < n) {x : Int32} (hxf : bt x f = true) {R : Nat → Nat} {T : Nat} (hR : ∀ i, i < 10 → g (10, 0, 0) i = nI (R i) ∧ R i ≤ T) (hT : T < 2 ^ 30) : Met l yX1_goOnFrom wsX1_goOnFrom ({ frames := 3, cells := 0, slots := 0, locals := 69 } : Room) (va_Pc [.ref (ad (2, 0, 0)), .int (nI f), .int x] (g_S D C (lay C g ad ln ex) ad B)) (va_Qv (fun (g1 : g_k → Nat → Int32) => ∃ R1 : Nat → Nat, (∀ i, i < 10 → g1 (10, 0, 0) i = nI (R1 i) ∧ R1 i ≤ T) ∧ (∀ c, c ≠ (10, 0, 0) → g1 c = g c) ∧ (∀ i, i < 10 → bt x i = true ∨ n ≤ i → R1 i = R i) ∧ ∀ i, i < n → bt x i = false → go_P g f R i (R1 i)) (fun g1 t => g_P D (lay C g1 ad ln ex) ad B t.heap) (g_A B)) 0 0 (g_A B) := by
  refine Met.ofW (cc := cX1_goOnFrom) (maxL := 5) (ret := none) (by decide) rfl ?_
  intro p e s m args below meth c s₁ B₀ hml hv
  obtain ⟨rfl, hG, hF⟩ := hv
  have hK := hF.1
  have hN := hF.2.1
  have hB := hF.2.2.2
  have hx := B₀.exec
  have hb := B₀.bytes
  have hr := B₀.returns
  have hts := atoms_spec (ws := wsX1_goOnFrom) B₀.pre
  have hown : s.vm.findClass RX1 = some m.cls := findClass_of_methodNamed B₀.named
  have hlocks := B₀.notSynchronized
  have hS : va_S (g_A B) s.heap s.heap [] := va_S.rf
  have hi1 : ∀ w ∈ wsX10, w ∈ wsX1_goOnFrom := by decide +kernel
  have hi2 : ∀ w ∈ wsX20, w ∈ wsX1_goOnFrom := by decide +kernel
  have hl := lv_entry [.ref (ad (2, 0, 0)), .int (nI f), .int x] (n := 5) (Nat.le_of_ble_eq_true rfl)
  rw [lg_entry_eq]
  generalize (lg_sl [.ref (ad (2, 0, 0)), .int (nI f), .int x] ++ List.replicate (5 - (lg_sl [.ref (ad (2, 0, 0)), .int (nI f), .int x]).length) Slot.unset).toArray = ls at hl ⊢
  have hl : lv_has ls 5 [(0, .ref (ad (2, 0, 0))), (1, .int (nI f)), (2, .int x)] := hl
  refine lv_iconst (v := nI 0) hx hb dX1_goOnFrom_0 (by decide) ?_
  refine lv_istore_n (lv' := [(3, .int (nI 0)), (0, .ref (ad (2, 0, 0))), (1, .int (nI f)), (2, .int x)]) hx hb dX1_goOnFrom_1 rfl hl (by decide) rfl (fun ls hl => ?_)
  have loop : ∀ (k j : Nat) (g1 : g_k → Nat → Int32) (H : Heap) (locs : List Loc) (R1 : Nat → Nat), j ≤ n → n < j + k → (∀ i, i < 10 → g1 (10, 0, 0) i = nI (R1 i) ∧ R1 i ≤ T) → (∀ c, c ≠ (10, 0, 0) → g1 c = g c) → (∀ i, i < 10 → bt x i = true ∨ j ≤ i → R1 i = R i) → (∀ i, i < j → bt x i = false → go_P g f R i (R1 i)) → g_P D (lay C g1 ad ln ex) ad B H → va_S (g_A B) s.heap H locs → ∀ ls, lv_has ls 5 [(3, .int (nI j)), (0, .ref (ad (2, 0, 0))), (1, .int (nI f)), (2, .int x)] → W p l e (headSpec wsX1_goOnFrom ({ frames := 3, cells := 0, slots := 0, locals := 69 } : Room)).room s m ([.ref (ad (2, 0, 0)), .int (nI f), .int x]).toArray below meth c H locs 0 0 (MQ below (va_Qv (fun (g1 : g_k → Nat → Int32) => ∃ R1 : Nat → Nat, (∀ i, i < 10 → g1 (10, 0, 0) i = nI (R1 i) ∧ R1 i ≤ T) ∧ (∀ c, c ≠ (10, 0, 0) → g1 c = g c) ∧ (∀ i, i < 10 → bt x i = true ∨ n ≤ i → R1 i = R i) ∧ ∀ i, i < n → bt x i = false → go_P g f R i (R1 i)) (fun g1 t => g_P D (lay C g1 ad ln ex) ad B t.heap) (g_A B)) ([.ref (ad (2, 0, 0)), .int (nI f), .int x]).toArray s 0 0 (g_A B)) (F0 m 2 ls []) := by
    intro k
    induction k with
    | zero => intro j g1 H locs R1 h1 h2; exact absurd h2 (by omega)
    | succ k ih =>
      intro j g1 H locs R1 h1 h2 h3 h4 h5 h6 hG hS ls hl
      refine lv_iload_n hx hb dX1_goOnFrom_2 rfl (lv_at hl 0 rfl) ?_
      refine lv_aload_n hx hb dX1_goOnFrom_3 rfl (lv_at hl 1 rfl) ?_
      refine g_get hx hb hts hi1 hown hK hG (lay_search) rfl 0 (by decide) (hts (.fieldLink RX1 15 "Satellitering$Search" "sky" "LSatellitering$Sky;") (by decide +kernel)) rfl dX1_goOnFrom_4 ?_
      refine g_getN hx hb hts hi2 hown hK hG (lay_sky) rfl 4 (by decide) (va_Nw.use rfl hN.2.2.2.2.2.2.2.2.2.2.2.1) rfl dX1_goOnFrom_7 ?_
      refine lv_to (y := nI n) (by rw [h4 _ (by decide)]; exact hc) ?_
      refine lv_icmp_ge (tgt := 73) hx hb dX1_goOnFrom_10 (by decide) (fun c_1 => ?_) (fun c_1 => ?_)
      · have hi : j = n := by have := (nI_leI (by omega) (by omega)).mp c_1; omega
        subst hi
        exact W.vret hx hb hr (fun t9 ht9 hW9 => ⟨⟨_, rfl, ⟨R1, h3, h4, h5, h6⟩, by show g_P _ _ _ _ t9.heap; rw [ht9]; exact hG⟩, hS.F ht9⟩) hS.2.2 dX1_goOnFrom_73
      · have hi : j < n := Nat.lt_of_not_le (fun h9 => c_1 ((nI_leI (by omega) (by omega)).mpr h9))
        have hRj := (hR j (by omega)).2
        have hRf := (hR f (by omega)).2
        have hse : ∀ t, see g1 f j t = see g f j t := fun t => see_ext h4
        refine lv_iload_n hx hb dX1_goOnFrom_13 rfl (lv_at hl 3 rfl) ?_
        refine lv_iload_n hx hb dX1_goOnFrom_14 rfl (lv_at hl 0 rfl) ?_
        refine lv_ishr hx hb dX1_goOnFrom_15 ?_
        refine lv_iconst (v := nI 1) hx hb dX1_goOnFrom_16 (by decide) ?_
        refine lv_iand hx hb dX1_goOnFrom_17 ?_
        refine lv_if_ne (tgt := 67) hx hb dX1_goOnFrom_18 (by decide) (fun c_2 => ?_) (fun c_2 => ?_)
        · have hbit : bt x j = true := eq_true_of_ne_false (fun h9 => c_2 ((b_test _ (by omega)).mpr h9))
          refine lv_iinc (v := nI (j + 1)) (lv' := [(3, .int (nI (j + 1))), (0, .ref (ad (2, 0, 0))), (1, .int (nI f)), (2, .int x)]) hx hb dX1_goOnFrom_67 hl (k := 0) rfl (nI_add j 1) (by decide) rfl (fun ls hl => ?_)
          refine lv_goto (tgt := 2) hx hb dX1_goOnFrom_70 (by decide) ?_
          exact ih (j + 1) g1 H locs R1 (by omega) (by omega) h3 h4 (fun i hi9 h9 => h5 i hi9 (h9.imp id (fun z => by omega))) (fun i hi9 hx9 => by rcases Nat.lt_or_eq_of_le (Nat.le_of_lt_succ hi9) with h9 | h9; exact h6 i h9 hx9; rw [h9, hbit] at hx9; cases hx9) hG hS ls (lv_sub hl [0, 1, 2, 3] rfl)
        · have hbit : bt x j = false := (b_test _ (by omega)).mp c_2
          refine lv_aload_n hx hb dX1_goOnFrom_21 rfl (lv_at hl 1 rfl) ?_
          refine g_get hx hb hts hi1 hown hK hG (lay_search) rfl 0 (by decide) (hts (.fieldLink RX1 15 "Satellitering$Search" "sky" "LSatellitering$Sky;") (by decide +kernel)) rfl dX1_goOnFrom_22 ?_
          refine lv_iload_n hx hb dX1_goOnFrom_25 rfl (lv_at hl 2 rfl) ?_
          refine lv_iload_n hx hb dX1_goOnFrom_26 rfl (lv_at hl 0 rfl) ?_
          refine lv_aload_n hx hb dX1_goOnFrom_27 rfl (lv_at hl 1 rfl) ?_
          refine g_get hx hb hts hi1 hown hK hG (lay_search) rfl 1 (by decide) (hts (.fieldLink RX1 9 "Satellitering$Search" "reached" "[I") (by decide +kernel)) rfl dX1_goOnFrom_28 ?_
          refine lv_iload_n hx hb dX1_goOnFrom_31 rfl (lv_at hl 2 rfl) ?_
          refine g_iald hx hb hK hG (lay_reached) (by omega) (by first | decide | omega) dX1_goOnFrom_32 ?_
          refine lv_to (y := nI (R f)) (by rw [(h3 f (by omega)).1, h5 f (by omega) (Or.inl hxf)]) ?_
          refine vp_callSi (W.runV (As := [.int (nI f), .int (nI j), .int (nI (R f))]) (rest := []) ⟨hx, hb, hml, hown, hts⟩ (c_firstContact l (show f < 10 by omega) (show j < 32 by omega) (show R f + 360 < 2 ^ 31 by omega)) (cwV 3 hts gX1_goOnFrom_X2_firstContact rfl rfl rfl (by decide +kernel) ⟨Nat.le_of_ble_eq_true rfl, Nat.le_of_ble_eq_true rfl⟩) (g_preV hF hG hS (lay_sky) rfl) rfl rfl hl.1 rfl (lv_room (Nat.le_of_ble_eq_true rfl)) dX1_goOnFrom_33 ⟨Nat.le_of_ble_eq_true rfl, Nat.le_of_ble_eq_true rfl⟩) (fun r_3 h_4 => ?_)
          refine lv_istore (lv' := [(4, .int r_3), (3, .int (nI j)), (0, .ref (ad (2, 0, 0))), (1, .int (nI f)), (2, .int x)]) hx hb dX1_goOnFrom_36 hl (by decide) rfl (fun ls hl => ?_)
          refine lv_iload hx hb dX1_goOnFrom_38 (lv_at hl 0 rfl) ?_
          refine lv_iconst (v := (-1)) hx hb dX1_goOnFrom_40 (by decide) ?_
          refine lv_icmp_eq (tgt := 67) hx hb dX1_goOnFrom_41 (by decide) (fun c_5 => ?_) (fun c_5 => ?_)
          · have hno : ∀ k, k < 360 → see g f j (R f + k) = false := by
              rcases h_4 with ⟨k9, k1, -, -, k4⟩ | ⟨k1, -⟩
              · rw [k4] at c_5; exact absurd c_5 (nI_m1 (by omega))
              · intro k hk; rw [← hse]; exact k1 k hk
            refine lv_iinc (v := nI (j + 1)) (lv' := [(3, .int (nI (j + 1))), (4, .int r_3), (0, .ref (ad (2, 0, 0))), (1, .int (nI f)), (2, .int x)]) hx hb dX1_goOnFrom_67 hl (k := 1) rfl (nI_add j 1) (by decide) rfl (fun ls hl => ?_)
            refine lv_goto (tgt := 2) hx hb dX1_goOnFrom_70 (by decide) ?_
            exact ih (j + 1) g1 H locs R1 (by omega) (by omega) h3 h4 (fun i hi9 h9 => h5 i hi9 (h9.imp id (fun z => by omega))) (fun i hi9 hx9 => by rcases Nat.lt_or_eq_of_le (Nat.le_of_lt_succ hi9) with h9 | h9; exact h6 i h9 hx9; subst h9; rw [h5 i (by omega) (Or.inr (Nat.le_refl i))]; exact ⟨Nat.le_refl _, (fun k hk hs9 => by rw [hno k hk] at hs9; cases hs9), Or.inl rfl⟩) hG hS ls (lv_sub hl [0, 2, 3, 4] rfl)
          · obtain ⟨k0, k1, k2, k3, k4⟩ : ∃ k0, k0 < 360 ∧ see g f j (R f + k0) = true ∧ (∀ i, i < k0 → see g f j (R f + i) = false) ∧ r_3 = nI (R f + k0) := by
              rcases h_4 with ⟨k9, k1, k2, k3, k4⟩ | ⟨-, k1⟩
              · exact ⟨k9, k1, by rw [← hse]; exact k2, fun i hi9 => by rw [← hse]; exact k3 i hi9, k4⟩
              · exact absurd k1 c_5
            subst k4
            refine lv_iload hx hb dX1_goOnFrom_44 (lv_at hl 0 rfl) ?_
            refine lv_iconst (v := nI 1) hx hb dX1_goOnFrom_46 (by decide) ?_
            refine lv_iadd hx hb dX1_goOnFrom_47 ?_
            refine lv_to (y := nI ((R f + k0) + 1)) (nI_add (R f + k0) 1) ?_
            refine lv_aload_n hx hb dX1_goOnFrom_48 rfl (lv_at hl 2 rfl) ?_
            refine g_get hx hb hts hi1 hown hK hG (lay_search) rfl 1 (by decide) (hts (.fieldLink RX1 9 "Satellitering$Search" "reached" "[I") (by decide +kernel)) rfl dX1_goOnFrom_49 ?_
            refine lv_iload_n hx hb dX1_goOnFrom_52 rfl (lv_at hl 1 rfl) ?_
            refine g_iald hx hb hK hG (lay_reached) (by omega) (by first | decide | omega) dX1_goOnFrom_53 ?_
            refine lv_to (y := nI (R j)) (by rw [(h3 j (by omega)).1, h5 j (by omega) (Or.inr (Nat.le_refl j))]) ?_
            have hleast : ∀ k, k < 360 → see g f j (R f + k) = true → R f + k0 + 1 ≤ R f + k + 1 := fun k hk hs9 => Nat.succ_le_succ (Nat.add_le_add_left (Nat.le_of_not_lt (fun h8 => by rw [k3 k h8] at hs9; cases hs9)) _)
            refine lv_icmp_ge (tgt := 67) hx hb dX1_goOnFrom_54 (by decide) (fun c_6 => ?_) (fun c_6 => ?_)
            · have hle : R j ≤ R f + k0 + 1 := (nI_leI (by omega) (by omega)).mp c_6
              refine lv_iinc (v := nI (j + 1)) (lv' := [(3, .int (nI (j + 1))), (4, .int (nI (R f + k0))), (0, .ref (ad (2, 0, 0))), (1, .int (nI f)), (2, .int x)]) hx hb dX1_goOnFrom_67 hl (k := 1) rfl (nI_add j 1) (by decide) rfl (fun ls hl => ?_)
              refine lv_goto (tgt := 2) hx hb dX1_goOnFrom_70 (by decide) ?_
              exact ih (j + 1) g1 H locs R1 (by omega) (by omega) h3 h4 (fun i hi9 h9 => h5 i hi9 (h9.imp id (fun z => by omega))) (fun i hi9 hx9 => by rcases Nat.lt_or_eq_of_le (Nat.le_of_lt_succ hi9) with h9 | h9; exact h6 i h9 hx9; subst h9; rw [h5 i (by omega) (Or.inr (Nat.le_refl i))]; exact ⟨Nat.le_refl _, fun k hk hs9 => Nat.le_trans hle ((hleast) k hk hs9), Or.inl rfl⟩) hG hS ls (lv_sub hl [0, 2, 3, 4] rfl)
            · have hlt : R f + k0 + 1 < R j := Nat.lt_of_not_le (fun h9 => c_6 ((nI_leI (by omega) (by omega)).mpr h9))
              refine lv_aload_n hx hb dX1_goOnFrom_57 rfl (lv_at hl 2 rfl) ?_
              refine g_get hx hb hts hi1 hown hK hG (lay_search) rfl 1 (by decide) (hts (.fieldLink RX1 9 "Satellitering$Search" "reached" "[I") (by decide +kernel)) rfl dX1_goOnFrom_58 ?_
              refine lv_iload_n hx hb dX1_goOnFrom_61 rfl (lv_at hl 1 rfl) ?_
              refine lv_iload hx hb dX1_goOnFrom_62 (lv_at hl 0 rfl) ?_
              refine lv_iconst (v := nI 1) hx hb dX1_goOnFrom_64 (by decide) ?_
              refine lv_iadd hx hb dX1_goOnFrom_65 ?_
              refine lv_to (y := nI ((R f + k0) + 1)) (nI_add (R f + k0) 1) ?_
              refine o_iast hx hb hK hG hS (cd := (10, 0, 0)) (fun _ => lay_reached) (by omega) (by first | decide | omega) dX1_goOnFrom_66 (fun H locs hG hS => ?_)
              refine lv_iinc (v := nI (j + 1)) (lv' := [(3, .int (nI (j + 1))), (4, .int (nI (R f + k0))), (0, .ref (ad (2, 0, 0))), (1, .int (nI f)), (2, .int x)]) hx hb dX1_goOnFrom_67 hl (k := 1) rfl (nI_add j 1) (by decide) rfl (fun ls hl => ?_)
              refine lv_goto (tgt := 2) hx hb dX1_goOnFrom_70 (by decide) ?_
              refine ih (j + 1) _ _ _ (fun i => if i = j then R f + k0 + 1 else R1 i) (by omega) (by omega) (fun i hi9 => ?_) (fun c hc9 => by rw [g2_ne _ _ _ hc9]; exact h4 c hc9) (fun i hi9 h9 => ?_) (fun i hi9 hx9 => ?_) hG hS ls (lv_sub hl [0, 2, 3, 4] rfl)
              · rw [g2_self]
                by_cases e9 : i = j
                · rw [if_pos e9, e9, upd_self]; exact ⟨rfl, by omega⟩
                · rw [if_neg e9, upd_ne _ _ e9]; exact h3 i hi9
              · by_cases e9 : i = j
                · rcases h9 with h9 | h9
                  · rw [e9, hbit] at h9; cases h9
                  · omega
                · rw [if_neg e9]; exact h5 i hi9 (h9.imp id (fun z => by omega))
              · by_cases e9 : i = j
                · rw [if_pos e9, e9]; exact ⟨Nat.le_of_lt hlt, hleast, Or.inr ⟨k0, k1, k2, rfl⟩⟩
                · rw [if_neg e9]; exact h6 i (by omega) hx9
  exact loop (n + 1) 0 g s.heap [] R (Nat.zero_le n) (by omega) hR (fun _ _ => rfl) (fun _ _ _ => rfl) (fun i hi => absurd hi (Nat.not_lt_zero i)) hG hS ls (lv_sub hl [0, 1, 2, 3] rfl)
