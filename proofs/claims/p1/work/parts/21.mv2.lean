/-- message j moves on: what it leaves as it was -/
def mv_P (g : g_k → Nat → Int32) (ad ln : g_k → Nat) (j : Nat) (g1 : g_k → Nat → Int32) (ad1 ln1 : g_k → Nat) : Prop := (∀ c : g_k, (c.1 < 31 ∨ 42 < c.1 ∨ (40 ≤ c.1 ∧ c.2.1 ≠ j)) → g1 c = g c) ∧ (∀ c : g_k, c.1 ≠ 41 → c.1 ≠ 42 → ad1 c = ad c) ∧ (∀ c : g_k, c.1 ≠ 31 → (c.1 ≠ 41 ∧ c.1 ≠ 42 ∨ c.2.1 ≠ j) → ln1 c = ln c)
/-- what the messages' moves leave as it was -/
def mf_P (g : g_k → Nat → Int32) (ad ln : g_k → Nat) (g1 : g_k → Nat → Int32) (ad1 ln1 : g_k → Nat) : Prop := (∀ c : g_k, (c.1 < 31 ∨ 42 < c.1) → g1 c = g c) ∧ (∀ c : g_k, c.1 ≠ 41 → c.1 ≠ 42 → ad1 c = ad c) ∧ (∀ c : g_k, c.1 ≠ 31 → c.1 ≠ 41 → c.1 ≠ 42 → ln1 c = ln c)
theorem mf_rf {g : g_k → Nat → Int32} {ad ln : g_k → Nat} : mf_P g ad ln g ad ln := ⟨fun _ _ => rfl, fun _ _ _ => rfl, fun _ _ _ _ => rfl⟩
theorem mf_mv {g g1 g3 : g_k → Nat → Int32} {ad ln ad1 ln1 ad3 ln3 : g_k → Nat} {j : Nat} (h : mf_P g ad ln g1 ad1 ln1) (h2 : mv_P g1 ad1 ln1 j g3 ad3 ln3) : mf_P g ad ln g3 ad3 ln3 := ⟨fun c hc => (h2.1 c (by omega)).trans (h.1 c hc), fun c c1 c2 => (h2.2.1 c c1 c2).trans (h.2.1 c c1 c2), fun c c1 c2 c3 => (h2.2.2 c c1 (Or.inl ⟨c2, c3⟩)).trans (h.2.2 c c1 c2 c3)⟩
/-- what minutes leave as it was -/
def pf_P (g : g_k → Nat → Int32) (ad ln : g_k → Nat) (g1 : g_k → Nat → Int32) (ad1 ln1 : g_k → Nat) : Prop := (∀ c : g_k, (c.1 < 30 ∨ 42 < c.1) → c ≠ (0, 0, 0) → g1 c = g c) ∧ (∀ c : g_k, c.1 ≠ 41 → c.1 ≠ 42 → ad1 c = ad c) ∧ (∀ c : g_k, c.1 ≠ 31 → c.1 ≠ 41 → c.1 ≠ 42 → ln1 c = ln c)
theorem pf_rf {g : g_k → Nat → Int32} {ad ln : g_k → Nat} : pf_P g ad ln g ad ln := ⟨fun _ _ _ => rfl, fun _ _ _ => rfl, fun _ _ _ _ => rfl⟩
theorem pf_tr {g g1 g3 : g_k → Nat → Int32} {ad ln ad1 ln1 ad3 ln3 : g_k → Nat} (h : pf_P g ad ln g1 ad1 ln1) (h2 : pf_P g1 ad1 ln1 g3 ad3 ln3) : pf_P g ad ln g3 ad3 ln3 := ⟨fun c hc h0 => (h2.1 c hc h0).trans (h.1 c hc h0), fun c c1 c2 => (h2.2.1 c c1 c2).trans (h.2.1 c c1 c2), fun c c1 c2 c3 => (h2.2.2 c c1 c2 c3).trans (h.2.2 c c1 c2 c3)⟩
/-- one minute -/
def pm_P (g : g_k → Nat → Int32) (ad ln : g_k → Nat) (n sta M t t1 : Nat) (src to : Nat → Nat) (r : Int32) (g1 : g_k → Nat → Int32) (ad1 ln1 : g_k → Nat) : Prop := pf_P g ad ln g1 ad1 ln1 ∧ g1 (0, 0, 0) 7 = g (0, 0, 0) 7 ∧ g1 (0, 0, 0) 8 = nI t1 ∧ (∀ j, j < M → mok g1 ln1 n t1 j (src j) (to j)) ∧ (∀ i, i < sta → (t < t1 → rel_P g1 n t1 i) ∧ rlw_P g1 n t1 i) ∧ ∃ q, q ≤ M * (t1 - t) ∧ r = nI q ∧ cg g1 M = cg g M + q

set_option maxHeartbeats 4000000 in
set_option maxRecDepth 100000 in
theorem c_moveOn (l : Launch) {D : va_G} {C : g_C} {g : g_k → Nat → Int32} {ad ln : g_k → Nat} {ex : g_k → Option va_E} {B : Nat} {n : Nat} (hn : n ≤ 10) (hc : g (1, 0, 0) 4 = nI n) {M : Nat} (hM : ln (5, 0, 0) = M) (hM20 : M ≤ 20) (hs : g (0, 0, 0) 7 = nI M) {t j k s0 : Nat} (hj : j < M) (hgo : ln (43, j, 0) = k) (hk : k < 10) (hlv : ln (30, k, 0) = 1) (hnow : g (0, 0, 0) 8 = nI t) (ht : t < 2 ^ 19) (hmk : mok g ln n t j s0 k) (hng : g (40, j, 0) 2 ≠ g (40, j, 0) 0) : Met l yX5_moveOn wsX5_moveOn ({ frames := 4, cells := 2, slots := (wd t), locals := 94 } : Room) (va_Pc [.ref (ad (0, 0, 0)), .ref (ad (40, j, 0))] (g_S D C (lay C g ad ln ex) ad B)) (va_Qv (fun (u : (g_k → Nat → Int32) × (g_k → Nat) × (g_k → Nat)) => mv_P g ad ln j u.1 u.2.1 u.2.2 ∧ mok u.1 u.2.2 n (t + 1) j s0 k) (fun u t => g_P D (lay C u.1 u.2.1 u.2.2 ex) u.2.1 B t.heap) (g_A B)) 2 (wd t) (g_A B) := by
  refine Met.ofW (cc := cX5_moveOn) (maxL := 3) (ret := none) (by decide) rfl ?_
  intro p e s m args below meth c s₁ B₀ hml hv
  obtain ⟨rfl, hG, hF⟩ := hv
  have hK := hF.1
  have hN := hF.2.1
  have hB := hF.2.2.2
  have hx := B₀.exec
  have hb := B₀.bytes
  have hr := B₀.returns
  have hts := atoms_spec (ws := wsX5_moveOn) B₀.pre
  have hown : s.vm.findClass RX5 = some m.cls := findClass_of_methodNamed B₀.named
  have hlocks := B₀.notSynchronized
  have hS : va_S (g_A B) s.heap s.heap [] := va_S.rf
  have hi0 : ∀ w ∈ wsX00, w ∈ wsX5_moveOn := by decide +kernel
  have hi5 : ∀ w ∈ wsX50, w ∈ wsX5_moveOn := by decide +kernel
  have hl := lv_entry [.ref (ad (0, 0, 0)), .ref (ad (40, j, 0))] (n := 3) (Nat.le_of_ble_eq_true rfl)
  rw [lg_entry_eq]
  generalize (lg_sl [.ref (ad (0, 0, 0)), .ref (ad (40, j, 0))] ++ List.replicate (3 - (lg_sl [.ref (ad (0, 0, 0)), .ref (ad (40, j, 0))]).length) Slot.unset).toArray = ls at hl ⊢
  have hl : lv_has ls 3 [(0, .ref (ad (0, 0, 0))), (1, .ref (ad (40, j, 0)))] := hl
  obtain ⟨hq, Nq, Tq, hmA⟩ := hmk
  have hmB := hmA
  obtain ⟨⟨a1, a2, a3, a4, bq, b1, b2⟩, ⟨c1, c2, c3, c4, qq, c5⟩, d1, d2, d3, d4⟩ := hmB
  have hNk : Nq hq ≠ k := fun z => hng (by rw [a1, a2, z])
  have hjl : j < ln (5, 0, 0) := by omega
  refine lv_aload_n hx hb dX5_moveOn_0 rfl (lv_at hl 1 rfl) ?_
  refine g_getN hx hb hts hi0 hown hK hG (lay_msg hjl) rfl 1 (by decide) (va_Nw.use rfl hN.2.2.2.2.2.2.2.2.2.1) rfl dX5_moveOn_1 ?_
  refine W.eq (g2 := F0 m 4 ls [.ref (ad (31, k, 0))]) (by rw [hgo]) ?_
  refine lv_aload_n hx hb dX5_moveOn_4 rfl (lv_at hl 1 rfl) ?_
  refine g_getN hx hb hts hi0 hown hK hG (lay_msg hjl) rfl 2 (by decide) (va_Nw.use rfl hN.2.1) rfl dX5_moveOn_5 ?_
  refine lv_to (y := nI (Nq hq)) (a2) ?_
  refine lv_aload_n hx hb dX5_moveOn_8 rfl (lv_at hl 0 rfl) ?_
  refine g_get hx hb hts hi5 hown hK hG (lay_main) rfl 8 (by decide) (hts (.fieldLink RX5 51 "Satellitering" "now" "I") (by decide +kernel)) rfl dX5_moveOn_9 ?_
  refine lv_to (y := nI t) (hnow) ?_
  refine va_calli (va_runV (As := [.int (nI (Nq hq)), .int (nI t)]) (rest := []) ⟨hx, hb, hml, hown, hts⟩ (c_nextNode l hn hc hk hlv (show Nq hq < 10 by omega) (show t < 2 ^ 30 by omega)) (cwV 2 hts gX5_moveOn_X4_nextNode rfl rfl rfl (by decide +kernel) ⟨Nat.le_of_ble_eq_true rfl, Nat.le_of_ble_eq_true rfl⟩) (g_preV hF hG hS (lay_time hk hlv) rfl) rfl rfl hl.1 rfl (lv_room (Nat.le_of_ble_eq_true rfl)) dX5_moveOn_12 ⟨Nat.le_of_ble_eq_true rfl, Nat.le_of_ble_eq_true rfl⟩) hS (fun q _ h => h) (fun q h => h) (fun r_1 u9 t9 H locs ht9 _ h_2 hB1 _ _ hS => ?_)
  obtain ⟨g_3, ln_4⟩ := u9
  dsimp only at h_2
  have hG : g_P D (lay C g_3 ad ln_4 ex) ad B H := by rw [← ht9]; exact hB1
  have n0 : ∀ c : g_k, (c.1 < 31 ∨ 35 < c.1) → g_3 c = g c := fun c hc9 => h_2.2.1 c (by omega)
  have nL : ∀ c : g_k, c.1 ≠ 31 → ln_4 c = ln c := fun c hc9 => h_2.2.2 c (fun z => hc9 (by rw [z]))
  have hmC : mokA g_3 ln_4 n t j s0 k hq Nq Tq := mokA_cong hmA (fun i => n0 _ (Or.inl (show (20 : Nat) < 31 by decide))) (n0 _ (Or.inr (show (35 : Nat) < 40 by decide))) (n0 _ (Or.inr (show (35 : Nat) < 41 by decide))) (n0 _ (Or.inr (show (35 : Nat) < 42 by decide))) (nL _ (show (41 : Nat) ≠ 31 by decide)) (nL _ (show (42 : Nat) ≠ 31 by decide))
  have hM1 : ln_4 (5, 0, 0) = M := by rw [nL _ (by decide)]; exact hM
  have hs1 : g_3 (0, 0, 0) 7 = nI M := by rw [n0 _ (by decide)]; exact hs
  have hnow1 : g_3 (0, 0, 0) 8 = nI t := by rw [n0 _ (by decide)]; exact hnow
  have e40 : g_3 (40, j, 0) = g (40, j, 0) := n0 _ (Or.inr (show (35 : Nat) < 40 by decide))
  refine lv_istore_n (lv' := [(2, .int r_1), (0, .ref (ad (0, 0, 0))), (1, .ref (ad (40, j, 0)))]) hx hb dX5_moveOn_15 rfl hl (by decide) rfl (fun ls hl => ?_)
  refine lv_iload_n hx hb dX5_moveOn_16 rfl (lv_at hl 0 rfl) ?_
  refine lv_iconst (v := (-1)) hx hb dX5_moveOn_17 (by decide) ?_
  refine lv_icmp_ne (tgt := 22) hx hb dX5_moveOn_18 (by decide) (fun c_6 => ?_) (fun c_6 => ?_)
  · obtain ⟨o, ho, ero, hso⟩ := h_2.1.resolve_left c_6
    subst ero
    refine lv_aload_n hx hb dX5_moveOn_22 rfl (lv_at hl 1 rfl) ?_
    refine lv_iload_n hx hb dX5_moveOn_23 rfl (lv_at hl 0 rfl) ?_
    refine vp_callSi (W.runV (As := [.int (nI o)]) (rest := []) ⟨hx, hb, hml, hown, hts⟩ (c_isFull l hM1 hM20 hs1 (show o < 10 by omega)) (cwV 1 hts gX5_moveOn_X5_isFull rfl rfl rfl (by decide +kernel) ⟨Nat.le_of_ble_eq_true rfl, Nat.le_of_ble_eq_true rfl⟩) (g_preV hF hG hS (lay_main) rfl) rfl rfl hl.1 rfl (lv_room (Nat.le_of_ble_eq_true rfl)) dX5_moveOn_24 ⟨Nat.le_of_ble_eq_true rfl, Nat.le_of_ble_eq_true rfl⟩) (fun r_7 h_8 => ?_)
    refine lv_if_eq (tgt := 43) hx hb dX5_moveOn_27 (by decide) (fun c_9 => ?_) (fun c_9 => ?_)
    · refine lv_aload_n hx hb dX5_moveOn_43 rfl (lv_at hl 2 rfl) ?_
      refine lv_iload_n hx hb dX5_moveOn_44 rfl (lv_at hl 0 rfl) ?_
      refine lv_aload_n hx hb dX5_moveOn_45 rfl (lv_at hl 1 rfl) ?_
      refine g_get hx hb hts hi5 hown hK hG (lay_main) rfl 8 (by decide) (hts (.fieldLink RX5 51 "Satellitering" "now" "I") (by decide +kernel)) rfl dX5_moveOn_46 ?_
      refine lv_to (y := nI t) (hnow1) ?_
      have l41 : ln_4 (41, j, 0) = ln (41, j, 0) := nL _ (show (41 : Nat) ≠ 31 by decide)
      have hW9 : hq < ln_4 (41, j, 0) ∨ 4 * hq ≤ wd t := by
        rcases Nat.lt_or_ge hq (ln_4 (41, j, 0)) with h9 | h9
        · exact Or.inl h9
        · have e9 : hq = 8 * 2 ^ qq := by omega
          rw [e9]
          exact Or.inr (wd_ok (by omega))
      have hL8 : 8 ≤ ln (41, j, 0) := by have := Nat.two_pow_pos qq; omega
      refine va_callv (va_runV (As := [.int (nI o), .int (nI t)]) (rest := []) ⟨hx, hb, hml, hown, hts⟩ (c_handTo l (Wd := wd t) (show j < ln_4 (5, 0, 0) by omega) (show g_3 (40, j, 0) 5 = nI hq by rw [e40]; exact a3) (show hq ≤ ln_4 (41, j, 0) by omega) (by rw [nL _ (show (42 : Nat) ≠ 31 by decide), l41]; exact c3) (by omega) hW9) (cwV 2 hts gX5_moveOn_X0_handTo rfl rfl rfl (by decide +kernel) ⟨Nat.le_of_ble_eq_true rfl, Nat.le_of_ble_eq_true rfl⟩) (g_preV hF hG hS (lay_msg (show j < ln_4 (5, 0, 0) by omega)) rfl) rfl rfl hl.1 rfl (lv_room (Nat.le_of_ble_eq_true rfl)) dX5_moveOn_49 ⟨(by show 0 + 2 ≤ 2; omega), (by show 0 + wd t ≤ wd t; omega)⟩) hS (fun q _ h => h) (fun q h => h) (fun u9 t9 H locs ht9 _ h_11 hB1 _ _ hS => ?_)
      obtain ⟨g_12, ad_14, ln_13⟩ := u9
      dsimp only at h_11
      have hG : g_P D (lay C g_12 ad_14 ln_13 ex) ad_14 B H := by rw [← ht9]; exact hB1
      have hfin := mok_hand hmC hNk ht ho (by rw [see_20 (g := g) (g1 := g_3) (fun i => n0 _ (Or.inl (show (20 : Nat) < 31 by decide)))]; exact hso) h_11
      obtain ⟨p1, -, -, -, -, p6, -⟩ := h_11
      refine W.widen (k := 2) (n := wd t) (by omega) (by omega) ?_
      exact W.vret hx hb hr (fun t9 ht9 hW9 => ⟨⟨(g_12, ad_14, ln_13), rfl, ⟨⟨fun c hc9 => (p1 c (fun z => by rw [z] at hc9; rcases hc9 with h9 | h9 | ⟨_, h9⟩; exact absurd h9 (show ¬ (40 : Nat) < 31 by decide); exact absurd h9 (show ¬ (42 : Nat) < 40 by decide); exact h9 rfl) (fun z => by rw [z] at hc9; rcases hc9 with h9 | h9 | ⟨_, h9⟩; exact absurd h9 (show ¬ (41 : Nat) < 31 by decide); exact absurd h9 (show ¬ (42 : Nat) < 41 by decide); exact h9 rfl) (fun z => by rw [z] at hc9; rcases hc9 with h9 | h9 | ⟨_, h9⟩; exact absurd h9 (show ¬ (42 : Nat) < 31 by decide); exact absurd h9 (show ¬ (42 : Nat) < 42 by decide); exact h9 rfl)).trans (n0 c (by omega)), fun c x1 x2 => (p6 c (fun z => x1 (by rw [z])) (fun z => x2 (by rw [z]))).1, fun c x1 x2 => (p6 c (fun z => by rw [z] at x2; rcases x2 with ⟨x2, _⟩ | x2; exact x2 rfl; exact x2 rfl) (fun z => by rw [z] at x2; rcases x2 with ⟨_, x2⟩ | x2; exact x2 rfl; exact x2 rfl)).2.trans (nL c x1)⟩, hfin⟩, by show g_P D (lay C g_12 ad_14 ln_13 ex) ad_14 B t9.heap; rw [ht9]; exact hG⟩, hS.F ht9⟩) hS.2.2 dX5_moveOn_52
    · refine lv_aload_n hx hb dX5_moveOn_30 rfl (lv_at hl 2 rfl) ?_
      refine lv_dup hx hb dX5_moveOn_31 rfl ?_
      refine g_getN hx hb hts hi0 hown hK hG (lay_msg (show j < ln_4 (5, 0, 0) by omega)) rfl 4 (by decide) (va_Nw.use rfl hN.2.2.2.2.2.2.1) rfl dX5_moveOn_32 ?_
      refine lv_to (y := nI bq) (by rw [e40]; exact b2) ?_
      refine lv_iconst (v := nI 1) hx hb dX5_moveOn_35 (by decide) ?_
      refine lv_iadd hx hb dX5_moveOn_36 ?_
      refine lv_to (y := nI (bq + 1)) (nI_add bq 1) ?_
      refine o_putN hx hb hts hi0 tyX0 tyX0_ok nmX0 hown hK hG hS (cd := (40, j, 0)) (F_msg ad ln_4 j) (fun _ => lay_msg (show j < ln_4 (5, 0, 0) by omega)) rfl 4 (by decide) (va_Nw.use rfl hN.2.2.2.2.2.2.1) rfl rfl (by simp [upd]) (by simp) dX5_moveOn_37 (fun H locs hG hS => ?_)
      refine W.widen (k := 2) (n := wd t) (by omega) (by omega) ?_
      refine lv_goto (tgt := 52) hx hb dX5_moveOn_40 (by decide) ?_
      have hfin : mok (g2 g_3 (40, j, 0) 4 (nI (bq + 1))) ln_4 n (t + 1) j s0 k := mok_blk ⟨hq, Nq, Tq, hmC⟩ (by rw [e40]; exact b2) b1 (fun c hc9 => g2_ne _ _ _ hc9) (g2_self _ _ _ _)
      exact W.vret hx hb hr (fun t9 ht9 hW9 => ⟨⟨((g2 g_3 (40, j, 0) 4 (nI (bq + 1))), ad, ln_4), rfl, ⟨⟨fun c hc9 => (g2_ne _ _ _ (fun z => by rw [z] at hc9; rcases hc9 with h9 | h9 | ⟨_, h9⟩; exact absurd h9 (show ¬ (40 : Nat) < 31 by decide); exact absurd h9 (show ¬ (42 : Nat) < 40 by decide); exact h9 rfl)).trans (n0 c (by omega)), fun _ _ _ => rfl, fun c c1 _ => nL c c1⟩, hfin⟩, by show g_P D (lay C (g2 g_3 (40, j, 0) 4 (nI (bq + 1))) ad ln_4 ex) ad B t9.heap; rw [ht9]; exact hG⟩, hS.F ht9⟩) hS.2.2 dX5_moveOn_52
  · refine W.widen (k := 2) (n := wd t) (by omega) (by omega) ?_
    exact W.vret hx hb hr (fun t9 ht9 hW9 => ⟨⟨(g_3, ad, ln_4), rfl, ⟨⟨fun c hc9 => n0 c (by omega), fun _ _ _ => rfl, fun c c1 _ => nL c c1⟩, mok_now ⟨hq, Nq, Tq, hmC⟩ (Nat.le_succ t)⟩, by show g_P D (lay C g_3 ad ln_4 ex) ad B t9.heap; rw [ht9]; exact hG⟩, hS.F ht9⟩) hS.2.2 dX5_moveOn_21

set_option maxHeartbeats 4000000 in
set_option maxRecDepth 100000 in
theorem c_passOneMinute (l : Launch) {D : va_G} {C : g_C} {g : g_k → Nat → Int32} {ad ln : g_k → Nat} {ex : g_k → Option va_E} {B : Nat} {n : Nat} (hn : n ≤ 10) (hc : g (1, 0, 0) 4 = nI n) {M : Nat} (hM : ln (5, 0, 0) = M) (hM20 : M ≤ 20) (hs : g (0, 0, 0) 7 = nI M) {sta t : Nat} {src to : Nat → Nat} (hsl : ∀ i, i < 10 → (ln (30, i, 0) = 1 ↔ i < sta)) (hstn : sta ≤ n) (hto : ∀ j, j < M → ln (43, j, 0) = to j ∧ to j < sta) (hnow : g (0, 0, 0) 8 = nI t) (hmk : ∀ j, j < M → mok g ln n t j (src j) (to j)) (hrl : ∀ i, i < sta → rlw_P g n t i) (ht : t < 2 ^ 19) : Met l yX5_passOneMinute wsX5_passOneMinute ({ frames := 5, cells := 40, slots := (wd t * 20), locals := 116 } : Room) (va_Pc [.ref (ad (0, 0, 0))] (g_S D C (lay C g ad ln ex) ad B)) (va_Qi (fun (r : Int32) (u : (g_k → Nat → Int32) × (g_k → Nat) × (g_k → Nat)) => pm_P g ad ln n sta M t (t + 1) src to r u.1 u.2.1 u.2.2) (fun u t => g_P D (lay C u.1 u.2.1 u.2.2 ex) u.2.1 B t.heap) (g_A B)) 40 (wd t * 20) (g_A B) := by
  refine Met.ofW (cc := cX5_passOneMinute) (maxL := 4) (ret := (some .int)) (by decide) rfl ?_
  intro p e s m args below meth c s₁ B₀ hml hv
  obtain ⟨rfl, hG, hF⟩ := hv
  have hK := hF.1
  have hN := hF.2.1
  have hB := hF.2.2.2
  have hx := B₀.exec
  have hb := B₀.bytes
  have hr := B₀.returns
  have hts := atoms_spec (ws := wsX5_passOneMinute) B₀.pre
  have hown : s.vm.findClass RX5 = some m.cls := findClass_of_methodNamed B₀.named
  have hlocks := B₀.notSynchronized
  have hS : va_S (g_A B) s.heap s.heap [] := va_S.rf
  have hi2 : ∀ w ∈ wsX20, w ∈ wsX5_passOneMinute := by decide +kernel
  have hi5 : ∀ w ∈ wsX50, w ∈ wsX5_passOneMinute := by decide +kernel
  have hl := lv_entry [.ref (ad (0, 0, 0))] (n := 4) (Nat.le_of_ble_eq_true rfl)
  rw [lg_entry_eq]
  generalize (lg_sl [.ref (ad (0, 0, 0))] ++ List.replicate (4 - (lg_sl [.ref (ad (0, 0, 0))]).length) Slot.unset).toArray = ls at hl ⊢
  have hl : lv_has ls 4 [(0, .ref (ad (0, 0, 0)))] := hl
  refine lv_iconst (v := nI 0) hx hb dX5_passOneMinute_0 (by decide) ?_
  refine lv_istore_n (lv' := [(1, .int (nI 0)), (0, .ref (ad (0, 0, 0)))]) hx hb dX5_passOneMinute_1 rfl hl (by decide) rfl (fun ls hl => ?_)
  refine lv_iconst (v := nI 0) hx hb dX5_passOneMinute_2 (by decide) ?_
  refine lv_istore_n (lv' := [(2, .int (nI 0)), (1, .int (nI 0)), (0, .ref (ad (0, 0, 0)))]) hx hb dX5_passOneMinute_3 rfl hl (by decide) rfl (fun ls hl => ?_)
  have loop : ∀ (k i q : Nat) (g1 : g_k → Nat → Int32) (ad1 ln1 : g_k → Nat) (H : Heap) (locs : List Loc), i ≤ M → M < i + k → mf_P g ad ln g1 ad1 ln1 → (∀ j, j < i → mok g1 ln1 n (t + 1) j (src j) (to j)) → (∀ j, i ≤ j → j < M → mok g1 ln1 n t j (src j) (to j) ∧ g1 (40, j, 0) = g (40, j, 0)) → cg g1 i = cg g i + q → q ≤ i → g_P D (lay C g1 ad1 ln1 ex) ad1 B H → va_S (g_A B) s.heap H locs → ∀ ls, lv_has ls 4 [(2, .int (nI i)), (1, .int (nI q)), (0, .ref (ad1 (0, 0, 0)))] → W p l e (headSpec wsX5_passOneMinute ({ frames := 5, cells := 40, slots := (wd t * 20), locals := 116 } : Room)).room s m ([.ref (ad (0, 0, 0))]).toArray below meth c H locs (2 * i) (wd t * i) (MQ below (va_Qi (fun (r : Int32) (u : (g_k → Nat → Int32) × (g_k → Nat) × (g_k → Nat)) => pm_P g ad ln n sta M t (t + 1) src to r u.1 u.2.1 u.2.2) (fun u t => g_P D (lay C u.1 u.2.1 u.2.2 ex) u.2.1 B t.heap) (g_A B)) ([.ref (ad (0, 0, 0))]).toArray s 40 (wd t * 20) (g_A B)) (F0 m 4 ls []) := by
    intro k
    induction k with
    | zero => intro i q g1 ad1 ln1 H locs h1 h2; exact absurd h2 (by omega)
    | succ k ih =>
      intro i q g1 ad1 ln1 H locs h1 h2 h3 h4 h5 h6 h7 hG hS ls hl
      have hM1 : ln1 (5, 0, 0) = M := by rw [h3.2.2 _ (by decide) (by decide) (by decide)]; exact hM
      have hs1 : g1 (0, 0, 0) 7 = nI M := by rw [h3.1 _ (Or.inl (by decide))]; exact hs
      have hc1 : g1 (1, 0, 0) 4 = nI n := by rw [h3.1 _ (Or.inl (by decide))]; exact hc
      have hnow1 : g1 (0, 0, 0) 8 = nI t := by rw [h3.1 _ (Or.inl (by decide))]; exact hnow
      have hl30 : ∀ i, ln1 (30, i, 0) = ln (30, i, 0) := fun i => h3.2.2 _ (show (30 : Nat) ≠ 31 by decide) (show (30 : Nat) ≠ 41 by decide) (show (30 : Nat) ≠ 42 by decide)
      refine lv_iload_n hx hb dX5_passOneMinute_4 rfl (lv_at hl 0 rfl) ?_
      refine lv_aload_n hx hb dX5_passOneMinute_5 rfl (lv_at hl 2 rfl) ?_
      refine g_get hx hb hts hi5 hown hK hG (lay_main) rfl 7 (by decide) (hts (.fieldLink RX5 48 "Satellitering" "sentCount" "I") (by decide +kernel)) rfl dX5_passOneMinute_6 ?_
      refine lv_to (y := nI M) (hs1) ?_
      refine lv_icmp_ge (tgt := 52) hx hb dX5_passOneMinute_9 (by decide) (fun c_1 => ?_) (fun c_1 => ?_)
      · have hi : M = i := by have := (nI_leI (by omega) (by omega)).mp c_1; omega
        subst hi
        refine W.widen (k := 40) (n := wd t * 20) (by omega) (Nat.mul_le_mul_left (wd t) hM20) ?_
        refine lv_aload_n hx hb dX5_passOneMinute_52 rfl (lv_at hl 2 rfl) ?_
        refine lv_dup hx hb dX5_passOneMinute_53 rfl ?_
        refine g_get hx hb hts hi5 hown hK hG (lay_main) rfl 8 (by decide) (hts (.fieldLink RX5 51 "Satellitering" "now" "I") (by decide +kernel)) rfl dX5_passOneMinute_54 ?_
        refine lv_to (y := nI t) (hnow1) ?_
        refine lv_iconst (v := nI 1) hx hb dX5_passOneMinute_57 (by decide) ?_
        refine lv_iadd hx hb dX5_passOneMinute_58 ?_
        refine lv_to (y := nI (t + 1)) (nI_add t 1) ?_
        refine o_put hx hb hts hi5 tyX5 tyX5_ok nmX5 hown hK hG hS (cd := (0, 0, 0)) (F_main ad1) (fun _ => lay_main) rfl 8 (by decide) (hts (.fieldLink RX5 51 "Satellitering" "now" "I") (by decide +kernel)) rfl rfl (by simp [upd]) (by simp) dX5_passOneMinute_59 (fun H locs hG hS => ?_)
        obtain ⟨gN, egN⟩ : ∃ z, z = (g2 g1 (0, 0, 0) 8 (nI (t + 1))) := ⟨_, rfl⟩
        rw [← egN] at hG
        have gNe : ∀ c, c ≠ (0, 0, 0) → gN c = g1 c := fun c hc9 => by rw [egN]; exact g2_ne _ _ _ hc9
        have gN0 : gN (0, 0, 0) = upd (g1 (0, 0, 0)) 8 (nI (t + 1)) := by rw [egN]; exact g2_self _ _ _ _
        refine lv_iconst (v := nI 0) hx hb dX5_passOneMinute_62 (by decide) ?_
        refine lv_istore_n (lv' := [(2, .int (nI 0)), (1, .int (nI q)), (0, .ref (ad1 (0, 0, 0)))]) hx hb dX5_passOneMinute_63 rfl hl (by decide) rfl (fun ls hl => ?_)
        have loop2 : ∀ (k i2 : Nat) (g3 : g_k → Nat → Int32) (H : Heap) (locs : List Loc), i2 ≤ n → n < i2 + k → (∀ c : g_k, c.1 ≠ 30 → g3 c = gN c) → (∀ j, i2 ≤ j → g3 (30, j, 0) = gN (30, j, 0)) → (∀ j, j < i2 → j < sta → rel_P g3 n (t + 1) j ∧ rlw_P g3 n (t + 1) j) → g_P D (lay C g3 ad1 ln1 ex) ad1 B H → va_S (g_A B) s.heap H locs → ∀ ls, lv_has ls 4 [(2, .int (nI i2)), (1, .int (nI q)), (0, .ref (ad1 (0, 0, 0)))] → W p l e (headSpec wsX5_passOneMinute ({ frames := 5, cells := 40, slots := (wd t * 20), locals := 116 } : Room)).room s m ([.ref (ad (0, 0, 0))]).toArray below meth c H locs 40 (wd t * 20) (MQ below (va_Qi (fun (r : Int32) (u : (g_k → Nat → Int32) × (g_k → Nat) × (g_k → Nat)) => pm_P g ad ln n sta M t (t + 1) src to r u.1 u.2.1 u.2.2) (fun u t => g_P D (lay C u.1 u.2.1 u.2.2 ex) u.2.1 B t.heap) (g_A B)) ([.ref (ad (0, 0, 0))]).toArray s 40 (wd t * 20) (g_A B)) (F0 m 64 ls []) := by
          intro k
          induction k with
          | zero => intro i2 g3 H locs e1 e2; exact absurd e2 (by omega)
          | succ k ih2 =>
            intro i2 g3 H locs e1 e2 e3 e4 e5 hG hS ls hl
            have hc3 : g3 (1, 0, 0) 4 = nI n := by rw [e3 _ (by decide), gNe _ (by decide)]; exact hc1
            have hnow3 : g3 (0, 0, 0) 8 = nI (t + 1) := by rw [e3 _ (by decide), gN0, upd_self]
            refine lv_iload_n hx hb dX5_passOneMinute_64 rfl (lv_at hl 0 rfl) ?_
            refine lv_aload_n hx hb dX5_passOneMinute_65 rfl (lv_at hl 2 rfl) ?_
            refine g_get hx hb hts hi5 hown hK hG (lay_main) rfl 0 (by decide) (hts (.fieldLink RX5 12 "Satellitering" "sky" "LSatellitering$Sky;") (by decide +kernel)) rfl dX5_passOneMinute_66 ?_
            refine g_getN hx hb hts hi2 hown hK hG (lay_sky) rfl 4 (by decide) (va_Nw.use rfl hN.2.2.2.2.2.2.2.2.2.2.1) rfl dX5_passOneMinute_69 ?_
            refine lv_to (y := nI n) (hc3) ?_
            refine lv_icmp_ge (tgt := 98) hx hb dX5_passOneMinute_72 (by decide) (fun c_2 => ?_) (fun c_2 => ?_)
            · have hi2 : n ≤ i2 := (nI_leI (by omega) (by omega)).mp c_2
              refine lv_iload_n hx hb dX5_passOneMinute_98 rfl (lv_at hl 1 rfl) ?_
              have g20 : ∀ i, g3 (20, i, 0) = g1 (20, i, 0) := fun i => (e3 _ (show (20 : Nat) ≠ 30 by decide)).trans (gNe _ (by intro h9; cases h9))
              have g40 : ∀ c : g_k, 40 ≤ c.1 → g3 c = g1 c := fun c hc9 => (e3 c (by omega)).trans (gNe c (fun z => by rw [z] at hc9; exact absurd hc9 (by decide)))
              have hfin : pm_P g ad ln n sta M t (t + 1) src to (nI q) g3 ad1 ln1 := by
                refine ⟨⟨fun c c1 c2 => ?_, h3.2.1, h3.2.2⟩, ?_, hnow3, fun j hj => ?_, fun j hj => ⟨fun _ => (e5 j (by omega) hj).1, (e5 j (by omega) hj).2⟩, q, (by rw [Nat.add_sub_cancel_left, Nat.mul_one]; exact h7), rfl, ?_⟩
                · exact (e3 c (by omega)).trans ((gNe c c2).trans (h3.1 c (by omega)))
                · rw [e3 _ (by decide), gN0, upd_ne _ _ (by decide), h3.1 _ (Or.inl (by decide))]
                · exact mok_cong (h4 j hj) g20 (g40 _ (show (40 : Nat) ≤ 40 by decide)) (g40 _ (show (40 : Nat) ≤ 41 by decide)) (g40 _ (show (40 : Nat) ≤ 42 by decide)) rfl rfl
                · exact (cg_cong _ (fun j _ => g40 _ (show (40 : Nat) ≤ 40 by decide))).trans h6
              exact W.iret (v := nI q) hx hb hr (fun t9 ht9 hW9 => ⟨⟨_, (g3, ad1, ln1), rfl, hfin, by show g_P D (lay C g3 ad1 ln1 ex) ad1 B t9.heap; rw [ht9]; exact hG⟩, hS.F ht9⟩) hS.2.2 dX5_passOneMinute_99
            · have hi2 : i2 < n := Nat.lt_of_not_le (fun h9 => c_2 ((nI_leI (by omega) (by omega)).mpr h9))
              refine lv_aload_n hx hb dX5_passOneMinute_75 rfl (lv_at hl 2 rfl) ?_
              refine g_get hx hb hts hi5 hown hK hG (lay_main) rfl 2 (by decide) (hts (.fieldLink RX5 27 "Satellitering" "stations" "[LSatellitering$Station;") (by decide +kernel)) rfl dX5_passOneMinute_76 ?_
              refine lv_iload_n hx hb dX5_passOneMinute_79 rfl (lv_at hl 0 rfl) ?_
              rcases Classical.em (ln1 (30, i2, 0) = 1) with c_3 | c_3
              · have his : i2 < sta := (hsl i2 (by omega)).mp (by rw [← hl30]; exact c_3)
                have e30 : g3 (30, i2, 0) = g (30, i2, 0) := (e4 i2 (Nat.le_refl i2)).trans ((gNe _ (by intro h9; cases h9)).trans (h3.1 _ (Or.inl (show (30 : Nat) < 31 by decide))))
                obtain ⟨hrw, kk, hkt, hkk⟩ := hrl i2 his
                refine o_stationY hx hb hK hG (show i2 < 10 by omega) c_3 dX5_passOneMinute_80 ?_
                refine lv_astore_n (lv' := [(3, .ref (ad1 (30, i2, 0))), (2, .int (nI i2)), (1, .int (nI q)), (0, .ref (ad1 (0, 0, 0)))]) hx hb dX5_passOneMinute_81 rfl hl (by decide) rfl (fun ls hl => ?_)
                refine lv_aload_n hx hb dX5_passOneMinute_82 rfl (lv_at hl 0 rfl) ?_
                refine lv_ifnull hx hb dX5_passOneMinute_83 ?_
                refine lv_aload_n hx hb dX5_passOneMinute_86 rfl (lv_at hl 3 rfl) ?_
                refine lv_iload_n hx hb dX5_passOneMinute_87 rfl (lv_at hl 1 rfl) ?_
                refine lv_aload_n hx hb dX5_passOneMinute_88 rfl (lv_at hl 0 rfl) ?_
                refine va_callv (va_runV (As := [.int (nI i2), .ref (ad1 (30, i2, 0))]) (rest := []) ⟨hx, hb, hml, hown, hts⟩ (c_lookForRelay l hn hc3 (show i2 < 10 by omega) c_3 hnow3 (show t + 1 ≤ 1000000 by omega) (by rw [e30]; exact hrw) (kk := kk) (by rw [e30]; exact hkk)) (cwV 2 hts gX5_passOneMinute_X5_lookForRelay rfl rfl rfl (by decide +kernel) ⟨Nat.le_of_ble_eq_true rfl, Nat.le_of_ble_eq_true rfl⟩) (g_preV hF hG hS (lay_main) rfl) rfl rfl hl.1 rfl (lv_room (Nat.le_of_ble_eq_true rfl)) dX5_passOneMinute_89 ⟨Nat.le_refl 40, Nat.le_refl (wd t * 20)⟩) hS (fun q _ h => h) (fun q h => h) (fun g_6 t9 H locs ht9 _ h_5 hB1 _ _ hS => ?_)
                have hG : g_P D (lay C g_6 ad1 ln1 ex) ad1 B H := by rw [← ht9]; exact hB1
                refine lv_iinc (v := nI (i2 + 1)) (lv' := [(2, .int (nI (i2 + 1))), (3, .ref (ad1 (30, i2, 0))), (1, .int (nI q)), (0, .ref (ad1 (0, 0, 0)))]) hx hb dX5_passOneMinute_92 hl (k := 1) rfl (nI_add i2 1) (by decide) rfl (fun ls hl => ?_)
                refine lv_goto (tgt := 64) hx hb dX5_passOneMinute_95 (by decide) ?_
                obtain ⟨f1, f2, k9, f3, f4, -⟩ := h_5
                refine ih2 (i2 + 1) g_6 _ _ (by omega) (by omega) (fun c hc9 => (f1 c (fun z => hc9 (by rw [z]))).trans (e3 c hc9)) (fun j hj => (f1 _ (fun z => by have := congrArg (fun y : g_k => y.2.1) z; simp at this; omega)).trans (e4 j (by omega))) (fun j hj hjs => ?_) hG hS ls (lv_sub hl [0, 2, 3] rfl)
                rcases Nat.lt_or_eq_of_le (Nat.le_of_lt_succ hj) with h9 | h9
                · have f30 : g_6 (30, j, 0) = g3 (30, j, 0) := f1 _ (fun z => by have := congrArg (fun y : g_k => y.2.1) z; simp at this; omega)
                  have f20 : ∀ i, g_6 (20, i, 0) = g3 (20, i, 0) := fun i => f1 _ (by intro h9; cases h9)
                  exact ⟨rel_cong (e5 j h9 hjs).1 f20 f30, rlw_cong (e5 j h9 hjs).2 f30⟩
                · rw [h9]
                  exact ⟨f2, rlw_of f2 (by omega) f4⟩
              · refine o_stationN hx hb hK hG ((show i2 < 10 by omega)) c_3 dX5_passOneMinute_80 ?_
                refine lv_astore_nN (lv' := [(3, .null), (2, .int (nI i2)), (1, .int (nI q)), (0, .ref (ad1 (0, 0, 0)))]) hx hb dX5_passOneMinute_81 rfl hl (by decide) rfl (fun ls hl => ?_)
                refine lv_aload_nN hx hb dX5_passOneMinute_82 rfl (lv_at hl 0 rfl) ?_
                refine lv_ifnullN (tgt := 92) hx hb dX5_passOneMinute_83 (by decide) ?_
                refine lv_iinc (v := nI (i2 + 1)) (lv' := [(2, .int (nI (i2 + 1))), (3, .null), (1, .int (nI q)), (0, .ref (ad1 (0, 0, 0)))]) hx hb dX5_passOneMinute_92 hl (k := 1) rfl (nI_add i2 1) (by decide) rfl (fun ls hl => ?_)
                refine lv_goto (tgt := 64) hx hb dX5_passOneMinute_95 (by decide) ?_
                exact ih2 (i2 + 1) g3 _ _ (by omega) (by omega) e3 (fun j hj => e4 j (by omega)) (fun j hj hjs => e5 j (by rcases Nat.lt_or_eq_of_le (Nat.le_of_lt_succ hj) with h9 | h9; exact h9; exact absurd (by rw [hl30]; exact (hsl i2 (by omega)).mpr (h9 ▸ hjs)) c_3) hjs) hG hS ls (lv_sub hl [0, 2, 3] rfl)
        exact loop2 (n + 1) 0 gN _ _ (Nat.zero_le n) (by omega) (fun _ _ => rfl) (fun _ _ => rfl) (fun j hj => absurd hj (Nat.not_lt_zero j)) hG hS ls (lv_sub hl [0, 1, 2] rfl)
      · have hi : i < M := Nat.lt_of_not_le (fun h9 => c_1 ((nI_leI (by omega) (by omega)).mpr h9))
        have hil : i < ln1 (5, 0, 0) := by omega
        refine lv_aload_n hx hb dX5_passOneMinute_12 rfl (lv_at hl 2 rfl) ?_
        refine g_get hx hb hts hi5 hown hK hG (lay_main) rfl 4 (by decide) (hts (.fieldLink RX5 37 "Satellitering" "sent" "[LSatellitering$Message;") (by decide +kernel)) rfl dX5_passOneMinute_13 ?_
        refine lv_iload_n hx hb dX5_passOneMinute_16 rfl (lv_at hl 0 rfl) ?_
        refine o_sent hx hb hK hG hil (show ln1 (5, 0, 0) ≤ 20 by omega) dX5_passOneMinute_17 ?_
        refine lv_astore_n (lv' := [(3, .ref (ad1 (40, i, 0))), (2, .int (nI i)), (1, .int (nI q)), (0, .ref (ad1 (0, 0, 0)))]) hx hb dX5_passOneMinute_18 rfl hl (by decide) rfl (fun ls hl => ?_)
        refine lv_aload_n hx hb dX5_passOneMinute_19 rfl (lv_at hl 0 rfl) ?_
        refine vp_callSi (W.runV (As := []) (rest := []) ⟨hx, hb, hml, hown, hts⟩ (c_isAtGoal l hil) (cwV 0 hts gX5_passOneMinute_X0_isAtGoal rfl rfl rfl (by decide +kernel) ⟨Nat.le_of_ble_eq_true rfl, Nat.le_of_ble_eq_true rfl⟩) (g_preV hF hG hS (lay_msg hil) rfl) rfl rfl hl.1 rfl (lv_room (Nat.le_of_ble_eq_true rfl)) dX5_passOneMinute_20 ⟨(by show 2 * i + 0 ≤ 40; omega), (by show wd t * i + 0 ≤ wd t * 20; exact Nat.mul_le_mul_left _ (by omega))⟩) (fun r_7 h_8 => ?_)
        obtain ⟨hmi, h40⟩ := h5 i (Nat.le_refl i) hi
        refine lv_if_ne (tgt := 46) hx hb dX5_passOneMinute_23 (by decide) (fun c_9 => ?_) (fun c_9 => ?_)
        · have hat : g1 (40, i, 0) 2 = g1 (40, i, 0) 0 := Classical.byContradiction (fun h9 => c_9 (by rw [show r_7 = _ from h_8, if_neg h9]; exact nI_0))
          refine lv_iinc (v := nI (i + 1)) (lv' := [(2, .int (nI (i + 1))), (3, .ref (ad1 (40, i, 0))), (1, .int (nI q)), (0, .ref (ad1 (0, 0, 0)))]) hx hb dX5_passOneMinute_46 hl (k := 1) rfl (nI_add i 1) (by decide) rfl (fun ls hl => ?_)
          refine lv_goto (tgt := 4) hx hb dX5_passOneMinute_49 (by decide) ?_
          refine W.widen (k := 2 * (i + 1)) (n := wd t * (i + 1)) (by omega) (Nat.mul_le_mul_left _ (Nat.le_succ i)) ?_
          refine ih (i + 1) q g1 ad1 ln1 H locs (by omega) (by omega) h3 (fun j hj => ?_) (fun j hj hjM => h5 j (by omega) hjM) ?_ (by omega) hG hS ls (lv_sub hl [0, 2, 3] rfl)
          · rcases Nat.lt_or_eq_of_le (Nat.le_of_lt_succ hj) with h9 | h9
            · exact h4 j h9
            · rw [h9]; exact mok_now hmi (Nat.le_succ t)
          · rw [cg, cg, if_pos hat, if_pos (by rw [← h40]; exact hat), h6]; omega
        · have hng : g1 (40, i, 0) 2 ≠ g1 (40, i, 0) 0 := fun h9 => absurd (show nI 1 = 0 from (((show r_7 = _ from h_8).trans (if_pos h9)).symm).trans c_9) (by decide)
          refine lv_aload_n hx hb dX5_passOneMinute_26 rfl (lv_at hl 3 rfl) ?_
          refine lv_aload_n hx hb dX5_passOneMinute_27 rfl (lv_at hl 0 rfl) ?_
          have hto1 : ln1 (43, i, 0) = to i := by rw [h3.2.2 _ (show (43 : Nat) ≠ 31 by decide) (show (43 : Nat) ≠ 41 by decide) (show (43 : Nat) ≠ 42 by decide)]; exact (hto i hi).1
          have htl := (hto i hi).2
          refine va_callv (va_runV (As := [.ref (ad1 (40, i, 0))]) (rest := []) ⟨hx, hb, hml, hown, hts⟩ (c_moveOn l hn hc1 hM1 hM20 hs1 hi hto1 (show to i < 10 by omega) (by rw [hl30]; exact (hsl _ (by omega)).mpr htl) hnow1 ht hmi hng) (cwV 1 hts gX5_passOneMinute_X5_moveOn rfl rfl rfl (by decide +kernel) ⟨Nat.le_of_ble_eq_true rfl, Nat.le_of_ble_eq_true rfl⟩) (g_preV hF hG hS (lay_main) rfl) rfl rfl hl.1 rfl (lv_room (Nat.le_of_ble_eq_true rfl)) dX5_passOneMinute_28 ⟨(by show 2 * i + 2 ≤ 40; omega), (by show wd t * (i + 1) ≤ wd t * 20; exact Nat.mul_le_mul_left _ (by omega))⟩) hS (fun q _ h => h) (fun q h => h) (fun u9 t9 H locs ht9 _ h_11 hB1 _ _ hS => ?_)
          obtain ⟨g_12, ad_14, ln_13⟩ := u9
          dsimp only at h_11
          have hG : g_P D (lay C g_12 ad_14 ln_13 ex) ad_14 B H := by rw [← ht9]; exact hB1
          have ea0 : ad_14 (40, i, 0) = ad1 (40, i, 0) := h_11.1.2.1 _ (show (40 : Nat) ≠ 41 by decide) (show (40 : Nat) ≠ 42 by decide)
          have ea1 : ad_14 (0, 0, 0) = ad1 (0, 0, 0) := h_11.1.2.1 _ (show (0 : Nat) ≠ 41 by decide) (show (0 : Nat) ≠ 42 by decide)
          have hl : lv_has ls 4 [(3, .ref (ad_14 (40, i, 0))), (2, .int (nI i)), (1, .int (nI q)), (0, .ref (ad_14 (0, 0, 0)))] := by rw [ea0, ea1]; exact hl
          have hil2 : i < ln_13 (5, 0, 0) := by rw [h_11.1.2.2 _ (show (5 : Nat) ≠ 31 by decide) (Or.inl ⟨(show (5 : Nat) ≠ 41 by decide), (show (5 : Nat) ≠ 42 by decide)⟩)]; exact hil
          refine lv_iload_n hx hb dX5_passOneMinute_31 rfl (lv_at hl 2 rfl) ?_
          refine lv_aload_n hx hb dX5_passOneMinute_32 rfl (lv_at hl 0 rfl) ?_
          refine vp_callSi (W.runV (As := []) (rest := [.int (nI q)]) ⟨hx, hb, hml, hown, hts⟩ (c_isAtGoal l hil2) (cwV 0 hts gX5_passOneMinute_X0_isAtGoal rfl rfl rfl (by decide +kernel) ⟨Nat.le_of_ble_eq_true rfl, Nat.le_of_ble_eq_true rfl⟩) (g_preV hF hG hS (lay_msg hil2) rfl) rfl rfl hl.1 rfl (lv_room (Nat.le_of_ble_eq_true rfl)) dX5_passOneMinute_33 ⟨(by show 2 * i + 2 + 0 ≤ 40; omega), (by show wd t * (i + 1) + 0 ≤ wd t * 20; exact Nat.mul_le_mul_left _ (by omega))⟩) (fun r_15 h_16 => ?_)
          have hoth : ∀ c : g_k, 40 ≤ c.1 → c.2.1 ≠ i → g_12 c = g1 c := fun c x1 x2 => h_11.1.1 c (Or.inr (Or.inr ⟨x1, x2⟩))
          have hotl : ∀ c : g_k, c.1 ≠ 31 → c.2.1 ≠ i → ln_13 c = ln1 c := fun c x1 x2 => h_11.1.2.2 c x1 (Or.inr x2)
          refine lv_if_eq (tgt := 43) hx hb dX5_passOneMinute_36 (by decide) (fun c_17 => ?_) (fun c_17 => ?_)
          · have hat : ¬ g_12 (40, i, 0) 2 = g_12 (40, i, 0) 0 := fun h9 => absurd (show nI 1 = 0 from (((show r_15 = _ from h_16).trans (if_pos h9)).symm).trans c_17) (by decide)
            refine lv_iconst (v := nI 0) hx hb dX5_passOneMinute_43 (by decide) ?_
            refine lv_iadd hx hb dX5_passOneMinute_44 ?_
            refine lv_to (y := nI (q + 0)) (nI_add q 0) ?_
            refine lv_istore_n (lv' := [(1, .int (nI (q + 0))), (3, .ref (ad_14 (40, i, 0))), (2, .int (nI i)), (0, .ref (ad_14 (0, 0, 0)))]) hx hb dX5_passOneMinute_45 rfl hl (by decide) rfl (fun ls hl => ?_)
            refine lv_iinc (v := nI (i + 1)) (lv' := [(2, .int (nI (i + 1))), (1, .int (nI (q + 0))), (3, .ref (ad_14 (40, i, 0))), (0, .ref (ad_14 (0, 0, 0)))]) hx hb dX5_passOneMinute_46 hl (k := 2) rfl (nI_add i 1) (by decide) rfl (fun ls hl => ?_)
            refine lv_goto (tgt := 4) hx hb dX5_passOneMinute_49 (by decide) ?_
            refine ih (i + 1) q g_12 ad_14 ln_13 _ _ (by omega) (by omega) (mf_mv h3 h_11.1) (fun j hj => ?_) (fun j hj hjM => ?_) ?_ (by omega) hG hS ls (lv_sub hl [0, 1, 3] rfl)
            · rcases Nat.lt_or_eq_of_le (Nat.le_of_lt_succ hj) with h9 | h9
              · exact mok_cong (h4 j h9) (fun i => h_11.1.1 _ (Or.inl (show (20 : Nat) < 31 by decide))) (hoth _ (show (40 : Nat) ≤ 40 by decide) (show j ≠ i by omega)) (hoth _ (show (40 : Nat) ≤ 41 by decide) (show j ≠ i by omega)) (hoth _ (show (40 : Nat) ≤ 42 by decide) (show j ≠ i by omega)) (hotl _ (show (41 : Nat) ≠ 31 by decide) (show j ≠ i by omega)) (hotl _ (show (42 : Nat) ≠ 31 by decide) (show j ≠ i by omega))
              · rw [h9]; exact h_11.2
            · obtain ⟨x1, x2⟩ := h5 j (by omega) hjM
              exact ⟨mok_cong x1 (fun i => h_11.1.1 _ (Or.inl (show (20 : Nat) < 31 by decide))) (hoth _ (show (40 : Nat) ≤ 40 by decide) (show j ≠ i by omega)) (hoth _ (show (40 : Nat) ≤ 41 by decide) (show j ≠ i by omega)) (hoth _ (show (40 : Nat) ≤ 42 by decide) (show j ≠ i by omega)) (hotl _ (show (41 : Nat) ≠ 31 by decide) (show j ≠ i by omega)) (hotl _ (show (42 : Nat) ≠ 31 by decide) (show j ≠ i by omega)), (hoth _ (show (40 : Nat) ≤ 40 by decide) (show j ≠ i by omega)).trans x2⟩
            · rw [cg, cg, if_neg hat, if_neg (by rw [← h40]; exact hng), cg_cong i (fun j hj => hoth _ (show (40 : Nat) ≤ 40 by decide) (show j ≠ i by omega)), h6]; omega
          · have hat : g_12 (40, i, 0) 2 = g_12 (40, i, 0) 0 := Classical.byContradiction (fun h9 => c_17 (by rw [show r_15 = _ from h_16, if_neg h9]; exact nI_0))
            refine lv_iconst (v := nI 1) hx hb dX5_passOneMinute_39 (by decide) ?_
            refine lv_goto (tgt := 44) hx hb dX5_passOneMinute_40 (by decide) ?_
            refine lv_iadd hx hb dX5_passOneMinute_44 ?_
            refine lv_to (y := nI (q + 1)) (nI_add q 1) ?_
            refine lv_istore_n (lv' := [(1, .int (nI (q + 1))), (3, .ref (ad_14 (40, i, 0))), (2, .int (nI i)), (0, .ref (ad_14 (0, 0, 0)))]) hx hb dX5_passOneMinute_45 rfl hl (by decide) rfl (fun ls hl => ?_)
            refine lv_iinc (v := nI (i + 1)) (lv' := [(2, .int (nI (i + 1))), (1, .int (nI (q + 1))), (3, .ref (ad_14 (40, i, 0))), (0, .ref (ad_14 (0, 0, 0)))]) hx hb dX5_passOneMinute_46 hl (k := 2) rfl (nI_add i 1) (by decide) rfl (fun ls hl => ?_)
            refine lv_goto (tgt := 4) hx hb dX5_passOneMinute_49 (by decide) ?_
            refine ih (i + 1) (q + 1) g_12 ad_14 ln_13 _ _ (by omega) (by omega) (mf_mv h3 h_11.1) (fun j hj => ?_) (fun j hj hjM => ?_) ?_ (by omega) hG hS ls (lv_sub hl [0, 1, 3] rfl)
            · rcases Nat.lt_or_eq_of_le (Nat.le_of_lt_succ hj) with h9 | h9
              · exact mok_cong (h4 j h9) (fun i => h_11.1.1 _ (Or.inl (show (20 : Nat) < 31 by decide))) (hoth _ (show (40 : Nat) ≤ 40 by decide) (show j ≠ i by omega)) (hoth _ (show (40 : Nat) ≤ 41 by decide) (show j ≠ i by omega)) (hoth _ (show (40 : Nat) ≤ 42 by decide) (show j ≠ i by omega)) (hotl _ (show (41 : Nat) ≠ 31 by decide) (show j ≠ i by omega)) (hotl _ (show (42 : Nat) ≠ 31 by decide) (show j ≠ i by omega))
              · rw [h9]; exact h_11.2
            · obtain ⟨x1, x2⟩ := h5 j (by omega) hjM
              exact ⟨mok_cong x1 (fun i => h_11.1.1 _ (Or.inl (show (20 : Nat) < 31 by decide))) (hoth _ (show (40 : Nat) ≤ 40 by decide) (show j ≠ i by omega)) (hoth _ (show (40 : Nat) ≤ 41 by decide) (show j ≠ i by omega)) (hoth _ (show (40 : Nat) ≤ 42 by decide) (show j ≠ i by omega)) (hotl _ (show (41 : Nat) ≠ 31 by decide) (show j ≠ i by omega)) (hotl _ (show (42 : Nat) ≠ 31 by decide) (show j ≠ i by omega)), (hoth _ (show (40 : Nat) ≤ 40 by decide) (show j ≠ i by omega)).trans x2⟩
            · rw [cg, cg, if_pos hat, if_neg (by rw [← h40]; exact hng), cg_cong i (fun j hj => hoth _ (show (40 : Nat) ≤ 40 by decide) (show j ≠ i by omega)), h6]; omega
  exact loop (M + 1) 0 0 g ad ln s.heap [] (Nat.zero_le M) (by omega) mf_rf (fun j hj => absurd hj (Nat.not_lt_zero j)) (fun j _ hj => ⟨hmk j hj, rfl⟩) rfl (Nat.le_refl 0) hG hS ls (lv_sub hl [0, 1, 2] rfl)

theorem pm_rf {g : g_k → Nat → Int32} {ad ln : g_k → Nat} {n sta M t : Nat} {src to : Nat → Nat} (h8 : g (0, 0, 0) 8 = nI t) (hm : ∀ j, j < M → mok g ln n t j (src j) (to j)) (hr : ∀ i, i < sta → rlw_P g n t i) : pm_P g ad ln n sta M t t src to (nI 0) g ad ln := ⟨pf_rf, rfl, h8, hm, fun i hi => ⟨fun h9 => absurd h9 (Nat.lt_irrefl t), hr i hi⟩, 0, Nat.zero_le _, rfl, rfl⟩
theorem pm_tr {g g1 g3 : g_k → Nat → Int32} {ad ln ad1 ln1 ad3 ln3 : g_k → Nat} {n sta M t t1 q : Nat} {src to : Nat → Nat} {r : Int32} (ht : t ≤ t1) (h : pm_P g ad ln n sta M t t1 src to (nI q) g1 ad1 ln1) (hq : q < 2 ^ 31) (hM : M * (t1 - t) < 2 ^ 31) (h2 : pm_P g1 ad1 ln1 n sta M t1 (t1 + 1) src to r g3 ad3 ln3) : ∃ q2, q2 ≤ M ∧ r = nI q2 ∧ pm_P g ad ln n sta M t (t1 + 1) src to (nI (q + q2)) g3 ad3 ln3 := by
  obtain ⟨a1, a2, a3, a4, a5, q1, a6, a7, a8⟩ := h
  obtain ⟨b1, b2, b3, b4, b5, q2, b6, b7, b8⟩ := h2
  have e1 : q = q1 := (nI_eq hq (by omega)).mp a7
  subst e1
  rw [Nat.add_sub_cancel_left, Nat.mul_one] at b6
  refine ⟨q2, b6, b7, pf_tr a1 b1, b2.trans a2, b3, b4, fun i hi => ⟨fun _ => (b5 i hi).1 (Nat.lt_succ_self t1), (b5 i hi).2⟩, q + q2, ?_, rfl, by omega⟩
  have : t1 + 1 - t = (t1 - t) + 1 := by omega
  rw [this, Nat.mul_add, Nat.mul_one]
  omega

theorem us_le (t : Nat) : ∀ {a b : Nat}, a ≤ b → us t a ≤ us t b := by
  intro a b h
  induction b with
  | zero => rw [Nat.le_zero.mp h]; exact Nat.le_refl _
  | succ b ih =>
    rcases Nat.lt_or_eq_of_le h with h | h
    · exact Nat.le_trans (ih (by omega)) (Nat.le_add_right _ _)
    · rw [h]; exact Nat.le_refl _

set_option maxHeartbeats 4000000 in
set_option maxRecDepth 100000 in
theorem c_pass (l : Launch) {D : va_G} {C : g_C} {g : g_k → Nat → Int32} {ad ln : g_k → Nat} {ex : g_k → Option va_E} {B : Nat} {n : Nat} (hn : n ≤ 10) (hc : g (1, 0, 0) 4 = nI n) {M : Nat} (hM : ln (5, 0, 0) = M) (hM20 : M ≤ 20) (hs : g (0, 0, 0) 7 = nI M) {sta t : Nat} {src to : Nat → Nat} (hsl : ∀ i, i < 10 → (ln (30, i, 0) = 1 ↔ i < sta)) (hstn : sta ≤ n) (hto : ∀ j, j < M → ln (43, j, 0) = to j ∧ to j < sta) (hnow : g (0, 0, 0) 8 = nI t) (hmk : ∀ j, j < M → mok g ln n t j (src j) (to j)) (hrl : ∀ i, i < sta → rlw_P g n t i) {k : Nat} (hk1 : 1 ≤ k) (hk30 : k ≤ 30) (ht : t + k < 2 ^ 19) : Met l yX5_pass wsX5_pass ({ frames := 6, cells := (40 * k), slots := (us t k), locals := 139 } : Room) (va_Pc [.ref (ad (0, 0, 0)), .int (nI k)] (g_S D C (lay C g ad ln ex) ad B)) (va_Qi (fun (r : Int32) (u : (g_k → Nat → Int32) × (g_k → Nat) × (g_k → Nat)) => pm_P g ad ln n sta M t (t + k) src to r u.1 u.2.1 u.2.2) (fun u t => g_P D (lay C u.1 u.2.1 u.2.2 ex) u.2.1 B t.heap) (g_A B)) (40 * k) (us t k) (g_A B) := by
  refine Met.ofW (cc := cX5_pass) (maxL := 4) (ret := (some .int)) (by decide) rfl ?_
  intro p e s m args below meth c s₁ B₀ hml hv
  obtain ⟨rfl, hG, hF⟩ := hv
  have hK := hF.1
  have hN := hF.2.1
  have hB := hF.2.2.2
  have hx := B₀.exec
  have hb := B₀.bytes
  have hr := B₀.returns
  have hts := atoms_spec (ws := wsX5_pass) B₀.pre
  have hown : s.vm.findClass RX5 = some m.cls := findClass_of_methodNamed B₀.named
  have hlocks := B₀.notSynchronized
  have hS : va_S (g_A B) s.heap s.heap [] := va_S.rf
  have hi5 : ∀ w ∈ wsX50, w ∈ wsX5_pass := by decide +kernel
  have hl := lv_entry [.ref (ad (0, 0, 0)), .int (nI k)] (n := 4) (Nat.le_of_ble_eq_true rfl)
  rw [lg_entry_eq]
  generalize (lg_sl [.ref (ad (0, 0, 0)), .int (nI k)] ++ List.replicate (4 - (lg_sl [.ref (ad (0, 0, 0)), .int (nI k)]).length) Slot.unset).toArray = ls at hl ⊢
  have hl : lv_has ls 4 [(0, .ref (ad (0, 0, 0))), (1, .int (nI k))] := hl
  refine lv_iload_n hx hb dX5_pass_0 rfl (lv_at hl 1 rfl) ?_
  refine lv_iconst (v := nI 1) hx hb dX5_pass_1 (by decide) ?_
  refine lv_bipush (v := nI 30) hx hb dX5_pass_2 (by decide) ?_
  refine vp_callSi (W.runS (As := [.int (nI k), .int (nI 1), .int (nI 30)]) (rest := []) ⟨hx, hb, hml, hown, hts⟩ (c_inRange l ) (va_cwS 3 hts gX5_pass_X5_inRange rfl rfl rfl (by decide +kernel) ⟨Nat.le_of_ble_eq_true rfl, Nat.le_of_ble_eq_true rfl⟩) (g_preS hF hG hS) rfl rfl hl.1 rfl (lv_room (Nat.le_of_ble_eq_true rfl)) dX5_pass_4 ⟨Nat.le_of_ble_eq_true rfl, Nat.le_of_ble_eq_true rfl⟩) (fun r_1 h_2 => ?_)
  refine lv_to (y := nI 1) (h_2.trans (if_pos (⟨nI_le hk1 (by omega), nI_le hk30 (by decide)⟩))) ?_
  refine va_csv (W.runS (As := [.int (nI 1)]) (rest := []) ⟨hx, hb, hml, hown, hts⟩ (c_requireArgument l ) (va_cwS 1 hts gX5_pass_X5_requireArgument rfl rfl rfl (by decide +kernel) ⟨Nat.le_of_ble_eq_true rfl, Nat.le_of_ble_eq_true rfl⟩) (g_preS hF hG hS) rfl rfl hl.1 rfl (lv_room (Nat.le_of_ble_eq_true rfl)) dX5_pass_7 ⟨Nat.le_of_ble_eq_true rfl, Nat.le_of_ble_eq_true rfl⟩) (fun h_4 => ?_)
  refine lv_aload_n hx hb dX5_pass_10 rfl (lv_at hl 0 rfl) ?_
  refine g_get hx hb hts hi5 hown hK hG (lay_main) rfl 8 (by decide) (hts (.fieldLink RX5 51 "Satellitering" "now" "I") (by decide +kernel)) rfl dX5_pass_11 ?_
  refine lv_to (y := nI t) (hnow) ?_
  refine lv_iload_n hx hb dX5_pass_14 rfl (lv_at hl 1 rfl) ?_
  refine lv_iadd hx hb dX5_pass_15 ?_
  refine lv_to (y := nI (t + k)) (nI_add t k) ?_
  refine lv_ldc (v := 1000000) hx hb hown (hts (.constant RX5 147 (1000000)) (by decide +kernel)) dX5_pass_16 ?_
  refine lv_to (y := nI 1000000) (by decide) ?_
  refine lv_icmp_le (tgt := 31) hx hb dX5_pass_18 (by decide) (fun c_5 => ?_) (fun c_5 => ?_)
  · refine lv_iconst (v := nI 0) hx hb dX5_pass_31 (by decide) ?_
    refine lv_istore_n (lv' := [(2, .int (nI 0)), (0, .ref (ad (0, 0, 0))), (1, .int (nI k))]) hx hb dX5_pass_32 rfl hl (by decide) rfl (fun ls hl => ?_)
    refine lv_iconst (v := nI 0) hx hb dX5_pass_33 (by decide) ?_
    refine lv_istore_n (lv' := [(3, .int (nI 0)), (2, .int (nI 0)), (0, .ref (ad (0, 0, 0))), (1, .int (nI k))]) hx hb dX5_pass_34 rfl hl (by decide) rfl (fun ls hl => ?_)
    have loop : ∀ (f9 p1 q : Nat) (g1 : g_k → Nat → Int32) (ad1 ln1 : g_k → Nat) (H : Heap) (locs : List Loc), p1 ≤ k → k < p1 + f9 → q ≤ 20 * p1 → pm_P g ad ln n sta M t (t + p1) src to (nI q) g1 ad1 ln1 → g_P D (lay C g1 ad1 ln1 ex) ad1 B H → va_S (g_A B) s.heap H locs → ∀ ls, lv_has ls 4 [(3, .int (nI p1)), (2, .int (nI q)), (0, .ref (ad1 (0, 0, 0))), (1, .int (nI k))] → W p l e (headSpec wsX5_pass ({ frames := 6, cells := (40 * k), slots := (us t k), locals := 139 } : Room)).room s m ([.ref (ad (0, 0, 0)), .int (nI k)]).toArray below meth c H locs (40 * p1) (us t p1) (MQ below (va_Qi (fun (r : Int32) (u : (g_k → Nat → Int32) × (g_k → Nat) × (g_k → Nat)) => pm_P g ad ln n sta M t (t + k) src to r u.1 u.2.1 u.2.2) (fun u t => g_P D (lay C u.1 u.2.1 u.2.2 ex) u.2.1 B t.heap) (g_A B)) ([.ref (ad (0, 0, 0)), .int (nI k)]).toArray s (40 * k) (us t k) (g_A B)) (F0 m 35 ls []) := by
      intro f9
      induction f9 with
      | zero => intro p1 q g1 ad1 ln1 H locs h1 h2; exact absurd h2 (by omega)
      | succ f9 ih =>
        intro p1 q g1 ad1 ln1 H locs h1 h2 h3 h4 hG hS ls hl
        refine lv_iload_n hx hb dX5_pass_35 rfl (lv_at hl 0 rfl) ?_
        refine lv_iload_n hx hb dX5_pass_36 rfl (lv_at hl 3 rfl) ?_
        refine lv_icmp_ge (tgt := 53) hx hb dX5_pass_37 (by decide) (fun c_6 => ?_) (fun c_6 => ?_)
        · have hp : k = p1 := by have := (nI_leI (by omega) (by omega)).mp c_6; omega
          subst hp
          refine lv_iload_n hx hb dX5_pass_53 rfl (lv_at hl 1 rfl) ?_
          exact W.iret (v := nI q) hx hb hr (fun t9 ht9 hW9 => ⟨⟨_, (g1, ad1, ln1), rfl, h4, by show g_P D (lay C g1 ad1 ln1 ex) ad1 B t9.heap; rw [ht9]; exact hG⟩, hS.F ht9⟩) hS.2.2 dX5_pass_54
        · have hp : p1 < k := Nat.lt_of_not_le (fun h9 => c_6 ((nI_leI (by omega) (by omega)).mpr h9))
          obtain ⟨⟨f1, f2, f3⟩, f7, f8, fm, fr, -⟩ := id h4
          have hM1 : ln1 (5, 0, 0) = M := by rw [f3 _ (by decide) (by decide) (by decide)]; exact hM
          have hc1 : g1 (1, 0, 0) 4 = nI n := by rw [f1 _ (Or.inl (by decide)) (by decide)]; exact hc
          have hl30 : ∀ i, ln1 (30, i, 0) = ln (30, i, 0) := fun i => f3 _ (show (30 : Nat) ≠ 31 by decide) (show (30 : Nat) ≠ 41 by decide) (show (30 : Nat) ≠ 42 by decide)
          have hl43 : ∀ i, ln1 (43, i, 0) = ln (43, i, 0) := fun i => f3 _ (show (43 : Nat) ≠ 31 by decide) (show (43 : Nat) ≠ 41 by decide) (show (43 : Nat) ≠ 42 by decide)
          refine lv_iload_n hx hb dX5_pass_40 rfl (lv_at hl 1 rfl) ?_
          refine lv_aload_n hx hb dX5_pass_41 rfl (lv_at hl 2 rfl) ?_
          refine va_calli (va_runV (As := []) (rest := [.int (nI q)]) ⟨hx, hb, hml, hown, hts⟩ (c_passOneMinute l hn hc1 hM1 hM20 (f7.trans hs) (sta := sta) (t := t + p1) (src := src) (to := to) (fun i hi => by rw [hl30]; exact hsl i hi) hstn (fun j hj => by rw [hl43]; exact hto j hj) f8 fm (fun i hi => (fr i hi).2) (by omega)) (cwV 0 hts gX5_pass_X5_passOneMinute rfl rfl rfl (by decide +kernel) ⟨Nat.le_of_ble_eq_true rfl, Nat.le_of_ble_eq_true rfl⟩) (g_preV hF hG hS (lay_main) rfl) rfl rfl hl.1 rfl (lv_room (Nat.le_of_ble_eq_true rfl)) dX5_pass_42 ⟨(by show 40 * (p1 + 1) ≤ 40 * k; omega), (by show us t (p1 + 1) ≤ us t k; exact us_le t (by omega))⟩) hS (fun q _ h => h) (fun q h => h) (fun r_7 u9 t9 H locs ht9 _ h_8 hB1 _ _ hS => ?_)
          obtain ⟨g_9, ad_11, ln_10⟩ := u9
          dsimp only at h_8
          have hG : g_P D (lay C g_9 ad_11 ln_10 ex) ad_11 B H := by rw [← ht9]; exact hB1
          obtain ⟨q2, hq2, er2, hpm⟩ := pm_tr (Nat.le_add_right t p1) h4 (by omega) (by have := Nat.mul_le_mul_right (t + p1 - t) hM20; omega) h_8
          have ea0 : ad_11 (0, 0, 0) = ad1 (0, 0, 0) := h_8.1.2.1 _ (show (0 : Nat) ≠ 41 by decide) (show (0 : Nat) ≠ 42 by decide)
          have hl : lv_has ls 4 [(3, .int (nI p1)), (2, .int (nI q)), (0, .ref (ad_11 (0, 0, 0))), (1, .int (nI k))] := by rw [ea0]; exact hl
          subst er2
          refine lv_iadd hx hb dX5_pass_45 ?_
          refine lv_to (y := nI (q + q2)) (nI_add q q2) ?_
          refine lv_istore_n (lv' := [(2, .int (nI (q + q2))), (3, .int (nI p1)), (0, .ref (ad_11 (0, 0, 0))), (1, .int (nI k))]) hx hb dX5_pass_46 rfl hl (by decide) rfl (fun ls hl => ?_)
          refine lv_iinc (v := nI (p1 + 1)) (lv' := [(3, .int (nI (p1 + 1))), (2, .int (nI (q + q2))), (0, .ref (ad_11 (0, 0, 0))), (1, .int (nI k))]) hx hb dX5_pass_47 hl (k := 1) rfl (nI_add p1 1) (by decide) rfl (fun ls hl => ?_)
          refine lv_goto (tgt := 35) hx hb dX5_pass_50 (by decide) ?_
          exact ih (p1 + 1) (q + q2) g_9 ad_11 ln_10 _ _ (by omega) (by omega) (by omega) hpm hG hS ls (lv_sub hl [0, 1, 2, 3] rfl)
    exact loop (k + 1) 0 0 g ad ln s.heap [] (Nat.zero_le k) (by omega) (Nat.zero_le _) (pm_rf hnow hmk hrl) hG hS ls (lv_sub hl [0, 1, 2, 3] rfl)
  · exact absurd (nI_le (show t + k ≤ 1000000 by omega) (by decide)) c_5
