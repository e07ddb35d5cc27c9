/-- message j moves on: what it leaves as it was -/
def mv_P (g : g_k → Nat → Int32) (ad ln : g_k → Nat) (j : Nat) (g1 : g_k → Nat → Int32) (ad1 ln1 : g_k → Nat) : Prop := (∀ c : g_k, (c.1 < 31 ∨ 42 < c.1 ∨ (40 ≤ c.1 ∧ c.2.1 ≠ j)) → g1 c = g c) ∧ (∀ c : g_k, c.1 ≠ 41 → c.1 ≠ 42 → ad1 c = ad c) ∧ (∀ c : g_k, c.1 ≠ 31 → (c.1 ≠ 41 ∧ c.1 ≠ 42 ∨ c.2.1 ≠ j) → ln1 c = ln c)
/-- what the messages' moves leave as it was -/
def mf_P (g : g_k → Nat → Int32) (ad ln : g_k → Nat) (g1 : g_k → Nat → Int32) (ad1 ln1 : g_k → Nat) : Prop := (∀ c : g_k, (c.1 < 31 ∨ 42 < c.1) → g1 c = g c) ∧ (∀ c : g_k, c.1 ≠ 41 → c.1 ≠ 42 → ad1 c = ad c) ∧ (∀ c : g_k, c.1 ≠ 31 → c.1 ≠ 41 → c.1 ≠ 42 → ln1 c = ln c)
theorem mf_rf {g : g_k → Nat → Int32} {ad ln : g_k → Nat} : mf_P g ad ln g ad ln := ⟨fun _ _ => rfl, fun _ _ _ => rfl, fun _ _ _ _ => rfl⟩
theorem mf_mv {g g1 g3 : g_k → Nat → Int32} {ad ln ad1 ln1 ad3 ln3 : g_k → Nat} {j : Nat} (h : mf_P g ad ln g1 ad1 ln1) (h2 : mv_P g1 ad1 ln1 j g3 ad3 ln3) : mf_P g ad ln g3 ad3 ln3 := ⟨fun c hc => (h2.1 c (by omega)).trans (h.1 c hc), fun c c1 c2 => (h2.2.1 c c1 c2).trans (h.2.1 c c1 c2), fun c c1 c2 c3 => (h2.2.2 c c1 (Or.inl ⟨c2, c3⟩)).trans (h.2.2 c c1 c2 c3)⟩
/-- what minutes leave as it was -/
def pf_P (g : g_k → Nat → Int32) (ad ln : g_k → Nat) (g1 : g_k → Nat → Int32) (ad1 ln1 : g_k → Nat) : Prop := (∀ c : g_k, (c.1 < 30 ∨ 42 < c.1) → c ≠ (0, 0, 0) → g1 c = g c) ∧ (∀ c : g_k, c.1 ≠ 41 → c.1 ≠ 42 → ad1 c = ad c) ∧ (∀ c : g_k, c.1 ≠ 31 → c.1 ≠ 41 → c.1 ≠ 42 → ln1 c = ln c)
theorem pf_rf {g : g_k → Nat → Int32} {ad ln : g_k → Nat} : pf_P g ad ln g ad ln := ⟨fun _ _ _ => rfl, fun _ _ _ => rfl, fun _ _ _ _ => rfl⟩
theorem pf_tr {g g1 g3 : g_k → Nat → Int32} {ad ln ad1 ln1 ad3 ln3 : g_k → Nat} (h : pf_P g ad ln g1 ad1 ln1) (h2 : pf_P g1 ad1 ln1 g3 ad3 ln3) : pf_P g ad ln g3 ad3 ln3 := ⟨fun c hc h0 => (h2.1 c hc h0).trans (h.1 c hc h0), fun c c1 c2 => (h2.2.1 c c1 c2).trans (h.2.1 c c1 c2), fun c c1 c2 c3 => (h2.2.2 c c1 c2 c3).trans (h.2.2 c c1 c2 c3)⟩
/-- one minute -/
def pm_P (g : g_k → Nat → Int32) (ad ln : g_k → Nat) (n sta M t t1 : Nat) (src to : Nat → Nat) (r : Int32) (g1 : g_k → Nat → Int32) (ad1 ln1 : g_k → Nat) : Prop := pf_P g ad ln g1 ad1 ln1 ∧ g1 (0, 0, 0) 7 = g (0, 0, 0) 7 ∧ g1 (0, 0, 0) 8 = nI t1 ∧ (∀ j, j < M → mok g1 ln1 n t1 j (src j) (to j)) ∧ (∀ i, i < sta → (t < t1 → rel_P g1 n t1 i) ∧ rlw_P g1 n t1 i) ∧ ∃ q, q ≤ M * (t1 - t) ∧ r = nI q ∧ cg g1 M = cg g M + q

set_option maxHeartbeats 4000000 in
set_option maxRecDepth 100000 in
theorem c_moveOn (l : Launch) {D : va_G} {C : g_C} {g : g_k → Nat → Int32} {ad ln : g_k → Nat} {ex : g_k → Option va_E} {B : Nat} {n : Nat} (hn : n ≤ 10) (hc : g (1, 0, 0) 4 = nI n) {M : Nat} (hM : ln (5, 0, 0) = M) (hM20 : M ≤ 20) (hs : g (0, 0, 0) 7 = nI M) {t j k s0 : Nat} (hj : j < M) (hgo : ln (43, j, 0) = k) (hk : k < 10) (hlv : ln (30, k, 0) = 1) (hnow : g (0, 0, 0) 8 = nI t) (ht : t < 2 ^ 19) (hmk : mok g ln n t j s0 k) (hng : g (40, j, 0) 2 ≠ g (40, j, 0) 0) : Met l yX5_moveOn wsX5_moveOn ({ frames := 4, cells := 2, slots := (wd t), locals := 94 } : Room) (va_Pc [.ref (ad (0, 0, 0)), .ref (ad (40, j, 0))] (g_S D C (lay C g ad ln ex) ad B)) (va_Qv (fun (u : (g_k → Nat → Int32) × (g_k → Nat) × (g_k → Nat)) => mv_P g ad ln j u.1 u.2.1 u.2.2 ∧ mok u.1 u.2.2 n (t + 1) j s0 k) (fun u t => g_P D (lay C u.1 u.2.1 u.2.2 ex) u.2.1 B t.heap) (g_A B)) 2 (wd t) (g_A B) := by
  refine Met.ofW (cc := cX5_moveOn) (maxL := 3) (ret := none) (by decide) rfl ?_
  intro p e s m args below meth c s₁ B₀ hml hv
  obtain ⟨rfl, hG, hF⟩ := hv
  have hK := hF.1
  have hN := hF.2.1
  have hB := hF.2.2.2
  have hx := B₀.exec
  have hb := B₀.bytes
  have hr := B₀.returns
  have hts := atoms_spec (ws := wsX5_moveOn) B₀.pre
  have hown : s.vm.findClass RX5 = some m.cls := findClass_of_methodNamed B₀.named
  have hlocks := B₀.notSynchronized
  have hS : va_S (g_A B) s.heap s.heap [] := va_S.rf
  have hi0 : ∀ w ∈ wsX00, w ∈ wsX5_moveOn := by decide +kernel
  have hi5 : ∀ w ∈ wsX50, w ∈ wsX5_moveOn := by decide +kernel
  have hl := lv_entry [.ref (ad (0, 0, 0)), .ref (ad (40, j, 0))] (n := 3) (Nat.le_of_ble_eq_true rfl)
  rw [lg_entry_eq]
  generalize (lg_sl [.ref (ad (0, 0, 0)), .ref (ad (40, j, 0))] ++ List.replicate (3 - (lg_sl [.ref (ad (0, 0, 0)), .ref (ad (40, j, 0))]).length) Slot.unset).toArray = ls at hl ⊢
  have hl : lv_has ls 3 [(0, .ref (ad (0, 0, 0))), (1, .ref (ad (40, j, 0)))] := hl
  obtain ⟨hq, Nq, Tq, hmA⟩ := hmk
  have hmB := hmA
  obtain ⟨⟨a1, a2, a3, a4, bq, b1, b2⟩, ⟨c1, c2, c3, c4, qq, c5⟩, d1, d2, d3, d4⟩ := hmB
  have hNk : Nq hq ≠ k := fun z => hng (by rw [a1, a2, z])
  have hjl : j < ln (5, 0, 0) := by omega
  refine lv_aload_n hx hb dX5_moveOn_0 rfl (lv_at hl 1 rfl) ?_
  refine g_getN hx hb hts hi0 hown hK hG (lay_msg hjl) rfl 1 (by decide) (va_Nw.use rfl hN.2.2.2.2.2.2.2.2.2.1) rfl dX5_moveOn_1 ?_
  refine W.eq (g2 := F0 m 4 ls [.ref (ad (31, k, 0))]) (by rw [hgo]) ?_
  refine lv_aload_n hx hb dX5_moveOn_4 rfl (lv_at hl 1 rfl) ?_
  refine g_getN hx hb hts hi0 hown hK hG (lay_msg hjl) rfl 2 (by decide) (va_Nw.use rfl hN.2.1) rfl dX5_moveOn_5 ?_
  refine lv_to (y := nI (Nq hq)) (a2) ?_
  refine lv_aload_n hx hb dX5_moveOn_8 rfl (lv_at hl 0 rfl) ?_
  refine g_get hx hb hts hi5 hown hK hG (lay_main) rfl 8 (by decide) (hts (.fieldLink RX5 51 "Satellitering" "now" "I") (by decide +kernel)) rfl dX5_moveOn_9 ?_
  refine lv_to (y := nI t) (hnow) ?_
  refine va_calli (va_runV (As := [.int (nI (Nq hq)), .int (nI t)]) (rest := []) ⟨hx, hb, hml, hown, hts⟩ (c_nextNode l hn hc hk hlv (show Nq hq < 10 by omega) (show t < 2 ^ 30 by omega)) (cwV 2 hts gX5_moveOn_X4_nextNode rfl rfl rfl (by decide +kernel) ⟨Nat.le_of_ble_eq_true rfl, Nat.le_of_ble_eq_true rfl⟩) (g_preV hF hG hS (lay_time hk hlv) rfl) rfl rfl hl.1 rfl (lv_room (Nat.le_of_ble_eq_true rfl)) dX5_moveOn_12 ⟨Nat.le_of_ble_eq_true rfl, Nat.le_of_ble_eq_true rfl⟩) hS (fun q _ h => h) (fun q h => h) (fun r_1 u9 t9 H locs ht9 _ h_2 hB1 _ _ hS => ?_)
  obtain ⟨g_3, ln_4⟩ := u9
  dsimp only at h_2
  have hG : g_P D (lay C g_3 ad ln_4 ex) ad B H := by rw [← ht9]; exact hB1
  have n0 : ∀ c : g_k, (c.1 < 31 ∨ 35 < c.1) → g_3 c = g c := fun c hc9 => h_2.2.1 c (by omega)
  have nL : ∀ c : g_k, c.1 ≠ 31 → ln_4 c = ln c := fun c hc9 => h_2.2.2 c (fun z => hc9 (by rw [z]))
  have hmC : mokA g_3 ln_4 n t j s0 k hq Nq Tq := mokA_cong hmA (fun i => n0 _ (Or.inl (show (20 : Nat) < 31 by decide))) (n0 _ (Or.inr (show (35 : Nat) < 40 by decide))) (n0 _ (Or.inr (show (35 : Nat) < 41 by decide))) (n0 _ (Or.inr (show (35 : Nat) < 42 by decide))) (nL _ (show (41 : Nat) ≠ 31 by decide)) (nL _ (show (42 : Nat) ≠ 31 by decide))
  have hM1 : ln_4 (5, 0, 0) = M := by rw [nL _ (by decide)]; exact hM
  have hs1 : g_3 (0, 0, 0) 7 = nI M := by rw [n0 _ (by decide)]; exact hs
  have hnow1 : g_3 (0, 0, 0) 8 = nI t := by rw [n0 _ (by decide)]; exact hnow
  have e40 : g_3 (40, j, 0) = g (40, j, 0) := n0 _ (Or.inr (show (35 : Nat) < 40 by decide))
  refine lv_istore_n (lv' := [(2, .int r_1), (0, .ref (ad (0, 0, 0))), (1, .ref (ad (40, j, 0)))]) hx hb dX5_moveOn_15 rfl hl (by decide) rfl (fun ls hl => ?_)
  refine lv_iload_n hx hb dX5_moveOn_16 rfl (lv_at hl 0 rfl) ?_
  refine lv_iconst (v := (-1)) hx hb dX5_moveOn_17 (by decide) ?_
  refine lv_icmp_ne (tgt := 22) hx hb dX5_moveOn_18 (by decide) (fun c_6 => ?_) (fun c_6 => ?_)
  · obtain ⟨o, ho, ero, hso⟩ := h_2.1.resolve_left c_6
    subst ero
    refine lv_aload_n hx hb dX5_moveOn_22 rfl (lv_at hl 1 rfl) ?_
    refine lv_iload_n hx hb dX5_moveOn_23 rfl (lv_at hl 0 rfl) ?_
    refine vp_callSi (W.runV (As := [.int (nI o)]) (rest := []) ⟨hx, hb, hml, hown, hts⟩ (c_isFull l hM1 hM20 hs1 (show o < 10 by omega)) (cwV 1 hts gX5_moveOn_X5_isFull rfl rfl rfl (by decide +kernel) ⟨Nat.le_of_ble_eq_true rfl, Nat.le_of_ble_eq_true rfl⟩) (g_preV hF hG hS (lay_main) rfl) rfl rfl hl.1 rfl (lv_room (Nat.le_of_ble_eq_true rfl)) dX5_moveOn_24 ⟨Nat.le_of_ble_eq_true rfl, Nat.le_of_ble_eq_true rfl⟩) (fun r_7 h_8 => ?_)
    refine lv_if_eq (tgt := 43) hx hb dX5_moveOn_27 (by decide) (fun c_9 => ?_) (fun c_9 => ?_)
    · refine lv_aload_n hx hb dX5_moveOn_43 rfl (lv_at hl 2 rfl) ?_
      refine lv_iload_n hx hb dX5_moveOn_44 rfl (lv_at hl 0 rfl) ?_
      refine lv_aload_n hx hb dX5_moveOn_45 rfl (lv_at hl 1 rfl) ?_
      refine g_get hx hb hts hi5 hown hK hG (lay_main) rfl 8 (by decide) (hts (.fieldLink RX5 51 "Satellitering" "now" "I") (by decide +kernel)) rfl dX5_moveOn_46 ?_
      refine lv_to (y := nI t) (hnow1) ?_
      have l41 : ln_4 (41, j, 0) = ln (41, j, 0) := nL _ (show (41 : Nat) ≠ 31 by decide)
      have hW9 : hq < ln_4 (41, j, 0) ∨ 4 * hq ≤ wd t := by
        rcases Nat.lt_or_ge hq (ln_4 (41, j, 0)) with h9 | h9
        · exact Or.inl h9
        · have e9 : hq = 8 * 2 ^ qq := by omega
          rw [e9]
          exact Or.inr (wd_ok (by omega))
      have hL8 : 8 ≤ ln (41, j, 0) := by have := Nat.two_pow_pos qq; omega
      refine va_callv (va_runV (As := [.int (nI o), .int (nI t)]) (rest := []) ⟨hx, hb, hml, hown, hts⟩ (c_handTo l (Wd := wd t) (show j < ln_4 (5, 0, 0) by omega) (show g_3 (40, j, 0) 5 = nI hq by rw [e40]; exact a3) (show hq ≤ ln_4 (41, j, 0) by omega) (by rw [nL _ (show (42 : Nat) ≠ 31 by decide), l41]; exact c3) (by omega) hW9) (cwV 2 hts gX5_moveOn_X0_handTo rfl rfl rfl (by decide +kernel) ⟨Nat.le_of_ble_eq_true rfl, Nat.le_of_ble_eq_true rfl⟩) (g_preV hF hG hS (lay_msg (show j < ln_4 (5, 0, 0) by omega)) rfl) rfl rfl hl.1 rfl (lv_room (Nat.le_of_ble_eq_true rfl)) dX5_moveOn_49 ⟨(by show 0 + 2 ≤ 2; omega), (by show 0 + wd t ≤ wd t; omega)⟩) hS (fun q _ h => h) (fun q h => h) (fun u9 t9 H locs ht9 _ h_11 hB1 _ _ hS => ?_)
      obtain ⟨g_12, ad_14, ln_13⟩ := u9
      dsimp only at h_11
      have hG : g_P D (lay C g_12 ad_14 ln_13 ex) ad_14 B H := by rw [← ht9]; exact hB1
      have hfin := mok_hand hmC hNk ht ho (by rw [see_20 (g := g) (g1 := g_3) (fun i => n0 _ (Or.inl (show (20 : Nat) < 31 by decide)))]; exact hso) h_11
      obtain ⟨p1, -, -, -, -, p6, -⟩ := h_11
      refine W.widen (k := 2) (n := wd t) (by omega) (by omega) ?_
      exact W.vret hx hb hr (fun t9 ht9 hW9 => ⟨⟨(g_12, ad_14, ln_13), rfl, ⟨⟨fun c hc9 => (p1 c (fun z => by rw [z] at hc9; rcases hc9 with h9 | h9 | ⟨_, h9⟩; exact absurd h9 (show ¬ (40 : Nat) < 31 by decide); exact absurd h9 (show ¬ (42 : Nat) < 40 by decide); exact h9 rfl) (fun z => by rw [z] at hc9; rcases hc9 with h9 | h9 | ⟨_, h9⟩; exact absurd h9 (show ¬ (41 : Nat) < 31 by decide); exact absurd h9 (show ¬ (42 : Nat) < 41 by decide); exact h9 rfl) (fun z => by rw [z] at hc9; rcases hc9 with h9 | h9 | ⟨_, h9⟩; exact absurd h9 (show ¬ (42 : Nat) < 31 by decide); exact absurd h9 (show ¬ (42 : Nat) < 42 by decide); exact h9 rfl)).trans (n0 c (by omega)), fun c x1 x2 => (p6 c (fun z => x1 (by rw [z])) (fun z => x2 (by rw [z]))).1, fun c x1 x2 => (p6 c (fun z => by rw [z] at x2; rcases x2 with ⟨x2, _⟩ | x2; exact x2 rfl; exact x2 rfl) (fun z => by rw [z] at x2; rcases x2 with ⟨_, x2⟩ | x2; exact x2 rfl; exact x2 rfl)).2.trans (nL c x1)⟩, hfin⟩, by show g_P D (lay C g_12 ad_14 ln_13 ex) ad_14 B t9.heap; rw [ht9]; exact hG⟩, hS.F ht9⟩) hS.2.2 dX5_moveOn_52
    · refine lv_aload_n hx hb dX5_moveOn_30 rfl (lv_at hl 2 rfl) ?_
      refine lv_dup hx hb dX5_moveOn_31 rfl ?_
      refine g_getN hx hb hts hi0 hown hK hG (lay_msg (show j < ln_4 (5, 0, 0) by omega)) rfl 4 (by decide) (va_Nw.use rfl hN.2.2.2.2.2.2.1) rfl dX5_moveOn_32 ?_
      refine lv_to (y := nI bq) (by rw [e40]; exact b2) ?_
      refine lv_iconst (v := nI 1) hx hb dX5_moveOn_35 (by decide) ?_
      refine lv_iadd hx hb dX5_moveOn_36 ?_
      refine lv_to (y := nI (bq + 1)) (nI_add bq 1) ?_
      refine o_putN hx hb hts hi0 tyX0 tyX0_ok nmX0 hown hK hG hS (cd := (40, j, 0)) (F_msg ad ln_4 j) (fun _ => lay_msg (show j < ln_4 (5, 0, 0) by omega)) rfl 4 (by decide) (va_Nw.use rfl hN.2.2.2.2.2.2.1) rfl rfl (by simp [upd]) (by simp) dX5_moveOn_37 (fun H locs hG hS => ?_)
      refine W.widen (k := 2) (n := wd t) (by omega) (by omega) ?_
      refine lv_goto (tgt := 52) hx hb dX5_moveOn_40 (by decide) ?_
      have hfin : mok (g2 g_3 (40, j, 0) 4 (nI (bq + 1))) ln_4 n (t + 1) j s0 k := mok_blk ⟨hq, Nq, Tq, hmC⟩ (by rw [e40]; exact b2) b1 (fun c hc9 => g2_ne _ _ _ hc9) (g2_self _ _ _ _)
      exact W.vret hx hb hr (fun t9 ht9 hW9 => ⟨⟨((g2 g_3 (40, j, 0) 4 (nI (bq + 1))), ad, ln_4), rfl, ⟨⟨fun c hc9 => (g2_ne _ _ _ (fun z => by rw [z] at hc9; rcases hc9 with h9 | h9 | ⟨_, h9⟩; exact absurd h9 (show ¬ (40 : Nat) < 31 by decide); exact absurd h9 (show ¬ (42 : Nat) < 40 by decide); exact h9 rfl)).trans (n0 c (by omega)), fun _ _ _ => rfl, fun c c1 _ => nL c c1⟩, hfin⟩, by show g_P D (lay C (g2 g_3 (40, j, 0) 4 (nI (bq + 1))) ad ln_4 ex) ad B t9.heap; rw [ht9]; exact hG⟩, hS.F ht9⟩) hS.2.2 dX5_moveOn_52
  · refine W.widen (k := 2) (n := wd t) (by omega) (by omega) ?_
    exact W.vret hx hb hr (fun t9 ht9 hW9 => ⟨⟨(g_3, ad, ln_4), rfl, ⟨⟨fun c hc9 => n0 c (by omega), fun _ _ _ => rfl, fun c c1 _ => nL c c1⟩, mok_now ⟨hq, Nq, Tq, hmC⟩ (Nat.le_succ t)⟩, by show g_P D (lay C g_3 ad ln_4 ex) ad B t9.heap; rw [ht9]; exact hG⟩, hS.F ht9⟩) hS.2.2 dX5_moveOn_21
