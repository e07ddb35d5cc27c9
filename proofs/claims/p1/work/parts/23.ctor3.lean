def g_addst (g : g_k → Nat → Int32) (n : Nat) (x : Int32) : g_k → Nat → Int32 := fun c => if c = (30, n, 0) then (fun k => if k = 1 then (-1) else 0) else if c = (31, n, 0) then (fun k => if k = 1 then x else 0) else if 32 ≤ c.1 ∧ c.1 ≤ 35 ∧ c.2.1 = n then (fun _ => 0) else g c
def ln_addst (ln : g_k → Nat) (n : Nat) : g_k → Nat := fun c => if c = (30, n, 0) then 1 else if c = (31, n, 0) then 0 else ln c
theorem g_addst_ne (g : g_k → Nat → Int32) {n : Nat} {x : Int32} {c : g_k} (h : c.1 < 30 ∨ 35 < c.1 ∨ c.2.1 ≠ n) : g_addst g n x c = g c := by
  have h1 : c ≠ (30, n, 0) := fun z => by rw [z] at h; rcases h with h | h | h; exact absurd h (show ¬ (30 : Nat) < 30 by decide); exact absurd h (show ¬ (35 : Nat) < 30 by decide); exact h rfl
  have h2 : c ≠ (31, n, 0) := fun z => by rw [z] at h; rcases h with h | h | h; exact absurd h (show ¬ (31 : Nat) < 30 by decide); exact absurd h (show ¬ (35 : Nat) < 31 by decide); exact h rfl
  have h3 : ¬ (32 ≤ c.1 ∧ c.1 ≤ 35 ∧ c.2.1 = n) := fun z => by omega
  simp only [g_addst, h1, h2, h3, if_false]
theorem ln_addst_ne (ln : g_k → Nat) {n : Nat} {c : g_k} (h : c.1 < 30 ∨ 31 < c.1 ∨ c.2.1 ≠ n) : ln_addst ln n c = ln c := by
  have h1 : c ≠ (30, n, 0) := fun z => by rw [z] at h; rcases h with h | h | h; exact absurd h (show ¬ (30 : Nat) < 30 by decide); exact absurd h (show ¬ (31 : Nat) < 30 by decide); exact h rfl
  have h2 : c ≠ (31, n, 0) := fun z => by rw [z] at h; rcases h with h | h | h; exact absurd h (show ¬ (31 : Nat) < 30 by decide); exact absurd h (show ¬ (31 : Nat) < 31 by decide); exact h rfl
  simp only [ln_addst, h1, h2, if_false]
set_option maxHeartbeats 2000000 in
theorem lay_addst {C : g_C} {g : g_k → Nat → Int32} {ad ad2 ln : g_k → Nat} {ex : g_k → Option va_E} {n : Nat} {x : Int32} {e0 e1 : Option va_E} (hn : n < 10) (hnl : ln (30, n, 0) ≠ 1) (hM : ln (5, 0, 0) = 0) (ha : ∀ c : g_k, (c.1 < 30 ∨ 35 < c.1 ∨ c.2.1 ≠ n) → ad2 c = ad c) : k_up (station_v (time_v C (k_up (k_up (lay C g ad ln ex) (30, n, 0) e0) (31, n, 0) e1) n x ad2) n ad2) (3, 0, 0) (some (.inl (C.2.2.1, 10, .inr (.inr (.inr (.inr (va_up (A_stations ad ln) n (some (ad2 (30, n, 0))))))))))  = lay C (g_addst g n x) ad2 (ln_addst ln n) ex := by
  have l30 : ln_addst ln n (30, n, 0) = 1 := by simp [ln_addst]
  have l31 : ln_addst ln n (31, n, 0) = 0 := by simp [ln_addst]
  have l5 : ln_addst ln n (5, 0, 0) = 0 := (ln_addst_ne ln (Or.inl (by decide))).trans hM
  funext d
  by_cases d3 : d = (3, 0, 0)
  · subst d3
    rw [k_up_self, lay_stations]
    refine congrArg some (congrArg Sum.inl (congrArg (fun z => (C.2.2.1, 10, Sum.inr (Sum.inr (Sum.inr (Sum.inr z))))) (funext fun j => ?_)))
    by_cases hj : j = n
    · subst hj
      rw [va_up_self]
      simp [A_stations, l30, hn]
    · rw [va_up_ne _ _ hj]
      simp only [A_stations]
      rw [ln_addst_ne ln (Or.inr (Or.inr hj)), ha (30, j, 0) (Or.inr (Or.inr hj))]
  rw [k_up_ne _ _ d3]
  by_cases d30 : d = (30, n, 0)
  · subst d30
    rw [lay_station hn l30]
    simp [station_v, g_addst]
  have hE1 : station_v (time_v C (k_up (k_up (lay C g ad ln ex) (30, n, 0) e0) (31, n, 0) e1) n x ad2) n ad2 d = time_v C (k_up (k_up (lay C g ad ln ex) (30, n, 0) e0) (31, n, 0) e1) n x ad2 d := by simp [station_v, d30]
  rw [hE1]
  by_cases d31 : d = (31, n, 0)
  · subst d31
    rw [lay_time hn l30]
    simp [time_v, g_addst, F_time, sc, sb, l31]
  by_cases d33 : d = (33, n, 0)
  · subst d33
    rw [lay_soon hn l30]
    simp [time_v, g_addst]
  by_cases d34 : d = (34, n, 0)
  · subst d34
    rw [lay_soonB hn l30]
    simp [time_v, g_addst]
  by_cases d32 : d = (32, n, 0)
  · subst d32
    rw [lay_left hn l30]
    simp [time_v]
  have e2 : time_v C (k_up (k_up (lay C g ad ln ex) (30, n, 0) e0) (31, n, 0) e1) n x ad2 d = if d.1 = 35 ∧ d.2.1 = n ∧ d.2.2 < 10 then some (.inl (C.1, 360, .inl (fun _ => 0))) else lay C g ad ln ex d := by simp [time_v, d30, d31, d32, d33, d34, k_up]
  rw [e2]
  by_cases q : d.1 = 35 ∧ d.2.1 = n ∧ d.2.2 < 10
  · rw [if_pos q]
    obtain ⟨a, i, j⟩ := d
    obtain ⟨q1, q2, q3⟩ := q
    dsimp only at q1 q2 q3
    subst q1 q2
    rw [lay_leftrow hn q3 l30]
    simp [g_addst]
  rw [if_neg q]
  by_cases q2 : 30 ≤ d.1 ∧ d.1 ≤ 35 ∧ d.2.1 = n
  · obtain ⟨a, i, j⟩ := d
    obtain ⟨q3, q4, q5⟩ := q2
    dsimp only at q3 q4 q5
    subst q5
    rcases (show a = 30 ∨ a = 31 ∨ a = 32 ∨ a = 33 ∨ a = 34 ∨ a = 35 by omega) with z | z | z | z | z | z <;> subst z
    · have hj : ¬ j = 0 := fun z => d30 (by rw [z])
      simp [lay, hj]
    · have hj : ¬ j = 0 := fun z => d31 (by rw [z])
      simp [lay, hj]
    · have hj : ¬ j = 0 := fun z => d32 (by rw [z])
      simp [lay, hj]
    · have hj : ¬ j = 0 := fun z => d33 (by rw [z])
      simp [lay, hj]
    · have hj : ¬ j = 0 := fun z => d34 (by rw [z])
      simp [lay, hj]
    · have hj : ¬ j < 10 := fun z => q ⟨rfl, rfl, z⟩
      simp [lay, hj]
  by_cases q4 : 40 ≤ d.1 ∧ d.1 ≤ 42
  · obtain ⟨a, i, j⟩ := d
    obtain ⟨q5, q6⟩ := q4
    dsimp only at q5 q6
    rcases (show a = 40 ∨ a = 41 ∨ a = 42 by omega) with z | z | z <;> subst z <;> simp [lay, hM, l5]
  have ha0 : ∀ c : g_k, c.1 < 30 → ad2 c = ad c := fun c hc => ha c (Or.inl hc)
  refine (lay_cg d (g_addst_ne g (by omega)) (fun k hk => ha0 _ (show k < 30 by omega)) (fun i => ha0 _ (show (20 : Nat) < 30 by decide)) (fun z => absurd z d3) (fun z => ?_) (fun h30 h35 => ?_) (fun h40 h42 hz => absurd ⟨h40, h42⟩ q4) (fun h40 hz => absurd ⟨by omega, by omega⟩ q4) (fun h41 hz => absurd ⟨by omega, by omega⟩ q4) (fun h42 hz => absurd ⟨by omega, by omega⟩ q4)).symm
  · funext j
    simp [A_sent, hM, l5]
  · have hne : d.2.1 ≠ n := fun z => q2 ⟨h30, h35, z⟩
    have s31 : ln_addst ln n (31, d.2.1, 0) = ln (31, d.2.1, 0) := ln_addst_ne ln (Or.inr (Or.inr hne))
    have haN : ∀ a j, ad2 (a, d.2.1, j) = ad (a, d.2.1, j) := fun a j => ha _ (Or.inr (Or.inr hne))
    refine ⟨ln_addst_ne ln (Or.inr (Or.inr hne)), ?_, ?_, ?_⟩
    · rw [F_station, F_station, haN]
    · have esc : ad2 (sc (ln_addst ln n) d.2.1) = ad (sc ln d.2.1) := by
        unfold sc
        rw [s31]
        split <;> exact haN _ _
      have esb : ad2 (sb (ln_addst ln n) d.2.1) = ad (sb ln d.2.1) := by
        unfold sb
        rw [s31]
        split <;> exact haN _ _
      rw [F_time, F_time, esc, esb, ha0 (1, 0, 0) (by decide), haN]
    · funext j
      simp only [A_left]
      rw [haN]

/-- a station was added -/
def ads_P (g : g_k → Nat → Int32) (ad ln : g_k → Nat) (n sta x t : Nat) (g1 : g_k → Nat → Int32) (ad1 ln1 : g_k → Nat) : Prop := (∀ c : g_k, c ≠ (0, 0, 0) → c ≠ (1, 0, 0) → c ≠ (6, 0, 0) → c ≠ (7, 0, 0) → c ≠ (8, 0, 0) → c.1 ≠ 20 → (c.1 < 30 ∨ 35 < c.1 ∨ c.2.1 ≠ n) → g1 c = g c) ∧ g1 (1, 0, 0) 4 = nI (n + 1) ∧ g1 (0, 0, 0) = upd (g (0, 0, 0)) 5 (nI (sta + 1)) ∧ sk1 g1 (n + 1) ∧ (∀ a b t, a < n → b < n → see g1 a b t = see g a b t) ∧ g1 (6, 0, 0) = upd (g (6, 0, 0)) n (nI x) ∧ g1 (8, 0, 0) = upd (g (8, 0, 0)) n (-1) ∧ (∀ b t, b < n → g (8, 0, 0) b = -1 → see g1 n b t = false) ∧ (rel_P g1 (n + 1) t n ∧ rlw_P g1 (n + 1) t n) ∧ (∀ c : g_k, (c.1 < 30 ∨ 35 < c.1 ∨ c.2.1 ≠ n) → ad1 c = ad c) ∧ (∀ c : g_k, (c.1 < 30 ∨ 31 < c.1 ∨ c.2.1 ≠ n) → ln1 c = ln c) ∧ ln1 (30, n, 0) = 1 ∧ g1 (31, n, 0) = (fun k => if k = 1 then nI n else 0)

set_option maxHeartbeats 4000000 in
set_option maxRecDepth 100000 in
theorem c_addStation (l : Launch) {D : va_G} {C : g_C} {g : g_k → Nat → Int32} {ad ln : g_k → Nat} {ex : g_k → Option va_E} {B : Nat} {n : Nat} (hn : n < 10) (hc : g (1, 0, 0) 4 = nI n) (hsk : sk1 g n) {x sta t : Nat} (hx9 : x < 360) (hst : g (0, 0, 0) 5 = nI sta) (hst4 : sta < 4) (hnl : ln (30, n, 0) ≠ 1) (hM0 : ln (5, 0, 0) = 0) (hnow : g (0, 0, 0) 8 = nI t) (ht : t ≤ 1000000) : Met l yX5_addStation wsX5_addStation ({ frames := 4, cells := 15, slots := 3639, locals := 95 } : Room) (va_Pc [.ref (ad (0, 0, 0)), .int (nI x)] (g_S D C (lay C g ad ln ex) ad B)) (va_Qi (fun (r : Int32) (u : (g_k → Nat → Int32) × (g_k → Nat) × (g_k → Nat)) => r = nI n ∧ ads_P g ad ln n sta x t u.1 u.2.1 u.2.2) (fun u t => g_P D (lay C u.1 u.2.1 u.2.2 ex) u.2.1 B t.heap) (g_A B)) 15 3639 (g_A B) := by
  refine Met.ofW (cc := cX5_addStation) (maxL := 4) (ret := (some .int)) (by decide) rfl ?_
  intro p e s m args below meth c s₁ B₀ hml hv
  obtain ⟨rfl, hG, hF⟩ := hv
  have hK := hF.1
  have hN := hF.2.1
  have hB := hF.2.2.2
  have hx := B₀.exec
  have hb := B₀.bytes
  have hr := B₀.returns
  have hts := atoms_spec (ws := wsX5_addStation) B₀.pre
  have hown : s.vm.findClass RX5 = some m.cls := findClass_of_methodNamed B₀.named
  have hlocks := B₀.notSynchronized
  have hS : va_S (g_A B) s.heap s.heap [] := va_S.rf
  have hi3 : ∀ w ∈ wsX30, w ∈ wsX5_addStation := by decide +kernel
  have hi4 : ∀ w ∈ wsX40, w ∈ wsX5_addStation := by decide +kernel
  have hi5 : ∀ w ∈ wsX50, w ∈ wsX5_addStation := by decide +kernel
  have hl := lv_entry [.ref (ad (0, 0, 0)), .int (nI x)] (n := 4) (Nat.le_of_ble_eq_true rfl)
  rw [lg_entry_eq]
  generalize (lg_sl [.ref (ad (0, 0, 0)), .int (nI x)] ++ List.replicate (4 - (lg_sl [.ref (ad (0, 0, 0)), .int (nI x)]).length) Slot.unset).toArray = ls at hl ⊢
  have hl : lv_has ls 4 [(0, .ref (ad (0, 0, 0))), (1, .int (nI x))] := hl
  refine lv_iload_n hx hb dX5_addStation_0 rfl (lv_at hl 1 rfl) ?_
  refine lv_iconst (v := nI 0) hx hb dX5_addStation_1 (by decide) ?_
  refine lv_sipush (v := nI 359) hx hb dX5_addStation_2 (by decide) ?_
  refine vp_callSi (W.runS (As := [.int (nI x), .int (nI 0), .int (nI 359)]) (rest := []) ⟨hx, hb, hml, hown, hts⟩ (c_inRange l ) (va_cwS 3 hts gX5_addStation_X5_inRange rfl rfl rfl (by decide +kernel) ⟨Nat.le_of_ble_eq_true rfl, Nat.le_of_ble_eq_true rfl⟩) (g_preS hF hG hS) rfl rfl hl.1 rfl (lv_room (Nat.le_of_ble_eq_true rfl)) dX5_addStation_5 ⟨Nat.le_of_ble_eq_true rfl, Nat.le_of_ble_eq_true rfl⟩) (fun r_1 h_2 => ?_)
  refine lv_to (y := nI 1) (h_2.trans (if_pos (⟨nI_le (Nat.zero_le _) (by omega), nI_le (show x ≤ 359 by omega) (by decide)⟩))) ?_
  refine va_csv (W.runS (As := [.int (nI 1)]) (rest := []) ⟨hx, hb, hml, hown, hts⟩ (c_requireArgument l ) (va_cwS 1 hts gX5_addStation_X5_requireArgument rfl rfl rfl (by decide +kernel) ⟨Nat.le_of_ble_eq_true rfl, Nat.le_of_ble_eq_true rfl⟩) (g_preS hF hG hS) rfl rfl hl.1 rfl (lv_room (Nat.le_of_ble_eq_true rfl)) dX5_addStation_8 ⟨Nat.le_of_ble_eq_true rfl, Nat.le_of_ble_eq_true rfl⟩) (fun h_4 => ?_)
  refine lv_aload_n hx hb dX5_addStation_11 rfl (lv_at hl 0 rfl) ?_
  refine g_get hx hb hts hi5 hown hK hG (lay_main) rfl 5 (by decide) (hts (.fieldLink RX5 41 "Satellitering" "stationCount" "I") (by decide +kernel)) rfl dX5_addStation_12 ?_
  refine lv_to (y := nI sta) (hst) ?_
  refine lv_iconst (v := nI 4) hx hb dX5_addStation_15 (by decide) ?_
  refine lv_icmp_lt (tgt := 29) hx hb dX5_addStation_16 (by decide) (fun c_5 => ?_) (fun c_5 => ?_)
  · refine lv_aload_n hx hb dX5_addStation_29 rfl (lv_at hl 0 rfl) ?_
    refine g_get hx hb hts hi5 hown hK hG (lay_main) rfl 0 (by decide) (hts (.fieldLink RX5 12 "Satellitering" "sky" "LSatellitering$Sky;") (by decide +kernel)) rfl dX5_addStation_30 ?_
    refine lv_iload_n hx hb dX5_addStation_33 rfl (lv_at hl 1 rfl) ?_
    refine lv_iconst (v := nI 0) hx hb dX5_addStation_34 (by decide) ?_
    refine lv_iconst (v := (-1)) hx hb dX5_addStation_35 (by decide) ?_
    refine va_calli (va_runV (As := [.int (nI x), .int (nI 0), .int (-1)]) (rest := []) ⟨hx, hb, hml, hown, hts⟩ (c_addNode l hn hc hsk) (cwV 3 hts gX5_addStation_X2_addNode rfl rfl rfl (by decide +kernel) ⟨Nat.le_of_ble_eq_true rfl, Nat.le_of_ble_eq_true rfl⟩) (g_preV hF hG hS (lay_sky) rfl) rfl rfl hl.1 rfl (lv_room (Nat.le_of_ble_eq_true rfl)) dX5_addStation_36 ⟨Nat.le_of_ble_eq_true rfl, Nat.le_of_ble_eq_true rfl⟩) hS (fun q _ h => h) (fun q h => h) (fun r_6 g_8 t9 H locs ht9 _ h_7 hB1 _ _ hS => ?_)
    have hG : g_P D (lay C g_8 ad ln ex) ad B H := by rw [← ht9]; exact hB1
    obtain ⟨er, f1, f2, f3, f4, f5, f6, f7⟩ := h_7
    subst er
    refine lv_istore_n (lv' := [(2, .int (nI n)), (0, .ref (ad (0, 0, 0))), (1, .int (nI x))]) hx hb dX5_addStation_39 rfl hl (by decide) rfl (fun ls hl => ?_)
    refine g_new hx hb hts hi3 tyX3 tyX3_ok hown (hts (.classLink RX5 25 RX3) (by decide +kernel)) (hts (.instantiable RX3 3) (by decide +kernel)) (hts (.initialized RX3) (by decide +kernel)) hK hG hS hB (30, n, 0) (by simp [lay, hnl]) (ci := 3) rfl (fs := [.null, .int 0, .int 0]) (fun j hj => by rcases (show j = 0 ∨ j = 1 ∨ j = 2 by omega) with rfl | rfl | rfl <;> rfl) (Nat.le_of_ble_eq_true rfl) (Nat.le_of_ble_eq_true rfl) dX5_addStation_40 (fun q1 H hG hS => ?_)
    obtain ⟨ad1, ead1⟩ : ∃ z, z = k_up ad (30, n, 0) q1 := ⟨_, rfl⟩
    rw [← ead1] at hG
    have a30 : ad1 (30, n, 0) = q1 := by rw [ead1, k_up_self]
    have an1 : ∀ c, c ≠ (30, n, 0) → ad1 c = ad c := fun c hc9 => by rw [ead1, k_up_ne _ _ hc9]
    obtain ⟨v1, ev1⟩ : ∃ z, z = k_up (lay C g_8 ad ln ex) (30, n, 0) (some (.inr (3, [.null, .int 0, .int 0]))) := ⟨_, rfl⟩
    rw [← ev1] at hG
    have vn1 : ∀ c, c ≠ (30, n, 0) → v1 c = lay C g_8 ad ln ex c := fun c hc9 => by rw [ev1, k_up_ne _ _ hc9]
    refine W.eq (g2 := F0 m 43 ls [.ref (ad1 (30, n, 0))]) (by rw [a30]) ?_
    refine lv_dup hx hb dX5_addStation_43 rfl ?_
    refine g_new hx hb hts hi4 tyX4 tyX4_ok hown (hts (.classLink RX5 73 RX4) (by decide +kernel)) (hts (.instantiable RX4 6) (by decide +kernel)) (hts (.initialized RX4) (by decide +kernel)) hK hG hS hB (31, n, 0) (by rw [vn1 _ (k3 (Or.inl (by decide)))]; simp [lay, hnl]) (ci := 4) rfl (fs := [.null, .int 0, .null, .null, .null, .int 0]) (fun j hj => by rcases (show j = 0 ∨ j = 1 ∨ j = 2 ∨ j = 3 ∨ j = 4 ∨ j = 5 by omega) with rfl | rfl | rfl | rfl | rfl | rfl <;> rfl) (Nat.le_of_ble_eq_true rfl) (Nat.le_of_ble_eq_true rfl) dX5_addStation_44 (fun q2 H hG hS => ?_)
    obtain ⟨ad2, ead2⟩ : ∃ z, z = k_up ad1 (31, n, 0) q2 := ⟨_, rfl⟩
    rw [← ead2] at hG
    have a31 : ad2 (31, n, 0) = q2 := by rw [ead2, k_up_self]
    have an2 : ∀ c, c ≠ (31, n, 0) → ad2 c = ad1 c := fun c hc9 => by rw [ead2, k_up_ne _ _ hc9]
    obtain ⟨v2, ev2⟩ : ∃ z, z = k_up v1 (31, n, 0) (some (.inr (4, [.null, .int 0, .null, .null, .null, .int 0]))) := ⟨_, rfl⟩
    rw [← ev2] at hG
    have vn2 : ∀ c, c ≠ (30, n, 0) → c ≠ (31, n, 0) → v2 c = lay C g_8 ad ln ex c := fun c c1 c2 => by rw [ev2, k_up_ne _ _ c2, vn1 c c1]
    refine W.eq (g2 := F0 m 47 ls [.ref (ad2 (31, n, 0)), .ref (ad2 (30, n, 0)), .ref (ad2 (30, n, 0))]) (by rw [a31, an2 (30, n, 0) (k3 (Or.inl (by decide)))]) ?_
    refine lv_dup hx hb dX5_addStation_47 rfl ?_
    refine lv_aload_n hx hb dX5_addStation_48 rfl (lv_at hl 1 rfl) ?_
    refine W.eq (g2 := F0 m 49 ls [.ref (ad2 (0, 0, 0)), .ref (ad2 (31, n, 0)), .ref (ad2 (31, n, 0)), .ref (ad2 (30, n, 0)), .ref (ad2 (30, n, 0))]) (by rw [an2 (0, 0, 0) (k3 (Or.inl (by decide))), an1 (0, 0, 0) (k3 (Or.inl (by decide)))]) ?_
    refine g_get hx hb hts hi5 hown hK hG (cd := (0, 0, 0)) (by rw [vn2 _ (k3 (Or.inl (by decide))) (k3 (Or.inl (by decide)))]; exact lay_main) rfl 0 (by decide) (hts (.fieldLink RX5 12 "Satellitering" "sky" "LSatellitering$Sky;") (by decide +kernel)) rfl dX5_addStation_49 ?_
    refine lv_iload_n hx hb dX5_addStation_52 rfl (lv_at hl 0 rfl) ?_
    refine W.eq (g2 := F0 m 53 ls [.int (nI n), .ref (ad2 (1, 0, 0)), .ref (ad2 (31, n, 0)), .ref (ad2 (31, n, 0)), .ref (ad2 (30, n, 0)), .ref (ad2 (30, n, 0))]) (by rw [an2 (1, 0, 0) (k3 (Or.inl (by decide))), an1 (1, 0, 0) (k3 (Or.inl (by decide)))]) ?_
    refine va_callv (va_runI (As := [.ref (ad2 (1, 0, 0)), .int (nI n)]) (rest := [.ref (ad2 (31, n, 0)), .ref (ad2 (30, n, 0)), .ref (ad2 (30, n, 0))]) ⟨hx, hb, hml, hown, hts⟩ (c_X4_init l (v := v2) (ad := ad2) (i := n) (x := nI n) (by rw [ev2, k_up_self]) (by rw [vn2 _ (k3 (Or.inl (by decide))) (k3 (Or.inl (by decide)))]; simp [lay, hnl]) (by rw [vn2 _ (k3 (Or.inl (by decide))) (k3 (Or.inl (by decide)))]; simp [lay, hnl]) (by rw [vn2 _ (k3 (Or.inl (by decide))) (k3 (Or.inl (by decide)))]; simp [lay, hnl]) (fun j hj => by rw [vn2 _ (k3 (Or.inl (by decide))) (k3 (Or.inl (by decide)))]; simp [lay, hnl])) (cwI 2 hts gX5_addStation_X4_init rfl rfl rfl (hts (.initialized RX4) (by decide +kernel)) (hts (.methodLink RX5 75 yX4_init) (by decide +kernel)) (hts (.instanceMethod yX4_init) (by decide +kernel)) rfl (by decide +kernel) ⟨Nat.le_of_ble_eq_true rfl, Nat.le_of_ble_eq_true rfl⟩) (g_preS hF hG hS) rfl rfl hl.1 rfl (lv_room (Nat.le_of_ble_eq_true rfl)) dX5_addStation_53 ⟨Nat.le_of_ble_eq_true rfl, Nat.le_of_ble_eq_true rfl⟩) hS (fun q _ h => h) (fun q h => h) (fun u9 t9 H locs ht9 _ huu9 hB1 _ _ hS => ?_)
    obtain ⟨v3, ad3⟩ := u9
    dsimp only at huu9
    have hG : g_P D v3 ad3 B H := by rw [← ht9]; exact hB1
    obtain ⟨ev3, an3⟩ := huu9
    have am3 : ∀ c : g_k, (c.1 < 32 ∨ 35 < c.1 ∨ c.2.1 ≠ n) → ad3 c = ad2 c := fun c hc9 => an3 c (fun z => by
      rcases z with z | z | z | ⟨z1, z2, -⟩
      · rw [z] at hc9; rcases hc9 with h9 | h9 | h9; exact absurd h9 (show ¬ (33 : Nat) < 32 by decide); exact absurd h9 (show ¬ (35 : Nat) < 33 by decide); exact h9 rfl
      · rw [z] at hc9; rcases hc9 with h9 | h9 | h9; exact absurd h9 (show ¬ (34 : Nat) < 32 by decide); exact absurd h9 (show ¬ (35 : Nat) < 34 by decide); exact h9 rfl
      · rw [z] at hc9; rcases hc9 with h9 | h9 | h9; exact absurd h9 (show ¬ (32 : Nat) < 32 by decide); exact absurd h9 (show ¬ (35 : Nat) < 32 by decide); exact h9 rfl
      · omega)
    refine W.eq (g2 := F0 m 56 ls [.ref (ad3 (31, n, 0)), .ref (ad3 (30, n, 0)), .ref (ad3 (30, n, 0))]) (by rw [am3 (30, n, 0) (Or.inl (show (30 : Nat) < 32 by decide)), am3 (31, n, 0) (Or.inl (show (31 : Nat) < 32 by decide))]) ?_
    have v330 : v3 (30, n, 0) = some (.inr (3, [.null, .int 0, .int 0])) := by rw [ev3]; simp only [time_v]; rw [if_neg (k3 (Or.inl (by decide))), if_neg (k3 (Or.inl (by decide))), if_neg (k3 (Or.inl (by decide))), if_neg (k3 (Or.inl (by decide))), if_neg (fun z => absurd z.1 (show ¬ (30 : Nat) = 35 by decide)), ev2, k_up_ne _ _ (k3 (Or.inl (by decide))), ev1, k_up_self]
    refine va_callv (va_runI (As := [.ref (ad3 (31, n, 0))]) (rest := [.ref (ad3 (30, n, 0))]) ⟨hx, hb, hml, hown, hts⟩ (c_X3_init l (v := v3) (ad := ad3) (i := n) v330) (cwI 1 hts gX5_addStation_X3_init rfl rfl rfl (hts (.initialized RX3) (by decide +kernel)) (hts (.methodLink RX5 78 yX3_init) (by decide +kernel)) (hts (.instanceMethod yX3_init) (by decide +kernel)) rfl (by decide +kernel) ⟨Nat.le_of_ble_eq_true rfl, Nat.le_of_ble_eq_true rfl⟩) (g_preS hF hG hS) rfl rfl hl.1 rfl (lv_room (Nat.le_of_ble_eq_true rfl)) dX5_addStation_56 ⟨Nat.le_of_ble_eq_true rfl, Nat.le_of_ble_eq_true rfl⟩) hS (fun q _ h => h) (fun q h => h) (fun u8 t9 H locs ht9 _ huu8 hB1 _ _ hS => ?_)
    obtain ⟨v4, ad4⟩ := u8
    dsimp only at huu8
    have hG4 : g_P D v4 ad4 B H := by rw [← ht9]; exact hB1
    obtain ⟨ev4, an4⟩ := huu8
    have e34 : ad4 = ad3 := funext an4
    subst e34
    have hG := hG4
    have ao : ∀ c : g_k, (c.1 < 30 ∨ 35 < c.1 ∨ c.2.1 ≠ n) → ad4 c = ad c := fun c hc9 => (am3 c (by omega)).trans ((an2 c (fun z => by rw [z] at hc9; rcases hc9 with h9 | h9 | h9; exact absurd h9 (show ¬ (31 : Nat) < 30 by decide); exact absurd h9 (show ¬ (35 : Nat) < 31 by decide); exact h9 rfl)).trans (an1 c (fun z => by rw [z] at hc9; rcases hc9 with h9 | h9 | h9; exact absurd h9 (show ¬ (30 : Nat) < 30 by decide); exact absurd h9 (show ¬ (35 : Nat) < 30 by decide); exact h9 rfl)))
    have v4n : ∀ c : g_k, c.1 < 30 → v4 c = lay C g_8 ad ln ex c := fun c hc9 => by
      have n30 : c ≠ (30, n, 0) := fun z => by rw [z] at hc9; exact absurd hc9 (show ¬ (30 : Nat) < 30 by decide)
      have n31 : c ≠ (31, n, 0) := fun z => by rw [z] at hc9; exact absurd hc9 (show ¬ (31 : Nat) < 30 by decide)
      have n33 : c ≠ (33, n, 0) := fun z => by rw [z] at hc9; exact absurd hc9 (show ¬ (33 : Nat) < 30 by decide)
      have n34 : c ≠ (34, n, 0) := fun z => by rw [z] at hc9; exact absurd hc9 (show ¬ (34 : Nat) < 30 by decide)
      have n32 : c ≠ (32, n, 0) := fun z => by rw [z] at hc9; exact absurd hc9 (show ¬ (32 : Nat) < 30 by decide)
      have n35 : ¬ (c.1 = 35 ∧ c.2.1 = n ∧ c.2.2 < 10) := fun z => by omega
      rw [ev4]; simp only [station_v]; rw [if_neg n30, ev3]; simp only [time_v]; rw [if_neg n31, if_neg n33, if_neg n34, if_neg n32, if_neg n35, vn2 c n30 n31]
    refine lv_astore_n (lv' := [(3, .ref (ad4 (30, n, 0))), (2, .int (nI n)), (0, .ref (ad (0, 0, 0))), (1, .int (nI x))]) hx hb dX5_addStation_59 rfl hl (by decide) rfl (fun ls hl => ?_)
    refine lv_aload_n hx hb dX5_addStation_60 rfl (lv_at hl 2 rfl) ?_
    refine W.eq (g2 := F0 m 61 ls [.ref (ad4 (0, 0, 0))]) (by rw [ao (0, 0, 0) (Or.inl (by decide))]) ?_
    refine g_get hx hb hts hi5 hown hK hG (cd := (0, 0, 0)) (by rw [v4n _ (by decide)]; exact lay_main) rfl 2 (by decide) (hts (.fieldLink RX5 27 "Satellitering" "stations" "[LSatellitering$Station;") (by decide +kernel)) rfl dX5_addStation_61 ?_
    refine W.eq (g2 := F0 m 64 ls [.ref (ad4 (3, 0, 0))]) (by rw [ao (3, 0, 0) (Or.inl (by decide))]) ?_
    refine lv_iload_n hx hb dX5_addStation_64 rfl (lv_at hl 1 rfl) ?_
    refine lv_aload_n hx hb dX5_addStation_65 rfl (lv_at hl 0 rfl) ?_
    refine g_aast hx hb hK hG hS (cd := (3, 0, 0)) (dd := (30, n, 0)) (vs := F_station ad4 n (fun k => if k = 1 then (-1) else 0)) 2 3 rfl rfl (by rw [v4n _ (by decide)]; exact lay_stations) (by rw [ev4]; simp only [station_v, if_true]) hn (by decide) dX5_addStation_66 (fun H locs hG hS => ?_)
    rw [ev4, ev3, ev2, ev1, lay_addst hn hnl hM0 ao] at hG
    obtain ⟨g3, eg3⟩ : ∃ z, z = g_addst g_8 n (nI n) := ⟨_, rfl⟩
    obtain ⟨ln3, eln3⟩ : ∃ z, z = ln_addst ln n := ⟨_, rfl⟩
    rw [← eg3, ← eln3] at hG
    have g3n : ∀ c : g_k, (c.1 < 30 ∨ 35 < c.1 ∨ c.2.1 ≠ n) → g3 c = g_8 c := fun c hc9 => by rw [eg3]; exact g_addst_ne _ hc9
    have hl : lv_has ls 4 [(3, .ref (ad4 (30, n, 0))), (2, .int (nI n)), (0, .ref (ad4 (0, 0, 0))), (1, .int (nI x))] := by rw [ao (0, 0, 0) (Or.inl (by decide))]; exact hl
    refine lv_aload_n hx hb dX5_addStation_67 rfl (lv_at hl 2 rfl) ?_
    refine lv_dup hx hb dX5_addStation_68 rfl ?_
    refine g_get hx hb hts hi5 hown hK hG (lay_main) rfl 5 (by decide) (hts (.fieldLink RX5 41 "Satellitering" "stationCount" "I") (by decide +kernel)) rfl dX5_addStation_69 ?_
    refine lv_to (y := nI sta) (by rw [g3n _ (Or.inl (by decide)), f4 _ (by decide) (by decide) (by decide) (by decide) (by decide)]; exact hst) ?_
    refine lv_iconst (v := nI 1) hx hb dX5_addStation_72 (by decide) ?_
    refine lv_iadd hx hb dX5_addStation_73 ?_
    refine lv_to (y := nI (sta + 1)) (nI_add sta 1) ?_
    refine o_put hx hb hts hi5 tyX5 tyX5_ok nmX5 hown hK hG hS (cd := (0, 0, 0)) (F_main ad4) (fun _ => lay_main) rfl 5 (by decide) (hts (.fieldLink RX5 41 "Satellitering" "stationCount" "I") (by decide +kernel)) rfl rfl (by simp [upd]) (by simp) dX5_addStation_74 (fun H locs hG hS => ?_)
    refine lv_aload_n hx hb dX5_addStation_77 rfl (lv_at hl 2 rfl) ?_
    refine lv_iload_n hx hb dX5_addStation_78 rfl (lv_at hl 1 rfl) ?_
    refine lv_aload_n hx hb dX5_addStation_79 rfl (lv_at hl 0 rfl) ?_
    have n4 : ∀ c : g_k, c ≠ (0, 0, 0) → (g2 g3 (0, 0, 0) 5 (nI (sta + 1))) c = g3 c := fun c hc9 => g2_ne _ _ _ hc9
    have e30 : (g2 g3 (0, 0, 0) 5 (nI (sta + 1))) (30, n, 0) = (fun k => if k = 1 then (-1) else 0) := by rw [n4 _ (k3 (Or.inl (by decide))), eg3]; simp [g_addst]
    refine va_callv (va_runV (As := [.int (nI n), .ref (ad4 (30, n, 0))]) (rest := []) ⟨hx, hb, hml, hown, hts⟩ (c_lookForRelay l (n := n + 1) (i := n) (t := t) (kk := 0) (show n + 1 ≤ 10 by omega) (by rw [n4 _ (by decide), g3n _ (Or.inl (by decide))]; exact f1) hn (by rw [eln3]; simp [ln_addst]) (by rw [g2_self, upd_ne _ _ (by decide), g3n _ (Or.inl (by decide)), f4 _ (by decide) (by decide) (by decide) (by decide) (by decide)]; exact hnow) ht (by rw [e30]; exact Or.inl rfl) (by rw [e30]; exact nI_0.symm)) (cwV 2 hts gX5_addStation_X5_lookForRelay rfl rfl rfl (by decide +kernel) ⟨Nat.le_of_ble_eq_true rfl, Nat.le_of_ble_eq_true rfl⟩) (g_preV hF hG hS (lay_main) rfl) rfl rfl hl.1 rfl (lv_room (Nat.le_of_ble_eq_true rfl)) dX5_addStation_80 ⟨Nat.le_of_ble_eq_true rfl, Nat.le_of_ble_eq_true rfl⟩) hS (fun q _ h => h) (fun q h => h) (fun g_11 t9 H locs ht9 _ h_10 hB1 _ _ hS => ?_)
    have hG : g_P D (lay C g_11 ad4 ln3 ex) ad4 B H := by rw [← ht9]; exact hB1
    obtain ⟨l1, l2, kq, l3, l4, l5⟩ := h_10
    have lk : kq = 0 := l5 (by rw [e30]; rfl)
    subst lk
    have hgo : ∀ c : g_k, c ≠ (0, 0, 0) → (c.1 < 30 ∨ 35 < c.1 ∨ c.2.1 ≠ n) → g_11 c = g_8 c := fun c c0 hc9 => (l1 c (fun z => by rw [z] at hc9; rcases hc9 with h9 | h9 | h9; exact absurd h9 (show ¬ (30 : Nat) < 30 by decide); exact absurd h9 (show ¬ (35 : Nat) < 30 by decide); exact h9 rfl)).trans ((n4 c c0).trans (g3n c hc9))
    have h20 : ∀ i, g_11 (20, i, 0) = g_8 (20, i, 0) := fun i => hgo _ (k3 (Or.inl (by decide))) (Or.inl (show (20 : Nat) < 30 by decide))
    have hse : ∀ a b t, see g_11 a b t = see g_8 a b t := fun a b t => see_20 (g := g_8) (g1 := g_11) h20 a b t
    have hfin : ads_P g ad ln n sta x t g_11 ad4 ln3 := by
      refine ⟨fun c c0 c1 c6 c7 c8 c20 hc9 => (hgo c c0 hc9).trans (f4 c c1 c6 c7 c8 c20), ?_, ?_, sk1_cong f5 h20, fun a b t a1 b1 => (hse a b t).trans (f6 a b t a1 b1), ?_, ?_, fun b t b1 b2 => (hse n b t).trans (f7 rfl b t b1 b2), ⟨l2, rlw_of l2 (Nat.zero_le t) l4⟩, ao, fun c hc9 => by rw [eln3]; exact ln_addst_ne ln hc9, by rw [eln3]; simp [ln_addst], ?_⟩
      · rw [hgo _ (by decide) (Or.inl (by decide))]; exact f1
      · rw [l1 _ (by intro h9; cases h9), g2_self, g3n _ (Or.inl (by decide)), f4 _ (by decide) (by decide) (by decide) (by decide) (by decide)]
      · rw [hgo _ (by decide) (Or.inl (by decide))]; exact f2
      · rw [hgo _ (by decide) (Or.inl (by decide))]; exact f3
      · rw [l1 _ (by intro h9; cases h9), n4 _ (by intro h9; cases h9), eg3]; simp [g_addst]
    refine lv_iload_n hx hb dX5_addStation_83 rfl (lv_at hl 1 rfl) ?_
    exact W.iret (v := nI n) hx hb hr (fun t9 ht9 hW9 => ⟨⟨_, (g_11, ad4, ln3), rfl, ⟨rfl, hfin⟩, by show g_P D (lay C g_11 ad4 ln3 ex) ad4 B t9.heap; rw [ht9]; exact hG⟩, hS.F ht9⟩) hS.2.2 dX5_addStation_84
  · exact absurd (nI_lt hst4 (by decide)) c_5
