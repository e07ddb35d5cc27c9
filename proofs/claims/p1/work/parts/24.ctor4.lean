set_option maxHeartbeats 8000000 in
set_option maxRecDepth 100000 in
theorem c_X5_init (l : Launch) {D : va_G} {C : g_C} {v : g_k → Option va_E} {ad : g_k → Nat} {B : Nat} (h0 : v (0, 0, 0) = some (.inr (5, [.null, .null, .null, .null, .null, .int 0, .int 0, .int 0, .int 0]))) (hv : ∀ c : g_k, c.1 < 50 → c ≠ (0, 0, 0) → v c = none) : Met l yX5_init wsX5_init ({ frames := 2, cells := 20, slots := 3697, locals := 40 } : Room) (va_Pc [.ref (ad (0, 0, 0))] (g_S D C v ad B)) (va_Qv (fun (u : (g_k → Option va_E) × (g_k → Nat)) => u.1 = lay C (fun _ _ => 0) u.2 (fun _ => 0) v ∧ (∀ c : g_k, 50 ≤ c.1 → u.2 c = ad c) ∧ u.2 (0, 0, 0) = ad (0, 0, 0)) (fun u t => g_P D u.1 u.2 B t.heap) (g_A B)) 20 3697 (g_A B) := by
  refine Met.ofW (cc := cX5_init) (maxL := 1) (ret := none) (by decide) rfl ?_
  intro p e s m args below meth c s₁ B₀ hml hv9
  obtain ⟨rfl, hG, hF⟩ := hv9
  have hK := hF.1
  have hN := hF.2.1
  have hB := hF.2.2.2
  have hx := B₀.exec
  have hb := B₀.bytes
  have hr := B₀.returns
  have hts := atoms_spec (ws := wsX5_init) B₀.pre
  have hown : s.vm.findClass RX5 = some m.cls := findClass_of_methodNamed B₀.named
  have hlocks := B₀.notSynchronized
  have hin : meth.name = "<init>" := (name_of_methodNamed B₀.named B₀.method).1
  have hS : va_S (g_A B) s.heap s.heap [] := va_S.rf
  have hi1 : ∀ w ∈ wsX10, w ∈ wsX5_init := by decide +kernel
  have hi2 : ∀ w ∈ wsX20, w ∈ wsX5_init := by decide +kernel
  have hi5 : ∀ w ∈ wsX50, w ∈ wsX5_init := by decide +kernel
  have hl := lv_entry [.ref (ad (0, 0, 0))] (n := 1) (Nat.le_of_ble_eq_true rfl)
  rw [lg_entry_eq]
  generalize (lg_sl [.ref (ad (0, 0, 0))] ++ List.replicate (1 - (lg_sl [.ref (ad (0, 0, 0))]).length) Slot.unset).toArray = ls at hl ⊢
  have hl : lv_has ls 1 [(0, .ref (ad (0, 0, 0)))] := hl
  refine lv_aload_n hx hb dX5_init_0 rfl (lv_at hl 0 rfl) ?_
  refine W.objInit hx hb hown (hts (.methodLink RX5 3 objectInit) (by decide +kernel)) (hts (.instanceMethod objectInit) (by decide +kernel)) (hts (.code objectInit ⟨#[0xb1]⟩ 1 none) (by decide +kernel)) rfl (by rw [hml]; exact hl.1) rfl dX5_init_1 (Nat.le_of_ble_eq_true rfl) (Nat.le_of_ble_eq_true rfl) ?_
  refine W.eq (g2 := F0 m 4 ls []) rfl ?_
  have v0v := h0
  have a0ad : ad (0, 0, 0) = ad (0, 0, 0) := rfl
  refine lv_aload_n hx hb dX5_init_4 rfl (lv_at hl 0 rfl) ?_
  refine g_new hx hb hts hi2 tyX2 tyX2_ok hown (hts (.classLink RX5 9 RX2) (by decide +kernel)) (hts (.instantiable RX2 5) (by decide +kernel)) (hts (.initialized RX2) (by decide +kernel)) hK hG hS hB (1, 0, 0) (hv _ (by decide) (by decide)) (ci := 2) rfl (fs := [.null, .null, .null, .null, .int 0]) (fun j hj => by rcases (show j = 0 ∨ j = 1 ∨ j = 2 ∨ j = 3 ∨ j = 4 by omega) with rfl | rfl | rfl | rfl | rfl <;> rfl) (Nat.le_of_ble_eq_true rfl) (Nat.le_of_ble_eq_true rfl) dX5_init_5 (fun q1 H hG hS => ?_)
  obtain ⟨A1, eA1⟩ : ∃ z, z = k_up ad (1, 0, 0) q1 := ⟨_, rfl⟩
  rw [← eA1] at hG
  obtain ⟨V1, eV1⟩ : ∃ z, z = k_up v (1, 0, 0) (some (.inr (2, [.null, .null, .null, .null, .int 0]))) := ⟨_, rfl⟩
  rw [← eV1] at hG
  have sA1 : A1 (1, 0, 0) = q1 := by rw [eA1, k_up_self]
  have nA1 : ∀ c, c ≠ (1, 0, 0) → A1 c = ad c := fun c hc9 => by rw [eA1, k_up_ne _ _ hc9]
  have sV1 : V1 (1, 0, 0) = some (.inr (2, [.null, .null, .null, .null, .int 0])) := by rw [eV1, k_up_self]
  have nV1 : ∀ c, c ≠ (1, 0, 0) → V1 c = v c := fun c hc9 => by rw [eV1, k_up_ne _ _ hc9]
  have v0V1 : V1 (0, 0, 0) = some (.inr (5, [.null, .null, .null, .null, .null, .int 0, .int 0, .int 0, .int 0])) := by rw [nV1 _ (by decide)]; exact v0v
  have a0A1 : A1 (0, 0, 0) = ad (0, 0, 0) := by exact (nA1 _ (by decide)).trans a0ad
  refine W.eq (g2 := F0 m 8 ls [.ref (A1 (1, 0, 0)), .ref (ad (0, 0, 0))]) (by rw [sA1]) ?_
  refine lv_dup hx hb dX5_init_8 rfl ?_
  have hv1 : ∀ c : g_k, c.1 < 50 → c ≠ (0, 0, 0) → c ≠ (1, 0, 0) → V1 c = none := fun c c1 c2 c3 => by rw [nV1 c c3]; exact hv c c1 c2
  refine va_callv (va_runIN (As := []) (rest := [.ref (A1 (1, 0, 0)), .ref (ad (0, 0, 0))]) ⟨hx, hb, hml, hown, hts⟩ (c_X2_init l (v := V1) (ad := A1) sV1 (hv1 _ (by decide) (by decide) (by decide)) (hv1 _ (by decide) (by decide) (by decide)) (hv1 _ (by decide) (by decide) (by decide)) (hv1 _ (by decide) (by decide) (by decide)) (fun i _ => hv1 _ (show (20 : Nat) < 50 by decide) (k3 (Or.inl (by decide))) (k3 (Or.inl (by decide))))) ⟨va_cnB (host := "Satellitering") 0 hts gX5_init_X2_init_n11 rfl rfl rfl hN.2.2.2.2.2.2.2.2.2.2.2.2.2 (hts (.initialized RX2) (by decide +kernel)) (by decide +kernel) ⟨Nat.le_of_ble_eq_true rfl, Nat.le_of_ble_eq_true rfl⟩, rfl, (hts (.instanceMethod yX2_init) (by decide +kernel))⟩ (g_preS hF hG hS) rfl rfl hl.1 rfl (lv_room (Nat.le_of_ble_eq_true rfl)) dX5_init_9 ⟨Nat.le_of_ble_eq_true rfl, Nat.le_of_ble_eq_true rfl⟩) hS (fun q _ h => h) (fun q h => h) (fun u9 t9 H locs ht9 _ hu9 hB1 _ _ hS => ?_)
  obtain ⟨V2, A2⟩ := u9
  dsimp only at hu9
  have hG : g_P D V2 A2 B H := by rw [← ht9]; exact hB1
  obtain ⟨eV2, eA2⟩ := hu9
  have nA2 : ∀ c : g_k, (c.1 < 6 ∨ (9 < c.1 ∧ c.1 ≠ 20)) → A2 c = A1 c := fun c hc9 => eA2 c (fun z => by rcases z with z | z | z | z | ⟨z, -⟩; all_goals (first | (rw [z] at hc9; exact absurd hc9 (by decide)) | omega))
  have nV2 : ∀ c : g_k, c.1 ≠ 1 → (c.1 < 6 ∨ (9 < c.1 ∧ c.1 ≠ 20)) → V2 c = V1 c := fun c c0 hc9 => by
    have m1 : c ≠ (1, 0, 0) := fun z => c0 (by rw [z])
    have m6 : c ≠ (6, 0, 0) := fun z => by rw [z] at hc9; exact absurd hc9 (by decide)
    have m7 : c ≠ (7, 0, 0) := fun z => by rw [z] at hc9; exact absurd hc9 (by decide)
    have m8 : c ≠ (8, 0, 0) := fun z => by rw [z] at hc9; exact absurd hc9 (by decide)
    have m9 : c ≠ (9, 0, 0) := fun z => by rw [z] at hc9; exact absurd hc9 (by decide)
    have m20 : ¬ (c.1 = 20 ∧ c.2.1 < 10 ∧ c.2.2 = 0) := fun z => by omega
    rw [eV2]; simp only [sky_v]; rw [if_neg m1, if_neg m6, if_neg m7, if_neg m8, if_neg m9, if_neg m20]
  have v0V2 : V2 (0, 0, 0) = some (.inr (5, [.null, .null, .null, .null, .null, .int 0, .int 0, .int 0, .int 0])) := by rw [nV2 _ (by decide) (Or.inl (by decide))]; exact v0V1
  have a0A2 : A2 (0, 0, 0) = ad (0, 0, 0) := by rw [nA2 _ (Or.inl (by decide))]; exact a0A1
  refine W.eq (g2 := F0 m 12 ls [.ref (A2 (1, 0, 0)), .ref (ad (0, 0, 0))]) (by rw [nA2 (1, 0, 0) (Or.inl (by decide))]) ?_
  refine g_puta hx hb hts hi5 tyX5 tyX5_ok nmX5 hown hK hG hS (ci := 5) (cd := (0, 0, 0)) (by exact a0A2) (fs := [.null, .null, .null, .null, .null, .int 0, .int 0, .int 0, .int 0]) (by exact v0V2) rfl 0 (by decide) (hts (.fieldLink RX5 12 "Satellitering" "sky" "LSatellitering$Sky;") (by decide +kernel)) (Or.inr ⟨rfl, hin, rfl⟩) rfl rfl (by simp) dX5_init_12 (fun H locs hG hS => ?_)
  obtain ⟨V2p, eV2p⟩ : ∃ z, z = k_up V2 (0, 0, 0) (some (.inr (5, [.ref (A2 (1, 0, 0)), .null, .null, .null, .null, .int 0, .int 0, .int 0, .int 0]))) := ⟨_, rfl⟩
  have hG : g_P D V2p A2 B H := by rw [eV2p]; exact hG
  have v0V2p : V2p (0, 0, 0) = some (.inr (5, [.ref (A2 (1, 0, 0)), .null, .null, .null, .null, .int 0, .int 0, .int 0, .int 0])) := by rw [eV2p, k_up_self]
  have nV2p : ∀ c, c ≠ (0, 0, 0) → V2p c = V2 c := fun c hc9 => by rw [eV2p, k_up_ne _ _ hc9]
  refine lv_aload_n hx hb dX5_init_15 rfl (lv_at hl 0 rfl) ?_
  refine g_new hx hb hts hi1 tyX1 tyX1_ok hown (hts (.classLink RX5 16 RX1) (by decide +kernel)) (hts (.instantiable RX1 2) (by decide +kernel)) (hts (.initialized RX1) (by decide +kernel)) hK hG hS hB (2, 0, 0) (by rw [nV2p _ (by decide), nV2 _ (by decide) (Or.inl (by decide))]; exact hv1 _ (by decide) (by decide) (by decide)) (ci := 1) rfl (fs := [.null, .null]) (fun j hj => by rcases (show j = 0 ∨ j = 1 by omega) with rfl | rfl <;> rfl) (Nat.le_of_ble_eq_true rfl) (Nat.le_of_ble_eq_true rfl) dX5_init_16 (fun q4 H hG hS => ?_)
  obtain ⟨A4, eA4⟩ : ∃ z, z = k_up A2 (2, 0, 0) q4 := ⟨_, rfl⟩
  rw [← eA4] at hG
  obtain ⟨V4, eV4⟩ : ∃ z, z = k_up V2p (2, 0, 0) (some (.inr (1, [.null, .null]))) := ⟨_, rfl⟩
  rw [← eV4] at hG
  have sA4 : A4 (2, 0, 0) = q4 := by rw [eA4, k_up_self]
  have nA4 : ∀ c, c ≠ (2, 0, 0) → A4 c = A2 c := fun c hc9 => by rw [eA4, k_up_ne _ _ hc9]
  have sV4 : V4 (2, 0, 0) = some (.inr (1, [.null, .null])) := by rw [eV4, k_up_self]
  have nV4 : ∀ c, c ≠ (2, 0, 0) → V4 c = V2p c := fun c hc9 => by rw [eV4, k_up_ne _ _ hc9]
  have v0V4 : V4 (0, 0, 0) = some (.inr (5, [.ref (A2 (1, 0, 0)), .null, .null, .null, .null, .int 0, .int 0, .int 0, .int 0])) := by rw [nV4 _ (by decide)]; exact v0V2p
  have a0A4 : A4 (0, 0, 0) = ad (0, 0, 0) := by exact (nA4 _ (by decide)).trans a0A2
  refine W.eq (g2 := F0 m 19 ls [.ref (A4 (2, 0, 0)), .ref (ad (0, 0, 0))]) (by rw [sA4]) ?_
  refine lv_dup hx hb dX5_init_19 rfl ?_
  refine lv_aload_n hx hb dX5_init_20 rfl (lv_at hl 0 rfl) ?_
  refine W.eq (g2 := F0 m 21 ls [.ref (A4 (0, 0, 0)), .ref (A4 (2, 0, 0)), .ref (A4 (2, 0, 0)), .ref (ad (0, 0, 0))]) (by rw [a0A4]) ?_
  refine g_get hx hb hts hi5 hown hK hG (cd := (0, 0, 0)) v0V4 rfl 0 (by decide) (hts (.fieldLink RX5 12 "Satellitering" "sky" "LSatellitering$Sky;") (by decide +kernel)) rfl dX5_init_21 ?_
  refine W.eq (g2 := F0 m 24 ls [.ref (A4 (1, 0, 0)), .ref (A4 (2, 0, 0)), .ref (A4 (2, 0, 0)), .ref (ad (0, 0, 0))]) (by rw [nA4 (1, 0, 0) (by decide)]) ?_
  refine va_callv (va_runI (As := [.ref (A4 (1, 0, 0))]) (rest := [.ref (A4 (2, 0, 0)), .ref (ad (0, 0, 0))]) ⟨hx, hb, hml, hown, hts⟩ (c_X1_init l (v := V4) (ad := A4) sV4 (by rw [nV4 _ (by decide), nV2p _ (by decide), nV2 _ (by decide) (Or.inr (by decide))]; exact hv1 _ (by decide) (by decide) (by decide))) (cwI 1 hts gX5_init_X1_init rfl rfl rfl (hts (.initialized RX1) (by decide +kernel)) (hts (.methodLink RX5 18 yX1_init) (by decide +kernel)) (hts (.instanceMethod yX1_init) (by decide +kernel)) rfl (by decide +kernel) ⟨Nat.le_of_ble_eq_true rfl, Nat.le_of_ble_eq_true rfl⟩) (g_preS hF hG hS) rfl rfl hl.1 rfl (lv_room (Nat.le_of_ble_eq_true rfl)) dX5_init_24 ⟨Nat.le_of_ble_eq_true rfl, Nat.le_of_ble_eq_true rfl⟩) hS (fun q _ h => h) (fun q h => h) (fun u8 t9 H locs ht9 _ hu8 hB1 _ _ hS => ?_)
  obtain ⟨V5, A5⟩ := u8
  dsimp only at hu8
  have hG : g_P D V5 A5 B H := by rw [← ht9]; exact hB1
  obtain ⟨eV5, nA5⟩ := hu8
  have nV5 : ∀ c : g_k, c ≠ (2, 0, 0) → c ≠ (10, 0, 0) → V5 c = V4 c := fun c c1 c2 => by rw [eV5]; simp only [search_v]; rw [if_neg c1, if_neg c2]
  have v0V5 : V5 (0, 0, 0) = some (.inr (5, [.ref (A2 (1, 0, 0)), .null, .null, .null, .null, .int 0, .int 0, .int 0, .int 0])) := by rw [nV5 _ (by decide) (by decide)]; exact v0V4
  have a0A5 : A5 (0, 0, 0) = ad (0, 0, 0) := by rw [nA5 _ (by decide)]; exact a0A4
  refine W.eq (g2 := F0 m 27 ls [.ref (A5 (2, 0, 0)), .ref (ad (0, 0, 0))]) (by rw [nA5 (2, 0, 0) (by decide)]) ?_
  refine g_puta hx hb hts hi5 tyX5 tyX5_ok nmX5 hown hK hG hS (ci := 5) (cd := (0, 0, 0)) (by exact a0A5) (fs := [.ref (A2 (1, 0, 0)), .null, .null, .null, .null, .int 0, .int 0, .int 0, .int 0]) (by exact v0V5) rfl 1 (by decide) (hts (.fieldLink RX5 21 "Satellitering" "search" "LSatellitering$Search;") (by decide +kernel)) (Or.inr ⟨rfl, hin, rfl⟩) rfl rfl (by simp) dX5_init_27 (fun H locs hG hS => ?_)
  obtain ⟨V5p, eV5p⟩ : ∃ z, z = k_up V5 (0, 0, 0) (some (.inr (5, [.ref (A2 (1, 0, 0)), .ref (A5 (2, 0, 0)), .null, .null, .null, .int 0, .int 0, .int 0, .int 0]))) := ⟨_, rfl⟩
  have hG : g_P D V5p A5 B H := by rw [eV5p]; exact hG
  have v0V5p : V5p (0, 0, 0) = some (.inr (5, [.ref (A2 (1, 0, 0)), .ref (A5 (2, 0, 0)), .null, .null, .null, .int 0, .int 0, .int 0, .int 0])) := by rw [eV5p, k_up_self]
  have nV5p : ∀ c, c ≠ (0, 0, 0) → V5p c = V5 c := fun c hc9 => by rw [eV5p, k_up_ne _ _ hc9]
  refine lv_aload_n hx hb dX5_init_30 rfl (lv_at hl 0 rfl) ?_
  refine lv_bipush (v := nI 10) hx hb dX5_init_31 (by decide) ?_
  refine g_newqa hx hb hown (hts (.classLink RX5 25 RX3) (by decide +kernel)) hF.2.2.1.2.2.2.1 2 rfl hK hG hS hB (3, 0, 0) (by rw [nV5p _ (by decide), nV5 _ (by decide) (by decide), nV4 _ (by decide), nV2p _ (by decide), nV2 _ (by decide) (Or.inl (by decide))]; exact hv1 _ (by decide) (by decide) (by decide)) (by decide) (Nat.le_of_ble_eq_true rfl) (Nat.le_of_ble_eq_true rfl) dX5_init_33 (fun q7 H hG hS => ?_)
  obtain ⟨A7, eA7⟩ : ∃ z, z = k_up A5 (3, 0, 0) q7 := ⟨_, rfl⟩
  rw [← eA7] at hG
  obtain ⟨V7, eV7⟩ : ∃ z, z = k_up V5p (3, 0, 0) (some (.inl (C.2.2.1, 10, .inr (.inr (.inr (.inr (fun _ => none))))))) := ⟨_, rfl⟩
  rw [← eV7] at hG
  have sA7 : A7 (3, 0, 0) = q7 := by rw [eA7, k_up_self]
  have nA7 : ∀ c, c ≠ (3, 0, 0) → A7 c = A5 c := fun c hc9 => by rw [eA7, k_up_ne _ _ hc9]
  have sV7 : V7 (3, 0, 0) = some (.inl (C.2.2.1, 10, .inr (.inr (.inr (.inr (fun _ => none)))))) := by rw [eV7, k_up_self]
  have nV7 : ∀ c, c ≠ (3, 0, 0) → V7 c = V5p c := fun c hc9 => by rw [eV7, k_up_ne _ _ hc9]
  have v0V7 : V7 (0, 0, 0) = some (.inr (5, [.ref (A2 (1, 0, 0)), .ref (A5 (2, 0, 0)), .null, .null, .null, .int 0, .int 0, .int 0, .int 0])) := by rw [nV7 _ (by decide)]; exact v0V5p
  have a0A7 : A7 (0, 0, 0) = ad (0, 0, 0) := by exact (nA7 _ (by decide)).trans a0A5
  refine W.eq (g2 := F0 m 36 ls [.ref (A7 (3, 0, 0)), .ref (ad (0, 0, 0))]) (by rw [sA7]) ?_
  refine g_puta hx hb hts hi5 tyX5 tyX5_ok nmX5 hown hK hG hS (ci := 5) (cd := (0, 0, 0)) (by exact a0A7) (fs := [.ref (A2 (1, 0, 0)), .ref (A5 (2, 0, 0)), .null, .null, .null, .int 0, .int 0, .int 0, .int 0]) (by exact v0V7) rfl 2 (by decide) (hts (.fieldLink RX5 27 "Satellitering" "stations" "[LSatellitering$Station;") (by decide +kernel)) (Or.inr ⟨rfl, hin, rfl⟩) rfl rfl (by simp) dX5_init_36 (fun H locs hG hS => ?_)
  obtain ⟨V7p, eV7p⟩ : ∃ z, z = k_up V7 (0, 0, 0) (some (.inr (5, [.ref (A2 (1, 0, 0)), .ref (A5 (2, 0, 0)), .ref (A7 (3, 0, 0)), .null, .null, .int 0, .int 0, .int 0, .int 0]))) := ⟨_, rfl⟩
  have hG : g_P D V7p A7 B H := by rw [eV7p]; exact hG
  have v0V7p : V7p (0, 0, 0) = some (.inr (5, [.ref (A2 (1, 0, 0)), .ref (A5 (2, 0, 0)), .ref (A7 (3, 0, 0)), .null, .null, .int 0, .int 0, .int 0, .int 0])) := by rw [eV7p, k_up_self]
  have nV7p : ∀ c, c ≠ (0, 0, 0) → V7p c = V7 c := fun c hc9 => by rw [eV7p, k_up_ne _ _ hc9]
  refine lv_aload_n hx hb dX5_init_39 rfl (lv_at hl 0 rfl) ?_
  refine lv_bipush (v := nI 10) hx hb dX5_init_40 (by decide) ?_
  refine g_newa hx hb (hts (.arrayClass .int) (by decide +kernel)) hK hG hS hB (4, 0, 0) (by rw [nV7p _ (by decide), nV7 _ (by decide), nV5p _ (by decide), nV5 _ (by decide) (by decide), nV4 _ (by decide), nV2p _ (by decide), nV2 _ (by decide) (Or.inl (by decide))]; exact hv1 _ (by decide) (by decide) (by decide)) (by decide) (Nat.le_of_ble_eq_true rfl) (Nat.le_of_ble_eq_true rfl) dX5_init_42 (fun q9 H _ hG hS => ?_)
  obtain ⟨A9, eA9⟩ : ∃ z, z = k_up A7 (4, 0, 0) q9 := ⟨_, rfl⟩
  rw [← eA9] at hG
  obtain ⟨V9, eV9⟩ : ∃ z, z = k_up V7p (4, 0, 0) (some (.inl (C.1, 10, .inl (fun _ => 0)))) := ⟨_, rfl⟩
  rw [← eV9] at hG
  have sA9 : A9 (4, 0, 0) = q9 := by rw [eA9, k_up_self]
  have nA9 : ∀ c, c ≠ (4, 0, 0) → A9 c = A7 c := fun c hc9 => by rw [eA9, k_up_ne _ _ hc9]
  have sV9 : V9 (4, 0, 0) = some (.inl (C.1, 10, .inl (fun _ => 0))) := by rw [eV9, k_up_self]
  have nV9 : ∀ c, c ≠ (4, 0, 0) → V9 c = V7p c := fun c hc9 => by rw [eV9, k_up_ne _ _ hc9]
  have v0V9 : V9 (0, 0, 0) = some (.inr (5, [.ref (A2 (1, 0, 0)), .ref (A5 (2, 0, 0)), .ref (A7 (3, 0, 0)), .null, .null, .int 0, .int 0, .int 0, .int 0])) := by rw [nV9 _ (by decide)]; exact v0V7p
  have a0A9 : A9 (0, 0, 0) = ad (0, 0, 0) := by exact (nA9 _ (by decide)).trans a0A7
  refine W.eq (g2 := F0 m 44 ls [.ref (A9 (4, 0, 0)), .ref (ad (0, 0, 0))]) (by rw [sA9]) ?_
  refine g_puta hx hb hts hi5 tyX5 tyX5_ok nmX5 hown hK hG hS (ci := 5) (cd := (0, 0, 0)) (by exact a0A9) (fs := [.ref (A2 (1, 0, 0)), .ref (A5 (2, 0, 0)), .ref (A7 (3, 0, 0)), .null, .null, .int 0, .int 0, .int 0, .int 0]) (by exact v0V9) rfl 3 (by decide) (hts (.fieldLink RX5 31 "Satellitering" "capacities" "[I") (by decide +kernel)) (Or.inr ⟨rfl, hin, rfl⟩) rfl rfl (by simp) dX5_init_44 (fun H locs hG hS => ?_)
  obtain ⟨V9p, eV9p⟩ : ∃ z, z = k_up V9 (0, 0, 0) (some (.inr (5, [.ref (A2 (1, 0, 0)), .ref (A5 (2, 0, 0)), .ref (A7 (3, 0, 0)), .ref (A9 (4, 0, 0)), .null, .int 0, .int 0, .int 0, .int 0]))) := ⟨_, rfl⟩
  have hG : g_P D V9p A9 B H := by rw [eV9p]; exact hG
  have v0V9p : V9p (0, 0, 0) = some (.inr (5, [.ref (A2 (1, 0, 0)), .ref (A5 (2, 0, 0)), .ref (A7 (3, 0, 0)), .ref (A9 (4, 0, 0)), .null, .int 0, .int 0, .int 0, .int 0])) := by rw [eV9p, k_up_self]
  have nV9p : ∀ c, c ≠ (0, 0, 0) → V9p c = V9 c := fun c hc9 => by rw [eV9p, k_up_ne _ _ hc9]
  refine lv_aload_n hx hb dX5_init_47 rfl (lv_at hl 0 rfl) ?_
  refine lv_bipush (v := nI 20) hx hb dX5_init_48 (by decide) ?_
  refine g_newqa hx hb hown (hts (.classLink RX5 35 RX0) (by decide +kernel)) hF.2.2.1.2.2.2.2.1 3 rfl hK hG hS hB (5, 0, 0) (by rw [nV9p _ (by decide), nV9 _ (by decide), nV7p _ (by decide), nV7 _ (by decide), nV5p _ (by decide), nV5 _ (by decide) (by decide), nV4 _ (by decide), nV2p _ (by decide), nV2 _ (by decide) (Or.inl (by decide))]; exact hv1 _ (by decide) (by decide) (by decide)) (by decide) (Nat.le_of_ble_eq_true rfl) (Nat.le_of_ble_eq_true rfl) dX5_init_50 (fun q11 H hG hS => ?_)
  obtain ⟨AE, eAE⟩ : ∃ z, z = k_up A9 (5, 0, 0) q11 := ⟨_, rfl⟩
  rw [← eAE] at hG
  obtain ⟨V11, eV11⟩ : ∃ z, z = k_up V9p (5, 0, 0) (some (.inl (C.2.2.2, 20, .inr (.inr (.inr (.inr (fun _ => none))))))) := ⟨_, rfl⟩
  rw [← eV11] at hG
  have sAE : AE (5, 0, 0) = q11 := by rw [eAE, k_up_self]
  have nAE : ∀ c, c ≠ (5, 0, 0) → AE c = A9 c := fun c hc9 => by rw [eAE, k_up_ne _ _ hc9]
  have sV11 : V11 (5, 0, 0) = some (.inl (C.2.2.2, 20, .inr (.inr (.inr (.inr (fun _ => none)))))) := by rw [eV11, k_up_self]
  have nV11 : ∀ c, c ≠ (5, 0, 0) → V11 c = V9p c := fun c hc9 => by rw [eV11, k_up_ne _ _ hc9]
  have v0V11 : V11 (0, 0, 0) = some (.inr (5, [.ref (A2 (1, 0, 0)), .ref (A5 (2, 0, 0)), .ref (A7 (3, 0, 0)), .ref (A9 (4, 0, 0)), .null, .int 0, .int 0, .int 0, .int 0])) := by rw [nV11 _ (by decide)]; exact v0V9p
  have a0AE : AE (0, 0, 0) = ad (0, 0, 0) := by exact (nAE _ (by decide)).trans a0A9
  refine W.eq (g2 := F0 m 53 ls [.ref (AE (5, 0, 0)), .ref (ad (0, 0, 0))]) (by rw [sAE]) ?_
  refine g_puta hx hb hts hi5 tyX5 tyX5_ok nmX5 hown hK hG hS (ci := 5) (cd := (0, 0, 0)) (by exact a0AE) (fs := [.ref (A2 (1, 0, 0)), .ref (A5 (2, 0, 0)), .ref (A7 (3, 0, 0)), .ref (A9 (4, 0, 0)), .null, .int 0, .int 0, .int 0, .int 0]) (by exact v0V11) rfl 4 (by decide) (hts (.fieldLink RX5 37 "Satellitering" "sent" "[LSatellitering$Message;") (by decide +kernel)) (Or.inr ⟨rfl, hin, rfl⟩) rfl rfl (by simp) dX5_init_53 (fun H locs hG hS => ?_)
  obtain ⟨V11p, eV11p⟩ : ∃ z, z = k_up V11 (0, 0, 0) (some (.inr (5, [.ref (A2 (1, 0, 0)), .ref (A5 (2, 0, 0)), .ref (A7 (3, 0, 0)), .ref (A9 (4, 0, 0)), .ref (AE (5, 0, 0)), .int 0, .int 0, .int 0, .int 0]))) := ⟨_, rfl⟩
  have hG : g_P D V11p AE B H := by rw [eV11p]; exact hG
  have v0V11p : V11p (0, 0, 0) = some (.inr (5, [.ref (A2 (1, 0, 0)), .ref (A5 (2, 0, 0)), .ref (A7 (3, 0, 0)), .ref (A9 (4, 0, 0)), .ref (AE (5, 0, 0)), .int 0, .int 0, .int 0, .int 0])) := by rw [eV11p, k_up_self]
  have nV11p : ∀ c, c ≠ (0, 0, 0) → V11p c = V11 c := fun c hc9 => by rw [eV11p, k_up_ne _ _ hc9]
  refine lv_aload_n hx hb dX5_init_56 rfl (lv_at hl 0 rfl) ?_
  refine lv_iconst (v := nI 0) hx hb dX5_init_57 (by decide) ?_
  refine g_puta hx hb hts hi5 tyX5 tyX5_ok nmX5 hown hK hG hS (ci := 5) (cd := (0, 0, 0)) (by exact a0AE) (fs := [.ref (A2 (1, 0, 0)), .ref (A5 (2, 0, 0)), .ref (A7 (3, 0, 0)), .ref (A9 (4, 0, 0)), .ref (AE (5, 0, 0)), .int 0, .int 0, .int 0, .int 0]) (by exact v0V11p) rfl 5 (by decide) (hts (.fieldLink RX5 41 "Satellitering" "stationCount" "I") (by decide +kernel)) (Or.inl rfl) rfl rfl (by simp) dX5_init_58 (fun H locs hG hS => ?_)
  obtain ⟨V11pp, eV11pp⟩ : ∃ z, z = k_up V11p (0, 0, 0) (some (.inr (5, [.ref (A2 (1, 0, 0)), .ref (A5 (2, 0, 0)), .ref (A7 (3, 0, 0)), .ref (A9 (4, 0, 0)), .ref (AE (5, 0, 0)), .int (nI 0), .int 0, .int 0, .int 0]))) := ⟨_, rfl⟩
  have hG : g_P D V11pp AE B H := by rw [eV11pp]; exact hG
  have v0V11pp : V11pp (0, 0, 0) = some (.inr (5, [.ref (A2 (1, 0, 0)), .ref (A5 (2, 0, 0)), .ref (A7 (3, 0, 0)), .ref (A9 (4, 0, 0)), .ref (AE (5, 0, 0)), .int (nI 0), .int 0, .int 0, .int 0])) := by rw [eV11pp, k_up_self]
  have nV11pp : ∀ c, c ≠ (0, 0, 0) → V11pp c = V11p c := fun c hc9 => by rw [eV11pp, k_up_ne _ _ hc9]
  refine lv_aload_n hx hb dX5_init_61 rfl (lv_at hl 0 rfl) ?_
  refine lv_iconst (v := nI 0) hx hb dX5_init_62 (by decide) ?_
  refine g_puta hx hb hts hi5 tyX5 tyX5_ok nmX5 hown hK hG hS (ci := 5) (cd := (0, 0, 0)) (by exact a0AE) (fs := [.ref (A2 (1, 0, 0)), .ref (A5 (2, 0, 0)), .ref (A7 (3, 0, 0)), .ref (A9 (4, 0, 0)), .ref (AE (5, 0, 0)), .int (nI 0), .int 0, .int 0, .int 0]) (by exact v0V11pp) rfl 6 (by decide) (hts (.fieldLink RX5 45 "Satellitering" "relayCount" "I") (by decide +kernel)) (Or.inl rfl) rfl rfl (by simp) dX5_init_63 (fun H locs hG hS => ?_)
  obtain ⟨V11ppp, eV11ppp⟩ : ∃ z, z = k_up V11pp (0, 0, 0) (some (.inr (5, [.ref (A2 (1, 0, 0)), .ref (A5 (2, 0, 0)), .ref (A7 (3, 0, 0)), .ref (A9 (4, 0, 0)), .ref (AE (5, 0, 0)), .int (nI 0), .int (nI 0), .int 0, .int 0]))) := ⟨_, rfl⟩
  have hG : g_P D V11ppp AE B H := by rw [eV11ppp]; exact hG
  have v0V11ppp : V11ppp (0, 0, 0) = some (.inr (5, [.ref (A2 (1, 0, 0)), .ref (A5 (2, 0, 0)), .ref (A7 (3, 0, 0)), .ref (A9 (4, 0, 0)), .ref (AE (5, 0, 0)), .int (nI 0), .int (nI 0), .int 0, .int 0])) := by rw [eV11ppp, k_up_self]
  have nV11ppp : ∀ c, c ≠ (0, 0, 0) → V11ppp c = V11pp c := fun c hc9 => by rw [eV11ppp, k_up_ne _ _ hc9]
  refine lv_aload_n hx hb dX5_init_66 rfl (lv_at hl 0 rfl) ?_
  refine lv_iconst (v := nI 0) hx hb dX5_init_67 (by decide) ?_
  refine g_puta hx hb hts hi5 tyX5 tyX5_ok nmX5 hown hK hG hS (ci := 5) (cd := (0, 0, 0)) (by exact a0AE) (fs := [.ref (A2 (1, 0, 0)), .ref (A5 (2, 0, 0)), .ref (A7 (3, 0, 0)), .ref (A9 (4, 0, 0)), .ref (AE (5, 0, 0)), .int (nI 0), .int (nI 0), .int 0, .int 0]) (by exact v0V11ppp) rfl 7 (by decide) (hts (.fieldLink RX5 48 "Satellitering" "sentCount" "I") (by decide +kernel)) (Or.inl rfl) rfl rfl (by simp) dX5_init_68 (fun H locs hG hS => ?_)
  obtain ⟨V11pppp, eV11pppp⟩ : ∃ z, z = k_up V11ppp (0, 0, 0) (some (.inr (5, [.ref (A2 (1, 0, 0)), .ref (A5 (2, 0, 0)), .ref (A7 (3, 0, 0)), .ref (A9 (4, 0, 0)), .ref (AE (5, 0, 0)), .int (nI 0), .int (nI 0), .int (nI 0), .int 0]))) := ⟨_, rfl⟩
  have hG : g_P D V11pppp AE B H := by rw [eV11pppp]; exact hG
  have v0V11pppp : V11pppp (0, 0, 0) = some (.inr (5, [.ref (A2 (1, 0, 0)), .ref (A5 (2, 0, 0)), .ref (A7 (3, 0, 0)), .ref (A9 (4, 0, 0)), .ref (AE (5, 0, 0)), .int (nI 0), .int (nI 0), .int (nI 0), .int 0])) := by rw [eV11pppp, k_up_self]
  have nV11pppp : ∀ c, c ≠ (0, 0, 0) → V11pppp c = V11ppp c := fun c hc9 => by rw [eV11pppp, k_up_ne _ _ hc9]
  refine lv_aload_n hx hb dX5_init_71 rfl (lv_at hl 0 rfl) ?_
  refine lv_iconst (v := nI 0) hx hb dX5_init_72 (by decide) ?_
  refine g_puta hx hb hts hi5 tyX5 tyX5_ok nmX5 hown hK hG hS (ci := 5) (cd := (0, 0, 0)) (by exact a0AE) (fs := [.ref (A2 (1, 0, 0)), .ref (A5 (2, 0, 0)), .ref (A7 (3, 0, 0)), .ref (A9 (4, 0, 0)), .ref (AE (5, 0, 0)), .int (nI 0), .int (nI 0), .int (nI 0), .int 0]) (by exact v0V11pppp) rfl 8 (by decide) (hts (.fieldLink RX5 51 "Satellitering" "now" "I") (by decide +kernel)) (Or.inl rfl) rfl rfl (by simp) dX5_init_73 (fun H locs hG hS => ?_)
  obtain ⟨V11ppppp, eV11ppppp⟩ : ∃ z, z = k_up V11pppp (0, 0, 0) (some (.inr (5, [.ref (A2 (1, 0, 0)), .ref (A5 (2, 0, 0)), .ref (A7 (3, 0, 0)), .ref (A9 (4, 0, 0)), .ref (AE (5, 0, 0)), .int (nI 0), .int (nI 0), .int (nI 0), .int (nI 0)]))) := ⟨_, rfl⟩
  have hG : g_P D V11ppppp AE B H := by rw [eV11ppppp]; exact hG
  have v0V11ppppp : V11ppppp (0, 0, 0) = some (.inr (5, [.ref (A2 (1, 0, 0)), .ref (A5 (2, 0, 0)), .ref (A7 (3, 0, 0)), .ref (A9 (4, 0, 0)), .ref (AE (5, 0, 0)), .int (nI 0), .int (nI 0), .int (nI 0), .int (nI 0)])) := by rw [eV11ppppp, k_up_self]
  have nV11ppppp : ∀ c, c ≠ (0, 0, 0) → V11ppppp c = V11pppp c := fun c hc9 => by rw [eV11ppppp, k_up_ne _ _ hc9]
  have nVE : ∀ c, c ≠ (0, 0, 0) → V11ppppp c = V11 c := fun c hc9 => by rw [nV11ppppp _ hc9, nV11pppp _ hc9, nV11ppp _ hc9, nV11pp _ hc9, nV11p _ hc9]
  have hE5 : ∀ c : g_k, (c.1 < 3 ∨ 5 < c.1) → AE c = A5 c := fun c hc9 => by rw [nAE c (fun z => by rw [z] at hc9; exact absurd hc9 (by decide)), nA9 c (fun z => by rw [z] at hc9; exact absurd hc9 (by decide)), nA7 c (fun z => by rw [z] at hc9; exact absurd hc9 (by decide))]
  have hE2 : ∀ c : g_k, (c.1 < 2 ∨ (5 < c.1 ∧ c.1 ≠ 10)) → AE c = A2 c := fun c hc9 => by rw [hE5 c (by omega), nA5 c (fun z => by rw [z] at hc9; exact absurd hc9 (by decide)), nA4 c (fun z => by rw [z] at hc9; exact absurd hc9 (by decide))]
  have hVE5 : ∀ c : g_k, c ≠ (0, 0, 0) → (c.1 < 3 ∨ 5 < c.1) → V11ppppp c = V5 c := fun c c0 hc9 => by rw [nVE c c0, nV11 c (fun z => by rw [z] at hc9; exact absurd hc9 (by decide)), nV9p c c0, nV9 c (fun z => by rw [z] at hc9; exact absurd hc9 (by decide)), nV7p c c0, nV7 c (fun z => by rw [z] at hc9; exact absurd hc9 (by decide)), nV5p c c0]
  have hVE2 : ∀ c : g_k, c ≠ (0, 0, 0) → (c.1 < 2 ∨ (5 < c.1 ∧ c.1 ≠ 10)) → V11ppppp c = V2 c := fun c c0 hc9 => by rw [hVE5 c c0 (by omega), nV5 c (fun z => by rw [z] at hc9; exact absurd hc9 (by decide)) (fun z => by rw [z] at hc9; exact absurd hc9 (by decide)), nV4 c (fun z => by rw [z] at hc9; exact absurd hc9 (by decide)), nV2p c c0]
  have hfin : V11ppppp = lay C (fun _ _ => 0) AE (fun _ => 0) v ∧ (∀ c : g_k, 50 ≤ c.1 → AE c = ad c) ∧ AE (0, 0, 0) = ad (0, 0, 0) := by
    refine ⟨funext fun d => ?_, fun c hc9 => ?_, a0AE⟩
    · by_cases d0 : d = (0, 0, 0)
      · subst d0
        rw [v0V11ppppp, lay_main, F_main, hE2 (1, 0, 0) (Or.inl (by decide)), hE5 (2, 0, 0) (Or.inl (by decide)), nAE (3, 0, 0) (by decide), nA9 (3, 0, 0) (by decide), nAE (4, 0, 0) (by decide)]
        rfl
      by_cases d1 : d = (1, 0, 0)
      · subst d1
        rw [hVE2 _ (by decide) (Or.inl (by decide)), lay_sky, eV2]
        simp only [sky_v, if_true]
        rw [F_sky, F_sky, hE2 (6, 0, 0) (Or.inr (by decide)), hE2 (7, 0, 0) (Or.inr (by decide)), hE2 (8, 0, 0) (Or.inr (by decide)), hE2 (9, 0, 0) (Or.inr (by decide))]
      by_cases d2 : d = (2, 0, 0)
      · subst d2
        rw [hVE5 _ (by decide) (Or.inl (by decide)), lay_search, eV5]
        simp only [search_v, if_true]
        rw [F_search, F_search, hE5 (1, 0, 0) (Or.inl (by decide)), hE5 (10, 0, 0) (Or.inr (by decide))]
      by_cases d3 : d = (3, 0, 0)
      · subst d3
        rw [nVE _ (by decide), nV11 _ (by decide), nV9p _ (by decide), nV9 _ (by decide), nV7p _ (by decide), sV7, lay_stations]
        refine congrArg some (congrArg Sum.inl (congrArg (fun z => (C.2.2.1, 10, Sum.inr (Sum.inr (Sum.inr (Sum.inr z))))) (funext fun j => ?_)))
        simp [A_stations]
      by_cases d4 : d = (4, 0, 0)
      · subst d4
        rw [nVE _ (by decide), nV11 _ (by decide), nV9p _ (by decide), sV9, lay_caps]
      by_cases d5 : d = (5, 0, 0)
      · subst d5
        rw [nVE _ (by decide), sV11, lay_sent]
        refine congrArg some (congrArg Sum.inl (congrArg (fun z => (C.2.2.2, 20, Sum.inr (Sum.inr (Sum.inr (Sum.inr z))))) (funext fun j => ?_)))
        simp [A_sent]
      by_cases d6 : d = (6, 0, 0)
      · subst d6
        rw [hVE2 _ (by decide) (Or.inr (by decide)), lay_places, eV2]
        simp [sky_v]
      by_cases d7 : d = (7, 0, 0)
      · subst d7
        rw [hVE2 _ (by decide) (Or.inr (by decide)), lay_speeds, eV2]
        simp [sky_v]
      by_cases d8 : d = (8, 0, 0)
      · subst d8
        rw [hVE2 _ (by decide) (Or.inr (by decide)), lay_reaches, eV2]
        simp [sky_v]
      by_cases d9 : d = (9, 0, 0)
      · subst d9
        rw [hVE2 _ (by decide) (Or.inr (by decide)), lay_seen, eV2]
        simp only [sky_v]
        rw [if_neg (by decide), if_neg (by decide), if_neg (by decide), if_neg (by decide), if_pos trivial]
        refine congrArg some (congrArg Sum.inl (congrArg (fun z => (C.2.1, 10, Sum.inr (Sum.inr (Sum.inr (Sum.inr z))))) (funext fun j => ?_)))
        simp only [A_seen]
        rw [hE2 (20, j, 0) (Or.inr ⟨show (5 : Nat) < 20 by decide, show (20 : Nat) ≠ 10 by decide⟩)]
      by_cases d10 : d = (10, 0, 0)
      · subst d10
        rw [hVE5 _ (by decide) (Or.inr (by decide)), lay_reached, eV5]
        simp [search_v]
      by_cases q : d.1 = 20 ∧ d.2.1 < 10 ∧ d.2.2 = 0
      · rw [hVE2 d d0 (by omega), eV2]
        simp only [sky_v]
        rw [if_neg d1, if_neg d6, if_neg d7, if_neg d8, if_neg d9, if_pos q]
        simp only [lay]
        rw [if_neg d0, if_neg d1, if_neg d2, if_neg d3, if_neg d4, if_neg d5, if_neg d6, if_neg d7, if_neg d8, if_neg d9, if_neg d10, if_pos q]
      · have eL : lay C (fun _ _ => 0) AE (fun _ => 0) v d = if d.1 < 50 then none else v d := by
          simp [lay, d0, d1, d2, d3, d4, d5, d6, d7, d8, d9, d10, q]
        have eR : V11ppppp d = v d := by
          have n3 : ∀ (V9 : g_k → Option va_E) (W9 : g_k → Option va_E), V9 d = W9 d → V9 d = W9 d := fun _ _ h => h
          rw [nVE d d0, nV11 d d5, nV9p d d0, nV9 d d4, nV7p d d0, nV7 d d3, nV5p d d0, nV5 d d2 d10, nV4 d d2, nV2p d d0, eV2]
          simp only [sky_v]
          rw [if_neg d1, if_neg d6, if_neg d7, if_neg d8, if_neg d9, if_neg q, nV1 d d1]
        rw [eL, eR]
        by_cases h50 : d.1 < 50
        · rw [if_pos h50]; exact hv d h50 d0
        · rw [if_neg h50]
    · rw [hE2 c (by omega), nA2 c (by omega), nA1 c (fun z => by rw [z] at hc9; exact absurd hc9 (by decide))]
  exact W.vret hx hb hr (fun t9 ht9 hW9 => ⟨⟨(V11ppppp, AE), rfl, hfin, by show g_P D V11ppppp AE B t9.heap; rw [ht9]; exact hG⟩, hS.F ht9⟩) hS.2.2 dX5_init_76
