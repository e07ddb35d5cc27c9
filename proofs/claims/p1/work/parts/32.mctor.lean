section NEWM
variable {p : Program} {l : Launch} {e : Env} {R : Room} {s : State} {m : MethodId} {args : Array Value} {below : List Frame} {meth : Method} {c : Code} {H : Heap} {locs : List Loc} {cells slots : Nat} {Q : State → Prop}
variable {cc : ByteArray} {pc : Nat} {ls : Array Slot} {rest : List Value} {D : va_G} {C : g_C} {E : m_C} {v : g_k → Option va_E} {ad : g_k → Nat} {B : Nat} {H0 : Heap}
theorem g_newaZ (hx : p.tables.exec = Jvm.exec) (hb : c.code = cc) (harr : (Cond.arrayClass .boolean).before args s = true) (hK2 : va_K D vwCl (m_T E) s) (hG : g_P D v ad B H) (hS : va_S (g_A B) H0 H locs) (hB : B ≤ H0.size) (cd : g_k) (hcd : v cd = none) {n : Nat} (hn : n < 2 ^ 25) (hcells : cells + 1 ≤ R.cells) (hslots : slots + n ≤ R.slots) (hdg : decode cc pc = .ok (.newarray .boolean, 2))
    (kk : ∀ (q : Nat) (H1 : Heap), g_P D (k_up v cd (some (.inl (E.1, n, .inl (fun _ => 0))))) (k_up ad cd q) B H1 → va_S (g_A B) H0 H1 locs → W p l e R s m args below meth c H1 locs (cells + 1) (slots + n) Q (F0 m (pc + 2) ls (.ref q :: rest))) : W p l e R s m args below meth c H locs cells slots Q (F0 m pc ls (.int (nI n) :: rest)) := by
  obtain ⟨L, h1, h2, h3⟩ := g_P_ws hG
  have hn31 : n < 2 ^ 31 := Nat.lt_trans hn (by decide)
  refine va_newaK (N := n) hx hb (atype := .boolean) harr rfl hdg rfl (nI_pos hn31) (nI_clamp hn31) (by show n * 1 ≤ 536870912; omega) hcells hslots rfl (fun H1 cA e1 z1 o1 hAr hNm => ?_)
  have hcA : cA = E.1 := Option.some.inj (hNm.symm.trans (show s.vm.findClass ("[" ++ (FieldType.boolean).toString) = some E.1 from (hK2.2 0 _ rfl).2))
  subst hcA
  have hP1 : va_P D vwCl (g_L v ad L ++ [(H.size, .inl (E.1, n, .inl (fun _ => 0)))]) H1 := (h1.kept (fun k x hx => o1 x.1 ((h1 k x hx).lt))).app (g_one e1)
  exact kk H.size H1 (g_P_push hG hcd h3 hP1 (h2.push h1 rfl (Nat.le_trans hB hS.1))) ⟨Nat.le_trans hS.1 (by omega), fun x a1 a2 => (o1 x (Nat.lt_of_lt_of_le a1 hS.1)).trans (hS.2.1 x a1 a2), hS.2.2⟩
theorem g_newaL (hx : p.tables.exec = Jvm.exec) (hb : c.code = cc) (harr : (Cond.arrayClass .long).before args s = true) (hK2 : va_K D vwCl (m_T E) s) (hG : g_P D v ad B H) (hS : va_S (g_A B) H0 H locs) (hB : B ≤ H0.size) (cd : g_k) (hcd : v cd = none) {n : Nat} (hn : n < 2 ^ 25) (hcells : cells + 1 ≤ R.cells) (hslots : slots + n ≤ R.slots) (hdg : decode cc pc = .ok (.newarray .long, 2))
    (kk : ∀ (q : Nat) (H1 : Heap), g_P D (k_up v cd (some (.inl (E.2, n, .inr (.inl (fun _ => 0)))))) (k_up ad cd q) B H1 → va_S (g_A B) H0 H1 locs → W p l e R s m args below meth c H1 locs (cells + 1) (slots + n) Q (F0 m (pc + 2) ls (.ref q :: rest))) : W p l e R s m args below meth c H locs cells slots Q (F0 m pc ls (.int (nI n) :: rest)) := by
  obtain ⟨L, h1, h2, h3⟩ := g_P_ws hG
  have hn31 : n < 2 ^ 31 := Nat.lt_trans hn (by decide)
  refine va_newaK (N := n) hx hb (atype := .long) harr rfl hdg rfl (nI_pos hn31) (nI_clamp hn31) (by show n * 8 ≤ 536870912; omega) hcells hslots rfl (fun H1 cA e1 z1 o1 hAr hNm => ?_)
  have hcA : cA = E.2 := Option.some.inj (hNm.symm.trans (show s.vm.findClass ("[" ++ (FieldType.long).toString) = some E.2 from (hK2.2 1 _ rfl).2))
  subst hcA
  have hP1 : va_P D vwCl (g_L v ad L ++ [(H.size, .inl (E.2, n, .inr (.inl (fun _ => 0))))]) H1 := (h1.kept (fun k x hx => o1 x.1 ((h1 k x hx).lt))).app (g_one e1)
  exact kk H.size H1 (g_P_push hG hcd h3 hP1 (h2.push h1 rfl (Nat.le_trans hB hS.1))) ⟨Nat.le_trans hS.1 (by omega), fun x a1 a2 => (o1 x (Nat.lt_of_lt_of_le a1 hS.1)).trans (hS.2.1 x a1 a2), hS.2.2⟩
end NEWM

set_option maxHeartbeats 8000000 in
set_option maxRecDepth 100000 in
theorem m_init (l : Launch) {D : va_G} {C : g_C} {E : m_C} {v : g_k → Option va_E} {ad : g_k → Nat} {B : Nat} (h0 : v (60, 0, 0) = some (.inr (6, [.null, .null, .null, .null, .null, .int 0, .int 0, .null, .null, .null, .null, .null, .null, .null, .int 0, .null, .int 0, .int 0, .int 0]))) (hv : ∀ c : g_k, 60 ≤ c.1 → c ≠ (60, 0, 0) → v c = none) : Met l yX6_init wsX6_init ({ frames := 1, cells := 13, slots := 63750, locals := 40 } : Room) (va_Pc [.ref (ad (60, 0, 0))] (m_S D C E v ad B)) (va_Qv (fun (u : (g_k → Option va_E) × (g_k → Nat)) => u.1 = mo E C (fun _ _ => 0) u.2 v ∧ (∀ c : g_k, (c.1 < 61 ∨ 73 < c.1) → u.2 c = ad c)) (fun u t => g_P D u.1 u.2 B t.heap) (g_A B)) 13 63750 (g_A B) := by
  refine Met.ofW (cc := cX6_init) (maxL := 1) (ret := none) (by decide) rfl ?_
  intro p e s m args below meth c s₁ B₀ hml hv9
  obtain ⟨rfl, ⟨hG, hF⟩, hK2, hCA⟩ := hv9
  have hK := hF.1
  have hN := hF.2.1
  have hB := hF.2.2.2
  have hx := B₀.exec
  have hb := B₀.bytes
  have hr := B₀.returns
  have hts := atoms_spec (ws := wsX6_init) B₀.pre
  have hown : s.vm.findClass RX6 = some m.cls := findClass_of_methodNamed B₀.named
  have hlocks := B₀.notSynchronized
  have hin : meth.name = "<init>" := (name_of_methodNamed B₀.named B₀.method).1
  have hS : va_S (g_A B) s.heap s.heap [] := va_S.rf
  have hi6 : ∀ w ∈ wsX60, w ∈ wsX6_init := by decide +kernel
  have hl := lv_entry [.ref (ad (60, 0, 0))] (n := 1) (Nat.le_of_ble_eq_true rfl)
  rw [lg_entry_eq]
  generalize (lg_sl [.ref (ad (60, 0, 0))] ++ List.replicate (1 - (lg_sl [.ref (ad (60, 0, 0))]).length) Slot.unset).toArray = ls at hl ⊢
  have hl : lv_has ls 1 [(0, .ref (ad (60, 0, 0)))] := hl
  refine lv_aload_n hx hb dX6_init_0 rfl (lv_at hl 0 rfl) ?_
  refine W.objInit hx hb hown (hts (.methodLink RX6 1 objectInit) (by decide +kernel)) (hts (.instanceMethod objectInit) (by decide +kernel)) (hts (.code objectInit ⟨#[0xb1]⟩ 1 none) (by decide +kernel)) rfl (by rw [hml]; exact hl.1) rfl dX6_init_1 (Nat.le_of_ble_eq_true rfl) (Nat.le_of_ble_eq_true rfl) ?_
  refine W.eq (g2 := F0 m 4 ls []) rfl ?_
  have v0v := h0
  have a0ad : ad (60, 0, 0) = ad (60, 0, 0) := rfl
  refine lv_aload_n hx hb dX6_init_4 rfl (lv_at hl 0 rfl) ?_
  refine lv_bipush (v := nI 10) hx hb dX6_init_5 (by decide) ?_
  refine g_newa hx hb (hts (.arrayClass .int) (by decide +kernel)) hK hG hS hB (61, 0, 0) (hv _ (by decide) (by decide)) (by decide) (Nat.le_of_ble_eq_true rfl) (Nat.le_of_ble_eq_true rfl) dX6_init_7 (fun q1 H _ hG hS => ?_)
  obtain ⟨A1, eA1⟩ : ∃ z, z = k_up ad (61, 0, 0) q1 := ⟨_, rfl⟩
  rw [← eA1] at hG
  obtain ⟨V1, eV1⟩ : ∃ z, z = k_up v (61, 0, 0) (some (.inl (C.1, 10, .inl (fun _ => 0)))) := ⟨_, rfl⟩
  rw [← eV1] at hG
  have sA1 : A1 (61, 0, 0) = q1 := by rw [eA1, k_up_self]
  have nA1 : ∀ c, c ≠ (61, 0, 0) → A1 c = ad c := fun c hc9 => by rw [eA1, k_up_ne _ _ hc9]
  have sV1 : V1 (61, 0, 0) = some (.inl (C.1, 10, .inl (fun _ => 0))) := by rw [eV1, k_up_self]
  have nV1 : ∀ c, c ≠ (61, 0, 0) → V1 c = v c := fun c hc9 => by rw [eV1, k_up_ne _ _ hc9]
  have v0V1 : V1 (60, 0, 0) = some (.inr (6, [.null, .null, .null, .null, .null, .int 0, .int 0, .null, .null, .null, .null, .null, .null, .null, .int 0, .null, .int 0, .int 0, .int 0])) := by rw [nV1 _ (by decide)]; exact v0v
  have a0A1 : A1 (60, 0, 0) = ad (60, 0, 0) := by exact (nA1 _ (by decide)).trans a0ad
  refine W.eq (g2 := F0 m 9 ls [.ref (A1 (61, 0, 0)), .ref (ad (60, 0, 0))]) (by rw [sA1]) ?_
  refine g_puta hx hb hts hi6 tyX6 tyX6_ok nmX6 hown hK hG hS (ci := 6) (cd := (60, 0, 0)) (by exact a0A1) (fs := [.null, .null, .null, .null, .null, .int 0, .int 0, .null, .null, .null, .null, .null, .null, .null, .int 0, .null, .int 0, .int 0, .int 0]) (by exact v0V1) rfl 0 (by decide) (hts (.fieldLink RX6 7 "SatelliteringModel" "place" "[I") (by decide +kernel)) (Or.inr ⟨rfl, hin, rfl⟩) rfl rfl (by simp) dX6_init_9 (fun H locs hG hS => ?_)
  obtain ⟨V1p, eV1p⟩ : ∃ z, z = k_up V1 (60, 0, 0) (some (.inr (6, [.ref (A1 (61, 0, 0)), .null, .null, .null, .null, .int 0, .int 0, .null, .null, .null, .null, .null, .null, .null, .int 0, .null, .int 0, .int 0, .int 0]))) := ⟨_, rfl⟩
  have hG : g_P D V1p A1 B H := by rw [eV1p]; exact hG
  have v0V1p : V1p (60, 0, 0) = some (.inr (6, [.ref (A1 (61, 0, 0)), .null, .null, .null, .null, .int 0, .int 0, .null, .null, .null, .null, .null, .null, .null, .int 0, .null, .int 0, .int 0, .int 0])) := by rw [eV1p, k_up_self]
  have nV1p : ∀ c, c ≠ (60, 0, 0) → V1p c = V1 c := fun c hc9 => by rw [eV1p, k_up_ne _ _ hc9]
  refine lv_aload_n hx hb dX6_init_12 rfl (lv_at hl 0 rfl) ?_
  refine lv_bipush (v := nI 10) hx hb dX6_init_13 (by decide) ?_
  refine g_newa hx hb (hts (.arrayClass .int) (by decide +kernel)) hK hG hS hB (62, 0, 0) (by rw [nV1p _ (by decide), nV1 _ (by decide)]; exact hv _ (by decide) (by decide)) (by decide) (Nat.le_of_ble_eq_true rfl) (Nat.le_of_ble_eq_true rfl) dX6_init_15 (fun q2 H _ hG hS => ?_)
  obtain ⟨A2, eA2⟩ : ∃ z, z = k_up A1 (62, 0, 0) q2 := ⟨_, rfl⟩
  rw [← eA2] at hG
  obtain ⟨V2, eV2⟩ : ∃ z, z = k_up V1p (62, 0, 0) (some (.inl (C.1, 10, .inl (fun _ => 0)))) := ⟨_, rfl⟩
  rw [← eV2] at hG
  have sA2 : A2 (62, 0, 0) = q2 := by rw [eA2, k_up_self]
  have nA2 : ∀ c, c ≠ (62, 0, 0) → A2 c = A1 c := fun c hc9 => by rw [eA2, k_up_ne _ _ hc9]
  have sV2 : V2 (62, 0, 0) = some (.inl (C.1, 10, .inl (fun _ => 0))) := by rw [eV2, k_up_self]
  have nV2 : ∀ c, c ≠ (62, 0, 0) → V2 c = V1p c := fun c hc9 => by rw [eV2, k_up_ne _ _ hc9]
  have v0V2 : V2 (60, 0, 0) = some (.inr (6, [.ref (A1 (61, 0, 0)), .null, .null, .null, .null, .int 0, .int 0, .null, .null, .null, .null, .null, .null, .null, .int 0, .null, .int 0, .int 0, .int 0])) := by rw [nV2 _ (by decide)]; exact v0V1p
  have a0A2 : A2 (60, 0, 0) = ad (60, 0, 0) := by exact (nA2 _ (by decide)).trans a0A1
  refine W.eq (g2 := F0 m 17 ls [.ref (A2 (62, 0, 0)), .ref (ad (60, 0, 0))]) (by rw [sA2]) ?_
  refine g_puta hx hb hts hi6 tyX6 tyX6_ok nmX6 hown hK hG hS (ci := 6) (cd := (60, 0, 0)) (by exact a0A2) (fs := [.ref (A1 (61, 0, 0)), .null, .null, .null, .null, .int 0, .int 0, .null, .null, .null, .null, .null, .null, .null, .int 0, .null, .int 0, .int 0, .int 0]) (by exact v0V2) rfl 1 (by decide) (hts (.fieldLink RX6 13 "SatelliteringModel" "speed" "[I") (by decide +kernel)) (Or.inr ⟨rfl, hin, rfl⟩) rfl rfl (by simp) dX6_init_17 (fun H locs hG hS => ?_)
  obtain ⟨V2p, eV2p⟩ : ∃ z, z = k_up V2 (60, 0, 0) (some (.inr (6, [.ref (A1 (61, 0, 0)), .ref (A2 (62, 0, 0)), .null, .null, .null, .int 0, .int 0, .null, .null, .null, .null, .null, .null, .null, .int 0, .null, .int 0, .int 0, .int 0]))) := ⟨_, rfl⟩
  have hG : g_P D V2p A2 B H := by rw [eV2p]; exact hG
  have v0V2p : V2p (60, 0, 0) = some (.inr (6, [.ref (A1 (61, 0, 0)), .ref (A2 (62, 0, 0)), .null, .null, .null, .int 0, .int 0, .null, .null, .null, .null, .null, .null, .null, .int 0, .null, .int 0, .int 0, .int 0])) := by rw [eV2p, k_up_self]
  have nV2p : ∀ c, c ≠ (60, 0, 0) → V2p c = V2 c := fun c hc9 => by rw [eV2p, k_up_ne _ _ hc9]
  refine lv_aload_n hx hb dX6_init_20 rfl (lv_at hl 0 rfl) ?_
  refine lv_bipush (v := nI 10) hx hb dX6_init_21 (by decide) ?_
  refine g_newa hx hb (hts (.arrayClass .int) (by decide +kernel)) hK hG hS hB (63, 0, 0) (by rw [nV2p _ (by decide), nV2 _ (by decide), nV1p _ (by decide), nV1 _ (by decide)]; exact hv _ (by decide) (by decide)) (by decide) (Nat.le_of_ble_eq_true rfl) (Nat.le_of_ble_eq_true rfl) dX6_init_23 (fun q3 H _ hG hS => ?_)
  obtain ⟨A3, eA3⟩ : ∃ z, z = k_up A2 (63, 0, 0) q3 := ⟨_, rfl⟩
  rw [← eA3] at hG
  obtain ⟨V3, eV3⟩ : ∃ z, z = k_up V2p (63, 0, 0) (some (.inl (C.1, 10, .inl (fun _ => 0)))) := ⟨_, rfl⟩
  rw [← eV3] at hG
  have sA3 : A3 (63, 0, 0) = q3 := by rw [eA3, k_up_self]
  have nA3 : ∀ c, c ≠ (63, 0, 0) → A3 c = A2 c := fun c hc9 => by rw [eA3, k_up_ne _ _ hc9]
  have sV3 : V3 (63, 0, 0) = some (.inl (C.1, 10, .inl (fun _ => 0))) := by rw [eV3, k_up_self]
  have nV3 : ∀ c, c ≠ (63, 0, 0) → V3 c = V2p c := fun c hc9 => by rw [eV3, k_up_ne _ _ hc9]
  have v0V3 : V3 (60, 0, 0) = some (.inr (6, [.ref (A1 (61, 0, 0)), .ref (A2 (62, 0, 0)), .null, .null, .null, .int 0, .int 0, .null, .null, .null, .null, .null, .null, .null, .int 0, .null, .int 0, .int 0, .int 0])) := by rw [nV3 _ (by decide)]; exact v0V2p
  have a0A3 : A3 (60, 0, 0) = ad (60, 0, 0) := by exact (nA3 _ (by decide)).trans a0A2
  refine W.eq (g2 := F0 m 25 ls [.ref (A3 (63, 0, 0)), .ref (ad (60, 0, 0))]) (by rw [sA3]) ?_
  refine g_puta hx hb hts hi6 tyX6 tyX6_ok nmX6 hown hK hG hS (ci := 6) (cd := (60, 0, 0)) (by exact a0A3) (fs := [.ref (A1 (61, 0, 0)), .ref (A2 (62, 0, 0)), .null, .null, .null, .int 0, .int 0, .null, .null, .null, .null, .null, .null, .null, .int 0, .null, .int 0, .int 0, .int 0]) (by exact v0V3) rfl 2 (by decide) (hts (.fieldLink RX6 16 "SatelliteringModel" "reach" "[I") (by decide +kernel)) (Or.inr ⟨rfl, hin, rfl⟩) rfl rfl (by simp) dX6_init_25 (fun H locs hG hS => ?_)
  obtain ⟨V3p, eV3p⟩ : ∃ z, z = k_up V3 (60, 0, 0) (some (.inr (6, [.ref (A1 (61, 0, 0)), .ref (A2 (62, 0, 0)), .ref (A3 (63, 0, 0)), .null, .null, .int 0, .int 0, .null, .null, .null, .null, .null, .null, .null, .int 0, .null, .int 0, .int 0, .int 0]))) := ⟨_, rfl⟩
  have hG : g_P D V3p A3 B H := by rw [eV3p]; exact hG
  have v0V3p : V3p (60, 0, 0) = some (.inr (6, [.ref (A1 (61, 0, 0)), .ref (A2 (62, 0, 0)), .ref (A3 (63, 0, 0)), .null, .null, .int 0, .int 0, .null, .null, .null, .null, .null, .null, .null, .int 0, .null, .int 0, .int 0, .int 0])) := by rw [eV3p, k_up_self]
  have nV3p : ∀ c, c ≠ (60, 0, 0) → V3p c = V3 c := fun c hc9 => by rw [eV3p, k_up_ne _ _ hc9]
  refine lv_aload_n hx hb dX6_init_28 rfl (lv_at hl 0 rfl) ?_
  refine lv_bipush (v := nI 10) hx hb dX6_init_29 (by decide) ?_
  refine g_newa hx hb (hts (.arrayClass .int) (by decide +kernel)) hK hG hS hB (64, 0, 0) (by rw [nV3p _ (by decide), nV3 _ (by decide), nV2p _ (by decide), nV2 _ (by decide), nV1p _ (by decide), nV1 _ (by decide)]; exact hv _ (by decide) (by decide)) (by decide) (Nat.le_of_ble_eq_true rfl) (Nat.le_of_ble_eq_true rfl) dX6_init_31 (fun q4 H _ hG hS => ?_)
  obtain ⟨A4, eA4⟩ : ∃ z, z = k_up A3 (64, 0, 0) q4 := ⟨_, rfl⟩
  rw [← eA4] at hG
  obtain ⟨V4, eV4⟩ : ∃ z, z = k_up V3p (64, 0, 0) (some (.inl (C.1, 10, .inl (fun _ => 0)))) := ⟨_, rfl⟩
  rw [← eV4] at hG
  have sA4 : A4 (64, 0, 0) = q4 := by rw [eA4, k_up_self]
  have nA4 : ∀ c, c ≠ (64, 0, 0) → A4 c = A3 c := fun c hc9 => by rw [eA4, k_up_ne _ _ hc9]
  have sV4 : V4 (64, 0, 0) = some (.inl (C.1, 10, .inl (fun _ => 0))) := by rw [eV4, k_up_self]
  have nV4 : ∀ c, c ≠ (64, 0, 0) → V4 c = V3p c := fun c hc9 => by rw [eV4, k_up_ne _ _ hc9]
  have v0V4 : V4 (60, 0, 0) = some (.inr (6, [.ref (A1 (61, 0, 0)), .ref (A2 (62, 0, 0)), .ref (A3 (63, 0, 0)), .null, .null, .int 0, .int 0, .null, .null, .null, .null, .null, .null, .null, .int 0, .null, .int 0, .int 0, .int 0])) := by rw [nV4 _ (by decide)]; exact v0V3p
  have a0A4 : A4 (60, 0, 0) = ad (60, 0, 0) := by exact (nA4 _ (by decide)).trans a0A3
  refine W.eq (g2 := F0 m 33 ls [.ref (A4 (64, 0, 0)), .ref (ad (60, 0, 0))]) (by rw [sA4]) ?_
  refine g_puta hx hb hts hi6 tyX6 tyX6_ok nmX6 hown hK hG hS (ci := 6) (cd := (60, 0, 0)) (by exact a0A4) (fs := [.ref (A1 (61, 0, 0)), .ref (A2 (62, 0, 0)), .ref (A3 (63, 0, 0)), .null, .null, .int 0, .int 0, .null, .null, .null, .null, .null, .null, .null, .int 0, .null, .int 0, .int 0, .int 0]) (by exact v0V4) rfl 3 (by decide) (hts (.fieldLink RX6 19 "SatelliteringModel" "capacity" "[I") (by decide +kernel)) (Or.inr ⟨rfl, hin, rfl⟩) rfl rfl (by simp) dX6_init_33 (fun H locs hG hS => ?_)
  obtain ⟨V4p, eV4p⟩ : ∃ z, z = k_up V4 (60, 0, 0) (some (.inr (6, [.ref (A1 (61, 0, 0)), .ref (A2 (62, 0, 0)), .ref (A3 (63, 0, 0)), .ref (A4 (64, 0, 0)), .null, .int 0, .int 0, .null, .null, .null, .null, .null, .null, .null, .int 0, .null, .int 0, .int 0, .int 0]))) := ⟨_, rfl⟩
  have hG : g_P D V4p A4 B H := by rw [eV4p]; exact hG
  have v0V4p : V4p (60, 0, 0) = some (.inr (6, [.ref (A1 (61, 0, 0)), .ref (A2 (62, 0, 0)), .ref (A3 (63, 0, 0)), .ref (A4 (64, 0, 0)), .null, .int 0, .int 0, .null, .null, .null, .null, .null, .null, .null, .int 0, .null, .int 0, .int 0, .int 0])) := by rw [eV4p, k_up_self]
  have nV4p : ∀ c, c ≠ (60, 0, 0) → V4p c = V4 c := fun c hc9 => by rw [eV4p, k_up_ne _ _ hc9]
  refine lv_aload_n hx hb dX6_init_36 rfl (lv_at hl 0 rfl) ?_
  refine lv_bipush (v := nI 10) hx hb dX6_init_37 (by decide) ?_
  refine g_newaZ hx hb (hts (.arrayClass .boolean) (by decide +kernel)) hK2 hG hS hB (65, 0, 0) (by rw [nV4p _ (by decide), nV4 _ (by decide), nV3p _ (by decide), nV3 _ (by decide), nV2p _ (by decide), nV2 _ (by decide), nV1p _ (by decide), nV1 _ (by decide)]; exact hv _ (by decide) (by decide)) (by decide) (Nat.le_of_ble_eq_true rfl) (Nat.le_of_ble_eq_true rfl) dX6_init_39 (fun q5 H hG hS => ?_)
  obtain ⟨A5, eA5⟩ : ∃ z, z = k_up A4 (65, 0, 0) q5 := ⟨_, rfl⟩
  rw [← eA5] at hG
  obtain ⟨V5, eV5⟩ : ∃ z, z = k_up V4p (65, 0, 0) (some (.inl (E.1, 10, .inl (fun _ => 0)))) := ⟨_, rfl⟩
  rw [← eV5] at hG
  have sA5 : A5 (65, 0, 0) = q5 := by rw [eA5, k_up_self]
  have nA5 : ∀ c, c ≠ (65, 0, 0) → A5 c = A4 c := fun c hc9 => by rw [eA5, k_up_ne _ _ hc9]
  have sV5 : V5 (65, 0, 0) = some (.inl (E.1, 10, .inl (fun _ => 0))) := by rw [eV5, k_up_self]
  have nV5 : ∀ c, c ≠ (65, 0, 0) → V5 c = V4p c := fun c hc9 => by rw [eV5, k_up_ne _ _ hc9]
  have v0V5 : V5 (60, 0, 0) = some (.inr (6, [.ref (A1 (61, 0, 0)), .ref (A2 (62, 0, 0)), .ref (A3 (63, 0, 0)), .ref (A4 (64, 0, 0)), .null, .int 0, .int 0, .null, .null, .null, .null, .null, .null, .null, .int 0, .null, .int 0, .int 0, .int 0])) := by rw [nV5 _ (by decide)]; exact v0V4p
  have a0A5 : A5 (60, 0, 0) = ad (60, 0, 0) := by exact (nA5 _ (by decide)).trans a0A4
  refine W.eq (g2 := F0 m 41 ls [.ref (A5 (65, 0, 0)), .ref (ad (60, 0, 0))]) (by rw [sA5]) ?_
  refine g_puta hx hb hts hi6 tyX6 tyX6_ok nmX6 hown hK hG hS (ci := 6) (cd := (60, 0, 0)) (by exact a0A5) (fs := [.ref (A1 (61, 0, 0)), .ref (A2 (62, 0, 0)), .ref (A3 (63, 0, 0)), .ref (A4 (64, 0, 0)), .null, .int 0, .int 0, .null, .null, .null, .null, .null, .null, .null, .int 0, .null, .int 0, .int 0, .int 0]) (by exact v0V5) rfl 4 (by decide) (hts (.fieldLink RX6 22 "SatelliteringModel" "isRelay" "[Z") (by decide +kernel)) (Or.inr ⟨rfl, hin, rfl⟩) rfl rfl (by simp) dX6_init_41 (fun H locs hG hS => ?_)
  obtain ⟨V5p, eV5p⟩ : ∃ z, z = k_up V5 (60, 0, 0) (some (.inr (6, [.ref (A1 (61, 0, 0)), .ref (A2 (62, 0, 0)), .ref (A3 (63, 0, 0)), .ref (A4 (64, 0, 0)), .ref (A5 (65, 0, 0)), .int 0, .int 0, .null, .null, .null, .null, .null, .null, .null, .int 0, .null, .int 0, .int 0, .int 0]))) := ⟨_, rfl⟩
  have hG : g_P D V5p A5 B H := by rw [eV5p]; exact hG
  have v0V5p : V5p (60, 0, 0) = some (.inr (6, [.ref (A1 (61, 0, 0)), .ref (A2 (62, 0, 0)), .ref (A3 (63, 0, 0)), .ref (A4 (64, 0, 0)), .ref (A5 (65, 0, 0)), .int 0, .int 0, .null, .null, .null, .null, .null, .null, .null, .int 0, .null, .int 0, .int 0, .int 0])) := by rw [eV5p, k_up_self]
  have nV5p : ∀ c, c ≠ (60, 0, 0) → V5p c = V5 c := fun c hc9 => by rw [eV5p, k_up_ne _ _ hc9]
  refine lv_aload_n hx hb dX6_init_44 rfl (lv_at hl 0 rfl) ?_
  refine lv_sipush (v := nI 3600) hx hb dX6_init_45 (by decide) ?_
  refine g_newa hx hb (hts (.arrayClass .int) (by decide +kernel)) hK hG hS hB (66, 0, 0) (by rw [nV5p _ (by decide), nV5 _ (by decide), nV4p _ (by decide), nV4 _ (by decide), nV3p _ (by decide), nV3 _ (by decide), nV2p _ (by decide), nV2 _ (by decide), nV1p _ (by decide), nV1 _ (by decide)]; exact hv _ (by decide) (by decide)) (by decide) (Nat.le_of_ble_eq_true rfl) (Nat.le_of_ble_eq_true rfl) dX6_init_48 (fun q6 H _ hG hS => ?_)
  obtain ⟨A6, eA6⟩ : ∃ z, z = k_up A5 (66, 0, 0) q6 := ⟨_, rfl⟩
  rw [← eA6] at hG
  obtain ⟨V6, eV6⟩ : ∃ z, z = k_up V5p (66, 0, 0) (some (.inl (C.1, 3600, .inl (fun _ => 0)))) := ⟨_, rfl⟩
  rw [← eV6] at hG
  have sA6 : A6 (66, 0, 0) = q6 := by rw [eA6, k_up_self]
  have nA6 : ∀ c, c ≠ (66, 0, 0) → A6 c = A5 c := fun c hc9 => by rw [eA6, k_up_ne _ _ hc9]
  have sV6 : V6 (66, 0, 0) = some (.inl (C.1, 3600, .inl (fun _ => 0))) := by rw [eV6, k_up_self]
  have nV6 : ∀ c, c ≠ (66, 0, 0) → V6 c = V5p c := fun c hc9 => by rw [eV6, k_up_ne _ _ hc9]
  have v0V6 : V6 (60, 0, 0) = some (.inr (6, [.ref (A1 (61, 0, 0)), .ref (A2 (62, 0, 0)), .ref (A3 (63, 0, 0)), .ref (A4 (64, 0, 0)), .ref (A5 (65, 0, 0)), .int 0, .int 0, .null, .null, .null, .null, .null, .null, .null, .int 0, .null, .int 0, .int 0, .int 0])) := by rw [nV6 _ (by decide)]; exact v0V5p
  have a0A6 : A6 (60, 0, 0) = ad (60, 0, 0) := by exact (nA6 _ (by decide)).trans a0A5
  refine W.eq (g2 := F0 m 50 ls [.ref (A6 (66, 0, 0)), .ref (ad (60, 0, 0))]) (by rw [sA6]) ?_
  refine g_puta hx hb hts hi6 tyX6 tyX6_ok nmX6 hown hK hG hS (ci := 6) (cd := (60, 0, 0)) (by exact a0A6) (fs := [.ref (A1 (61, 0, 0)), .ref (A2 (62, 0, 0)), .ref (A3 (63, 0, 0)), .ref (A4 (64, 0, 0)), .ref (A5 (65, 0, 0)), .int 0, .int 0, .null, .null, .null, .null, .null, .null, .null, .int 0, .null, .int 0, .int 0, .int 0]) (by exact v0V6) rfl 7 (by decide) (hts (.fieldLink RX6 26 "SatelliteringModel" "seen" "[I") (by decide +kernel)) (Or.inr ⟨rfl, hin, rfl⟩) rfl rfl (by simp) dX6_init_50 (fun H locs hG hS => ?_)
  obtain ⟨V6p, eV6p⟩ : ∃ z, z = k_up V6 (60, 0, 0) (some (.inr (6, [.ref (A1 (61, 0, 0)), .ref (A2 (62, 0, 0)), .ref (A3 (63, 0, 0)), .ref (A4 (64, 0, 0)), .ref (A5 (65, 0, 0)), .int 0, .int 0, .ref (A6 (66, 0, 0)), .null, .null, .null, .null, .null, .null, .int 0, .null, .int 0, .int 0, .int 0]))) := ⟨_, rfl⟩
  have hG : g_P D V6p A6 B H := by rw [eV6p]; exact hG
  have v0V6p : V6p (60, 0, 0) = some (.inr (6, [.ref (A1 (61, 0, 0)), .ref (A2 (62, 0, 0)), .ref (A3 (63, 0, 0)), .ref (A4 (64, 0, 0)), .ref (A5 (65, 0, 0)), .int 0, .int 0, .ref (A6 (66, 0, 0)), .null, .null, .null, .null, .null, .null, .int 0, .null, .int 0, .int 0, .int 0])) := by rw [eV6p, k_up_self]
  have nV6p : ∀ c, c ≠ (60, 0, 0) → V6p c = V6 c := fun c hc9 => by rw [eV6p, k_up_ne _ _ hc9]
  refine lv_aload_n hx hb dX6_init_53 rfl (lv_at hl 0 rfl) ?_
  refine lv_bipush (v := nI 10) hx hb dX6_init_54 (by decide) ?_
  refine g_newa hx hb (hts (.arrayClass .int) (by decide +kernel)) hK hG hS hB (67, 0, 0) (by rw [nV6p _ (by decide), nV6 _ (by decide), nV5p _ (by decide), nV5 _ (by decide), nV4p _ (by decide), nV4 _ (by decide), nV3p _ (by decide), nV3 _ (by decide), nV2p _ (by decide), nV2 _ (by decide), nV1p _ (by decide), nV1 _ (by decide)]; exact hv _ (by decide) (by decide)) (by decide) (Nat.le_of_ble_eq_true rfl) (Nat.le_of_ble_eq_true rfl) dX6_init_56 (fun q7 H _ hG hS => ?_)
  obtain ⟨A7, eA7⟩ : ∃ z, z = k_up A6 (67, 0, 0) q7 := ⟨_, rfl⟩
  rw [← eA7] at hG
  obtain ⟨V7, eV7⟩ : ∃ z, z = k_up V6p (67, 0, 0) (some (.inl (C.1, 10, .inl (fun _ => 0)))) := ⟨_, rfl⟩
  rw [← eV7] at hG
  have sA7 : A7 (67, 0, 0) = q7 := by rw [eA7, k_up_self]
  have nA7 : ∀ c, c ≠ (67, 0, 0) → A7 c = A6 c := fun c hc9 => by rw [eA7, k_up_ne _ _ hc9]
  have sV7 : V7 (67, 0, 0) = some (.inl (C.1, 10, .inl (fun _ => 0))) := by rw [eV7, k_up_self]
  have nV7 : ∀ c, c ≠ (67, 0, 0) → V7 c = V6p c := fun c hc9 => by rw [eV7, k_up_ne _ _ hc9]
  have v0V7 : V7 (60, 0, 0) = some (.inr (6, [.ref (A1 (61, 0, 0)), .ref (A2 (62, 0, 0)), .ref (A3 (63, 0, 0)), .ref (A4 (64, 0, 0)), .ref (A5 (65, 0, 0)), .int 0, .int 0, .ref (A6 (66, 0, 0)), .null, .null, .null, .null, .null, .null, .int 0, .null, .int 0, .int 0, .int 0])) := by rw [nV7 _ (by decide)]; exact v0V6p
  have a0A7 : A7 (60, 0, 0) = ad (60, 0, 0) := by exact (nA7 _ (by decide)).trans a0A6
  refine W.eq (g2 := F0 m 58 ls [.ref (A7 (67, 0, 0)), .ref (ad (60, 0, 0))]) (by rw [sA7]) ?_
  refine g_puta hx hb hts hi6 tyX6 tyX6_ok nmX6 hown hK hG hS (ci := 6) (cd := (60, 0, 0)) (by exact a0A7) (fs := [.ref (A1 (61, 0, 0)), .ref (A2 (62, 0, 0)), .ref (A3 (63, 0, 0)), .ref (A4 (64, 0, 0)), .ref (A5 (65, 0, 0)), .int 0, .int 0, .ref (A6 (66, 0, 0)), .null, .null, .null, .null, .null, .null, .int 0, .null, .int 0, .int 0, .int 0]) (by exact v0V7) rfl 8 (by decide) (hts (.fieldLink RX6 29 "SatelliteringModel" "relay" "[I") (by decide +kernel)) (Or.inr ⟨rfl, hin, rfl⟩) rfl rfl (by simp) dX6_init_58 (fun H locs hG hS => ?_)
  obtain ⟨V7p, eV7p⟩ : ∃ z, z = k_up V7 (60, 0, 0) (some (.inr (6, [.ref (A1 (61, 0, 0)), .ref (A2 (62, 0, 0)), .ref (A3 (63, 0, 0)), .ref (A4 (64, 0, 0)), .ref (A5 (65, 0, 0)), .int 0, .int 0, .ref (A6 (66, 0, 0)), .ref (A7 (67, 0, 0)), .null, .null, .null, .null, .null, .int 0, .null, .int 0, .int 0, .int 0]))) := ⟨_, rfl⟩
  have hG : g_P D V7p A7 B H := by rw [eV7p]; exact hG
  have v0V7p : V7p (60, 0, 0) = some (.inr (6, [.ref (A1 (61, 0, 0)), .ref (A2 (62, 0, 0)), .ref (A3 (63, 0, 0)), .ref (A4 (64, 0, 0)), .ref (A5 (65, 0, 0)), .int 0, .int 0, .ref (A6 (66, 0, 0)), .ref (A7 (67, 0, 0)), .null, .null, .null, .null, .null, .int 0, .null, .int 0, .int 0, .int 0])) := by rw [eV7p, k_up_self]
  have nV7p : ∀ c, c ≠ (60, 0, 0) → V7p c = V7 c := fun c hc9 => by rw [eV7p, k_up_ne _ _ hc9]
  refine lv_aload_n hx hb dX6_init_61 rfl (lv_at hl 0 rfl) ?_
  refine lv_bipush (v := nI 10) hx hb dX6_init_62 (by decide) ?_
  refine g_newa hx hb (hts (.arrayClass .int) (by decide +kernel)) hK hG hS hB (68, 0, 0) (by rw [nV7p _ (by decide), nV7 _ (by decide), nV6p _ (by decide), nV6 _ (by decide), nV5p _ (by decide), nV5 _ (by decide), nV4p _ (by decide), nV4 _ (by decide), nV3p _ (by decide), nV3 _ (by decide), nV2p _ (by decide), nV2 _ (by decide), nV1p _ (by decide), nV1 _ (by decide)]; exact hv _ (by decide) (by decide)) (by decide) (Nat.le_of_ble_eq_true rfl) (Nat.le_of_ble_eq_true rfl) dX6_init_64 (fun q8 H _ hG hS => ?_)
  obtain ⟨A8, eA8⟩ : ∃ z, z = k_up A7 (68, 0, 0) q8 := ⟨_, rfl⟩
  rw [← eA8] at hG
  obtain ⟨V8, eV8⟩ : ∃ z, z = k_up V7p (68, 0, 0) (some (.inl (C.1, 10, .inl (fun _ => 0)))) := ⟨_, rfl⟩
  rw [← eV8] at hG
  have sA8 : A8 (68, 0, 0) = q8 := by rw [eA8, k_up_self]
  have nA8 : ∀ c, c ≠ (68, 0, 0) → A8 c = A7 c := fun c hc9 => by rw [eA8, k_up_ne _ _ hc9]
  have sV8 : V8 (68, 0, 0) = some (.inl (C.1, 10, .inl (fun _ => 0))) := by rw [eV8, k_up_self]
  have nV8 : ∀ c, c ≠ (68, 0, 0) → V8 c = V7p c := fun c hc9 => by rw [eV8, k_up_ne _ _ hc9]
  have v0V8 : V8 (60, 0, 0) = some (.inr (6, [.ref (A1 (61, 0, 0)), .ref (A2 (62, 0, 0)), .ref (A3 (63, 0, 0)), .ref (A4 (64, 0, 0)), .ref (A5 (65, 0, 0)), .int 0, .int 0, .ref (A6 (66, 0, 0)), .ref (A7 (67, 0, 0)), .null, .null, .null, .null, .null, .int 0, .null, .int 0, .int 0, .int 0])) := by rw [nV8 _ (by decide)]; exact v0V7p
  have a0A8 : A8 (60, 0, 0) = ad (60, 0, 0) := by exact (nA8 _ (by decide)).trans a0A7
  refine W.eq (g2 := F0 m 66 ls [.ref (A8 (68, 0, 0)), .ref (ad (60, 0, 0))]) (by rw [sA8]) ?_
  refine g_puta hx hb hts hi6 tyX6 tyX6_ok nmX6 hown hK hG hS (ci := 6) (cd := (60, 0, 0)) (by exact a0A8) (fs := [.ref (A1 (61, 0, 0)), .ref (A2 (62, 0, 0)), .ref (A3 (63, 0, 0)), .ref (A4 (64, 0, 0)), .ref (A5 (65, 0, 0)), .int 0, .int 0, .ref (A6 (66, 0, 0)), .ref (A7 (67, 0, 0)), .null, .null, .null, .null, .null, .int 0, .null, .int 0, .int 0, .int 0]) (by exact v0V8) rfl 9 (by decide) (hts (.fieldLink RX6 32 "SatelliteringModel" "handovers" "[I") (by decide +kernel)) (Or.inr ⟨rfl, hin, rfl⟩) rfl rfl (by simp) dX6_init_66 (fun H locs hG hS => ?_)
  obtain ⟨V8p, eV8p⟩ : ∃ z, z = k_up V8 (60, 0, 0) (some (.inr (6, [.ref (A1 (61, 0, 0)), .ref (A2 (62, 0, 0)), .ref (A3 (63, 0, 0)), .ref (A4 (64, 0, 0)), .ref (A5 (65, 0, 0)), .int 0, .int 0, .ref (A6 (66, 0, 0)), .ref (A7 (67, 0, 0)), .ref (A8 (68, 0, 0)), .null, .null, .null, .null, .int 0, .null, .int 0, .int 0, .int 0]))) := ⟨_, rfl⟩
  have hG : g_P D V8p A8 B H := by rw [eV8p]; exact hG
  have v0V8p : V8p (60, 0, 0) = some (.inr (6, [.ref (A1 (61, 0, 0)), .ref (A2 (62, 0, 0)), .ref (A3 (63, 0, 0)), .ref (A4 (64, 0, 0)), .ref (A5 (65, 0, 0)), .int 0, .int 0, .ref (A6 (66, 0, 0)), .ref (A7 (67, 0, 0)), .ref (A8 (68, 0, 0)), .null, .null, .null, .null, .int 0, .null, .int 0, .int 0, .int 0])) := by rw [eV8p, k_up_self]
  have nV8p : ∀ c, c ≠ (60, 0, 0) → V8p c = V8 c := fun c hc9 => by rw [eV8p, k_up_ne _ _ hc9]
  refine lv_aload_n hx hb dX6_init_69 rfl (lv_at hl 0 rfl) ?_
  refine lv_bipush (v := nI 20) hx hb dX6_init_70 (by decide) ?_
  refine g_newa hx hb (hts (.arrayClass .int) (by decide +kernel)) hK hG hS hB (69, 0, 0) (by rw [nV8p _ (by decide), nV8 _ (by decide), nV7p _ (by decide), nV7 _ (by decide), nV6p _ (by decide), nV6 _ (by decide), nV5p _ (by decide), nV5 _ (by decide), nV4p _ (by decide), nV4 _ (by decide), nV3p _ (by decide), nV3 _ (by decide), nV2p _ (by decide), nV2 _ (by decide), nV1p _ (by decide), nV1 _ (by decide)]; exact hv _ (by decide) (by decide)) (by decide) (Nat.le_of_ble_eq_true rfl) (Nat.le_of_ble_eq_true rfl) dX6_init_72 (fun q9 H _ hG hS => ?_)
  obtain ⟨A9, eA9⟩ : ∃ z, z = k_up A8 (69, 0, 0) q9 := ⟨_, rfl⟩
  rw [← eA9] at hG
  obtain ⟨V9, eV9⟩ : ∃ z, z = k_up V8p (69, 0, 0) (some (.inl (C.1, 20, .inl (fun _ => 0)))) := ⟨_, rfl⟩
  rw [← eV9] at hG
  have sA9 : A9 (69, 0, 0) = q9 := by rw [eA9, k_up_self]
  have nA9 : ∀ c, c ≠ (69, 0, 0) → A9 c = A8 c := fun c hc9 => by rw [eA9, k_up_ne _ _ hc9]
  have sV9 : V9 (69, 0, 0) = some (.inl (C.1, 20, .inl (fun _ => 0))) := by rw [eV9, k_up_self]
  have nV9 : ∀ c, c ≠ (69, 0, 0) → V9 c = V8p c := fun c hc9 => by rw [eV9, k_up_ne _ _ hc9]
  have v0V9 : V9 (60, 0, 0) = some (.inr (6, [.ref (A1 (61, 0, 0)), .ref (A2 (62, 0, 0)), .ref (A3 (63, 0, 0)), .ref (A4 (64, 0, 0)), .ref (A5 (65, 0, 0)), .int 0, .int 0, .ref (A6 (66, 0, 0)), .ref (A7 (67, 0, 0)), .ref (A8 (68, 0, 0)), .null, .null, .null, .null, .int 0, .null, .int 0, .int 0, .int 0])) := by rw [nV9 _ (by decide)]; exact v0V8p
  have a0A9 : A9 (60, 0, 0) = ad (60, 0, 0) := by exact (nA9 _ (by decide)).trans a0A8
  refine W.eq (g2 := F0 m 74 ls [.ref (A9 (69, 0, 0)), .ref (ad (60, 0, 0))]) (by rw [sA9]) ?_
  refine g_puta hx hb hts hi6 tyX6 tyX6_ok nmX6 hown hK hG hS (ci := 6) (cd := (60, 0, 0)) (by exact a0A9) (fs := [.ref (A1 (61, 0, 0)), .ref (A2 (62, 0, 0)), .ref (A3 (63, 0, 0)), .ref (A4 (64, 0, 0)), .ref (A5 (65, 0, 0)), .int 0, .int 0, .ref (A6 (66, 0, 0)), .ref (A7 (67, 0, 0)), .ref (A8 (68, 0, 0)), .null, .null, .null, .null, .int 0, .null, .int 0, .int 0, .int 0]) (by exact v0V9) rfl 10 (by decide) (hts (.fieldLink RX6 35 "SatelliteringModel" "at" "[I") (by decide +kernel)) (Or.inr ⟨rfl, hin, rfl⟩) rfl rfl (by simp) dX6_init_74 (fun H locs hG hS => ?_)
  obtain ⟨V9p, eV9p⟩ : ∃ z, z = k_up V9 (60, 0, 0) (some (.inr (6, [.ref (A1 (61, 0, 0)), .ref (A2 (62, 0, 0)), .ref (A3 (63, 0, 0)), .ref (A4 (64, 0, 0)), .ref (A5 (65, 0, 0)), .int 0, .int 0, .ref (A6 (66, 0, 0)), .ref (A7 (67, 0, 0)), .ref (A8 (68, 0, 0)), .ref (A9 (69, 0, 0)), .null, .null, .null, .int 0, .null, .int 0, .int 0, .int 0]))) := ⟨_, rfl⟩
  have hG : g_P D V9p A9 B H := by rw [eV9p]; exact hG
  have v0V9p : V9p (60, 0, 0) = some (.inr (6, [.ref (A1 (61, 0, 0)), .ref (A2 (62, 0, 0)), .ref (A3 (63, 0, 0)), .ref (A4 (64, 0, 0)), .ref (A5 (65, 0, 0)), .int 0, .int 0, .ref (A6 (66, 0, 0)), .ref (A7 (67, 0, 0)), .ref (A8 (68, 0, 0)), .ref (A9 (69, 0, 0)), .null, .null, .null, .int 0, .null, .int 0, .int 0, .int 0])) := by rw [eV9p, k_up_self]
  have nV9p : ∀ c, c ≠ (60, 0, 0) → V9p c = V9 c := fun c hc9 => by rw [eV9p, k_up_ne _ _ hc9]
  refine lv_aload_n hx hb dX6_init_77 rfl (lv_at hl 0 rfl) ?_
  refine lv_bipush (v := nI 20) hx hb dX6_init_78 (by decide) ?_
  refine g_newa hx hb (hts (.arrayClass .int) (by decide +kernel)) hK hG hS hB (70, 0, 0) (by rw [nV9p _ (by decide), nV9 _ (by decide), nV8p _ (by decide), nV8 _ (by decide), nV7p _ (by decide), nV7 _ (by decide), nV6p _ (by decide), nV6 _ (by decide), nV5p _ (by decide), nV5 _ (by decide), nV4p _ (by decide), nV4 _ (by decide), nV3p _ (by decide), nV3 _ (by decide), nV2p _ (by decide), nV2 _ (by decide), nV1p _ (by decide), nV1 _ (by decide)]; exact hv _ (by decide) (by decide)) (by decide) (Nat.le_of_ble_eq_true rfl) (Nat.le_of_ble_eq_true rfl) dX6_init_80 (fun q10 H _ hG hS => ?_)
  obtain ⟨A10, eA10⟩ : ∃ z, z = k_up A9 (70, 0, 0) q10 := ⟨_, rfl⟩
  rw [← eA10] at hG
  obtain ⟨V10, eV10⟩ : ∃ z, z = k_up V9p (70, 0, 0) (some (.inl (C.1, 20, .inl (fun _ => 0)))) := ⟨_, rfl⟩
  rw [← eV10] at hG
  have sA10 : A10 (70, 0, 0) = q10 := by rw [eA10, k_up_self]
  have nA10 : ∀ c, c ≠ (70, 0, 0) → A10 c = A9 c := fun c hc9 => by rw [eA10, k_up_ne _ _ hc9]
  have sV10 : V10 (70, 0, 0) = some (.inl (C.1, 20, .inl (fun _ => 0))) := by rw [eV10, k_up_self]
  have nV10 : ∀ c, c ≠ (70, 0, 0) → V10 c = V9p c := fun c hc9 => by rw [eV10, k_up_ne _ _ hc9]
  have v0V10 : V10 (60, 0, 0) = some (.inr (6, [.ref (A1 (61, 0, 0)), .ref (A2 (62, 0, 0)), .ref (A3 (63, 0, 0)), .ref (A4 (64, 0, 0)), .ref (A5 (65, 0, 0)), .int 0, .int 0, .ref (A6 (66, 0, 0)), .ref (A7 (67, 0, 0)), .ref (A8 (68, 0, 0)), .ref (A9 (69, 0, 0)), .null, .null, .null, .int 0, .null, .int 0, .int 0, .int 0])) := by rw [nV10 _ (by decide)]; exact v0V9p
  have a0A10 : A10 (60, 0, 0) = ad (60, 0, 0) := by exact (nA10 _ (by decide)).trans a0A9
  refine W.eq (g2 := F0 m 82 ls [.ref (A10 (70, 0, 0)), .ref (ad (60, 0, 0))]) (by rw [sA10]) ?_
  refine g_puta hx hb hts hi6 tyX6 tyX6_ok nmX6 hown hK hG hS (ci := 6) (cd := (60, 0, 0)) (by exact a0A10) (fs := [.ref (A1 (61, 0, 0)), .ref (A2 (62, 0, 0)), .ref (A3 (63, 0, 0)), .ref (A4 (64, 0, 0)), .ref (A5 (65, 0, 0)), .int 0, .int 0, .ref (A6 (66, 0, 0)), .ref (A7 (67, 0, 0)), .ref (A8 (68, 0, 0)), .ref (A9 (69, 0, 0)), .null, .null, .null, .int 0, .null, .int 0, .int 0, .int 0]) (by exact v0V10) rfl 11 (by decide) (hts (.fieldLink RX6 38 "SatelliteringModel" "to" "[I") (by decide +kernel)) (Or.inr ⟨rfl, hin, rfl⟩) rfl rfl (by simp) dX6_init_82 (fun H locs hG hS => ?_)
  obtain ⟨V10p, eV10p⟩ : ∃ z, z = k_up V10 (60, 0, 0) (some (.inr (6, [.ref (A1 (61, 0, 0)), .ref (A2 (62, 0, 0)), .ref (A3 (63, 0, 0)), .ref (A4 (64, 0, 0)), .ref (A5 (65, 0, 0)), .int 0, .int 0, .ref (A6 (66, 0, 0)), .ref (A7 (67, 0, 0)), .ref (A8 (68, 0, 0)), .ref (A9 (69, 0, 0)), .ref (A10 (70, 0, 0)), .null, .null, .int 0, .null, .int 0, .int 0, .int 0]))) := ⟨_, rfl⟩
  have hG : g_P D V10p A10 B H := by rw [eV10p]; exact hG
  have v0V10p : V10p (60, 0, 0) = some (.inr (6, [.ref (A1 (61, 0, 0)), .ref (A2 (62, 0, 0)), .ref (A3 (63, 0, 0)), .ref (A4 (64, 0, 0)), .ref (A5 (65, 0, 0)), .int 0, .int 0, .ref (A6 (66, 0, 0)), .ref (A7 (67, 0, 0)), .ref (A8 (68, 0, 0)), .ref (A9 (69, 0, 0)), .ref (A10 (70, 0, 0)), .null, .null, .int 0, .null, .int 0, .int 0, .int 0])) := by rw [eV10p, k_up_self]
  have nV10p : ∀ c, c ≠ (60, 0, 0) → V10p c = V10 c := fun c hc9 => by rw [eV10p, k_up_ne _ _ hc9]
  refine lv_aload_n hx hb dX6_init_85 rfl (lv_at hl 0 rfl) ?_
  refine lv_bipush (v := nI 20) hx hb dX6_init_86 (by decide) ?_
  refine g_newa hx hb (hts (.arrayClass .int) (by decide +kernel)) hK hG hS hB (71, 0, 0) (by rw [nV10p _ (by decide), nV10 _ (by decide), nV9p _ (by decide), nV9 _ (by decide), nV8p _ (by decide), nV8 _ (by decide), nV7p _ (by decide), nV7 _ (by decide), nV6p _ (by decide), nV6 _ (by decide), nV5p _ (by decide), nV5 _ (by decide), nV4p _ (by decide), nV4 _ (by decide), nV3p _ (by decide), nV3 _ (by decide), nV2p _ (by decide), nV2 _ (by decide), nV1p _ (by decide), nV1 _ (by decide)]; exact hv _ (by decide) (by decide)) (by decide) (Nat.le_of_ble_eq_true rfl) (Nat.le_of_ble_eq_true rfl) dX6_init_88 (fun q11 H _ hG hS => ?_)
  obtain ⟨A11, eA11⟩ : ∃ z, z = k_up A10 (71, 0, 0) q11 := ⟨_, rfl⟩
  rw [← eA11] at hG
  obtain ⟨V11, eV11⟩ : ∃ z, z = k_up V10p (71, 0, 0) (some (.inl (C.1, 20, .inl (fun _ => 0)))) := ⟨_, rfl⟩
  rw [← eV11] at hG
  have sA11 : A11 (71, 0, 0) = q11 := by rw [eA11, k_up_self]
  have nA11 : ∀ c, c ≠ (71, 0, 0) → A11 c = A10 c := fun c hc9 => by rw [eA11, k_up_ne _ _ hc9]
  have sV11 : V11 (71, 0, 0) = some (.inl (C.1, 20, .inl (fun _ => 0))) := by rw [eV11, k_up_self]
  have nV11 : ∀ c, c ≠ (71, 0, 0) → V11 c = V10p c := fun c hc9 => by rw [eV11, k_up_ne _ _ hc9]
  have v0V11 : V11 (60, 0, 0) = some (.inr (6, [.ref (A1 (61, 0, 0)), .ref (A2 (62, 0, 0)), .ref (A3 (63, 0, 0)), .ref (A4 (64, 0, 0)), .ref (A5 (65, 0, 0)), .int 0, .int 0, .ref (A6 (66, 0, 0)), .ref (A7 (67, 0, 0)), .ref (A8 (68, 0, 0)), .ref (A9 (69, 0, 0)), .ref (A10 (70, 0, 0)), .null, .null, .int 0, .null, .int 0, .int 0, .int 0])) := by rw [nV11 _ (by decide)]; exact v0V10p
  have a0A11 : A11 (60, 0, 0) = ad (60, 0, 0) := by exact (nA11 _ (by decide)).trans a0A10
  refine W.eq (g2 := F0 m 90 ls [.ref (A11 (71, 0, 0)), .ref (ad (60, 0, 0))]) (by rw [sA11]) ?_
  refine g_puta hx hb hts hi6 tyX6 tyX6_ok nmX6 hown hK hG hS (ci := 6) (cd := (60, 0, 0)) (by exact a0A11) (fs := [.ref (A1 (61, 0, 0)), .ref (A2 (62, 0, 0)), .ref (A3 (63, 0, 0)), .ref (A4 (64, 0, 0)), .ref (A5 (65, 0, 0)), .int 0, .int 0, .ref (A6 (66, 0, 0)), .ref (A7 (67, 0, 0)), .ref (A8 (68, 0, 0)), .ref (A9 (69, 0, 0)), .ref (A10 (70, 0, 0)), .null, .null, .int 0, .null, .int 0, .int 0, .int 0]) (by exact v0V11) rfl 12 (by decide) (hts (.fieldLink RX6 41 "SatelliteringModel" "arrived" "[I") (by decide +kernel)) (Or.inr ⟨rfl, hin, rfl⟩) rfl rfl (by simp) dX6_init_90 (fun H locs hG hS => ?_)
  obtain ⟨V11p, eV11p⟩ : ∃ z, z = k_up V11 (60, 0, 0) (some (.inr (6, [.ref (A1 (61, 0, 0)), .ref (A2 (62, 0, 0)), .ref (A3 (63, 0, 0)), .ref (A4 (64, 0, 0)), .ref (A5 (65, 0, 0)), .int 0, .int 0, .ref (A6 (66, 0, 0)), .ref (A7 (67, 0, 0)), .ref (A8 (68, 0, 0)), .ref (A9 (69, 0, 0)), .ref (A10 (70, 0, 0)), .ref (A11 (71, 0, 0)), .null, .int 0, .null, .int 0, .int 0, .int 0]))) := ⟨_, rfl⟩
  have hG : g_P D V11p A11 B H := by rw [eV11p]; exact hG
  have v0V11p : V11p (60, 0, 0) = some (.inr (6, [.ref (A1 (61, 0, 0)), .ref (A2 (62, 0, 0)), .ref (A3 (63, 0, 0)), .ref (A4 (64, 0, 0)), .ref (A5 (65, 0, 0)), .int 0, .int 0, .ref (A6 (66, 0, 0)), .ref (A7 (67, 0, 0)), .ref (A8 (68, 0, 0)), .ref (A9 (69, 0, 0)), .ref (A10 (70, 0, 0)), .ref (A11 (71, 0, 0)), .null, .int 0, .null, .int 0, .int 0, .int 0])) := by rw [eV11p, k_up_self]
  have nV11p : ∀ c, c ≠ (60, 0, 0) → V11p c = V11 c := fun c hc9 => by rw [eV11p, k_up_ne _ _ hc9]
  refine lv_aload_n hx hb dX6_init_93 rfl (lv_at hl 0 rfl) ?_
  refine lv_bipush (v := nI 20) hx hb dX6_init_94 (by decide) ?_
  refine g_newa hx hb (hts (.arrayClass .int) (by decide +kernel)) hK hG hS hB (72, 0, 0) (by rw [nV11p _ (by decide), nV11 _ (by decide), nV10p _ (by decide), nV10 _ (by decide), nV9p _ (by decide), nV9 _ (by decide), nV8p _ (by decide), nV8 _ (by decide), nV7p _ (by decide), nV7 _ (by decide), nV6p _ (by decide), nV6 _ (by decide), nV5p _ (by decide), nV5 _ (by decide), nV4p _ (by decide), nV4 _ (by decide), nV3p _ (by decide), nV3 _ (by decide), nV2p _ (by decide), nV2 _ (by decide), nV1p _ (by decide), nV1 _ (by decide)]; exact hv _ (by decide) (by decide)) (by decide) (Nat.le_of_ble_eq_true rfl) (Nat.le_of_ble_eq_true rfl) dX6_init_96 (fun q12 H _ hG hS => ?_)
  obtain ⟨A12, eA12⟩ : ∃ z, z = k_up A11 (72, 0, 0) q12 := ⟨_, rfl⟩
  rw [← eA12] at hG
  obtain ⟨V12, eV12⟩ : ∃ z, z = k_up V11p (72, 0, 0) (some (.inl (C.1, 20, .inl (fun _ => 0)))) := ⟨_, rfl⟩
  rw [← eV12] at hG
  have sA12 : A12 (72, 0, 0) = q12 := by rw [eA12, k_up_self]
  have nA12 : ∀ c, c ≠ (72, 0, 0) → A12 c = A11 c := fun c hc9 => by rw [eA12, k_up_ne _ _ hc9]
  have sV12 : V12 (72, 0, 0) = some (.inl (C.1, 20, .inl (fun _ => 0))) := by rw [eV12, k_up_self]
  have nV12 : ∀ c, c ≠ (72, 0, 0) → V12 c = V11p c := fun c hc9 => by rw [eV12, k_up_ne _ _ hc9]
  have v0V12 : V12 (60, 0, 0) = some (.inr (6, [.ref (A1 (61, 0, 0)), .ref (A2 (62, 0, 0)), .ref (A3 (63, 0, 0)), .ref (A4 (64, 0, 0)), .ref (A5 (65, 0, 0)), .int 0, .int 0, .ref (A6 (66, 0, 0)), .ref (A7 (67, 0, 0)), .ref (A8 (68, 0, 0)), .ref (A9 (69, 0, 0)), .ref (A10 (70, 0, 0)), .ref (A11 (71, 0, 0)), .null, .int 0, .null, .int 0, .int 0, .int 0])) := by rw [nV12 _ (by decide)]; exact v0V11p
  have a0A12 : A12 (60, 0, 0) = ad (60, 0, 0) := by exact (nA12 _ (by decide)).trans a0A11
  refine W.eq (g2 := F0 m 98 ls [.ref (A12 (72, 0, 0)), .ref (ad (60, 0, 0))]) (by rw [sA12]) ?_
  refine g_puta hx hb hts hi6 tyX6 tyX6_ok nmX6 hown hK hG hS (ci := 6) (cd := (60, 0, 0)) (by exact a0A12) (fs := [.ref (A1 (61, 0, 0)), .ref (A2 (62, 0, 0)), .ref (A3 (63, 0, 0)), .ref (A4 (64, 0, 0)), .ref (A5 (65, 0, 0)), .int 0, .int 0, .ref (A6 (66, 0, 0)), .ref (A7 (67, 0, 0)), .ref (A8 (68, 0, 0)), .ref (A9 (69, 0, 0)), .ref (A10 (70, 0, 0)), .ref (A11 (71, 0, 0)), .null, .int 0, .null, .int 0, .int 0, .int 0]) (by exact v0V12) rfl 13 (by decide) (hts (.fieldLink RX6 44 "SatelliteringModel" "blocked" "[I") (by decide +kernel)) (Or.inr ⟨rfl, hin, rfl⟩) rfl rfl (by simp) dX6_init_98 (fun H locs hG hS => ?_)
  obtain ⟨V12p, eV12p⟩ : ∃ z, z = k_up V12 (60, 0, 0) (some (.inr (6, [.ref (A1 (61, 0, 0)), .ref (A2 (62, 0, 0)), .ref (A3 (63, 0, 0)), .ref (A4 (64, 0, 0)), .ref (A5 (65, 0, 0)), .int 0, .int 0, .ref (A6 (66, 0, 0)), .ref (A7 (67, 0, 0)), .ref (A8 (68, 0, 0)), .ref (A9 (69, 0, 0)), .ref (A10 (70, 0, 0)), .ref (A11 (71, 0, 0)), .ref (A12 (72, 0, 0)), .int 0, .null, .int 0, .int 0, .int 0]))) := ⟨_, rfl⟩
  have hG : g_P D V12p A12 B H := by rw [eV12p]; exact hG
  have v0V12p : V12p (60, 0, 0) = some (.inr (6, [.ref (A1 (61, 0, 0)), .ref (A2 (62, 0, 0)), .ref (A3 (63, 0, 0)), .ref (A4 (64, 0, 0)), .ref (A5 (65, 0, 0)), .int 0, .int 0, .ref (A6 (66, 0, 0)), .ref (A7 (67, 0, 0)), .ref (A8 (68, 0, 0)), .ref (A9 (69, 0, 0)), .ref (A10 (70, 0, 0)), .ref (A11 (71, 0, 0)), .ref (A12 (72, 0, 0)), .int 0, .null, .int 0, .int 0, .int 0])) := by rw [eV12p, k_up_self]
  have nV12p : ∀ c, c ≠ (60, 0, 0) → V12p c = V12 c := fun c hc9 => by rw [eV12p, k_up_ne _ _ hc9]
  refine lv_aload_n hx hb dX6_init_101 rfl (lv_at hl 0 rfl) ?_
  refine lv_ldc (v := 60000) hx hb hown (hts (.constant RX6 47 (60000)) (by decide +kernel)) dX6_init_102 ?_
  refine lv_to (y := nI 60000) (by decide) ?_
  refine g_newa hx hb (hts (.arrayClass .int) (by decide +kernel)) hK hG hS hB (73, 0, 0) (by rw [nV12p _ (by decide), nV12 _ (by decide), nV11p _ (by decide), nV11 _ (by decide), nV10p _ (by decide), nV10 _ (by decide), nV9p _ (by decide), nV9 _ (by decide), nV8p _ (by decide), nV8 _ (by decide), nV7p _ (by decide), nV7 _ (by decide), nV6p _ (by decide), nV6 _ (by decide), nV5p _ (by decide), nV5 _ (by decide), nV4p _ (by decide), nV4 _ (by decide), nV3p _ (by decide), nV3 _ (by decide), nV2p _ (by decide), nV2 _ (by decide), nV1p _ (by decide), nV1 _ (by decide)]; exact hv _ (by decide) (by decide)) (by decide) (Nat.le_of_ble_eq_true rfl) (Nat.le_of_ble_eq_true rfl) dX6_init_104 (fun q13 H _ hG hS => ?_)
  obtain ⟨A13, eA13⟩ : ∃ z, z = k_up A12 (73, 0, 0) q13 := ⟨_, rfl⟩
  rw [← eA13] at hG
  obtain ⟨V13, eV13⟩ : ∃ z, z = k_up V12p (73, 0, 0) (some (.inl (C.1, 60000, .inl (fun _ => 0)))) := ⟨_, rfl⟩
  rw [← eV13] at hG
  have sA13 : A13 (73, 0, 0) = q13 := by rw [eA13, k_up_self]
  have nA13 : ∀ c, c ≠ (73, 0, 0) → A13 c = A12 c := fun c hc9 => by rw [eA13, k_up_ne _ _ hc9]
  have sV13 : V13 (73, 0, 0) = some (.inl (C.1, 60000, .inl (fun _ => 0))) := by rw [eV13, k_up_self]
  have nV13 : ∀ c, c ≠ (73, 0, 0) → V13 c = V12p c := fun c hc9 => by rw [eV13, k_up_ne _ _ hc9]
  have v0V13 : V13 (60, 0, 0) = some (.inr (6, [.ref (A1 (61, 0, 0)), .ref (A2 (62, 0, 0)), .ref (A3 (63, 0, 0)), .ref (A4 (64, 0, 0)), .ref (A5 (65, 0, 0)), .int 0, .int 0, .ref (A6 (66, 0, 0)), .ref (A7 (67, 0, 0)), .ref (A8 (68, 0, 0)), .ref (A9 (69, 0, 0)), .ref (A10 (70, 0, 0)), .ref (A11 (71, 0, 0)), .ref (A12 (72, 0, 0)), .int 0, .null, .int 0, .int 0, .int 0])) := by rw [nV13 _ (by decide)]; exact v0V12p
  have a0A13 : A13 (60, 0, 0) = ad (60, 0, 0) := by exact (nA13 _ (by decide)).trans a0A12
  refine W.eq (g2 := F0 m 106 ls [.ref (A13 (73, 0, 0)), .ref (ad (60, 0, 0))]) (by rw [sA13]) ?_
  refine g_puta hx hb hts hi6 tyX6 tyX6_ok nmX6 hown hK hG hS (ci := 6) (cd := (60, 0, 0)) (by exact a0A13) (fs := [.ref (A1 (61, 0, 0)), .ref (A2 (62, 0, 0)), .ref (A3 (63, 0, 0)), .ref (A4 (64, 0, 0)), .ref (A5 (65, 0, 0)), .int 0, .int 0, .ref (A6 (66, 0, 0)), .ref (A7 (67, 0, 0)), .ref (A8 (68, 0, 0)), .ref (A9 (69, 0, 0)), .ref (A10 (70, 0, 0)), .ref (A11 (71, 0, 0)), .ref (A12 (72, 0, 0)), .int 0, .null, .int 0, .int 0, .int 0]) (by exact v0V13) rfl 15 (by decide) (hts (.fieldLink RX6 48 "SatelliteringModel" "hops" "[I") (by decide +kernel)) (Or.inr ⟨rfl, hin, rfl⟩) rfl rfl (by simp) dX6_init_106 (fun H locs hG hS => ?_)
  obtain ⟨V13p, eV13p⟩ : ∃ z, z = k_up V13 (60, 0, 0) (some (.inr (6, [.ref (A1 (61, 0, 0)), .ref (A2 (62, 0, 0)), .ref (A3 (63, 0, 0)), .ref (A4 (64, 0, 0)), .ref (A5 (65, 0, 0)), .int 0, .int 0, .ref (A6 (66, 0, 0)), .ref (A7 (67, 0, 0)), .ref (A8 (68, 0, 0)), .ref (A9 (69, 0, 0)), .ref (A10 (70, 0, 0)), .ref (A11 (71, 0, 0)), .ref (A12 (72, 0, 0)), .int 0, .ref (A13 (73, 0, 0)), .int 0, .int 0, .int 0]))) := ⟨_, rfl⟩
  have hG : g_P D V13p A13 B H := by rw [eV13p]; exact hG
  have v0V13p : V13p (60, 0, 0) = some (.inr (6, [.ref (A1 (61, 0, 0)), .ref (A2 (62, 0, 0)), .ref (A3 (63, 0, 0)), .ref (A4 (64, 0, 0)), .ref (A5 (65, 0, 0)), .int 0, .int 0, .ref (A6 (66, 0, 0)), .ref (A7 (67, 0, 0)), .ref (A8 (68, 0, 0)), .ref (A9 (69, 0, 0)), .ref (A10 (70, 0, 0)), .ref (A11 (71, 0, 0)), .ref (A12 (72, 0, 0)), .int 0, .ref (A13 (73, 0, 0)), .int 0, .int 0, .int 0])) := by rw [eV13p, k_up_self]
  have nV13p : ∀ c, c ≠ (60, 0, 0) → V13p c = V13 c := fun c hc9 => by rw [eV13p, k_up_ne _ _ hc9]
  have b61 : A13 (61, 0, 0) = A1 (61, 0, 0) := by rw [nA13 _ (by decide), nA12 _ (by decide), nA11 _ (by decide), nA10 _ (by decide), nA9 _ (by decide), nA8 _ (by decide), nA7 _ (by decide), nA6 _ (by decide), nA5 _ (by decide), nA4 _ (by decide), nA3 _ (by decide), nA2 _ (by decide)]
  have b62 : A13 (62, 0, 0) = A2 (62, 0, 0) := by rw [nA13 _ (by decide), nA12 _ (by decide), nA11 _ (by decide), nA10 _ (by decide), nA9 _ (by decide), nA8 _ (by decide), nA7 _ (by decide), nA6 _ (by decide), nA5 _ (by decide), nA4 _ (by decide), nA3 _ (by decide)]
  have b63 : A13 (63, 0, 0) = A3 (63, 0, 0) := by rw [nA13 _ (by decide), nA12 _ (by decide), nA11 _ (by decide), nA10 _ (by decide), nA9 _ (by decide), nA8 _ (by decide), nA7 _ (by decide), nA6 _ (by decide), nA5 _ (by decide), nA4 _ (by decide)]
  have b64 : A13 (64, 0, 0) = A4 (64, 0, 0) := by rw [nA13 _ (by decide), nA12 _ (by decide), nA11 _ (by decide), nA10 _ (by decide), nA9 _ (by decide), nA8 _ (by decide), nA7 _ (by decide), nA6 _ (by decide), nA5 _ (by decide)]
  have b65 : A13 (65, 0, 0) = A5 (65, 0, 0) := by rw [nA13 _ (by decide), nA12 _ (by decide), nA11 _ (by decide), nA10 _ (by decide), nA9 _ (by decide), nA8 _ (by decide), nA7 _ (by decide), nA6 _ (by decide)]
  have b66 : A13 (66, 0, 0) = A6 (66, 0, 0) := by rw [nA13 _ (by decide), nA12 _ (by decide), nA11 _ (by decide), nA10 _ (by decide), nA9 _ (by decide), nA8 _ (by decide), nA7 _ (by decide)]
  have b67 : A13 (67, 0, 0) = A7 (67, 0, 0) := by rw [nA13 _ (by decide), nA12 _ (by decide), nA11 _ (by decide), nA10 _ (by decide), nA9 _ (by decide), nA8 _ (by decide)]
  have b68 : A13 (68, 0, 0) = A8 (68, 0, 0) := by rw [nA13 _ (by decide), nA12 _ (by decide), nA11 _ (by decide), nA10 _ (by decide), nA9 _ (by decide)]
  have b69 : A13 (69, 0, 0) = A9 (69, 0, 0) := by rw [nA13 _ (by decide), nA12 _ (by decide), nA11 _ (by decide), nA10 _ (by decide)]
  have b70 : A13 (70, 0, 0) = A10 (70, 0, 0) := by rw [nA13 _ (by decide), nA12 _ (by decide), nA11 _ (by decide)]
  have b71 : A13 (71, 0, 0) = A11 (71, 0, 0) := by rw [nA13 _ (by decide), nA12 _ (by decide)]
  have b72 : A13 (72, 0, 0) = A12 (72, 0, 0) := by rw [nA13 _ (by decide)]
  have b73 : A13 (73, 0, 0) = A13 (73, 0, 0) := rfl
  have hfin : V13p = mo E C (fun _ _ => 0) A13 v ∧ (∀ c : g_k, (c.1 < 61 ∨ 73 < c.1) → A13 c = ad c) := by
    refine ⟨mo_of (by rw [v0V13p]; simp only [F_mo, b61, b62, b63, b64, b65, b66, b67, b68, b69, b70, b71, b72])
      (by rw [nV13p _ (by decide), nV13 _ (by decide), nV12p _ (by decide), nV12 _ (by decide), nV11p _ (by decide), nV11 _ (by decide), nV10p _ (by decide), nV10 _ (by decide), nV9p _ (by decide), nV9 _ (by decide), nV8p _ (by decide), nV8 _ (by decide), nV7p _ (by decide), nV7 _ (by decide), nV6p _ (by decide), nV6 _ (by decide), nV5p _ (by decide), nV5 _ (by decide), nV4p _ (by decide), nV4 _ (by decide), nV3p _ (by decide), nV3 _ (by decide), nV2p _ (by decide), nV2 _ (by decide), nV1p _ (by decide), sV1])
      (by rw [nV13p _ (by decide), nV13 _ (by decide), nV12p _ (by decide), nV12 _ (by decide), nV11p _ (by decide), nV11 _ (by decide), nV10p _ (by decide), nV10 _ (by decide), nV9p _ (by decide), nV9 _ (by decide), nV8p _ (by decide), nV8 _ (by decide), nV7p _ (by decide), nV7 _ (by decide), nV6p _ (by decide), nV6 _ (by decide), nV5p _ (by decide), nV5 _ (by decide), nV4p _ (by decide), nV4 _ (by decide), nV3p _ (by decide), nV3 _ (by decide), nV2p _ (by decide), sV2])
      (by rw [nV13p _ (by decide), nV13 _ (by decide), nV12p _ (by decide), nV12 _ (by decide), nV11p _ (by decide), nV11 _ (by decide), nV10p _ (by decide), nV10 _ (by decide), nV9p _ (by decide), nV9 _ (by decide), nV8p _ (by decide), nV8 _ (by decide), nV7p _ (by decide), nV7 _ (by decide), nV6p _ (by decide), nV6 _ (by decide), nV5p _ (by decide), nV5 _ (by decide), nV4p _ (by decide), nV4 _ (by decide), nV3p _ (by decide), sV3])
      (by rw [nV13p _ (by decide), nV13 _ (by decide), nV12p _ (by decide), nV12 _ (by decide), nV11p _ (by decide), nV11 _ (by decide), nV10p _ (by decide), nV10 _ (by decide), nV9p _ (by decide), nV9 _ (by decide), nV8p _ (by decide), nV8 _ (by decide), nV7p _ (by decide), nV7 _ (by decide), nV6p _ (by decide), nV6 _ (by decide), nV5p _ (by decide), nV5 _ (by decide), nV4p _ (by decide), sV4])
      (by rw [nV13p _ (by decide), nV13 _ (by decide), nV12p _ (by decide), nV12 _ (by decide), nV11p _ (by decide), nV11 _ (by decide), nV10p _ (by decide), nV10 _ (by decide), nV9p _ (by decide), nV9 _ (by decide), nV8p _ (by decide), nV8 _ (by decide), nV7p _ (by decide), nV7 _ (by decide), nV6p _ (by decide), nV6 _ (by decide), nV5p _ (by decide), sV5])
      (by rw [nV13p _ (by decide), nV13 _ (by decide), nV12p _ (by decide), nV12 _ (by decide), nV11p _ (by decide), nV11 _ (by decide), nV10p _ (by decide), nV10 _ (by decide), nV9p _ (by decide), nV9 _ (by decide), nV8p _ (by decide), nV8 _ (by decide), nV7p _ (by decide), nV7 _ (by decide), nV6p _ (by decide), sV6])
      (by rw [nV13p _ (by decide), nV13 _ (by decide), nV12p _ (by decide), nV12 _ (by decide), nV11p _ (by decide), nV11 _ (by decide), nV10p _ (by decide), nV10 _ (by decide), nV9p _ (by decide), nV9 _ (by decide), nV8p _ (by decide), nV8 _ (by decide), nV7p _ (by decide), sV7])
      (by rw [nV13p _ (by decide), nV13 _ (by decide), nV12p _ (by decide), nV12 _ (by decide), nV11p _ (by decide), nV11 _ (by decide), nV10p _ (by decide), nV10 _ (by decide), nV9p _ (by decide), nV9 _ (by decide), nV8p _ (by decide), sV8])
      (by rw [nV13p _ (by decide), nV13 _ (by decide), nV12p _ (by decide), nV12 _ (by decide), nV11p _ (by decide), nV11 _ (by decide), nV10p _ (by decide), nV10 _ (by decide), nV9p _ (by decide), sV9])
      (by rw [nV13p _ (by decide), nV13 _ (by decide), nV12p _ (by decide), nV12 _ (by decide), nV11p _ (by decide), nV11 _ (by decide), nV10p _ (by decide), sV10])
      (by rw [nV13p _ (by decide), nV13 _ (by decide), nV12p _ (by decide), nV12 _ (by decide), nV11p _ (by decide), sV11])
      (by rw [nV13p _ (by decide), nV13 _ (by decide), nV12p _ (by decide), sV12])
      (by rw [nV13p _ (by decide), sV13]) (fun c e60 e61 e62 e63 e64 e65 e66 e67 e68 e69 e70 e71 e72 e73 => by rw [nV13p _ e60, nV13 _ e73, nV12p _ e60, nV12 _ e72, nV11p _ e60, nV11 _ e71, nV10p _ e60, nV10 _ e70, nV9p _ e60, nV9 _ e69, nV8p _ e60, nV8 _ e68, nV7p _ e60, nV7 _ e67, nV6p _ e60, nV6 _ e66, nV5p _ e60, nV5 _ e65, nV4p _ e60, nV4 _ e64, nV3p _ e60, nV3 _ e63, nV2p _ e60, nV2 _ e62, nV1p _ e60, nV1 _ e61]), fun c hc9 => ?_⟩
    rw [nA13 _ (fun z => by rw [z] at hc9; exact absurd hc9 (by decide)), nA12 _ (fun z => by rw [z] at hc9; exact absurd hc9 (by decide)), nA11 _ (fun z => by rw [z] at hc9; exact absurd hc9 (by decide)), nA10 _ (fun z => by rw [z] at hc9; exact absurd hc9 (by decide)), nA9 _ (fun z => by rw [z] at hc9; exact absurd hc9 (by decide)), nA8 _ (fun z => by rw [z] at hc9; exact absurd hc9 (by decide)), nA7 _ (fun z => by rw [z] at hc9; exact absurd hc9 (by decide)), nA6 _ (fun z => by rw [z] at hc9; exact absurd hc9 (by decide)), nA5 _ (fun z => by rw [z] at hc9; exact absurd hc9 (by decide)), nA4 _ (fun z => by rw [z] at hc9; exact absurd hc9 (by decide)), nA3 _ (fun z => by rw [z] at hc9; exact absurd hc9 (by decide)), nA2 _ (fun z => by rw [z] at hc9; exact absurd hc9 (by decide)), nA1 _ (fun z => by rw [z] at hc9; exact absurd hc9 (by decide))]
  exact W.vret hx hb hr (fun t9 ht9 hW9 => ⟨⟨(V13p, A13), rfl, hfin, by show g_P D V13p A13 B t9.heap; rw [ht9]; exact hG⟩, hS.F ht9⟩) hS.2.2 dX6_init_109
