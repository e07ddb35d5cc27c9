section ASTQ
variable {p : Program} {l : Launch} {e : Env} {R : Room} {s : State} {m : MethodId} {args : Array Value} {below : List Frame} {meth : Method} {c : Code} {H : Heap} {locs : List Loc} {cells slots : Nat} {Q : State → Prop}
variable {cc : ByteArray} {pc : Nat} {ls : Array Slot} {rest : List Value} {D : va_G} {C : g_C} {v : g_k → Option va_E} {ad : g_k → Nat} {B : Nat} {H0 : Heap}
theorem g_aast (hx : p.tables.exec = Jvm.exec) (hb : c.code = cc) (hK : va_K D vwCl (g_T C) s) (hG : g_P D v ad B H) (hS : va_S (g_A B) H0 H locs) {cd dd : g_k} (t0 ci : Nat) {cA : ClassId} {r : vw_C} {n : Nat} {f : Nat → Option Nat} {vs : List Value} (ht : (g_T C)[t0]? = some (cA, .object r.1)) (hc : vwCl[ci]? = some r) (he : v cd = some (.inl (cA, n, .inr (.inr (.inr (.inr f)))))) (hv : v dd = some (.inr (ci, vs))) {j : Nat} (hj : j < n) (hn : n < 2 ^ 31) (hdg : decode cc pc = .ok (.aastore, 1))
    (kk : ∀ (H1 : Heap) (locs1 : List Loc), g_P D (k_up v cd (some (.inl (cA, n, .inr (.inr (.inr (.inr (va_up f j (some (ad dd)))))))))) ad B H1 → va_S (g_A B) H0 H1 locs1 → W p l e R s m args below meth c H1 locs1 cells slots Q (F0 m (pc + 1) ls rest)) : W p l e R s m args below meth c H locs cells slots Q (F0 m pc ls (.ref (ad dd) :: .int (nI j) :: .ref (ad cd) :: rest)) := by
  obtain ⟨L, h1, h2, h3⟩ := g_P_ws hG
  obtain ⟨q0, hq0⟩ := h3 cd _ he
  obtain ⟨qk, hqk⟩ := h3 dd _ hv
  refine va_astq hx hb hK h1 h2 hS q0 t0 qk ci hq0 ht hqk hc (vp_in_nI hj hn) hdg (fun H1 locs1 p1 _ s1 => kk H1 locs1 (g_P_set hG he h3 hq0 ?_) s1)
  rw [nI_clamp (Nat.lt_trans hj hn)] at p1
  exact p1
end ASTQ

set_option maxHeartbeats 4000000 in
set_option maxRecDepth 100000 in
theorem c_setCapacity (l : Launch) {D : va_G} {C : g_C} {g : g_k → Nat → Int32} {ad ln : g_k → Nat} {ex : g_k → Option va_E} {B : Nat} {n : Nat} (hn : n ≤ 10) (hc : g (1, 0, 0) 4 = nI n) {a k : Nat} (ha : a < n) (hnl : ln (30, a, 0) ≠ 1) (hk1 : 1 ≤ k) (hk9 : k ≤ 9) : Met l yX5_setCapacity wsX5_setCapacity ({ frames := 2, cells := 0, slots := 0, locals := 43 } : Room) (va_Pc [.ref (ad (0, 0, 0)), .int (nI a), .int (nI k)] (g_S D C (lay C g ad ln ex) ad B)) (va_Qi (fun (r : Int32) (g1 : g_k → Nat → Int32) => r = g (4, 0, 0) a ∧ (∀ c, c ≠ (4, 0, 0) → g1 c = g c) ∧ g1 (4, 0, 0) = upd (g (4, 0, 0)) a (nI k)) (fun g1 t => g_P D (lay C g1 ad ln ex) ad B t.heap) (g_A B)) 0 0 (g_A B) := by
  refine Met.ofW (cc := cX5_setCapacity) (maxL := 4) (ret := (some .int)) (by decide) rfl ?_
  intro p e s m args below meth c s₁ B₀ hml hv
  obtain ⟨rfl, hG, hF⟩ := hv
  have hK := hF.1
  have hN := hF.2.1
  have hB := hF.2.2.2
  have hx := B₀.exec
  have hb := B₀.bytes
  have hr := B₀.returns
  have hts := atoms_spec (ws := wsX5_setCapacity) B₀.pre
  have hown : s.vm.findClass RX5 = some m.cls := findClass_of_methodNamed B₀.named
  have hlocks := B₀.notSynchronized
  have hS : va_S (g_A B) s.heap s.heap [] := va_S.rf
  have hi5 : ∀ w ∈ wsX50, w ∈ wsX5_setCapacity := by decide +kernel
  have hl := lv_entry [.ref (ad (0, 0, 0)), .int (nI a), .int (nI k)] (n := 4) (Nat.le_of_ble_eq_true rfl)
  rw [lg_entry_eq]
  generalize (lg_sl [.ref (ad (0, 0, 0)), .int (nI a), .int (nI k)] ++ List.replicate (4 - (lg_sl [.ref (ad (0, 0, 0)), .int (nI a), .int (nI k)]).length) Slot.unset).toArray = ls at hl ⊢
  have hl : lv_has ls 4 [(0, .ref (ad (0, 0, 0))), (1, .int (nI a)), (2, .int (nI k))] := hl
  refine lv_aload_n hx hb dX5_setCapacity_0 rfl (lv_at hl 0 rfl) ?_
  refine lv_iload_n hx hb dX5_setCapacity_1 rfl (lv_at hl 1 rfl) ?_
  refine va_csv (W.runV (As := [.int (nI a)]) (rest := []) ⟨hx, hb, hml, hown, hts⟩ (c_requireNode l hn hc ha) (cwV 1 hts gX5_setCapacity_X5_requireNode rfl rfl rfl (by decide +kernel) ⟨Nat.le_of_ble_eq_true rfl, Nat.le_of_ble_eq_true rfl⟩) (g_preV hF hG hS (lay_main) rfl) rfl rfl hl.1 rfl (lv_room (Nat.le_of_ble_eq_true rfl)) dX5_setCapacity_2 ⟨Nat.le_of_ble_eq_true rfl, Nat.le_of_ble_eq_true rfl⟩) (fun h_2 => ?_)
  refine lv_aload_n hx hb dX5_setCapacity_5 rfl (lv_at hl 0 rfl) ?_
  refine g_get hx hb hts hi5 hown hK hG (lay_main) rfl 2 (by decide) (hts (.fieldLink RX5 27 "Satellitering" "stations" "[LSatellitering$Station;") (by decide +kernel)) rfl dX5_setCapacity_6 ?_
  refine lv_iload_n hx hb dX5_setCapacity_9 rfl (lv_at hl 1 rfl) ?_
  refine o_stationN hx hb hK hG ((show a < 10 by omega)) hnl dX5_setCapacity_10 ?_
  refine lv_ifnullN (tgt := 24) hx hb dX5_setCapacity_11 (by decide) ?_
  refine lv_iload_n hx hb dX5_setCapacity_24 rfl (lv_at hl 2 rfl) ?_
  refine lv_iconst (v := nI 1) hx hb dX5_setCapacity_25 (by decide) ?_
  refine lv_bipush (v := nI 9) hx hb dX5_setCapacity_26 (by decide) ?_
  refine vp_callSi (W.runS (As := [.int (nI k), .int (nI 1), .int (nI 9)]) (rest := []) ⟨hx, hb, hml, hown, hts⟩ (c_inRange l ) (va_cwS 3 hts gX5_setCapacity_X5_inRange rfl rfl rfl (by decide +kernel) ⟨Nat.le_of_ble_eq_true rfl, Nat.le_of_ble_eq_true rfl⟩) (g_preS hF hG hS) rfl rfl hl.1 rfl (lv_room (Nat.le_of_ble_eq_true rfl)) dX5_setCapacity_28 ⟨Nat.le_of_ble_eq_true rfl, Nat.le_of_ble_eq_true rfl⟩) (fun r_3 h_4 => ?_)
  refine lv_to (y := nI 1) (h_4.trans (if_pos (⟨nI_le hk1 (by omega), nI_le hk9 (by decide)⟩))) ?_
  refine va_csv (W.runS (As := [.int (nI 1)]) (rest := []) ⟨hx, hb, hml, hown, hts⟩ (c_requireArgument l ) (va_cwS 1 hts gX5_setCapacity_X5_requireArgument rfl rfl rfl (by decide +kernel) ⟨Nat.le_of_ble_eq_true rfl, Nat.le_of_ble_eq_true rfl⟩) (g_preS hF hG hS) rfl rfl hl.1 rfl (lv_room (Nat.le_of_ble_eq_true rfl)) dX5_setCapacity_31 ⟨Nat.le_of_ble_eq_true rfl, Nat.le_of_ble_eq_true rfl⟩) (fun h_6 => ?_)
  refine lv_aload_n hx hb dX5_setCapacity_34 rfl (lv_at hl 0 rfl) ?_
  refine g_get hx hb hts hi5 hown hK hG (lay_main) rfl 3 (by decide) (hts (.fieldLink RX5 31 "Satellitering" "capacities" "[I") (by decide +kernel)) rfl dX5_setCapacity_35 ?_
  refine lv_iload_n hx hb dX5_setCapacity_38 rfl (lv_at hl 1 rfl) ?_
  refine g_iald hx hb hK hG (lay_caps) ((show a < 10 by omega)) (by first | decide | omega) dX5_setCapacity_39 ?_
  refine lv_istore_n (lv' := [(3, .int (g (4, 0, 0) a)), (0, .ref (ad (0, 0, 0))), (1, .int (nI a)), (2, .int (nI k))]) hx hb dX5_setCapacity_40 rfl hl (by decide) rfl (fun ls hl => ?_)
  refine lv_aload_n hx hb dX5_setCapacity_41 rfl (lv_at hl 1 rfl) ?_
  refine g_get hx hb hts hi5 hown hK hG (lay_main) rfl 3 (by decide) (hts (.fieldLink RX5 31 "Satellitering" "capacities" "[I") (by decide +kernel)) rfl dX5_setCapacity_42 ?_
  refine lv_iload_n hx hb dX5_setCapacity_45 rfl (lv_at hl 2 rfl) ?_
  refine lv_iload_n hx hb dX5_setCapacity_46 rfl (lv_at hl 3 rfl) ?_
  refine o_iast hx hb hK hG hS (cd := (4, 0, 0)) (fun _ => lay_caps) ((show a < 10 by omega)) (by first | decide | omega) dX5_setCapacity_47 (fun H locs hG hS => ?_)
  refine lv_iload_n hx hb dX5_setCapacity_48 rfl (lv_at hl 0 rfl) ?_
  exact W.iret (v := g (4, 0, 0) a) hx hb hr (fun t9 ht9 hW9 => ⟨⟨_, (g2 g (4, 0, 0) a (nI k)), rfl, ⟨rfl, fun c hc9 => g2_ne _ _ _ hc9, g2_self _ _ _ _⟩, by show g_P _ _ _ _ t9.heap; rw [ht9]; exact hG⟩, hS.F ht9⟩) hS.2.2 dX5_setCapacity_49

/-- a node was added -/
def add_P (g : g_k → Nat → Int32) (n : Nat) (g1 : g_k → Nat → Int32) : Prop := (∀ c : g_k, c ≠ (0, 0, 0) → c ≠ (1, 0, 0) → c ≠ (4, 0, 0) → c ≠ (6, 0, 0) → c ≠ (7, 0, 0) → c ≠ (8, 0, 0) → c.1 ≠ 20 → g1 c = g c) ∧ g1 (1, 0, 0) 4 = nI (n + 1) ∧ sk1 g1 (n + 1) ∧ ∀ a b t, a < n → b < n → see g1 a b t = see g a b t

set_option maxHeartbeats 4000000 in
set_option maxRecDepth 100000 in
theorem c_addRelay (l : Launch) {D : va_G} {C : g_C} {g : g_k → Nat → Int32} {ad ln : g_k → Nat} {ex : g_k → Option va_E} {B : Nat} {n : Nat} (hn : n < 10) (hc : g (1, 0, 0) 4 = nI n) (hsk : sk1 g n) {x z k rc : Nat} {y : Int32} (hx9 : x < 360) (hy1 : (-30) ≤ y) (hy2 : y ≤ nI 30) (hz9 : z < 180) (hk1 : 1 ≤ k) (hk9 : k ≤ 9) (hrc : g (0, 0, 0) 6 = nI rc) (hrc6 : rc < 6) : Met l yX5_addRelay wsX5_addRelay ({ frames := 4, cells := 0, slots := 0, locals := 93 } : Room) (va_Pc [.ref (ad (0, 0, 0)), .int (nI x), .int y, .int (nI z), .int (nI k)] (g_S D C (lay C g ad ln ex) ad B)) (va_Qi (fun (r : Int32) (g1 : g_k → Nat → Int32) => r = nI n ∧ add_P g n g1 ∧ g1 (0, 0, 0) = upd (g (0, 0, 0)) 6 (nI (rc + 1)) ∧ g1 (4, 0, 0) = upd (g (4, 0, 0)) n (nI k) ∧ g1 (6, 0, 0) = upd (g (6, 0, 0)) n (nI x)) (fun g1 t => g_P D (lay C g1 ad ln ex) ad B t.heap) (g_A B)) 0 0 (g_A B) := by
  refine Met.ofW (cc := cX5_addRelay) (maxL := 6) (ret := (some .int)) (by decide) rfl ?_
  intro p e s m args below meth c s₁ B₀ hml hv
  obtain ⟨rfl, hG, hF⟩ := hv
  have hK := hF.1
  have hN := hF.2.1
  have hB := hF.2.2.2
  have hx := B₀.exec
  have hb := B₀.bytes
  have hr := B₀.returns
  have hts := atoms_spec (ws := wsX5_addRelay) B₀.pre
  have hown : s.vm.findClass RX5 = some m.cls := findClass_of_methodNamed B₀.named
  have hlocks := B₀.notSynchronized
  have hS : va_S (g_A B) s.heap s.heap [] := va_S.rf
  have hi5 : ∀ w ∈ wsX50, w ∈ wsX5_addRelay := by decide +kernel
  have hl := lv_entry [.ref (ad (0, 0, 0)), .int (nI x), .int y, .int (nI z), .int (nI k)] (n := 6) (Nat.le_of_ble_eq_true rfl)
  rw [lg_entry_eq]
  generalize (lg_sl [.ref (ad (0, 0, 0)), .int (nI x), .int y, .int (nI z), .int (nI k)] ++ List.replicate (6 - (lg_sl [.ref (ad (0, 0, 0)), .int (nI x), .int y, .int (nI z), .int (nI k)]).length) Slot.unset).toArray = ls at hl ⊢
  have hl : lv_has ls 6 [(0, .ref (ad (0, 0, 0))), (1, .int (nI x)), (2, .int y), (3, .int (nI z)), (4, .int (nI k))] := hl
  refine lv_iload_n hx hb dX5_addRelay_0 rfl (lv_at hl 1 rfl) ?_
  refine lv_iconst (v := nI 0) hx hb dX5_addRelay_1 (by decide) ?_
  refine lv_sipush (v := nI 359) hx hb dX5_addRelay_2 (by decide) ?_
  refine vp_callSi (W.runS (As := [.int (nI x), .int (nI 0), .int (nI 359)]) (rest := []) ⟨hx, hb, hml, hown, hts⟩ (c_inRange l ) (va_cwS 3 hts gX5_addRelay_X5_inRange rfl rfl rfl (by decide +kernel) ⟨Nat.le_of_ble_eq_true rfl, Nat.le_of_ble_eq_true rfl⟩) (g_preS hF hG hS) rfl rfl hl.1 rfl (lv_room (Nat.le_of_ble_eq_true rfl)) dX5_addRelay_5 ⟨Nat.le_of_ble_eq_true rfl, Nat.le_of_ble_eq_true rfl⟩) (fun r_1 h_2 => ?_)
  refine lv_to (y := nI 1) (h_2.trans (if_pos (⟨nI_le (Nat.zero_le _) (by omega), nI_le (show x ≤ 359 by omega) (by decide)⟩))) ?_
  refine va_csv (W.runS (As := [.int (nI 1)]) (rest := []) ⟨hx, hb, hml, hown, hts⟩ (c_requireArgument l ) (va_cwS 1 hts gX5_addRelay_X5_requireArgument rfl rfl rfl (by decide +kernel) ⟨Nat.le_of_ble_eq_true rfl, Nat.le_of_ble_eq_true rfl⟩) (g_preS hF hG hS) rfl rfl hl.1 rfl (lv_room (Nat.le_of_ble_eq_true rfl)) dX5_addRelay_8 ⟨Nat.le_of_ble_eq_true rfl, Nat.le_of_ble_eq_true rfl⟩) (fun h_4 => ?_)
  refine lv_iload_n hx hb dX5_addRelay_11 rfl (lv_at hl 2 rfl) ?_
  refine lv_bipush (v := (-30)) hx hb dX5_addRelay_12 (by decide) ?_
  refine lv_bipush (v := nI 30) hx hb dX5_addRelay_14 (by decide) ?_
  refine vp_callSi (W.runS (As := [.int y, .int (-30), .int (nI 30)]) (rest := []) ⟨hx, hb, hml, hown, hts⟩ (c_inRange l ) (va_cwS 3 hts gX5_addRelay_X5_inRange rfl rfl rfl (by decide +kernel) ⟨Nat.le_of_ble_eq_true rfl, Nat.le_of_ble_eq_true rfl⟩) (g_preS hF hG hS) rfl rfl hl.1 rfl (lv_room (Nat.le_of_ble_eq_true rfl)) dX5_addRelay_16 ⟨Nat.le_of_ble_eq_true rfl, Nat.le_of_ble_eq_true rfl⟩) (fun r_5 h_6 => ?_)
  refine lv_to (y := nI 1) (h_6.trans (if_pos (⟨hy1, hy2⟩))) ?_
  refine va_csv (W.runS (As := [.int (nI 1)]) (rest := []) ⟨hx, hb, hml, hown, hts⟩ (c_requireArgument l ) (va_cwS 1 hts gX5_addRelay_X5_requireArgument rfl rfl rfl (by decide +kernel) ⟨Nat.le_of_ble_eq_true rfl, Nat.le_of_ble_eq_true rfl⟩) (g_preS hF hG hS) rfl rfl hl.1 rfl (lv_room (Nat.le_of_ble_eq_true rfl)) dX5_addRelay_19 ⟨Nat.le_of_ble_eq_true rfl, Nat.le_of_ble_eq_true rfl⟩) (fun h_8 => ?_)
  refine lv_iload_n hx hb dX5_addRelay_22 rfl (lv_at hl 3 rfl) ?_
  refine lv_iconst (v := nI 0) hx hb dX5_addRelay_23 (by decide) ?_
  refine lv_sipush (v := nI 179) hx hb dX5_addRelay_24 (by decide) ?_
  refine vp_callSi (W.runS (As := [.int (nI z), .int (nI 0), .int (nI 179)]) (rest := []) ⟨hx, hb, hml, hown, hts⟩ (c_inRange l ) (va_cwS 3 hts gX5_addRelay_X5_inRange rfl rfl rfl (by decide +kernel) ⟨Nat.le_of_ble_eq_true rfl, Nat.le_of_ble_eq_true rfl⟩) (g_preS hF hG hS) rfl rfl hl.1 rfl (lv_room (Nat.le_of_ble_eq_true rfl)) dX5_addRelay_27 ⟨Nat.le_of_ble_eq_true rfl, Nat.le_of_ble_eq_true rfl⟩) (fun r_9 h_10 => ?_)
  refine lv_to (y := nI 1) (h_10.trans (if_pos (⟨nI_le (Nat.zero_le _) (by omega), nI_le (show z ≤ 179 by omega) (by decide)⟩))) ?_
  refine va_csv (W.runS (As := [.int (nI 1)]) (rest := []) ⟨hx, hb, hml, hown, hts⟩ (c_requireArgument l ) (va_cwS 1 hts gX5_addRelay_X5_requireArgument rfl rfl rfl (by decide +kernel) ⟨Nat.le_of_ble_eq_true rfl, Nat.le_of_ble_eq_true rfl⟩) (g_preS hF hG hS) rfl rfl hl.1 rfl (lv_room (Nat.le_of_ble_eq_true rfl)) dX5_addRelay_30 ⟨Nat.le_of_ble_eq_true rfl, Nat.le_of_ble_eq_true rfl⟩) (fun h_12 => ?_)
  refine lv_iload hx hb dX5_addRelay_33 (lv_at hl 4 rfl) ?_
  refine lv_iconst (v := nI 1) hx hb dX5_addRelay_35 (by decide) ?_
  refine lv_bipush (v := nI 9) hx hb dX5_addRelay_36 (by decide) ?_
  refine vp_callSi (W.runS (As := [.int (nI k), .int (nI 1), .int (nI 9)]) (rest := []) ⟨hx, hb, hml, hown, hts⟩ (c_inRange l ) (va_cwS 3 hts gX5_addRelay_X5_inRange rfl rfl rfl (by decide +kernel) ⟨Nat.le_of_ble_eq_true rfl, Nat.le_of_ble_eq_true rfl⟩) (g_preS hF hG hS) rfl rfl hl.1 rfl (lv_room (Nat.le_of_ble_eq_true rfl)) dX5_addRelay_38 ⟨Nat.le_of_ble_eq_true rfl, Nat.le_of_ble_eq_true rfl⟩) (fun r_13 h_14 => ?_)
  refine lv_to (y := nI 1) (h_14.trans (if_pos (⟨nI_le hk1 (by omega), nI_le hk9 (by decide)⟩))) ?_
  refine va_csv (W.runS (As := [.int (nI 1)]) (rest := []) ⟨hx, hb, hml, hown, hts⟩ (c_requireArgument l ) (va_cwS 1 hts gX5_addRelay_X5_requireArgument rfl rfl rfl (by decide +kernel) ⟨Nat.le_of_ble_eq_true rfl, Nat.le_of_ble_eq_true rfl⟩) (g_preS hF hG hS) rfl rfl hl.1 rfl (lv_room (Nat.le_of_ble_eq_true rfl)) dX5_addRelay_41 ⟨Nat.le_of_ble_eq_true rfl, Nat.le_of_ble_eq_true rfl⟩) (fun h_16 => ?_)
  refine lv_aload_n hx hb dX5_addRelay_44 rfl (lv_at hl 0 rfl) ?_
  refine g_get hx hb hts hi5 hown hK hG (lay_main) rfl 6 (by decide) (hts (.fieldLink RX5 45 "Satellitering" "relayCount" "I") (by decide +kernel)) rfl dX5_addRelay_45 ?_
  refine lv_to (y := nI rc) (hrc) ?_
  refine lv_bipush (v := nI 6) hx hb dX5_addRelay_48 (by decide) ?_
  refine lv_icmp_lt (tgt := 63) hx hb dX5_addRelay_50 (by decide) (fun c_17 => ?_) (fun c_17 => ?_)
  · refine lv_aload_n hx hb dX5_addRelay_63 rfl (lv_at hl 0 rfl) ?_
    refine g_get hx hb hts hi5 hown hK hG (lay_main) rfl 0 (by decide) (hts (.fieldLink RX5 12 "Satellitering" "sky" "LSatellitering$Sky;") (by decide +kernel)) rfl dX5_addRelay_64 ?_
    refine lv_iload_n hx hb dX5_addRelay_67 rfl (lv_at hl 1 rfl) ?_
    refine lv_iload_n hx hb dX5_addRelay_68 rfl (lv_at hl 2 rfl) ?_
    refine lv_iload_n hx hb dX5_addRelay_69 rfl (lv_at hl 3 rfl) ?_
    refine va_calli (va_runV (As := [.int (nI x), .int y, .int (nI z)]) (rest := []) ⟨hx, hb, hml, hown, hts⟩ (c_addNode l hn hc hsk) (cwV 3 hts gX5_addRelay_X2_addNode rfl rfl rfl (by decide +kernel) ⟨Nat.le_of_ble_eq_true rfl, Nat.le_of_ble_eq_true rfl⟩) (g_preV hF hG hS (lay_sky) rfl) rfl rfl hl.1 rfl (lv_room (Nat.le_of_ble_eq_true rfl)) dX5_addRelay_70 ⟨Nat.le_of_ble_eq_true rfl, Nat.le_of_ble_eq_true rfl⟩) hS (fun q _ h => h) (fun q h => h) (fun r_18 g_20 t9 H locs ht9 _ h_19 hB1 _ _ hS => ?_)
    have hG : g_P D (lay C g_20 ad ln ex) ad B H := by rw [← ht9]; exact hB1
    obtain ⟨er, f1, f2, f3, f4, f5, f6, f7⟩ := h_19
    subst er
    refine lv_istore (lv' := [(5, .int (nI n)), (0, .ref (ad (0, 0, 0))), (1, .int (nI x)), (2, .int y), (3, .int (nI z)), (4, .int (nI k))]) hx hb dX5_addRelay_73 hl (by decide) rfl (fun ls hl => ?_)
    refine lv_aload_n hx hb dX5_addRelay_75 rfl (lv_at hl 1 rfl) ?_
    refine g_get hx hb hts hi5 hown hK hG (lay_main) rfl 3 (by decide) (hts (.fieldLink RX5 31 "Satellitering" "capacities" "[I") (by decide +kernel)) rfl dX5_addRelay_76 ?_
    refine lv_iload hx hb dX5_addRelay_79 (lv_at hl 0 rfl) ?_
    refine lv_iload hx hb dX5_addRelay_81 (lv_at hl 5 rfl) ?_
    refine o_iast hx hb hK hG hS (cd := (4, 0, 0)) (fun _ => lay_caps) (hn) (by first | decide | omega) dX5_addRelay_83 (fun H locs hG hS => ?_)
    refine lv_aload_n hx hb dX5_addRelay_84 rfl (lv_at hl 1 rfl) ?_
    refine lv_dup hx hb dX5_addRelay_85 rfl ?_
    refine g_get hx hb hts hi5 hown hK hG (lay_main) rfl 6 (by decide) (hts (.fieldLink RX5 45 "Satellitering" "relayCount" "I") (by decide +kernel)) rfl dX5_addRelay_86 ?_
    refine lv_to (y := nI rc) (by rw [g2_ne _ _ _ (by decide), f4 _ (by decide) (by decide) (by decide) (by decide) (by decide)]; exact hrc) ?_
    refine lv_iconst (v := nI 1) hx hb dX5_addRelay_89 (by decide) ?_
    refine lv_iadd hx hb dX5_addRelay_90 ?_
    refine lv_to (y := nI (rc + 1)) (nI_add rc 1) ?_
    refine o_put hx hb hts hi5 tyX5 tyX5_ok nmX5 hown hK hG hS (cd := (0, 0, 0)) (F_main ad) (fun _ => lay_main) rfl 6 (by decide) (hts (.fieldLink RX5 45 "Satellitering" "relayCount" "I") (by decide +kernel)) rfl rfl (by simp [upd]) (by simp) dX5_addRelay_91 (fun H locs hG hS => ?_)
    refine lv_iload hx hb dX5_addRelay_94 (lv_at hl 0 rfl) ?_
    have hfr : ∀ c, c ≠ (0, 0, 0) → c ≠ (4, 0, 0) → (g2 (g2 g_20 (4, 0, 0) n (nI k)) (0, 0, 0) 6 (nI (rc + 1))) c = g_20 c := fun c c1 c2 => by rw [g2_ne _ _ _ c1, g2_ne _ _ _ c2]
    have h20 : ∀ i, (g2 (g2 g_20 (4, 0, 0) n (nI k)) (0, 0, 0) 6 (nI (rc + 1))) (20, i, 0) = g_20 (20, i, 0) := fun i => hfr _ (by intro h9; cases h9) (by intro h9; cases h9)
    have hse : ∀ a b t, see (g2 (g2 g_20 (4, 0, 0) n (nI k)) (0, 0, 0) 6 (nI (rc + 1))) a b t = see g_20 a b t := fun a b t => see_20 (g := g_20) (g1 := (g2 (g2 g_20 (4, 0, 0) n (nI k)) (0, 0, 0) 6 (nI (rc + 1)))) h20 a b t
    have hfin : add_P g n (g2 (g2 g_20 (4, 0, 0) n (nI k)) (0, 0, 0) 6 (nI (rc + 1))) ∧ (g2 (g2 g_20 (4, 0, 0) n (nI k)) (0, 0, 0) 6 (nI (rc + 1))) (0, 0, 0) = upd (g (0, 0, 0)) 6 (nI (rc + 1)) ∧ (g2 (g2 g_20 (4, 0, 0) n (nI k)) (0, 0, 0) 6 (nI (rc + 1))) (4, 0, 0) = upd (g (4, 0, 0)) n (nI k) ∧ (g2 (g2 g_20 (4, 0, 0) n (nI k)) (0, 0, 0) 6 (nI (rc + 1))) (6, 0, 0) = upd (g (6, 0, 0)) n (nI x) := by
      refine ⟨⟨fun c c0 c1 c4 c6 c7 c8 c20 => (hfr c c0 c4).trans (f4 c c1 c6 c7 c8 c20), (by rw [hfr _ (by decide) (by decide)]; exact f1), sk1_cong f5 h20, fun a b t a1 b1 => (hse a b t).trans (f6 a b t a1 b1)⟩, ?_, ?_, ?_⟩
      · rw [g2_self, g2_ne _ _ _ (by decide), f4 _ (by decide) (by decide) (by decide) (by decide) (by decide)]
      · rw [g2_ne _ _ _ (by decide), g2_self, f4 _ (by decide) (by decide) (by decide) (by decide) (by decide)]
      · rw [hfr _ (by decide) (by decide)]; exact f2
    exact W.iret (v := nI n) hx hb hr (fun t9 ht9 hW9 => ⟨⟨_, (g2 (g2 g_20 (4, 0, 0) n (nI k)) (0, 0, 0) 6 (nI (rc + 1))), rfl, ⟨rfl, hfin⟩, by show g_P _ _ _ _ t9.heap; rw [ht9]; exact hG⟩, hS.F ht9⟩) hS.2.2 dX5_addRelay_96
  · exact absurd (nI_lt hrc6 (by decide)) c_17

def g_send (g : g_k → Nat → Int32) (M : Nat) (x y : Int32) : g_k → Nat → Int32 := fun c => if c = (40, M, 0) then (fun k => if k = 0 then y else if k = 2 then x else 0) else if c = (41, M, 0) ∨ c = (42, M, 0) then (fun _ => 0) else g c
def ln_send (ln : g_k → Nat) (M b : Nat) : g_k → Nat := fun c => if c = (5, 0, 0) then M + 1 else if c = (41, M, 0) ∨ c = (42, M, 0) then 8 else if c = (43, M, 0) then b else ln c
theorem g_send_ne (g : g_k → Nat → Int32) {M : Nat} {x y : Int32} {c : g_k} (h : c ≠ (40, M, 0)) (h1 : c ≠ (41, M, 0)) (h2 : c ≠ (42, M, 0)) : g_send g M x y c = g c := by simp [g_send, h, h1, h2]
theorem ln_send_ne (ln : g_k → Nat) {M b : Nat} {c : g_k} (h : c ≠ (5, 0, 0)) (h1 : c ≠ (41, M, 0)) (h2 : c ≠ (42, M, 0)) (h3 : c ≠ (43, M, 0)) : ln_send ln M b c = ln c := by simp [ln_send, h, h1, h2, h3]
theorem lay_send {C : g_C} {g : g_k → Nat → Int32} {ad ad2 ln : g_k → Nat} {ex : g_k → Option va_E} {M b : Nat} {x y : Int32} {e0 : Option va_E} (hM : ln (5, 0, 0) = M) (ha : ∀ c, c ≠ (40, M, 0) → c ≠ (41, M, 0) → c ≠ (42, M, 0) → ad2 c = ad c) : k_up (message_v C (k_up (lay C g ad ln ex) (40, M, 0) e0) M b x y ad2) (5, 0, 0) (some (.inl (C.2.2.2, 20, .inr (.inr (.inr (.inr (va_up (A_sent ad ln) M (some (ad2 (40, M, 0))))))))))  = lay C (g_send g M x y) ad2 (ln_send ln M b) ex := by
  have l5 : ln_send ln M b (5, 0, 0) = M + 1 := by simp [ln_send]
  have a0 : ∀ c : g_k, c.1 < 40 → ad2 c = ad c := fun c hc => ha c (fun z => by rw [z] at hc; exact absurd hc (by omega)) (fun z => by rw [z] at hc; exact absurd hc (by omega)) (fun z => by rw [z] at hc; exact absurd hc (by omega))
  have l0 : ∀ c : g_k, c ≠ (5, 0, 0) → c.1 < 40 → ln_send ln M b c = ln c := fun c h5 hc => ln_send_ne ln h5 (fun z => by rw [z] at hc; exact absurd hc (by omega)) (fun z => by rw [z] at hc; exact absurd hc (by omega)) (fun z => by rw [z] at hc; exact absurd hc (by omega))
  funext d
  by_cases d5 : d = (5, 0, 0)
  · subst d5
    rw [k_up_self, lay_sent]
    refine congrArg some (congrArg Sum.inl (congrArg (fun z => (C.2.2.2, 20, Sum.inr (Sum.inr (Sum.inr (Sum.inr z))))) (funext fun j => ?_)))
    by_cases hj : j = M
    · subst hj
      rw [va_up_self]
      simp [A_sent, l5]
    · rw [va_up_ne _ _ hj]
      by_cases h9 : j < M
      · have h8 : j < M + 1 := by omega
        simp only [A_sent, l5, hM, h9, h8, if_true]
        rw [ha (40, j, 0) (k3 (Or.inr (Or.inl hj))) (k3 (Or.inl (by decide))) (k3 (Or.inl (by decide)))]
      · have h8 : ¬ j < M + 1 := by omega
        simp only [A_sent, l5, hM, h9, h8, if_false]
  rw [k_up_ne _ _ d5]
  by_cases d40 : d = (40, M, 0)
  · subst d40
    rw [lay_msg (by rw [l5]; omega)]
    have e43 : ln_send ln M b (43, M, 0) = b := by simp [ln_send]
    simp [message_v, F_msg, g_send, e43]
  by_cases d41 : d = (41, M, 0)
  · subst d41
    rw [lay_hopN (by rw [l5]; omega)]
    simp [message_v, g_send, ln_send]
  by_cases d42 : d = (42, M, 0)
  · subst d42
    rw [lay_hopM (by rw [l5]; omega)]
    simp [message_v, g_send, ln_send]
  have e1 : message_v C (k_up (lay C g ad ln ex) (40, M, 0) e0) M b x y ad2 d = lay C g ad ln ex d := by simp [message_v, d40, d41, d42, k_up]
  rw [e1]
  refine (lay_cg d (g_send_ne g d40 d41 d42) (fun k hk => a0 _ (show k < 40 by omega)) (fun i => a0 _ (show (20 : Nat) < 40 by decide)) (fun z => ?_) (fun z => absurd z d5) (fun h30 h35 => ?_) (fun h40 h42 hz => ?_) (fun h40 hz => ?_) (fun h41 hz => ?_) (fun h42 hz => ?_)).symm
  · funext j
    simp only [A_stations]
    rw [a0 (30, j, 0) (show (30 : Nat) < 40 by decide), l0 (30, j, 0) (k3 (Or.inl (by decide))) (show (30 : Nat) < 40 by decide)]
  · have s31 : ln_send ln M b (31, d.2.1, 0) = ln (31, d.2.1, 0) := l0 _ (k3 (Or.inl (by decide))) (show (31 : Nat) < 40 by decide)
    refine ⟨l0 _ (k3 (Or.inl (by decide))) (show (30 : Nat) < 40 by decide), ?_, ?_, ?_⟩
    · rw [F_station, F_station, a0 (31, d.2.1, 0) (show (31 : Nat) < 40 by decide)]
    · have esc : ad2 (sc (ln_send ln M b) d.2.1) = ad (sc ln d.2.1) := by
        unfold sc
        rw [s31]
        split <;> first | exact a0 _ (show (33 : Nat) < 40 by decide) | exact a0 _ (show (34 : Nat) < 40 by decide)
      have esb : ad2 (sb (ln_send ln M b) d.2.1) = ad (sb ln d.2.1) := by
        unfold sb
        rw [s31]
        split <;> first | exact a0 _ (show (33 : Nat) < 40 by decide) | exact a0 _ (show (34 : Nat) < 40 by decide)
      rw [F_time, F_time, esc, esb, a0 (1, 0, 0) (by decide), a0 (32, d.2.1, 0) (show (32 : Nat) < 40 by decide)]
    · funext j
      simp only [A_left]
      rw [a0 (35, d.2.1, j) (show (35 : Nat) < 40 by decide)]
  · rw [l5, hM]
    have hne : d.2.1 ≠ M := fun z => by
      rcases (show d.1 = 40 ∨ d.1 = 41 ∨ d.1 = 42 by omega) with q | q | q
      · exact d40 (by rw [← q, ← z, ← hz])
      · exact d41 (by rw [← q, ← z, ← hz])
      · exact d42 (by rw [← q, ← z, ← hz])
    omega
  · have hne : d.2.1 ≠ M := fun z => d40 (by rw [← h40, ← z, ← hz])
    rw [F_msg, F_msg, ln_send_ne ln (k3 (Or.inl (by decide))) (k3 (Or.inl (by decide))) (k3 (Or.inl (by decide))) (k3 (Or.inr (Or.inl hne))), a0 (31, ln (43, d.2.1, 0), 0) (show (31 : Nat) < 40 by decide), ha (41, d.2.1, 0) (k3 (Or.inl (by decide))) (k3 (Or.inr (Or.inl hne))) (k3 (Or.inl (by decide))), ha (42, d.2.1, 0) (k3 (Or.inl (by decide))) (k3 (Or.inl (by decide))) (k3 (Or.inr (Or.inl hne)))]
  · have hne : d.2.1 ≠ M := fun z => d41 (by rw [← h41, ← z, ← hz])
    exact ln_send_ne ln (k3 (Or.inl (by decide))) (k3 (Or.inr (Or.inl hne))) (k3 (Or.inl (by decide))) (k3 (Or.inl (by decide)))
  · have hne : d.2.1 ≠ M := fun z => d42 (by rw [← h42, ← z, ← hz])
    exact ln_send_ne ln (k3 (Or.inl (by decide))) (k3 (Or.inl (by decide))) (k3 (Or.inr (Or.inl hne))) (k3 (Or.inl (by decide)))

set_option maxHeartbeats 4000000 in
set_option maxRecDepth 100000 in
theorem c_send (l : Launch) {D : va_G} {C : g_C} {g : g_k → Nat → Int32} {ad ln : g_k → Nat} {ex : g_k → Option va_E} {B : Nat} {n : Nat} (hn : n < 11) (hc : g (1, 0, 0) 4 = nI n) {M : Nat} (hM : ln (5, 0, 0) = M) (hM20 : M < 20) (hs : g (0, 0, 0) 7 = nI M) {a b : Nat} (ha : a < n) (hb9 : b < n) (hla : ln (30, a, 0) = 1) (hlb : ln (30, b, 0) = 1) (hab : a ≠ b) : Met l yX5_send wsX5_send ({ frames := 3, cells := 3, slots := 24, locals := 65 } : Room) (va_Pc [.ref (ad (0, 0, 0)), .int (nI a), .int (nI b)] (g_S D C (lay C g ad ln ex) ad B)) (va_Qi (fun (r : Int32) (u : (g_k → Nat → Int32) × (g_k → Nat) × (g_k → Nat)) => r = nI M ∧ u.1 = g2 (g_send g M (nI a) (nI b)) (0, 0, 0) 7 (nI (M + 1)) ∧ u.2.2 = ln_send ln M b ∧ ∀ c, c ≠ (40, M, 0) → c ≠ (41, M, 0) → c ≠ (42, M, 0) → u.2.1 c = ad c) (fun u t => g_P D (lay C u.1 u.2.1 u.2.2 ex) u.2.1 B t.heap) (g_A B)) 3 24 (g_A B) := by
  refine Met.ofW (cc := cX5_send) (maxL := 5) (ret := (some .int)) (by decide) rfl ?_
  intro p e s m args below meth c s₁ B₀ hml hv
  obtain ⟨rfl, hG, hF⟩ := hv
  have hK := hF.1
  have hN := hF.2.1
  have hB := hF.2.2.2
  have hx := B₀.exec
  have hb := B₀.bytes
  have hr := B₀.returns
  have hts := atoms_spec (ws := wsX5_send) B₀.pre
  have hown : s.vm.findClass RX5 = some m.cls := findClass_of_methodNamed B₀.named
  have hlocks := B₀.notSynchronized
  have hS : va_S (g_A B) s.heap s.heap [] := va_S.rf
  have hi0 : ∀ w ∈ wsX00, w ∈ wsX5_send := by decide +kernel
  have hi3 : ∀ w ∈ wsX30, w ∈ wsX5_send := by decide +kernel
  have hi5 : ∀ w ∈ wsX50, w ∈ wsX5_send := by decide +kernel
  have hl := lv_entry [.ref (ad (0, 0, 0)), .int (nI a), .int (nI b)] (n := 5) (Nat.le_of_ble_eq_true rfl)
  rw [lg_entry_eq]
  generalize (lg_sl [.ref (ad (0, 0, 0)), .int (nI a), .int (nI b)] ++ List.replicate (5 - (lg_sl [.ref (ad (0, 0, 0)), .int (nI a), .int (nI b)]).length) Slot.unset).toArray = ls at hl ⊢
  have hl : lv_has ls 5 [(0, .ref (ad (0, 0, 0))), (1, .int (nI a)), (2, .int (nI b))] := hl
  refine lv_aload_n hx hb dX5_send_0 rfl (lv_at hl 0 rfl) ?_
  refine lv_iload_n hx hb dX5_send_1 rfl (lv_at hl 1 rfl) ?_
  refine va_csr (W.runV (As := [.int (nI a)]) (rest := []) ⟨hx, hb, hml, hown, hts⟩ (c_requireStation l (Nat.le_of_lt_succ hn) hc ha hla) (cwV 1 hts gX5_send_X5_requireStation rfl rfl rfl (by decide +kernel) ⟨Nat.le_of_ble_eq_true rfl, Nat.le_of_ble_eq_true rfl⟩) (g_preV hF hG hS (lay_main) rfl) rfl rfl hl.1 rfl (lv_room (Nat.le_of_ble_eq_true rfl)) dX5_send_2 ⟨Nat.le_of_ble_eq_true rfl, Nat.le_of_ble_eq_true rfl⟩) (fun k_3 h_2 => ?_)
  rw [show k_3 = a from h_2]
  refine lv_pop hx hb dX5_send_5 rfl ?_
  refine lv_aload_n hx hb dX5_send_6 rfl (lv_at hl 0 rfl) ?_
  refine lv_iload_n hx hb dX5_send_7 rfl (lv_at hl 2 rfl) ?_
  refine va_csr (W.runV (As := [.int (nI b)]) (rest := []) ⟨hx, hb, hml, hown, hts⟩ (c_requireStation l (Nat.le_of_lt_succ hn) hc hb9 hlb) (cwV 1 hts gX5_send_X5_requireStation rfl rfl rfl (by decide +kernel) ⟨Nat.le_of_ble_eq_true rfl, Nat.le_of_ble_eq_true rfl⟩) (g_preV hF hG hS (lay_main) rfl) rfl rfl hl.1 rfl (lv_room (Nat.le_of_ble_eq_true rfl)) dX5_send_8 ⟨Nat.le_of_ble_eq_true rfl, Nat.le_of_ble_eq_true rfl⟩) (fun k_6 h_5 => ?_)
  rw [show k_6 = b from h_5]
  refine lv_astore_n (lv' := [(3, .ref (ad (30, b, 0))), (0, .ref (ad (0, 0, 0))), (1, .int (nI a)), (2, .int (nI b))]) hx hb dX5_send_11 rfl hl (by decide) rfl (fun ls hl => ?_)
  refine lv_iload_n hx hb dX5_send_12 rfl (lv_at hl 2 rfl) ?_
  refine lv_iload_n hx hb dX5_send_13 rfl (lv_at hl 3 rfl) ?_
  refine lv_icmp_eq (tgt := 21) hx hb dX5_send_14 (by decide) (fun c_7 => ?_) (fun c_7 => ?_)
  · exact absurd ((nI_eq (by omega) (by omega)).mp c_7) hab
  · refine lv_iconst (v := nI 1) hx hb dX5_send_17 (by decide) ?_
    refine lv_goto (tgt := 22) hx hb dX5_send_18 (by decide) ?_
    refine va_csv (W.runS (As := [.int (nI 1)]) (rest := []) ⟨hx, hb, hml, hown, hts⟩ (c_requireArgument l ) (va_cwS 1 hts gX5_send_X5_requireArgument rfl rfl rfl (by decide +kernel) ⟨Nat.le_of_ble_eq_true rfl, Nat.le_of_ble_eq_true rfl⟩) (g_preS hF hG hS) rfl rfl hl.1 rfl (lv_room (Nat.le_of_ble_eq_true rfl)) dX5_send_22 ⟨Nat.le_of_ble_eq_true rfl, Nat.le_of_ble_eq_true rfl⟩) (fun h_9 => ?_)
    refine lv_aload_n hx hb dX5_send_25 rfl (lv_at hl 1 rfl) ?_
    refine g_get hx hb hts hi5 hown hK hG (lay_main) rfl 7 (by decide) (hts (.fieldLink RX5 48 "Satellitering" "sentCount" "I") (by decide +kernel)) rfl dX5_send_26 ?_
    refine lv_to (y := nI M) (hs) ?_
    refine lv_bipush (v := nI 20) hx hb dX5_send_29 (by decide) ?_
    refine lv_icmp_lt (tgt := 44) hx hb dX5_send_31 (by decide) (fun c_10 => ?_) (fun c_10 => ?_)
    · refine lv_aload_n hx hb dX5_send_44 rfl (lv_at hl 1 rfl) ?_
      refine g_get hx hb hts hi5 hown hK hG (lay_main) rfl 7 (by decide) (hts (.fieldLink RX5 48 "Satellitering" "sentCount" "I") (by decide +kernel)) rfl dX5_send_45 ?_
      refine lv_to (y := nI M) (hs) ?_
      refine lv_istore (lv' := [(4, .int (nI M)), (3, .ref (ad (30, b, 0))), (0, .ref (ad (0, 0, 0))), (1, .int (nI a)), (2, .int (nI b))]) hx hb dX5_send_48 hl (by decide) rfl (fun ls hl => ?_)
      refine lv_aload_n hx hb dX5_send_50 rfl (lv_at hl 2 rfl) ?_
      refine g_get hx hb hts hi5 hown hK hG (lay_main) rfl 4 (by decide) (hts (.fieldLink RX5 37 "Satellitering" "sent" "[LSatellitering$Message;") (by decide +kernel)) rfl dX5_send_51 ?_
      refine lv_iload hx hb dX5_send_54 (lv_at hl 0 rfl) ?_
      refine g_new hx hb hts hi0 tyX0 tyX0_ok hown (hts (.classLink RX5 35 RX0) (by decide +kernel)) (hts (.instantiable RX0 8) (by decide +kernel)) (hts (.initialized RX0) (by decide +kernel)) hK hG hS hB (40, M, 0) (by simp [lay, hM]) (ci := 0) rfl (fs := [.int 0, .null, .int 0, .int 0, .int 0, .int 0, .null, .null]) (fun j hj => by rcases (show j = 0 ∨ j = 1 ∨ j = 2 ∨ j = 3 ∨ j = 4 ∨ j = 5 ∨ j = 6 ∨ j = 7 by omega) with rfl | rfl | rfl | rfl | rfl | rfl | rfl | rfl <;> rfl) (Nat.le_of_ble_eq_true rfl) (Nat.le_of_ble_eq_true rfl) dX5_send_56 (fun q9 H hG hS => ?_)
      obtain ⟨ad1, ead⟩ : ∃ z, z = k_up ad (40, M, 0) q9 := ⟨_, rfl⟩
      rw [← ead] at hG
      have a40 : ad1 (40, M, 0) = q9 := by rw [ead, k_up_self]
      have an : ∀ c, c ≠ (40, M, 0) → ad1 c = ad c := fun c hc9 => by rw [ead, k_up_ne _ _ hc9]
      obtain ⟨v1, ev1⟩ : ∃ z, z = k_up (lay C g ad ln ex) (40, M, 0) (some (.inr (0, [.int 0, .null, .int 0, .int 0, .int 0, .int 0, .null, .null]))) := ⟨_, rfl⟩
      rw [← ev1] at hG
      have vn : ∀ c, c ≠ (40, M, 0) → v1 c = lay C g ad ln ex c := fun c hc9 => by rw [ev1, k_up_ne _ _ hc9]
      refine W.eq (g2 := F0 m 59 ls [.ref (ad1 (40, M, 0)), .int (nI M), .ref (ad (5, 0, 0))]) (by rw [a40]) ?_
      refine lv_dup hx hb dX5_send_59 rfl ?_
      refine lv_iload_n hx hb dX5_send_60 rfl (lv_at hl 3 rfl) ?_
      refine lv_iload_n hx hb dX5_send_61 rfl (lv_at hl 4 rfl) ?_
      refine lv_aload_n hx hb dX5_send_62 rfl (lv_at hl 1 rfl) ?_
      refine W.eq (g2 := F0 m 63 ls [.ref (ad1 (30, b, 0)), .int (nI b), .int (nI a), .ref (ad1 (40, M, 0)), .ref (ad1 (40, M, 0)), .int (nI M), .ref (ad1 (5, 0, 0))]) (by rw [an (30, b, 0) (k3 (Or.inl (by decide))), an (5, 0, 0) (k3 (Or.inl (by decide)))]) ?_
      refine g_getN hx hb hts hi3 hown hK hG (cd := (30, b, 0)) (by rw [vn _ (k3 (Or.inl (by decide)))]; exact lay_station (show b < 10 by omega) hlb) rfl 0 (by decide) (va_Nw.use rfl hN.1) rfl dX5_send_63 ?_
      refine W.eq (g2 := F0 m 66 ls [.ref (ad1 (31, b, 0)), .int (nI b), .int (nI a), .ref (ad1 (40, M, 0)), .ref (ad1 (40, M, 0)), .int (nI M), .ref (ad1 (5, 0, 0))]) (by rw [an (31, b, 0) (k3 (Or.inl (by decide)))]) ?_
      refine va_callv (va_runI (As := [.int (nI a), .int (nI b), .ref (ad1 (31, b, 0))]) (rest := [.ref (ad1 (40, M, 0)), .int (nI M), .ref (ad1 (5, 0, 0))]) ⟨hx, hb, hml, hown, hts⟩ (c_X0_init l (v := v1) (ad := ad1) (i := M) (k := b) (x := nI a) (y := nI b) (by rw [ev1, k_up_self]) (by rw [vn _ (k3 (Or.inl (by decide)))]; simp [lay, hM]) (by rw [vn _ (k3 (Or.inl (by decide)))]; simp [lay, hM])) (cwI 3 hts gX5_send_X0_init rfl rfl rfl (hts (.initialized RX0) (by decide +kernel)) (hts (.methodLink RX5 144 yX0_init) (by decide +kernel)) (hts (.instanceMethod yX0_init) (by decide +kernel)) rfl (by decide +kernel) ⟨Nat.le_of_ble_eq_true rfl, Nat.le_of_ble_eq_true rfl⟩) (g_preS hF hG hS) rfl rfl hl.1 rfl (lv_room (Nat.le_of_ble_eq_true rfl)) dX5_send_66 ⟨Nat.le_of_ble_eq_true rfl, Nat.le_of_ble_eq_true rfl⟩) hS (fun q _ h => h) (fun q h => h) (fun u9 t9 H locs ht9 _ huu9 hB1 _ _ hS => ?_)
      obtain ⟨v2, ad2⟩ := u9
      dsimp only at huu9
      have hG : g_P D v2 ad2 B H := by rw [← ht9]; exact hB1
      obtain ⟨ev2, an2⟩ := huu9
      have am : ∀ c, c ≠ (41, M, 0) → c ≠ (42, M, 0) → ad2 c = ad1 c := fun c c1 c2 => an2 c (fun z => z.elim c1 c2)
      have ao : ∀ c, c ≠ (40, M, 0) → c ≠ (41, M, 0) → c ≠ (42, M, 0) → ad2 c = ad c := fun c c0 c1 c2 => (am c c1 c2).trans (an c c0)
      refine W.eq (g2 := F0 m 69 ls [.ref (ad2 (40, M, 0)), .int (nI M), .ref (ad2 (5, 0, 0))]) (by rw [am (40, M, 0) (k3 (Or.inl (by decide))) (k3 (Or.inl (by decide))), am (5, 0, 0) (k3 (Or.inl (by decide))) (k3 (Or.inl (by decide)))]) ?_
      refine g_aast hx hb hK hG hS (cd := (5, 0, 0)) (dd := (40, M, 0)) (vs := [.int (nI b), .ref (ad2 (31, b, 0)), .int (nI a), .int 0, .int 0, .int 0, .ref (ad2 (41, M, 0)), .ref (ad2 (42, M, 0))]) 3 0 rfl rfl (by rw [ev2]; simp only [message_v]; rw [if_neg (k3 (Or.inl (by decide))), if_neg (k3 (Or.inl (by decide))), if_neg (k3 (Or.inl (by decide))), vn _ (k3 (Or.inl (by decide))), lay_sent]) (by rw [ev2]; simp only [message_v, if_true]) (show M < 20 by omega) (by decide) dX5_send_69 (fun H locs hG hS => ?_)
      rw [ev2, ev1, lay_send hM ao] at hG
      obtain ⟨g3, eg3⟩ : ∃ z, z = g_send g M (nI a) (nI b) := ⟨_, rfl⟩
      obtain ⟨ln3, eln3⟩ : ∃ z, z = ln_send ln M b := ⟨_, rfl⟩
      rw [← eg3, ← eln3] at hG
      have hl : lv_has ls 5 [(4, .int (nI M)), (0, .ref (ad (0, 0, 0))), (1, .int (nI a)), (2, .int (nI b))] := lv_sub hl [0, 2, 3, 4] rfl
      have ea0 : ad2 (0, 0, 0) = ad (0, 0, 0) := ao _ (k3 (Or.inl (by decide))) (k3 (Or.inl (by decide))) (k3 (Or.inl (by decide)))
      have hl : lv_has ls 5 [(4, .int (nI M)), (0, .ref (ad2 (0, 0, 0))), (1, .int (nI a)), (2, .int (nI b))] := by rw [ea0]; exact hl
      refine lv_aload_n hx hb dX5_send_70 rfl (lv_at hl 1 rfl) ?_
      refine lv_dup hx hb dX5_send_71 rfl ?_
      refine g_get hx hb hts hi5 hown hK hG (lay_main) rfl 7 (by decide) (hts (.fieldLink RX5 48 "Satellitering" "sentCount" "I") (by decide +kernel)) rfl dX5_send_72 ?_
      refine lv_to (y := nI M) (by rw [eg3, g_send_ne g (k3 (Or.inl (by decide))) (k3 (Or.inl (by decide))) (k3 (Or.inl (by decide)))]; exact hs) ?_
      refine lv_iconst (v := nI 1) hx hb dX5_send_75 (by decide) ?_
      refine lv_iadd hx hb dX5_send_76 ?_
      refine lv_to (y := nI (M + 1)) (nI_add M 1) ?_
      refine o_put hx hb hts hi5 tyX5 tyX5_ok nmX5 hown hK hG hS (cd := (0, 0, 0)) (F_main ad2) (fun _ => lay_main) rfl 7 (by decide) (hts (.fieldLink RX5 48 "Satellitering" "sentCount" "I") (by decide +kernel)) rfl rfl (by simp [upd]) (by simp) dX5_send_77 (fun H locs hG hS => ?_)
      refine lv_iload hx hb dX5_send_80 (lv_at hl 0 rfl) ?_
      exact W.iret (v := nI M) hx hb hr (fun t9 ht9 hW9 => ⟨⟨_, ((g2 g3 (0, 0, 0) 7 (nI (M + 1))), ad2, ln3), rfl, ⟨rfl, by rw [eg3], eln3, ao⟩, by show g_P D (lay C (g2 g3 (0, 0, 0) 7 (nI (M + 1))) ad2 ln3 ex) ad2 B t9.heap; rw [ht9]; exact hG⟩, hS.F ht9⟩) hS.2.2 dX5_send_82
    · exact absurd (nI_lt (show M < 20 by omega) (by decide)) c_10
