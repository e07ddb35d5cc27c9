theorem g_P_kept {D : va_G} {v : g_k → Option va_E} {ad : g_k → Nat} {B : Nat} {H H1 : Heap} (h : g_P D v ad B H) (hk : ∀ q : Nat, q < H.size → H1[q]? = H[q]?) : g_P D v ad B H1 := ⟨fun c e hc => ⟨(h.1 c e hc).1.kept (hk _ (h.1 c e hc).1.lt), (h.1 c e hc).2⟩, h.2⟩
/-- what a throw of E leaves -/
def xX (E0 : String) (D : va_G) (v : g_k → Option va_E) (ad : g_k → Nat) (B : Nat) : String → State → State → Prop := vx_X (fun (_ : Unit) => True) (fun E _ t => E = E0 ∧ g_P D v ad B t.heap) (g_A B)
theorem xX_of {E0 : String} {D : va_G} {v : g_k → Option va_E} {ad : g_k → Nat} {B : Nat} {s t : State} {H : Heap} {locs : List Loc} (hG : g_P D v ad B H) (hS : va_S (g_A B) s.heap H locs) (hsz : H.size ≤ t.heap.size) (hk : ∀ q : Nat, q < H.size → t.heap[q]? = H[q]?) : xX E0 D v ad B E0 s t := ⟨(), trivial, ⟨rfl, g_P_kept hG hk⟩, Nat.le_trans hS.1 hsz, fun q h1 h2 => (hk q (Nat.lt_of_lt_of_le h1 hS.1)).trans (hS.2.1 q h1 h2)⟩
section VXX
variable {p : Program} {l : Launch} {e : Env} {R : Room} {s : State} {m : MethodId} {args : Array Value} {below : List Frame} {meth : Method} {c : Code} {H : Heap} {locs : List Loc} {cells slots : Nat} {Q : State → Prop}
variable {mc ms : Nat} {free : Addr → Prop} {A0 : Nat → Prop} {H0 : Heap} {pc : Nat} {ls : Array Slot} {st0 rest : List Value}
/-- a call that throws -/
theorem vx_callx {SX : Type} {px : SX → Prop} {BX : String → SX → State → Prop} {AX : Nat → Prop} (hr : vx_Run p l e R s m args below meth c H locs cells slots mc ms (F0 m pc ls st0) rest (fun _ _ _ => False) (vx_X px BX AX) free) (hS : va_S A0 H0 H locs) (hf : ∀ q, free q → A0 q) (hAX : ∀ q, q < H.size → AX q → A0 q)
    (kx : ∀ (E : String) (ce : Cell) (q9 : Addr) (u : SX) (t : State) (H1 : Heap) (locs1 : List Loc), t.heap = H1 → s.vm.Alike t.vm → px u → BX E u t → va_S A0 H0 H1 locs1 → H1[q9]? = some ce → ce.vm = .none → s.vm.findClass E = some ce.cls → vx_W p l e R s m args below meth c H1 locs1 (cells + mc) (slots + ms) Q (F0 m pc ls rest) q9) : W p l e R s m args below meth c H locs cells slots Q (F0 m pc ls st0) := by
  intro T hT X
  rcases hr T hT X with ⟨v, st₀, t, T', L, h0, X', hL, e1, e2, hF, st⟩ | ⟨q, st₀, t, T', L, E, ce, h0, X', hL, e1, e2, ⟨u, hp, hb, hF⟩, hce, hcv, hcl, st⟩
  · exact hF.elim
  · obtain ⟨k1, k2, k3⟩ := vx_keep h0 e1 hS hAX hf hL hF
    obtain ⟨t2, a1, b1⟩ := kx E ce q u t T'.heap (locs ++ L) e1.symm (by rw [← e2]; exact X'.warmed.alike) hp hb k3 (by rw [e1]; exact hce) hcv hcl T' rfl X'
    exact ⟨t2, st.trans a1, b1⟩
end VXX
theorem nI_0z : ¬ ¬ nI 0 = 0 := fun h => h (by decide)

set_option maxHeartbeats 4000000 in
set_option maxRecDepth 100000 in
theorem x_requireMessage (l : Launch) (hst : l.stackTraces = false) {D : va_G} {C : g_C} {g : g_k → Nat → Int32} {ad ln : g_k → Nat} {ex : g_k → Option va_E} {B : Nat} {M : Nat} (hM : ln (5, 0, 0) = M) (hM20 : M ≤ 20) (hs : g (0, 0, 0) 7 = nI M) {x : Int32} (hx9 : ¬ (nI 0 ≤ x ∧ x ≤ nI M - nI 1)) : vx_Met l yX5_requireMessage wsX5_requireMessage ({ frames := 6, cells := 1, slots := 6, locals := 82 } : Room) (va_Pc [.ref (ad (0, 0, 0)), .int x] (g_S D C (lay C g ad ln ex) ad B)) (fun _ _ _ _ => False) (xX "java/lang/IndexOutOfBoundsException" D (lay C g ad ln ex) ad B) 1 6 (g_A B) := by
  refine vx_ofW (cc := cX5_requireMessage) (maxL := 2) (ret := (some (.object "Satellitering$Message"))) (by decide) rfl ?_
  intro p e s m args below meth c s₁ B₀ hml htab hv
  obtain ⟨rfl, hG, hF⟩ := hv
  have hK := hF.1
  have hN := hF.2.1
  have hB := hF.2.2.2
  have hx := B₀.exec
  have hb := B₀.bytes
  have hts := atoms_spec (ws := wsX5_requireMessage) B₀.pre
  have hown : s.vm.findClass RX5 = some m.cls := findClass_of_methodNamed B₀.named
  have hlocks := B₀.notSynchronized
  have hS : va_S (g_A B) s.heap s.heap [] := va_S.rf
  have hi5 : ∀ w ∈ wsX50, w ∈ wsX5_requireMessage := by decide +kernel
  have hl := lv_entry [.ref (ad (0, 0, 0)), .int x] (n := 2) (Nat.le_of_ble_eq_true rfl)
  rw [lg_entry_eq]
  generalize (lg_sl [.ref (ad (0, 0, 0)), .int x] ++ List.replicate (2 - (lg_sl [.ref (ad (0, 0, 0)), .int x]).length) Slot.unset).toArray = ls at hl ⊢
  have hl : lv_has ls 2 [(0, .ref (ad (0, 0, 0))), (1, .int x)] := hl
  refine lv_iload_n hx hb dX5_requireMessage_0 rfl (lv_at hl 1 rfl) ?_
  refine lv_iconst (v := nI 0) hx hb dX5_requireMessage_1 (by decide) ?_
  refine lv_aload_n hx hb dX5_requireMessage_2 rfl (lv_at hl 0 rfl) ?_
  refine g_get hx hb hts hi5 hown hK hG (lay_main) rfl 7 (by decide) (hts (.fieldLink RX5 48 "Satellitering" "sentCount" "I") (by decide +kernel)) rfl dX5_requireMessage_3 ?_
  refine lv_to (y := nI M) (hs) ?_
  refine lv_iconst (v := nI 1) hx hb dX5_requireMessage_6 (by decide) ?_
  refine lv_isub hx hb dX5_requireMessage_7 ?_
  refine vp_callSi (W.runS (As := [.int x, .int (nI 0), .int ((nI M) - (nI 1))]) (rest := []) ⟨hx, hb, hml, hown, hts⟩ (c_inRange l ) (va_cwS 3 hts gX5_requireMessage_X5_inRange rfl rfl rfl (by decide +kernel) ⟨Nat.le_of_ble_eq_true rfl, Nat.le_of_ble_eq_true rfl⟩) (g_preS hF hG hS) rfl rfl hl.1 rfl (lv_room (Nat.le_of_ble_eq_true rfl)) dX5_requireMessage_8 ⟨Nat.le_of_ble_eq_true rfl, Nat.le_of_ble_eq_true rfl⟩) (fun r_1 h_2 => ?_)
  refine lv_to (y := nI 0) (h_2.trans (if_neg hx9)) ?_
  refine lv_if_ne (tgt := 24) hx hb dX5_requireMessage_11 (by decide) (fun c_3 => ?_) (fun c_3 => ?_)
  · exact absurd c_3 nI_0z
  · obtain ⟨sa, hstr⟩ := hF.2.2.1.2.2.1.1 (223, "there is no such message") (by simp [g_strs])
    exact vx_throwS (mc := 1) (ms := 6) (A := g_A B) (names := ["java/lang/RuntimeException", "java/lang/Exception"]) hx hb hst hown (by decide +kernel) (by decide +kernel) (hts (.classLink RX5 91 "java/lang/IndexOutOfBoundsException") (by decide +kernel)) (hts (.initialized "java/lang/IndexOutOfBoundsException") (by decide +kernel)) hstr (vx_hat (fun w hw => hts w (by exact List.mem_cons_of_mem _ (List.mem_append_right _ hw))) (B := [.castable "java/lang/IndexOutOfBoundsException" "java/lang/IndexOutOfBoundsException", .declares (Bundle.initS "java/lang/RuntimeException"), .declares (Bundle.initS "java/lang/Exception"), .declares (Bundle.initS Bundle.tN)]) (by decide +kernel) (vx_c (va_Nw.use rfl hF.2.2.1.2.2.1.2.1) (vx_c (va_Nw.use rfl hF.2.2.1.2.2.1.2.2.2.2.1) (vx_c (va_Nw.use rfl hF.2.2.1.2.2.1.2.2.2.2.2.1) (vx_c (va_Nw.use rfl hF.2.2.1.2.2.1.2.2.2.2.2.2) vx_n))))) (by decide +kernel) hF.2.2.1.1 hF.2.2.1.2.1 hS (hl.1.trans hml.symm) dX5_requireMessage_14 dX5_requireMessage_17 dX5_requireMessage_18 dX5_requireMessage_20 dX5_requireMessage_23 (fun x hx => (htab x hx).elim) (Nat.le_of_ble_eq_true rfl) (Nat.le_of_ble_eq_true rfl) (Nat.le_of_ble_eq_true rfl) (Nat.le_of_ble_eq_true rfl) hlocks (fun t _ hsz hk => xX_of hG hS hsz hk) hS.2.2 (Nat.le_refl _) (Nat.le_refl _)

set_option maxHeartbeats 4000000 in
set_option maxRecDepth 100000 in
theorem x_nodeOf (l : Launch) (hst : l.stackTraces = false) {D : va_G} {C : g_C} {g : g_k → Nat → Int32} {ad ln : g_k → Nat} {ex : g_k → Option va_E} {B : Nat} {M : Nat} (hM : ln (5, 0, 0) = M) (hM20 : M ≤ 20) (hs : g (0, 0, 0) 7 = nI M) {x : Int32} (hx9 : ¬ (nI 0 ≤ x ∧ x ≤ nI M - nI 1)) : vx_Met l yX5_nodeOf wsX5_nodeOf ({ frames := 7, cells := 1, slots := 6, locals := 103 } : Room) (va_Pc [.ref (ad (0, 0, 0)), .int x] (g_S D C (lay C g ad ln ex) ad B)) (fun _ _ _ _ => False) (xX "java/lang/IndexOutOfBoundsException" D (lay C g ad ln ex) ad B) 1 6 (g_A B) := by
  refine vx_ofW (cc := cX5_nodeOf) (maxL := 2) (ret := (some .int)) (by decide) rfl ?_
  intro p e s m args below meth c s₁ B₀ hml htab hv
  obtain ⟨rfl, hG, hF⟩ := hv
  have hK := hF.1
  have hN := hF.2.1
  have hB := hF.2.2.2
  have hx := B₀.exec
  have hb := B₀.bytes
  have hts := atoms_spec (ws := wsX5_nodeOf) B₀.pre
  have hown : s.vm.findClass RX5 = some m.cls := findClass_of_methodNamed B₀.named
  have hlocks := B₀.notSynchronized
  have hS : va_S (g_A B) s.heap s.heap [] := va_S.rf
  have hl := lv_entry [.ref (ad (0, 0, 0)), .int x] (n := 2) (Nat.le_of_ble_eq_true rfl)
  rw [lg_entry_eq]
  generalize (lg_sl [.ref (ad (0, 0, 0)), .int x] ++ List.replicate (2 - (lg_sl [.ref (ad (0, 0, 0)), .int x]).length) Slot.unset).toArray = ls at hl ⊢
  have hl : lv_has ls 2 [(0, .ref (ad (0, 0, 0))), (1, .int x)] := hl
  refine lv_aload_n hx hb dX5_nodeOf_0 rfl (lv_at hl 0 rfl) ?_
  refine lv_iload_n hx hb dX5_nodeOf_1 rfl (lv_at hl 1 rfl) ?_
  refine vx_callx (vx_runV (As := [.int x]) (rest := []) ⟨hx, hb, hml, hown, hts⟩ (x_requireMessage l hst hM hM20 hs hx9) (cwV 1 hts gX5_nodeOf_X5_requireMessage rfl rfl rfl (by decide +kernel) ⟨Nat.le_of_ble_eq_true rfl, Nat.le_of_ble_eq_true rfl⟩) (g_preV hF hG hS (lay_main) rfl) rfl rfl hl.1 rfl (lv_room (Nat.le_of_ble_eq_true rfl)) dX5_nodeOf_2 ⟨Nat.le_of_ble_eq_true rfl, Nat.le_of_ble_eq_true rfl⟩) hS (fun q h => h) (fun q _ h => h) (fun E ce q9 u t H locs ht9 _ _ hbx hS hce hcv hcl => ?_)
  obtain ⟨rfl, hG1⟩ := hbx
  refine vx_out (fun x hx => (htab x hx).elim) hlocks hce hcv hcl (fun t1 ht1 _ => xX_of (H := H) (by rw [← ht9]; exact hG1) hS (by rw [ht1]; exact Nat.le_refl _) (fun q _ => by rw [ht1])) hS.2.2 (Nat.le_refl _) (Nat.le_refl _)

set_option maxHeartbeats 4000000 in
set_option maxRecDepth 100000 in
theorem x_hops (l : Launch) (hst : l.stackTraces = false) {D : va_G} {C : g_C} {g : g_k → Nat → Int32} {ad ln : g_k → Nat} {ex : g_k → Option va_E} {B : Nat} {M : Nat} (hM : ln (5, 0, 0) = M) (hM20 : M ≤ 20) (hs : g (0, 0, 0) 7 = nI M) {x : Int32} (hx9 : ¬ (nI 0 ≤ x ∧ x ≤ nI M - nI 1)) : vx_Met l yX5_hops wsX5_hops ({ frames := 7, cells := 1, slots := 6, locals := 103 } : Room) (va_Pc [.ref (ad (0, 0, 0)), .int x] (g_S D C (lay C g ad ln ex) ad B)) (fun _ _ _ _ => False) (xX "java/lang/IndexOutOfBoundsException" D (lay C g ad ln ex) ad B) 1 6 (g_A B) := by
  refine vx_ofW (cc := cX5_hops) (maxL := 2) (ret := (some .int)) (by decide) rfl ?_
  intro p e s m args below meth c s₁ B₀ hml htab hv
  obtain ⟨rfl, hG, hF⟩ := hv
  have hK := hF.1
  have hN := hF.2.1
  have hB := hF.2.2.2
  have hx := B₀.exec
  have hb := B₀.bytes
  have hts := atoms_spec (ws := wsX5_hops) B₀.pre
  have hown : s.vm.findClass RX5 = some m.cls := findClass_of_methodNamed B₀.named
  have hlocks := B₀.notSynchronized
  have hS : va_S (g_A B) s.heap s.heap [] := va_S.rf
  have hl := lv_entry [.ref (ad (0, 0, 0)), .int x] (n := 2) (Nat.le_of_ble_eq_true rfl)
  rw [lg_entry_eq]
  generalize (lg_sl [.ref (ad (0, 0, 0)), .int x] ++ List.replicate (2 - (lg_sl [.ref (ad (0, 0, 0)), .int x]).length) Slot.unset).toArray = ls at hl ⊢
  have hl : lv_has ls 2 [(0, .ref (ad (0, 0, 0))), (1, .int x)] := hl
  refine lv_aload_n hx hb dX5_hops_0 rfl (lv_at hl 0 rfl) ?_
  refine lv_iload_n hx hb dX5_hops_1 rfl (lv_at hl 1 rfl) ?_
  refine vx_callx (vx_runV (As := [.int x]) (rest := []) ⟨hx, hb, hml, hown, hts⟩ (x_requireMessage l hst hM hM20 hs hx9) (cwV 1 hts gX5_hops_X5_requireMessage rfl rfl rfl (by decide +kernel) ⟨Nat.le_of_ble_eq_true rfl, Nat.le_of_ble_eq_true rfl⟩) (g_preV hF hG hS (lay_main) rfl) rfl rfl hl.1 rfl (lv_room (Nat.le_of_ble_eq_true rfl)) dX5_hops_2 ⟨Nat.le_of_ble_eq_true rfl, Nat.le_of_ble_eq_true rfl⟩) hS (fun q h => h) (fun q _ h => h) (fun E ce q9 u t H locs ht9 _ _ hbx hS hce hcv hcl => ?_)
  obtain ⟨rfl, hG1⟩ := hbx
  refine vx_out (fun x hx => (htab x hx).elim) hlocks hce hcv hcl (fun t1 ht1 _ => xX_of (H := H) (by rw [← ht9]; exact hG1) hS (by rw [ht1]; exact Nat.le_refl _) (fun q _ => by rw [ht1])) hS.2.2 (Nat.le_refl _) (Nat.le_refl _)

set_option maxHeartbeats 4000000 in
set_option maxRecDepth 100000 in
theorem x_blocked (l : Launch) (hst : l.stackTraces = false) {D : va_G} {C : g_C} {g : g_k → Nat → Int32} {ad ln : g_k → Nat} {ex : g_k → Option va_E} {B : Nat} {M : Nat} (hM : ln (5, 0, 0) = M) (hM20 : M ≤ 20) (hs : g (0, 0, 0) 7 = nI M) {x : Int32} (hx9 : ¬ (nI 0 ≤ x ∧ x ≤ nI M - nI 1)) : vx_Met l yX5_blocked wsX5_blocked ({ frames := 7, cells := 1, slots := 6, locals := 103 } : Room) (va_Pc [.ref (ad (0, 0, 0)), .int x] (g_S D C (lay C g ad ln ex) ad B)) (fun _ _ _ _ => False) (xX "java/lang/IndexOutOfBoundsException" D (lay C g ad ln ex) ad B) 1 6 (g_A B) := by
  refine vx_ofW (cc := cX5_blocked) (maxL := 2) (ret := (some .int)) (by decide) rfl ?_
  intro p e s m args below meth c s₁ B₀ hml htab hv
  obtain ⟨rfl, hG, hF⟩ := hv
  have hK := hF.1
  have hN := hF.2.1
  have hB := hF.2.2.2
  have hx := B₀.exec
  have hb := B₀.bytes
  have hts := atoms_spec (ws := wsX5_blocked) B₀.pre
  have hown : s.vm.findClass RX5 = some m.cls := findClass_of_methodNamed B₀.named
  have hlocks := B₀.notSynchronized
  have hS : va_S (g_A B) s.heap s.heap [] := va_S.rf
  have hl := lv_entry [.ref (ad (0, 0, 0)), .int x] (n := 2) (Nat.le_of_ble_eq_true rfl)
  rw [lg_entry_eq]
  generalize (lg_sl [.ref (ad (0, 0, 0)), .int x] ++ List.replicate (2 - (lg_sl [.ref (ad (0, 0, 0)), .int x]).length) Slot.unset).toArray = ls at hl ⊢
  have hl : lv_has ls 2 [(0, .ref (ad (0, 0, 0))), (1, .int x)] := hl
  refine lv_aload_n hx hb dX5_blocked_0 rfl (lv_at hl 0 rfl) ?_
  refine lv_iload_n hx hb dX5_blocked_1 rfl (lv_at hl 1 rfl) ?_
  refine vx_callx (vx_runV (As := [.int x]) (rest := []) ⟨hx, hb, hml, hown, hts⟩ (x_requireMessage l hst hM hM20 hs hx9) (cwV 1 hts gX5_blocked_X5_requireMessage rfl rfl rfl (by decide +kernel) ⟨Nat.le_of_ble_eq_true rfl, Nat.le_of_ble_eq_true rfl⟩) (g_preV hF hG hS (lay_main) rfl) rfl rfl hl.1 rfl (lv_room (Nat.le_of_ble_eq_true rfl)) dX5_blocked_2 ⟨Nat.le_of_ble_eq_true rfl, Nat.le_of_ble_eq_true rfl⟩) hS (fun q h => h) (fun q _ h => h) (fun E ce q9 u t H locs ht9 _ _ hbx hS hce hcv hcl => ?_)
  obtain ⟨rfl, hG1⟩ := hbx
  refine vx_out (fun x hx => (htab x hx).elim) hlocks hce hcv hcl (fun t1 ht1 _ => xX_of (H := H) (by rw [← ht9]; exact hG1) hS (by rw [ht1]; exact Nat.le_refl _) (fun q _ => by rw [ht1])) hS.2.2 (Nat.le_refl _) (Nat.le_refl _)

set_option maxHeartbeats 4000000 in
set_option maxRecDepth 100000 in
theorem x_arrivedAt (l : Launch) (hst : l.stackTraces = false) {D : va_G} {C : g_C} {g : g_k → Nat → Int32} {ad ln : g_k → Nat} {ex : g_k → Option va_E} {B : Nat} {M : Nat} (hM : ln (5, 0, 0) = M) (hM20 : M ≤ 20) (hs : g (0, 0, 0) 7 = nI M) {x : Int32} (hx9 : ¬ (nI 0 ≤ x ∧ x ≤ nI M - nI 1)) : vx_Met l yX5_arrivedAt wsX5_arrivedAt ({ frames := 7, cells := 1, slots := 6, locals := 103 } : Room) (va_Pc [.ref (ad (0, 0, 0)), .int x] (g_S D C (lay C g ad ln ex) ad B)) (fun _ _ _ _ => False) (xX "java/lang/IndexOutOfBoundsException" D (lay C g ad ln ex) ad B) 1 6 (g_A B) := by
  refine vx_ofW (cc := cX5_arrivedAt) (maxL := 3) (ret := (some .int)) (by decide) rfl ?_
  intro p e s m args below meth c s₁ B₀ hml htab hv
  obtain ⟨rfl, hG, hF⟩ := hv
  have hK := hF.1
  have hN := hF.2.1
  have hB := hF.2.2.2
  have hx := B₀.exec
  have hb := B₀.bytes
  have hts := atoms_spec (ws := wsX5_arrivedAt) B₀.pre
  have hown : s.vm.findClass RX5 = some m.cls := findClass_of_methodNamed B₀.named
  have hlocks := B₀.notSynchronized
  have hS : va_S (g_A B) s.heap s.heap [] := va_S.rf
  have hl := lv_entry [.ref (ad (0, 0, 0)), .int x] (n := 3) (Nat.le_of_ble_eq_true rfl)
  rw [lg_entry_eq]
  generalize (lg_sl [.ref (ad (0, 0, 0)), .int x] ++ List.replicate (3 - (lg_sl [.ref (ad (0, 0, 0)), .int x]).length) Slot.unset).toArray = ls at hl ⊢
  have hl : lv_has ls 3 [(0, .ref (ad (0, 0, 0))), (1, .int x)] := hl
  refine lv_aload_n hx hb dX5_arrivedAt_0 rfl (lv_at hl 0 rfl) ?_
  refine lv_iload_n hx hb dX5_arrivedAt_1 rfl (lv_at hl 1 rfl) ?_
  refine vx_callx (vx_runV (As := [.int x]) (rest := []) ⟨hx, hb, hml, hown, hts⟩ (x_requireMessage l hst hM hM20 hs hx9) (cwV 1 hts gX5_arrivedAt_X5_requireMessage rfl rfl rfl (by decide +kernel) ⟨Nat.le_of_ble_eq_true rfl, Nat.le_of_ble_eq_true rfl⟩) (g_preV hF hG hS (lay_main) rfl) rfl rfl hl.1 rfl (lv_room (Nat.le_of_ble_eq_true rfl)) dX5_arrivedAt_2 ⟨Nat.le_of_ble_eq_true rfl, Nat.le_of_ble_eq_true rfl⟩) hS (fun q h => h) (fun q _ h => h) (fun E ce q9 u t H locs ht9 _ _ hbx hS hce hcv hcl => ?_)
  obtain ⟨rfl, hG1⟩ := hbx
  refine vx_out (fun x hx => (htab x hx).elim) hlocks hce hcv hcl (fun t1 ht1 _ => xX_of (H := H) (by rw [← ht9]; exact hG1) hS (by rw [ht1]; exact Nat.le_refl _) (fun q _ => by rw [ht1])) hS.2.2 (Nat.le_refl _) (Nat.le_refl _)

set_option maxHeartbeats 4000000 in
set_option maxRecDepth 100000 in
theorem x_arrivedAtN (l : Launch) (hst : l.stackTraces = false) {D : va_G} {C : g_C} {g : g_k → Nat → Int32} {ad ln : g_k → Nat} {ex : g_k → Option va_E} {B : Nat} {M : Nat} (hM : ln (5, 0, 0) = M) (hM20 : M ≤ 20) (hs : g (0, 0, 0) 7 = nI M) {a : Nat} (ha : a < M) (hat : ¬ g (40, a, 0) 2 = g (40, a, 0) 0) : vx_Met l yX5_arrivedAt wsX5_arrivedAt ({ frames := 6, cells := 1, slots := 6, locals := 82 } : Room) (va_Pc [.ref (ad (0, 0, 0)), .int (nI a)] (g_S D C (lay C g ad ln ex) ad B)) (fun _ _ _ _ => False) (xX "java/util/NoSuchElementException" D (lay C g ad ln ex) ad B) 1 6 (g_A B) := by
  refine vx_ofW (cc := cX5_arrivedAt) (maxL := 3) (ret := (some .int)) (by decide) rfl ?_
  intro p e s m args below meth c s₁ B₀ hml htab hv
  obtain ⟨rfl, hG, hF⟩ := hv
  have hK := hF.1
  have hN := hF.2.1
  have hB := hF.2.2.2
  have hx := B₀.exec
  have hb := B₀.bytes
  have hts := atoms_spec (ws := wsX5_arrivedAt) B₀.pre
  have hown : s.vm.findClass RX5 = some m.cls := findClass_of_methodNamed B₀.named
  have hlocks := B₀.notSynchronized
  have hS : va_S (g_A B) s.heap s.heap [] := va_S.rf
  have hl := lv_entry [.ref (ad (0, 0, 0)), .int (nI a)] (n := 3) (Nat.le_of_ble_eq_true rfl)
  rw [lg_entry_eq]
  generalize (lg_sl [.ref (ad (0, 0, 0)), .int (nI a)] ++ List.replicate (3 - (lg_sl [.ref (ad (0, 0, 0)), .int (nI a)]).length) Slot.unset).toArray = ls at hl ⊢
  have hl : lv_has ls 3 [(0, .ref (ad (0, 0, 0))), (1, .int (nI a))] := hl
  refine lv_aload_n hx hb dX5_arrivedAt_0 rfl (lv_at hl 0 rfl) ?_
  refine lv_iload_n hx hb dX5_arrivedAt_1 rfl (lv_at hl 1 rfl) ?_
  refine va_csr (W.runV (As := [.int (nI a)]) (rest := []) ⟨hx, hb, hml, hown, hts⟩ (c_requireMessage l hM hM20 hs ha) (cwV 1 hts gX5_arrivedAt_X5_requireMessage rfl rfl rfl (by decide +kernel) ⟨Nat.le_of_ble_eq_true rfl, Nat.le_of_ble_eq_true rfl⟩) (g_preV hF hG hS (lay_main) rfl) rfl rfl hl.1 rfl (lv_room (Nat.le_of_ble_eq_true rfl)) dX5_arrivedAt_2 ⟨Nat.le_of_ble_eq_true rfl, Nat.le_of_ble_eq_true rfl⟩) (fun k_3 h_2 => ?_)
  rw [show k_3 = a from h_2]
  refine lv_astore_n (lv' := [(2, .ref (ad (40, a, 0))), (0, .ref (ad (0, 0, 0))), (1, .int (nI a))]) hx hb dX5_arrivedAt_5 rfl hl (by decide) rfl (fun ls hl => ?_)
  refine lv_aload_n hx hb dX5_arrivedAt_6 rfl (lv_at hl 0 rfl) ?_
  refine vp_callSi (W.runV (As := []) (rest := []) ⟨hx, hb, hml, hown, hts⟩ (c_isAtGoal l (show a < ln (5, 0, 0) by omega)) (cwV 0 hts gX5_arrivedAt_X0_isAtGoal rfl rfl rfl (by decide +kernel) ⟨Nat.le_of_ble_eq_true rfl, Nat.le_of_ble_eq_true rfl⟩) (g_preV hF hG hS (lay_msg (show a < ln (5, 0, 0) by omega)) rfl) rfl rfl hl.1 rfl (lv_room (Nat.le_of_ble_eq_true rfl)) dX5_arrivedAt_7 ⟨Nat.le_of_ble_eq_true rfl, Nat.le_of_ble_eq_true rfl⟩) (fun r_4 h_5 => ?_)
  refine lv_to (y := nI 0) (h_5.trans (if_neg hat)) ?_
  refine lv_if_ne (tgt := 23) hx hb dX5_arrivedAt_10 (by decide) (fun c_6 => ?_) (fun c_6 => ?_)
  · exact absurd c_6 nI_0z
  · obtain ⟨sa, hstr⟩ := hF.2.2.1.2.2.1.1 (167, "the message has not arrived") (by simp [g_strs])
    exact x_throwS (mc := 1) (ms := 6) (A := g_A B) (names := ["java/lang/Exception"]) (Y1 := "java/lang/RuntimeException") (rx := nsB) (ix := 13) hx hb hst (by decide +kernel) (by decide +kernel) (by decide +kernel) (by decide +kernel) hown (by decide +kernel) (by decide +kernel) (by decide +kernel) (hts (.classLink RX5 165 "java/util/NoSuchElementException") (by decide +kernel)) (hts (.initialized "java/util/NoSuchElementException") (by decide +kernel)) hstr (vx_hat (fun w hw => hts w (by exact List.mem_cons_of_mem _ (List.mem_append_left _ (List.mem_append_right _ hw)))) (B := [.castable "java/util/NoSuchElementException" "java/util/NoSuchElementException", .declares (Bundle.initS "java/lang/RuntimeException"), .declares (Bundle.initS "java/lang/Exception"), .declares (Bundle.initS Bundle.tN)]) (by decide +kernel) (vx_c (va_Nw.use rfl hF.2.2.1.2.2.1.2.2.1) (vx_c (va_Nw.use rfl hF.2.2.1.2.2.1.2.2.2.2.1) (vx_c (va_Nw.use rfl hF.2.2.1.2.2.1.2.2.2.2.2.1) (vx_c (va_Nw.use rfl hF.2.2.1.2.2.1.2.2.2.2.2.2) vx_n))))) (by decide +kernel) hF.2.2.1.1 hF.2.2.1.2.1 hS (hl.1.trans hml.symm) dX5_arrivedAt_13 dX5_arrivedAt_16 dX5_arrivedAt_17 dX5_arrivedAt_19 dX5_arrivedAt_22 (fun x hx => (htab x hx).elim) (Nat.le_of_ble_eq_true rfl) (Nat.le_of_ble_eq_true rfl) (Nat.le_of_ble_eq_true rfl) (Nat.le_of_ble_eq_true rfl) hlocks (fun t _ hsz hk => xX_of hG hS hsz hk) hS.2.2 (Nat.le_refl _) (Nat.le_refl _)

set_option maxHeartbeats 4000000 in
set_option maxRecDepth 100000 in
theorem x_requireHop (l : Launch) (hst : l.stackTraces = false) {D : va_G} {C : g_C} {g : g_k → Nat → Int32} {ad ln : g_k → Nat} {ex : g_k → Option va_E} {B : Nat} {mg h : Nat} (hm : mg < ln (5, 0, 0)) (hh : g (40, mg, 0) 5 = nI h) {x : Int32} (hx9 : ¬ (nI 0 ≤ x ∧ x ≤ nI h - nI 1)) : vx_Met l yX5_requireHop wsX5_requireHop ({ frames := 6, cells := 1, slots := 6, locals := 82 } : Room) (va_Pc [.ref (ad (40, mg, 0)), .int x] (g_S D C (lay C g ad ln ex) ad B)) (fun _ _ _ _ => False) (xX "java/lang/IndexOutOfBoundsException" D (lay C g ad ln ex) ad B) 1 6 (g_A B) := by
  refine vx_ofW (cc := cX5_requireHop) (maxL := 2) (ret := none) (by decide) rfl ?_
  intro p e s m args below meth c s₁ B₀ hml htab hv
  obtain ⟨rfl, hG, hF⟩ := hv
  have hK := hF.1
  have hN := hF.2.1
  have hB := hF.2.2.2
  have hx := B₀.exec
  have hb := B₀.bytes
  have hts := atoms_spec (ws := wsX5_requireHop) B₀.pre
  have hown : s.vm.findClass RX5 = some m.cls := findClass_of_methodNamed B₀.named
  have hlocks := B₀.notSynchronized
  have hS : va_S (g_A B) s.heap s.heap [] := va_S.rf
  have hi0 : ∀ w ∈ wsX00, w ∈ wsX5_requireHop := by decide +kernel
  have hl := lv_entry [.ref (ad (40, mg, 0)), .int x] (n := 2) (Nat.le_of_ble_eq_true rfl)
  rw [lg_entry_eq]
  generalize (lg_sl [.ref (ad (40, mg, 0)), .int x] ++ List.replicate (2 - (lg_sl [.ref (ad (40, mg, 0)), .int x]).length) Slot.unset).toArray = ls at hl ⊢
  have hl : lv_has ls 2 [(0, .ref (ad (40, mg, 0))), (1, .int x)] := hl
  refine lv_iload_n hx hb dX5_requireHop_0 rfl (lv_at hl 1 rfl) ?_
  refine lv_iconst (v := nI 0) hx hb dX5_requireHop_1 (by decide) ?_
  refine lv_aload_n hx hb dX5_requireHop_2 rfl (lv_at hl 0 rfl) ?_
  refine g_getN hx hb hts hi0 hown hK hG (lay_msg hm) rfl 5 (by decide) (va_Nw.use rfl hN.2.2.2.1) rfl dX5_requireHop_3 ?_
  refine lv_to (y := nI h) (hh) ?_
  refine lv_iconst (v := nI 1) hx hb dX5_requireHop_6 (by decide) ?_
  refine lv_isub hx hb dX5_requireHop_7 ?_
  refine vp_callSi (W.runS (As := [.int x, .int (nI 0), .int ((nI h) - (nI 1))]) (rest := []) ⟨hx, hb, hml, hown, hts⟩ (c_inRange l ) (va_cwS 3 hts gX5_requireHop_X5_inRange rfl rfl rfl (by decide +kernel) ⟨Nat.le_of_ble_eq_true rfl, Nat.le_of_ble_eq_true rfl⟩) (g_preS hF hG hS) rfl rfl hl.1 rfl (lv_room (Nat.le_of_ble_eq_true rfl)) dX5_requireHop_8 ⟨Nat.le_of_ble_eq_true rfl, Nat.le_of_ble_eq_true rfl⟩) (fun r_1 h_2 => ?_)
  refine lv_to (y := nI 0) (h_2.trans (if_neg hx9)) ?_
  refine lv_if_ne (tgt := 24) hx hb dX5_requireHop_11 (by decide) (fun c_3 => ?_) (fun c_3 => ?_)
  · exact absurd c_3 nI_0z
  · obtain ⟨sa, hstr⟩ := hF.2.2.1.2.2.1.1 (225, "there is no such hop") (by simp [g_strs])
    exact vx_throwS (mc := 1) (ms := 6) (A := g_A B) (names := ["java/lang/RuntimeException", "java/lang/Exception"]) hx hb hst hown (by decide +kernel) (by decide +kernel) (hts (.classLink RX5 91 "java/lang/IndexOutOfBoundsException") (by decide +kernel)) (hts (.initialized "java/lang/IndexOutOfBoundsException") (by decide +kernel)) hstr (vx_hat (fun w hw => hts w (by exact List.mem_cons_of_mem _ (List.mem_append_right _ hw))) (B := [.castable "java/lang/IndexOutOfBoundsException" "java/lang/IndexOutOfBoundsException", .declares (Bundle.initS "java/lang/RuntimeException"), .declares (Bundle.initS "java/lang/Exception"), .declares (Bundle.initS Bundle.tN)]) (by decide +kernel) (vx_c (va_Nw.use rfl hF.2.2.1.2.2.1.2.1) (vx_c (va_Nw.use rfl hF.2.2.1.2.2.1.2.2.2.2.1) (vx_c (va_Nw.use rfl hF.2.2.1.2.2.1.2.2.2.2.2.1) (vx_c (va_Nw.use rfl hF.2.2.1.2.2.1.2.2.2.2.2.2) vx_n))))) (by decide +kernel) hF.2.2.1.1 hF.2.2.1.2.1 hS (hl.1.trans hml.symm) dX5_requireHop_14 dX5_requireHop_17 dX5_requireHop_18 dX5_requireHop_20 dX5_requireHop_23 (fun x hx => (htab x hx).elim) (Nat.le_of_ble_eq_true rfl) (Nat.le_of_ble_eq_true rfl) (Nat.le_of_ble_eq_true rfl) (Nat.le_of_ble_eq_true rfl) hlocks (fun t _ hsz hk => xX_of hG hS hsz hk) hS.2.2 (Nat.le_refl _) (Nat.le_refl _)

set_option maxHeartbeats 4000000 in
set_option maxRecDepth 100000 in
theorem x_hopNode (l : Launch) (hst : l.stackTraces = false) {D : va_G} {C : g_C} {g : g_k → Nat → Int32} {ad ln : g_k → Nat} {ex : g_k → Option va_E} {B : Nat} {M : Nat} (hM : ln (5, 0, 0) = M) (hM20 : M ≤ 20) (hs : g (0, 0, 0) 7 = nI M) {a h : Nat} (ha : a < M) (hh : g (40, a, 0) 5 = nI h) {x : Int32} (hx9 : ¬ (nI 0 ≤ x ∧ x ≤ nI h - nI 1)) : vx_Met l yX5_hopNode wsX5_hopNode ({ frames := 7, cells := 1, slots := 6, locals := 103 } : Room) (va_Pc [.ref (ad (0, 0, 0)), .int (nI a), .int x] (g_S D C (lay C g ad ln ex) ad B)) (fun _ _ _ _ => False) (xX "java/lang/IndexOutOfBoundsException" D (lay C g ad ln ex) ad B) 1 6 (g_A B) := by
  refine vx_ofW (cc := cX5_hopNode) (maxL := 4) (ret := (some .int)) (by decide) rfl ?_
  intro p e s m args below meth c s₁ B₀ hml htab hv
  obtain ⟨rfl, hG, hF⟩ := hv
  have hK := hF.1
  have hN := hF.2.1
  have hB := hF.2.2.2
  have hx := B₀.exec
  have hb := B₀.bytes
  have hts := atoms_spec (ws := wsX5_hopNode) B₀.pre
  have hown : s.vm.findClass RX5 = some m.cls := findClass_of_methodNamed B₀.named
  have hlocks := B₀.notSynchronized
  have hS : va_S (g_A B) s.heap s.heap [] := va_S.rf
  have hl := lv_entry [.ref (ad (0, 0, 0)), .int (nI a), .int x] (n := 4) (Nat.le_of_ble_eq_true rfl)
  rw [lg_entry_eq]
  generalize (lg_sl [.ref (ad (0, 0, 0)), .int (nI a), .int x] ++ List.replicate (4 - (lg_sl [.ref (ad (0, 0, 0)), .int (nI a), .int x]).length) Slot.unset).toArray = ls at hl ⊢
  have hl : lv_has ls 4 [(0, .ref (ad (0, 0, 0))), (1, .int (nI a)), (2, .int x)] := hl
  refine lv_aload_n hx hb dX5_hopNode_0 rfl (lv_at hl 0 rfl) ?_
  refine lv_iload_n hx hb dX5_hopNode_1 rfl (lv_at hl 1 rfl) ?_
  refine va_csr (W.runV (As := [.int (nI a)]) (rest := []) ⟨hx, hb, hml, hown, hts⟩ (c_requireMessage l hM hM20 hs ha) (cwV 1 hts gX5_hopNode_X5_requireMessage rfl rfl rfl (by decide +kernel) ⟨Nat.le_of_ble_eq_true rfl, Nat.le_of_ble_eq_true rfl⟩) (g_preV hF hG hS (lay_main) rfl) rfl rfl hl.1 rfl (lv_room (Nat.le_of_ble_eq_true rfl)) dX5_hopNode_2 ⟨Nat.le_of_ble_eq_true rfl, Nat.le_of_ble_eq_true rfl⟩) (fun k_3 h_2 => ?_)
  rw [show k_3 = a from h_2]
  refine lv_astore_n (lv' := [(3, .ref (ad (40, a, 0))), (0, .ref (ad (0, 0, 0))), (1, .int (nI a)), (2, .int x)]) hx hb dX5_hopNode_5 rfl hl (by decide) rfl (fun ls hl => ?_)
  refine lv_aload_n hx hb dX5_hopNode_6 rfl (lv_at hl 0 rfl) ?_
  refine lv_iload_n hx hb dX5_hopNode_7 rfl (lv_at hl 3 rfl) ?_
  refine vx_callx (vx_runS (As := [.ref (ad (40, a, 0)), .int x]) (rest := []) ⟨hx, hb, hml, hown, hts⟩ (x_requireHop l hst (show a < ln (5, 0, 0) by omega) hh hx9) (va_cwS 2 hts gX5_hopNode_X5_requireHop rfl rfl rfl (by decide +kernel) ⟨Nat.le_of_ble_eq_true rfl, Nat.le_of_ble_eq_true rfl⟩) (g_preS hF hG hS) rfl rfl hl.1 rfl (lv_room (Nat.le_of_ble_eq_true rfl)) dX5_hopNode_8 ⟨Nat.le_of_ble_eq_true rfl, Nat.le_of_ble_eq_true rfl⟩) hS (fun q h => h) (fun q _ h => h) (fun E ce q9 u t H locs ht9 _ _ hbx hS hce hcv hcl => ?_)
  obtain ⟨rfl, hG1⟩ := hbx
  refine vx_out (fun x hx => (htab x hx).elim) hlocks hce hcv hcl (fun t1 ht1 _ => xX_of (H := H) (by rw [← ht9]; exact hG1) hS (by rw [ht1]; exact Nat.le_refl _) (fun q _ => by rw [ht1])) hS.2.2 (Nat.le_refl _) (Nat.le_refl _)

set_option maxHeartbeats 4000000 in
set_option maxRecDepth 100000 in
theorem x_hopMinute (l : Launch) (hst : l.stackTraces = false) {D : va_G} {C : g_C} {g : g_k → Nat → Int32} {ad ln : g_k → Nat} {ex : g_k → Option va_E} {B : Nat} {M : Nat} (hM : ln (5, 0, 0) = M) (hM20 : M ≤ 20) (hs : g (0, 0, 0) 7 = nI M) {a h : Nat} (ha : a < M) (hh : g (40, a, 0) 5 = nI h) {x : Int32} (hx9 : ¬ (nI 0 ≤ x ∧ x ≤ nI h - nI 1)) : vx_Met l yX5_hopMinute wsX5_hopMinute ({ frames := 7, cells := 1, slots := 6, locals := 103 } : Room) (va_Pc [.ref (ad (0, 0, 0)), .int (nI a), .int x] (g_S D C (lay C g ad ln ex) ad B)) (fun _ _ _ _ => False) (xX "java/lang/IndexOutOfBoundsException" D (lay C g ad ln ex) ad B) 1 6 (g_A B) := by
  refine vx_ofW (cc := cX5_hopMinute) (maxL := 4) (ret := (some .int)) (by decide) rfl ?_
  intro p e s m args below meth c s₁ B₀ hml htab hv
  obtain ⟨rfl, hG, hF⟩ := hv
  have hK := hF.1
  have hN := hF.2.1
  have hB := hF.2.2.2
  have hx := B₀.exec
  have hb := B₀.bytes
  have hts := atoms_spec (ws := wsX5_hopMinute) B₀.pre
  have hown : s.vm.findClass RX5 = some m.cls := findClass_of_methodNamed B₀.named
  have hlocks := B₀.notSynchronized
  have hS : va_S (g_A B) s.heap s.heap [] := va_S.rf
  have hl := lv_entry [.ref (ad (0, 0, 0)), .int (nI a), .int x] (n := 4) (Nat.le_of_ble_eq_true rfl)
  rw [lg_entry_eq]
  generalize (lg_sl [.ref (ad (0, 0, 0)), .int (nI a), .int x] ++ List.replicate (4 - (lg_sl [.ref (ad (0, 0, 0)), .int (nI a), .int x]).length) Slot.unset).toArray = ls at hl ⊢
  have hl : lv_has ls 4 [(0, .ref (ad (0, 0, 0))), (1, .int (nI a)), (2, .int x)] := hl
  refine lv_aload_n hx hb dX5_hopMinute_0 rfl (lv_at hl 0 rfl) ?_
  refine lv_iload_n hx hb dX5_hopMinute_1 rfl (lv_at hl 1 rfl) ?_
  refine va_csr (W.runV (As := [.int (nI a)]) (rest := []) ⟨hx, hb, hml, hown, hts⟩ (c_requireMessage l hM hM20 hs ha) (cwV 1 hts gX5_hopMinute_X5_requireMessage rfl rfl rfl (by decide +kernel) ⟨Nat.le_of_ble_eq_true rfl, Nat.le_of_ble_eq_true rfl⟩) (g_preV hF hG hS (lay_main) rfl) rfl rfl hl.1 rfl (lv_room (Nat.le_of_ble_eq_true rfl)) dX5_hopMinute_2 ⟨Nat.le_of_ble_eq_true rfl, Nat.le_of_ble_eq_true rfl⟩) (fun k_3 h_2 => ?_)
  rw [show k_3 = a from h_2]
  refine lv_astore_n (lv' := [(3, .ref (ad (40, a, 0))), (0, .ref (ad (0, 0, 0))), (1, .int (nI a)), (2, .int x)]) hx hb dX5_hopMinute_5 rfl hl (by decide) rfl (fun ls hl => ?_)
  refine lv_aload_n hx hb dX5_hopMinute_6 rfl (lv_at hl 0 rfl) ?_
  refine lv_iload_n hx hb dX5_hopMinute_7 rfl (lv_at hl 3 rfl) ?_
  refine vx_callx (vx_runS (As := [.ref (ad (40, a, 0)), .int x]) (rest := []) ⟨hx, hb, hml, hown, hts⟩ (x_requireHop l hst (show a < ln (5, 0, 0) by omega) hh hx9) (va_cwS 2 hts gX5_hopMinute_X5_requireHop rfl rfl rfl (by decide +kernel) ⟨Nat.le_of_ble_eq_true rfl, Nat.le_of_ble_eq_true rfl⟩) (g_preS hF hG hS) rfl rfl hl.1 rfl (lv_room (Nat.le_of_ble_eq_true rfl)) dX5_hopMinute_8 ⟨Nat.le_of_ble_eq_true rfl, Nat.le_of_ble_eq_true rfl⟩) hS (fun q h => h) (fun q _ h => h) (fun E ce q9 u t H locs ht9 _ _ hbx hS hce hcv hcl => ?_)
  obtain ⟨rfl, hG1⟩ := hbx
  refine vx_out (fun x hx => (htab x hx).elim) hlocks hce hcv hcl (fun t1 ht1 _ => xX_of (H := H) (by rw [← ht9]; exact hG1) hS (by rw [ht1]; exact Nat.le_refl _) (fun q _ => by rw [ht1])) hS.2.2 (Nat.le_refl _) (Nat.le_refl _)

set_option maxHeartbeats 4000000 in
set_option maxRecDepth 100000 in
theorem x_setCapacity (l : Launch) (hst : l.stackTraces = false) {D : va_G} {C : g_C} {g : g_k → Nat → Int32} {ad ln : g_k → Nat} {ex : g_k → Option va_E} {B : Nat} {n : Nat} (hn : n ≤ 10) (hc : g (1, 0, 0) 4 = nI n) {a : Nat} {x : Int32} (ha : a < n) (hl9 : ln (30, a, 0) = 1) : vx_Met l yX5_setCapacity wsX5_setCapacity ({ frames := 6, cells := 1, slots := 6, locals := 82 } : Room) (va_Pc [.ref (ad (0, 0, 0)), .int (nI a), .int x] (g_S D C (lay C g ad ln ex) ad B)) (fun _ _ _ _ => False) (xX "java/lang/IndexOutOfBoundsException" D (lay C g ad ln ex) ad B) 1 6 (g_A B) := by
  refine vx_ofW (cc := cX5_setCapacity) (maxL := 4) (ret := (some .int)) (by decide) rfl ?_
  intro p e s m args below meth c s₁ B₀ hml htab hv
  obtain ⟨rfl, hG, hF⟩ := hv
  have hK := hF.1
  have hN := hF.2.1
  have hB := hF.2.2.2
  have hx := B₀.exec
  have hb := B₀.bytes
  have hts := atoms_spec (ws := wsX5_setCapacity) B₀.pre
  have hown : s.vm.findClass RX5 = some m.cls := findClass_of_methodNamed B₀.named
  have hlocks := B₀.notSynchronized
  have hS : va_S (g_A B) s.heap s.heap [] := va_S.rf
  have hi5 : ∀ w ∈ wsX50, w ∈ wsX5_setCapacity := by decide +kernel
  have hl := lv_entry [.ref (ad (0, 0, 0)), .int (nI a), .int x] (n := 4) (Nat.le_of_ble_eq_true rfl)
  rw [lg_entry_eq]
  generalize (lg_sl [.ref (ad (0, 0, 0)), .int (nI a), .int x] ++ List.replicate (4 - (lg_sl [.ref (ad (0, 0, 0)), .int (nI a), .int x]).length) Slot.unset).toArray = ls at hl ⊢
  have hl : lv_has ls 4 [(0, .ref (ad (0, 0, 0))), (1, .int (nI a)), (2, .int x)] := hl
  refine lv_aload_n hx hb dX5_setCapacity_0 rfl (lv_at hl 0 rfl) ?_
  refine lv_iload_n hx hb dX5_setCapacity_1 rfl (lv_at hl 1 rfl) ?_
  refine va_csv (W.runV (As := [.int (nI a)]) (rest := []) ⟨hx, hb, hml, hown, hts⟩ (c_requireNode l hn hc ha) (cwV 1 hts gX5_setCapacity_X5_requireNode rfl rfl rfl (by decide +kernel) ⟨Nat.le_of_ble_eq_true rfl, Nat.le_of_ble_eq_true rfl⟩) (g_preV hF hG hS (lay_main) rfl) rfl rfl hl.1 rfl (lv_room (Nat.le_of_ble_eq_true rfl)) dX5_setCapacity_2 ⟨Nat.le_of_ble_eq_true rfl, Nat.le_of_ble_eq_true rfl⟩) (fun h_2 => ?_)
  refine lv_aload_n hx hb dX5_setCapacity_5 rfl (lv_at hl 0 rfl) ?_
  refine g_get hx hb hts hi5 hown hK hG (lay_main) rfl 2 (by decide) (hts (.fieldLink RX5 27 "Satellitering" "stations" "[LSatellitering$Station;") (by decide +kernel)) rfl dX5_setCapacity_6 ?_
  refine lv_iload_n hx hb dX5_setCapacity_9 rfl (lv_at hl 1 rfl) ?_
  refine o_stationY hx hb hK hG (show a < 10 by omega) hl9 dX5_setCapacity_10 ?_
  refine lv_ifnull hx hb dX5_setCapacity_11 ?_
  obtain ⟨sa, hstr⟩ := hF.2.2.1.2.2.1.1 (93, "the node is a station") (by simp [g_strs])
  exact vx_throwS (mc := 1) (ms := 6) (A := g_A B) (names := ["java/lang/RuntimeException", "java/lang/Exception"]) hx hb hst hown (by decide +kernel) (by decide +kernel) (hts (.classLink RX5 91 "java/lang/IndexOutOfBoundsException") (by decide +kernel)) (hts (.initialized "java/lang/IndexOutOfBoundsException") (by decide +kernel)) hstr (vx_hat (fun w hw => hts w (by exact List.mem_cons_of_mem _ (List.mem_append_left _ (List.mem_append_right _ hw)))) (B := [.castable "java/lang/IndexOutOfBoundsException" "java/lang/IndexOutOfBoundsException", .declares (Bundle.initS "java/lang/RuntimeException"), .declares (Bundle.initS "java/lang/Exception"), .declares (Bundle.initS Bundle.tN)]) (by decide +kernel) (vx_c (va_Nw.use rfl hF.2.2.1.2.2.1.2.1) (vx_c (va_Nw.use rfl hF.2.2.1.2.2.1.2.2.2.2.1) (vx_c (va_Nw.use rfl hF.2.2.1.2.2.1.2.2.2.2.2.1) (vx_c (va_Nw.use rfl hF.2.2.1.2.2.1.2.2.2.2.2.2) vx_n))))) (by decide +kernel) hF.2.2.1.1 hF.2.2.1.2.1 hS (hl.1.trans hml.symm) dX5_setCapacity_14 dX5_setCapacity_17 dX5_setCapacity_18 dX5_setCapacity_20 dX5_setCapacity_23 (fun x hx => (htab x hx).elim) (Nat.le_of_ble_eq_true rfl) (Nat.le_of_ble_eq_true rfl) (Nat.le_of_ble_eq_true rfl) (Nat.le_of_ble_eq_true rfl) hlocks (fun t _ hsz hk => xX_of hG hS hsz hk) hS.2.2 (Nat.le_refl _) (Nat.le_refl _)

set_option maxHeartbeats 4000000 in
set_option maxRecDepth 100000 in
theorem x_requireStation (l : Launch) (hst : l.stackTraces = false) {D : va_G} {C : g_C} {g : g_k → Nat → Int32} {ad ln : g_k → Nat} {ex : g_k → Option va_E} {B : Nat} {n : Nat} (hn : n ≤ 10) (hc : g (1, 0, 0) 4 = nI n) {a : Nat} (ha : a < n) (hnl : ln (30, a, 0) ≠ 1) : vx_Met l yX5_requireStation wsX5_requireStation ({ frames := 6, cells := 1, slots := 6, locals := 82 } : Room) (va_Pc [.ref (ad (0, 0, 0)), .int (nI a)] (g_S D C (lay C g ad ln ex) ad B)) (fun _ _ _ _ => False) (xX "java/lang/IndexOutOfBoundsException" D (lay C g ad ln ex) ad B) 1 6 (g_A B) := by
  refine vx_ofW (cc := cX5_requireStation) (maxL := 3) (ret := (some (.object "Satellitering$Station"))) (by decide) rfl ?_
  intro p e s m args below meth c s₁ B₀ hml htab hv
  obtain ⟨rfl, hG, hF⟩ := hv
  have hK := hF.1
  have hN := hF.2.1
  have hB := hF.2.2.2
  have hx := B₀.exec
  have hb := B₀.bytes
  have hts := atoms_spec (ws := wsX5_requireStation) B₀.pre
  have hown : s.vm.findClass RX5 = some m.cls := findClass_of_methodNamed B₀.named
  have hlocks := B₀.notSynchronized
  have hS : va_S (g_A B) s.heap s.heap [] := va_S.rf
  have hi5 : ∀ w ∈ wsX50, w ∈ wsX5_requireStation := by decide +kernel
  have hl := lv_entry [.ref (ad (0, 0, 0)), .int (nI a)] (n := 3) (Nat.le_of_ble_eq_true rfl)
  rw [lg_entry_eq]
  generalize (lg_sl [.ref (ad (0, 0, 0)), .int (nI a)] ++ List.replicate (3 - (lg_sl [.ref (ad (0, 0, 0)), .int (nI a)]).length) Slot.unset).toArray = ls at hl ⊢
  have hl : lv_has ls 3 [(0, .ref (ad (0, 0, 0))), (1, .int (nI a))] := hl
  refine lv_aload_n hx hb dX5_requireStation_0 rfl (lv_at hl 0 rfl) ?_
  refine lv_iload_n hx hb dX5_requireStation_1 rfl (lv_at hl 1 rfl) ?_
  refine va_csv (W.runV (As := [.int (nI a)]) (rest := []) ⟨hx, hb, hml, hown, hts⟩ (c_requireNode l hn hc ha) (cwV 1 hts gX5_requireStation_X5_requireNode rfl rfl rfl (by decide +kernel) ⟨Nat.le_of_ble_eq_true rfl, Nat.le_of_ble_eq_true rfl⟩) (g_preV hF hG hS (lay_main) rfl) rfl rfl hl.1 rfl (lv_room (Nat.le_of_ble_eq_true rfl)) dX5_requireStation_2 ⟨Nat.le_of_ble_eq_true rfl, Nat.le_of_ble_eq_true rfl⟩) (fun h_2 => ?_)
  refine lv_aload_n hx hb dX5_requireStation_5 rfl (lv_at hl 0 rfl) ?_
  refine g_get hx hb hts hi5 hown hK hG (lay_main) rfl 2 (by decide) (hts (.fieldLink RX5 27 "Satellitering" "stations" "[LSatellitering$Station;") (by decide +kernel)) rfl dX5_requireStation_6 ?_
  refine lv_iload_n hx hb dX5_requireStation_9 rfl (lv_at hl 1 rfl) ?_
  refine o_stationN hx hb hK hG ((show a < 10 by omega)) hnl dX5_requireStation_10 ?_
  refine lv_astore_nN (lv' := [(2, .null), (0, .ref (ad (0, 0, 0))), (1, .int (nI a))]) hx hb dX5_requireStation_11 rfl hl (by decide) rfl (fun ls hl => ?_)
  refine lv_aload_nN hx hb dX5_requireStation_12 rfl (lv_at hl 0 rfl) ?_
  refine lv_ifnonnullN hx hb dX5_requireStation_13 ?_
  obtain ⟨sa, hstr⟩ := hF.2.2.1.2.2.1.1 (221, "the node is no station") (by simp [g_strs])
  exact vx_throwS (mc := 1) (ms := 6) (A := g_A B) (names := ["java/lang/RuntimeException", "java/lang/Exception"]) hx hb hst hown (by decide +kernel) (by decide +kernel) (hts (.classLink RX5 91 "java/lang/IndexOutOfBoundsException") (by decide +kernel)) (hts (.initialized "java/lang/IndexOutOfBoundsException") (by decide +kernel)) hstr (vx_hat (fun w hw => hts w (by exact List.mem_cons_of_mem _ (List.mem_append_right _ hw))) (B := [.castable "java/lang/IndexOutOfBoundsException" "java/lang/IndexOutOfBoundsException", .declares (Bundle.initS "java/lang/RuntimeException"), .declares (Bundle.initS "java/lang/Exception"), .declares (Bundle.initS Bundle.tN)]) (by decide +kernel) (vx_c (va_Nw.use rfl hF.2.2.1.2.2.1.2.1) (vx_c (va_Nw.use rfl hF.2.2.1.2.2.1.2.2.2.2.1) (vx_c (va_Nw.use rfl hF.2.2.1.2.2.1.2.2.2.2.2.1) (vx_c (va_Nw.use rfl hF.2.2.1.2.2.1.2.2.2.2.2.2) vx_n))))) (by decide +kernel) hF.2.2.1.1 hF.2.2.1.2.1 hS (hl.1.trans hml.symm) dX5_requireStation_16 dX5_requireStation_19 dX5_requireStation_20 dX5_requireStation_22 dX5_requireStation_25 (fun x hx => (htab x hx).elim) (Nat.le_of_ble_eq_true rfl) (Nat.le_of_ble_eq_true rfl) (Nat.le_of_ble_eq_true rfl) (Nat.le_of_ble_eq_true rfl) hlocks (fun t _ hsz hk => xX_of hG hS hsz hk) hS.2.2 (Nat.le_refl _) (Nat.le_refl _)

set_option maxHeartbeats 4000000 in
set_option maxRecDepth 100000 in
theorem x_relayOf (l : Launch) (hst : l.stackTraces = false) {D : va_G} {C : g_C} {g : g_k → Nat → Int32} {ad ln : g_k → Nat} {ex : g_k → Option va_E} {B : Nat} {n : Nat} (hn : n ≤ 10) (hc : g (1, 0, 0) 4 = nI n) {a : Nat} (ha : a < n) (hnl : ln (30, a, 0) ≠ 1) : vx_Met l yX5_relayOf wsX5_relayOf ({ frames := 7, cells := 1, slots := 6, locals := 104 } : Room) (va_Pc [.ref (ad (0, 0, 0)), .int (nI a)] (g_S D C (lay C g ad ln ex) ad B)) (fun _ _ _ _ => False) (xX "java/lang/IndexOutOfBoundsException" D (lay C g ad ln ex) ad B) 1 6 (g_A B) := by
  refine vx_ofW (cc := cX5_relayOf) (maxL := 2) (ret := (some .int)) (by decide) rfl ?_
  intro p e s m args below meth c s₁ B₀ hml htab hv
  obtain ⟨rfl, hG, hF⟩ := hv
  have hK := hF.1
  have hN := hF.2.1
  have hB := hF.2.2.2
  have hx := B₀.exec
  have hb := B₀.bytes
  have hts := atoms_spec (ws := wsX5_relayOf) B₀.pre
  have hown : s.vm.findClass RX5 = some m.cls := findClass_of_methodNamed B₀.named
  have hlocks := B₀.notSynchronized
  have hS : va_S (g_A B) s.heap s.heap [] := va_S.rf
  have hl := lv_entry [.ref (ad (0, 0, 0)), .int (nI a)] (n := 2) (Nat.le_of_ble_eq_true rfl)
  rw [lg_entry_eq]
  generalize (lg_sl [.ref (ad (0, 0, 0)), .int (nI a)] ++ List.replicate (2 - (lg_sl [.ref (ad (0, 0, 0)), .int (nI a)]).length) Slot.unset).toArray = ls at hl ⊢
  have hl : lv_has ls 2 [(0, .ref (ad (0, 0, 0))), (1, .int (nI a))] := hl
  refine lv_aload_n hx hb dX5_relayOf_0 rfl (lv_at hl 0 rfl) ?_
  refine lv_iload_n hx hb dX5_relayOf_1 rfl (lv_at hl 1 rfl) ?_
  refine vx_callx (vx_runV (As := [.int (nI a)]) (rest := []) ⟨hx, hb, hml, hown, hts⟩ (x_requireStation l hst hn hc ha hnl) (cwV 1 hts gX5_relayOf_X5_requireStation rfl rfl rfl (by decide +kernel) ⟨Nat.le_of_ble_eq_true rfl, Nat.le_of_ble_eq_true rfl⟩) (g_preV hF hG hS (lay_main) rfl) rfl rfl hl.1 rfl (lv_room (Nat.le_of_ble_eq_true rfl)) dX5_relayOf_2 ⟨Nat.le_of_ble_eq_true rfl, Nat.le_of_ble_eq_true rfl⟩) hS (fun q h => h) (fun q _ h => h) (fun E ce q9 u t H locs ht9 _ _ hbx hS hce hcv hcl => ?_)
  obtain ⟨rfl, hG1⟩ := hbx
  refine vx_out (fun x hx => (htab x hx).elim) hlocks hce hcv hcl (fun t1 ht1 _ => xX_of (H := H) (by rw [← ht9]; exact hG1) hS (by rw [ht1]; exact Nat.le_refl _) (fun q _ => by rw [ht1])) hS.2.2 (Nat.le_refl _) (Nat.le_refl _)
