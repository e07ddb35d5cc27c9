/-- a contract of a method that has handlers -/
theorem g_ofWW {l : Launch} {y : MethodName} {ws ws' : List Cond} {rm : Room} {Pc : Array Value → State → Prop} {Qc : Array Value → State → Outcome → State → Prop} {mc ms : Nat} {free : Addr → Prop} {cc : ByteArray} {maxL : Nat} {ret : Option FieldType} {hh : List (Nat × Nat × Nat × Nat)} (hy : plainFor y = true) (hw : ws = Cond.codeWith y cc maxL ret hh :: ws')
    (body : ∀ p e s m args below meth c s₁, BodyLoose p l y (headSpec ws rm) cc maxL ret e s m args below meth c s₁ → c.maxLocals = maxL → Pc args s → W p l e (headSpec ws rm).room s m args below meth c s.heap [] 0 0 (MQ below Qc args s mc ms free) (entryFrame m args maxL)) : Met l y ws rm Pc Qc mc ms free := by
  refine MetFree.of_bodySF (code := cc) (maxLocals := maxL) (ret := ret) hy ?_ ?_
  · intro args s m h hn
    obtain ⟨m9, meth, c, hn9, h1, h2, h3, h4, -, h5, h6, -⟩ := Cond.codeWith_spec (atoms_spec (ws := ws) h _ (by rw [hw]; exact List.mem_cons_self))
    cases Option.some.inj (hn9.symm.trans hn)
    exact ⟨meth, c, h1, h2, h3, h4, h5, h6⟩
  · intro p e s m args below meth c s₁ B hml hP _
    have hh0 : s₁.heap = s.heap := by rw [B.state]; rfl
    obtain ⟨t, a1, o, b1, b2, b3⟩ := body p e s m args below meth c s₁ B hml hP s₁ hh0 (Stand.of_body B)
    exact ⟨t, o, a1, b1, b2, ⟨b3.1, b3.2⟩⟩
section GCS
variable {p : Program} {l : Launch} {e : Env} {R : Room} {s : State} {m : MethodId} {args : Array Value} {below : List Frame} {meth : Method} {c : Code} {H : Heap} {locs : List Loc} {cells slots : Nat} {Q : State → Prop}
variable {pc : Nat} {ls : Array Slot} {rest st0 : List Value} {a : Array Value}
theorem g_callSi {post : Int32 → Prop} (hr : va_Run p l e R s m args below meth c H locs cells slots 0 0 (F0 m pc ls st0) rest (vp_Si post a) (fun _ => False))
    (kk : ∀ r : Int32, post r → W p l e R s m args below meth c H locs cells slots Q (F0 m (pc + 3) ls (.int r :: rest))) : W p l e R s m args below meth c H locs cells slots Q (F0 m pc ls st0) := by
  intro T hT X
  obtain ⟨v, st₀, t, T', L, h0, X', hL, e1, e2, ⟨r, hv, hp, hh⟩, st⟩ := hr T hT X
  cases hv
  obtain ⟨t2, a1, b1⟩ := kk r hp T' (by rw [e1, hh, h0]) (Stand.forget X' (fun q h => (hL q h).elim))
  exact ⟨t2, st t2 a1, b1⟩
end GCS
/-- 1 or 0 -/
def sI (x : Bool) : Int32 := if x = true then nI 1 else nI 0
theorem sI_t {x : Bool} (h : x = true) : sI x = nI 1 := if_pos h
theorem sI_f {x : Bool} (h : x = false) : sI x = nI 0 := if_neg (by rw [h]; exact Bool.false_ne_true)

set_option maxHeartbeats 4000000 in
set_option maxRecDepth 100000 in
theorem l_see (l : Launch) {D : va_G} {C : g_C} {g : g_k → Nat → Int32} {ad ln : g_k → Nat} {ex : g_k → Option va_E} {B : Nat} {n : Nat} (hn : n ≤ 10) (hc : g (1, 0, 0) 4 = nI n) {a b t : Nat} (ha : a < n) (hb9 : b < n) (ht : t ≤ 1000000) : Met l yL_see wsL_see ({ frames := 4, cells := 0, slots := 0, locals := 89 } : Room) (va_Pc [.ref (ad (0, 0, 0)), .int (nI a), .int (nI b), .int (nI t)] (g_S D C (lay C g ad ln ex) ad B)) (vp_Si (fun r => r = sI (see g a b t))) 0 0 (fun _ => False) := by
  refine g_ofWW (cc := cL_see) (maxL := 5) (ret := (some .int)) (hh := [(0, 15, 16, 27), (0, 15, 21, 15)]) (by decide +kernel) rfl ?_
  intro p e s m args below meth c s₁ B₀ hml hv
  obtain ⟨rfl, hG, hF⟩ := hv
  have hK := hF.1
  have hN := hF.2.1
  have hB := hF.2.2.2
  have hx := B₀.exec
  have hb := B₀.bytes
  have hr := B₀.returns
  have hts := atoms_spec (ws := wsL_see) B₀.pre
  have hown : s.vm.findClass RL = some m.cls := findClass_of_methodNamed B₀.named
  have hlocks := B₀.notSynchronized
  have hS : va_S (g_A B) s.heap s.heap [] := va_S.rf
  have hl := lv_entry [.ref (ad (0, 0, 0)), .int (nI a), .int (nI b), .int (nI t)] (n := 5) (Nat.le_of_ble_eq_true rfl)
  rw [lg_entry_eq]
  generalize (lg_sl [.ref (ad (0, 0, 0)), .int (nI a), .int (nI b), .int (nI t)] ++ List.replicate (5 - (lg_sl [.ref (ad (0, 0, 0)), .int (nI a), .int (nI b), .int (nI t)]).length) Slot.unset).toArray = ls at hl ⊢
  have hl : lv_has ls 5 [(0, .ref (ad (0, 0, 0))), (1, .int (nI a)), (2, .int (nI b)), (3, .int (nI t))] := hl
  refine lv_aload_n hx hb dL_see_0 rfl (lv_at hl 0 rfl) ?_
  refine lv_iload_n hx hb dL_see_1 rfl (lv_at hl 1 rfl) ?_
  refine lv_iload_n hx hb dL_see_2 rfl (lv_at hl 2 rfl) ?_
  refine lv_iload_n hx hb dL_see_3 rfl (lv_at hl 3 rfl) ?_
  refine vp_callSi (W.runV (As := [.int (nI a), .int (nI b), .int (nI t)]) (rest := []) ⟨hx, hb, hml, hown, hts⟩ (c_see l hn hc ha hb9 ht) (cwV 3 hts gL_see_X5_see rfl rfl rfl (by decide +kernel) ⟨Nat.le_of_ble_eq_true rfl, Nat.le_of_ble_eq_true rfl⟩) (g_preV hF hG hS (lay_main) rfl) rfl rfl hl.1 rfl (lv_room (Nat.le_of_ble_eq_true rfl)) dL_see_4 ⟨Nat.le_of_ble_eq_true rfl, Nat.le_of_ble_eq_true rfl⟩) (fun r_1 h_2 => ?_)
  refine lv_if_eq (tgt := 14) hx hb dL_see_7 (by decide) (fun c_3 => ?_) (fun c_3 => ?_)
  · refine lv_iconst (v := nI 0) hx hb dL_see_14 (by decide) ?_
    exact W.iret (v := nI 0) hx hb hr (fun t9 ht9 hW9 => ⟨_, rfl, (sI_f (eq_false_of_ne_true (fun z => absurd ((show nI 1 = r_1 from ((show r_1 = _ from h_2).trans (if_pos z)).symm).trans c_3) (by decide)))).symm, ht9⟩) (fun q h => nomatch h) dL_see_15
  · refine lv_iconst (v := nI 1) hx hb dL_see_10 (by decide) ?_
    refine lv_goto (tgt := 15) hx hb dL_see_11 (by decide) ?_
    exact W.iret (v := nI 1) hx hb hr (fun t9 ht9 hW9 => ⟨_, rfl, (sI_t (Classical.byContradiction (fun z => c_3 ((show r_1 = _ from h_2).trans ((if_neg z).trans nI_0))))).symm, ht9⟩) (fun q h => nomatch h) dL_see_15

set_option maxHeartbeats 4000000 in
set_option maxRecDepth 100000 in
theorem l_contact (l : Launch) {D : va_G} {C : g_C} {g : g_k → Nat → Int32} {ad ln : g_k → Nat} {ex : g_k → Option va_E} {B : Nat} {n : Nat} (hn : n ≤ 10) (hc : g (1, 0, 0) 4 = nI n) {a b t : Nat} (ha : a < n) (hb9 : b < n) (ht : t ≤ 1000000) : Met l yL_contact wsL_contact ({ frames := 4, cells := 0, slots := 0, locals := 92 } : Room) (va_Pc [.ref (ad (0, 0, 0)), .int (nI a), .int (nI b), .int (nI t)] (g_S D C (lay C g ad ln ex) ad B)) (vp_Si (fun r => (∃ k, k < 360 ∧ see g a b (t + k) = true ∧ (∀ j, j < k → see g a b (t + j) = false) ∧ r = nI (t + k)) ∨ ((∀ j, j < 360 → see g a b (t + j) = false) ∧ r = (-1)))) 0 0 (fun _ => False) := by
  refine g_ofWW (cc := cL_contact) (maxL := 5) (ret := (some .int)) (hh := [(0, 7, 8, 27), (0, 7, 13, 15)]) (by decide +kernel) rfl ?_
  intro p e s m args below meth c s₁ B₀ hml hv
  obtain ⟨rfl, hG, hF⟩ := hv
  have hK := hF.1
  have hN := hF.2.1
  have hB := hF.2.2.2
  have hx := B₀.exec
  have hb := B₀.bytes
  have hr := B₀.returns
  have hts := atoms_spec (ws := wsL_contact) B₀.pre
  have hown : s.vm.findClass RL = some m.cls := findClass_of_methodNamed B₀.named
  have hlocks := B₀.notSynchronized
  have hS : va_S (g_A B) s.heap s.heap [] := va_S.rf
  have hl := lv_entry [.ref (ad (0, 0, 0)), .int (nI a), .int (nI b), .int (nI t)] (n := 5) (Nat.le_of_ble_eq_true rfl)
  rw [lg_entry_eq]
  generalize (lg_sl [.ref (ad (0, 0, 0)), .int (nI a), .int (nI b), .int (nI t)] ++ List.replicate (5 - (lg_sl [.ref (ad (0, 0, 0)), .int (nI a), .int (nI b), .int (nI t)]).length) Slot.unset).toArray = ls at hl ⊢
  have hl : lv_has ls 5 [(0, .ref (ad (0, 0, 0))), (1, .int (nI a)), (2, .int (nI b)), (3, .int (nI t))] := hl
  refine lv_aload_n hx hb dL_contact_0 rfl (lv_at hl 0 rfl) ?_
  refine lv_iload_n hx hb dL_contact_1 rfl (lv_at hl 1 rfl) ?_
  refine lv_iload_n hx hb dL_contact_2 rfl (lv_at hl 2 rfl) ?_
  refine lv_iload_n hx hb dL_contact_3 rfl (lv_at hl 3 rfl) ?_
  refine vp_callSi (W.runV (As := [.int (nI a), .int (nI b), .int (nI t)]) (rest := []) ⟨hx, hb, hml, hown, hts⟩ (c_nextContact l hn hc ha hb9 ht) (cwV 3 hts gL_contact_X5_nextContact rfl rfl rfl (by decide +kernel) ⟨Nat.le_of_ble_eq_true rfl, Nat.le_of_ble_eq_true rfl⟩) (g_preV hF hG hS (lay_main) rfl) rfl rfl hl.1 rfl (lv_room (Nat.le_of_ble_eq_true rfl)) dL_contact_4 ⟨Nat.le_of_ble_eq_true rfl, Nat.le_of_ble_eq_true rfl⟩) (fun r_1 h_2 => ?_)
  exact W.iret (v := r_1) hx hb hr (fun t9 ht9 hW9 => ⟨_, rfl, h_2, ht9⟩) (fun q h => nomatch h) dL_contact_7

set_option maxHeartbeats 4000000 in
set_option maxRecDepth 100000 in
theorem l_view (l : Launch) {D : va_G} {C : g_C} {g : g_k → Nat → Int32} {ad ln : g_k → Nat} {ex : g_k → Option va_E} {B : Nat} {n : Nat} (hn : n ≤ 10) (hc : g (1, 0, 0) 4 = nI n) {a b t : Nat} (ha : a < n) (hb9 : b < n) (ht : t ≤ 1000000) : Met l yL_view wsL_view ({ frames := 4, cells := 0, slots := 0, locals := 92 } : Room) (va_Pc [.ref (ad (0, 0, 0)), .int (nI a), .int (nI b), .int (nI t)] (g_S D C (lay C g ad ln ex) ad B)) (vp_Si (fun r => ∃ k, k ≤ 360 ∧ (∀ j, j < k → see g a b (t + j) = true) ∧ (k < 360 → see g a b (t + k) = false) ∧ r = nI k)) 0 0 (fun _ => False) := by
  refine g_ofWW (cc := cL_view) (maxL := 5) (ret := (some .int)) (hh := [(0, 7, 8, 27), (0, 7, 13, 15)]) (by decide +kernel) rfl ?_
  intro p e s m args below meth c s₁ B₀ hml hv
  obtain ⟨rfl, hG, hF⟩ := hv
  have hK := hF.1
  have hN := hF.2.1
  have hB := hF.2.2.2
  have hx := B₀.exec
  have hb := B₀.bytes
  have hr := B₀.returns
  have hts := atoms_spec (ws := wsL_view) B₀.pre
  have hown : s.vm.findClass RL = some m.cls := findClass_of_methodNamed B₀.named
  have hlocks := B₀.notSynchronized
  have hS : va_S (g_A B) s.heap s.heap [] := va_S.rf
  have hl := lv_entry [.ref (ad (0, 0, 0)), .int (nI a), .int (nI b), .int (nI t)] (n := 5) (Nat.le_of_ble_eq_true rfl)
  rw [lg_entry_eq]
  generalize (lg_sl [.ref (ad (0, 0, 0)), .int (nI a), .int (nI b), .int (nI t)] ++ List.replicate (5 - (lg_sl [.ref (ad (0, 0, 0)), .int (nI a), .int (nI b), .int (nI t)]).length) Slot.unset).toArray = ls at hl ⊢
  have hl : lv_has ls 5 [(0, .ref (ad (0, 0, 0))), (1, .int (nI a)), (2, .int (nI b)), (3, .int (nI t))] := hl
  refine lv_aload_n hx hb dL_view_0 rfl (lv_at hl 0 rfl) ?_
  refine lv_iload_n hx hb dL_view_1 rfl (lv_at hl 1 rfl) ?_
  refine lv_iload_n hx hb dL_view_2 rfl (lv_at hl 2 rfl) ?_
  refine lv_iload_n hx hb dL_view_3 rfl (lv_at hl 3 rfl) ?_
  refine vp_callSi (W.runV (As := [.int (nI a), .int (nI b), .int (nI t)]) (rest := []) ⟨hx, hb, hml, hown, hts⟩ (c_view l hn hc ha hb9 ht) (cwV 3 hts gL_view_X5_view rfl rfl rfl (by decide +kernel) ⟨Nat.le_of_ble_eq_true rfl, Nat.le_of_ble_eq_true rfl⟩) (g_preV hF hG hS (lay_main) rfl) rfl rfl hl.1 rfl (lv_room (Nat.le_of_ble_eq_true rfl)) dL_view_4 ⟨Nat.le_of_ble_eq_true rfl, Nat.le_of_ble_eq_true rfl⟩) (fun r_1 h_2 => ?_)
  exact W.iret (v := r_1) hx hb hr (fun t9 ht9 hW9 => ⟨_, rfl, h_2, ht9⟩) (fun q h => nomatch h) dL_view_7

set_option maxHeartbeats 4000000 in
set_option maxRecDepth 100000 in
theorem l_arrival (l : Launch) {D : va_G} {C : g_C} {g : g_k → Nat → Int32} {ad ln : g_k → Nat} {ex : g_k → Option va_E} {B : Nat} {n : Nat} (hn : n ≤ 10) (hc : g (1, 0, 0) 4 = nI n) {a b t : Nat} (ha : a < n) (hb9 : b < n) (ht : t ≤ 1000000) : Met l yL_arrival wsL_arrival ({ frames := 6, cells := 0, slots := 0, locals := 143 } : Room) (va_Pc [.ref (ad (0, 0, 0)), .int (nI a), .int (nI b), .int (nI t)] (g_S D C (lay C g ad ln ex) ad B)) (va_Qi (fun (r : Int32) (g1 : g_k → Nat → Int32) => arr_P g n a t b r ∧ ∀ c, c ≠ (10, 0, 0) → g1 c = g c) (fun g1 t => g_P D (lay C g1 ad ln ex) ad B t.heap) (g_A B)) 0 0 (g_A B) := by
  refine g_ofWW (cc := cL_arrival) (maxL := 5) (ret := (some .int)) (hh := [(0, 7, 8, 27), (0, 7, 13, 15)]) (by decide +kernel) rfl ?_
  intro p e s m args below meth c s₁ B₀ hml hv
  obtain ⟨rfl, hG, hF⟩ := hv
  have hK := hF.1
  have hN := hF.2.1
  have hB := hF.2.2.2
  have hx := B₀.exec
  have hb := B₀.bytes
  have hr := B₀.returns
  have hts := atoms_spec (ws := wsL_arrival) B₀.pre
  have hown : s.vm.findClass RL = some m.cls := findClass_of_methodNamed B₀.named
  have hlocks := B₀.notSynchronized
  have hS : va_S (g_A B) s.heap s.heap [] := va_S.rf
  have hl := lv_entry [.ref (ad (0, 0, 0)), .int (nI a), .int (nI b), .int (nI t)] (n := 5) (Nat.le_of_ble_eq_true rfl)
  rw [lg_entry_eq]
  generalize (lg_sl [.ref (ad (0, 0, 0)), .int (nI a), .int (nI b), .int (nI t)] ++ List.replicate (5 - (lg_sl [.ref (ad (0, 0, 0)), .int (nI a), .int (nI b), .int (nI t)]).length) Slot.unset).toArray = ls at hl ⊢
  have hl : lv_has ls 5 [(0, .ref (ad (0, 0, 0))), (1, .int (nI a)), (2, .int (nI b)), (3, .int (nI t))] := hl
  refine lv_aload_n hx hb dL_arrival_0 rfl (lv_at hl 0 rfl) ?_
  refine lv_iload_n hx hb dL_arrival_1 rfl (lv_at hl 1 rfl) ?_
  refine lv_iload_n hx hb dL_arrival_2 rfl (lv_at hl 2 rfl) ?_
  refine lv_iload_n hx hb dL_arrival_3 rfl (lv_at hl 3 rfl) ?_
  refine va_calli (va_runV (As := [.int (nI a), .int (nI b), .int (nI t)]) (rest := []) ⟨hx, hb, hml, hown, hts⟩ (c_arrival l hn hc ha hb9 ht) (cwV 3 hts gL_arrival_X5_arrival rfl rfl rfl (by decide +kernel) ⟨Nat.le_of_ble_eq_true rfl, Nat.le_of_ble_eq_true rfl⟩) (g_preV hF hG hS (lay_main) rfl) rfl rfl hl.1 rfl (lv_room (Nat.le_of_ble_eq_true rfl)) dL_arrival_4 ⟨Nat.le_of_ble_eq_true rfl, Nat.le_of_ble_eq_true rfl⟩) hS (fun q _ h => h) (fun q h => h) (fun r_1 g_3 t9 H locs ht9 _ h_2 hB1 _ _ hS => ?_)
  have hG : g_P D (lay C g_3 ad ln ex) ad B H := by rw [← ht9]; exact hB1
  exact W.iret (v := r_1) hx hb hr (fun t9 ht9 hW9 => ⟨⟨_, g_3, rfl, h_2, by show g_P _ _ _ _ t9.heap; rw [ht9]; exact hG⟩, hS.F ht9⟩) hS.2.2 dL_arrival_7

set_option maxHeartbeats 4000000 in
set_option maxRecDepth 100000 in
theorem l_flood (l : Launch) {D : va_G} {C : g_C} {g : g_k → Nat → Int32} {ad ln : g_k → Nat} {ex : g_k → Option va_E} {B : Nat} {n : Nat} (hn : n ≤ 10) (hc : g (1, 0, 0) 4 = nI n) {a b t : Nat} (ha : a < n) (hb9 : b < n) (ht : t ≤ 1000000) : Met l yL_flood wsL_flood ({ frames := 4, cells := 0, slots := 0, locals := 94 } : Room) (va_Pc [.ref (ad (0, 0, 0)), .int (nI a), .int (nI b), .int (nI t)] (g_S D C (lay C g ad ln ex) ad B)) (vp_Si (fun r => arr_P g n a t b r)) 0 0 (fun _ => False) := by
  refine g_ofWW (cc := cL_flood) (maxL := 5) (ret := (some .int)) (hh := [(0, 7, 8, 27), (0, 7, 13, 15)]) (by decide +kernel) rfl ?_
  intro p e s m args below meth c s₁ B₀ hml hv
  obtain ⟨rfl, hG, hF⟩ := hv
  have hK := hF.1
  have hN := hF.2.1
  have hB := hF.2.2.2
  have hx := B₀.exec
  have hb := B₀.bytes
  have hr := B₀.returns
  have hts := atoms_spec (ws := wsL_flood) B₀.pre
  have hown : s.vm.findClass RL = some m.cls := findClass_of_methodNamed B₀.named
  have hlocks := B₀.notSynchronized
  have hS : va_S (g_A B) s.heap s.heap [] := va_S.rf
  have hl := lv_entry [.ref (ad (0, 0, 0)), .int (nI a), .int (nI b), .int (nI t)] (n := 5) (Nat.le_of_ble_eq_true rfl)
  rw [lg_entry_eq]
  generalize (lg_sl [.ref (ad (0, 0, 0)), .int (nI a), .int (nI b), .int (nI t)] ++ List.replicate (5 - (lg_sl [.ref (ad (0, 0, 0)), .int (nI a), .int (nI b), .int (nI t)]).length) Slot.unset).toArray = ls at hl ⊢
  have hl : lv_has ls 5 [(0, .ref (ad (0, 0, 0))), (1, .int (nI a)), (2, .int (nI b)), (3, .int (nI t))] := hl
  refine lv_aload_n hx hb dL_flood_0 rfl (lv_at hl 0 rfl) ?_
  refine lv_iload_n hx hb dL_flood_1 rfl (lv_at hl 1 rfl) ?_
  refine lv_iload_n hx hb dL_flood_2 rfl (lv_at hl 2 rfl) ?_
  refine lv_iload_n hx hb dL_flood_3 rfl (lv_at hl 3 rfl) ?_
  refine vp_callSi (W.runV (As := [.int (nI a), .int (nI b), .int (nI t)]) (rest := []) ⟨hx, hb, hml, hown, hts⟩ (c_arrivalByFlooding l hn hc ha hb9 ht) (cwV 3 hts gL_flood_X5_arrivalByFlooding rfl rfl rfl (by decide +kernel) ⟨Nat.le_of_ble_eq_true rfl, Nat.le_of_ble_eq_true rfl⟩) (g_preV hF hG hS (lay_main) rfl) rfl rfl hl.1 rfl (lv_room (Nat.le_of_ble_eq_true rfl)) dL_flood_4 ⟨Nat.le_of_ble_eq_true rfl, Nat.le_of_ble_eq_true rfl⟩) (fun r_1 h_2 => ?_)
  exact W.iret (v := r_1) hx hb hr (fun t9 ht9 hW9 => ⟨_, rfl, h_2, ht9⟩) (fun q h => nomatch h) dL_flood_7

set_option maxHeartbeats 4000000 in
set_option maxRecDepth 100000 in
theorem l_spread (l : Launch) {D : va_G} {C : g_C} {g : g_k → Nat → Int32} {ad ln : g_k → Nat} {ex : g_k → Option va_E} {B : Nat} {n : Nat} (hn : n ≤ 10) (hc : g (1, 0, 0) 4 = nI n) (hsk : sk1 g n) {a t k : Nat} (ha : a < n) (ht : t ≤ 1000000) (hk9 : k ≤ 400) : Met l yL_spread wsL_spread ({ frames := 4, cells := 0, slots := 0, locals := 94 } : Room) (va_Pc [.ref (ad (0, 0, 0)), .int (nI a), .int (nI t), .int (nI k)] (g_S D C (lay C g ad ln ex) ad B)) (vp_Si (fun r => r = nI (b_cnt (flI g n a t k) 10))) 0 0 (fun _ => False) := by
  refine g_ofWW (cc := cL_spread) (maxL := 5) (ret := (some .int)) (hh := [(0, 7, 8, 27), (0, 7, 13, 15)]) (by decide +kernel) rfl ?_
  intro p e s m args below meth c s₁ B₀ hml hv
  obtain ⟨rfl, hG, hF⟩ := hv
  have hK := hF.1
  have hN := hF.2.1
  have hB := hF.2.2.2
  have hx := B₀.exec
  have hb := B₀.bytes
  have hr := B₀.returns
  have hts := atoms_spec (ws := wsL_spread) B₀.pre
  have hown : s.vm.findClass RL = some m.cls := findClass_of_methodNamed B₀.named
  have hlocks := B₀.notSynchronized
  have hS : va_S (g_A B) s.heap s.heap [] := va_S.rf
  have hl := lv_entry [.ref (ad (0, 0, 0)), .int (nI a), .int (nI t), .int (nI k)] (n := 5) (Nat.le_of_ble_eq_true rfl)
  rw [lg_entry_eq]
  generalize (lg_sl [.ref (ad (0, 0, 0)), .int (nI a), .int (nI t), .int (nI k)] ++ List.replicate (5 - (lg_sl [.ref (ad (0, 0, 0)), .int (nI a), .int (nI t), .int (nI k)]).length) Slot.unset).toArray = ls at hl ⊢
  have hl : lv_has ls 5 [(0, .ref (ad (0, 0, 0))), (1, .int (nI a)), (2, .int (nI t)), (3, .int (nI k))] := hl
  refine lv_aload_n hx hb dL_spread_0 rfl (lv_at hl 0 rfl) ?_
  refine lv_iload_n hx hb dL_spread_1 rfl (lv_at hl 1 rfl) ?_
  refine lv_iload_n hx hb dL_spread_2 rfl (lv_at hl 2 rfl) ?_
  refine lv_iload_n hx hb dL_spread_3 rfl (lv_at hl 3 rfl) ?_
  refine vp_callSi (W.runV (As := [.int (nI a), .int (nI t), .int (nI k)]) (rest := []) ⟨hx, hb, hml, hown, hts⟩ (c_spread l hn hc hsk ha ht hk9) (cwV 3 hts gL_spread_X5_spread rfl rfl rfl (by decide +kernel) ⟨Nat.le_of_ble_eq_true rfl, Nat.le_of_ble_eq_true rfl⟩) (g_preV hF hG hS (lay_main) rfl) rfl rfl hl.1 rfl (lv_room (Nat.le_of_ble_eq_true rfl)) dL_spread_4 ⟨Nat.le_of_ble_eq_true rfl, Nat.le_of_ble_eq_true rfl⟩) (fun r_1 h_2 => ?_)
  exact W.iret (v := r_1) hx hb hr (fun t9 ht9 hW9 => ⟨_, rfl, h_2, ht9⟩) (fun q h => nomatch h) dL_spread_7

set_option maxHeartbeats 4000000 in
set_option maxRecDepth 100000 in
theorem l_placeAt (l : Launch) {D : va_G} {C : g_C} {g : g_k → Nat → Int32} {ad ln : g_k → Nat} {ex : g_k → Option va_E} {B : Nat} {n : Nat} (hn : n ≤ 10) (hc : g (1, 0, 0) 4 = nI n) {a t : Nat} (ha : a < n) (ht : t ≤ 1000000) : Met l yL_placeAt wsL_placeAt ({ frames := 3, cells := 0, slots := 0, locals := 66 } : Room) (va_Pc [.ref (ad (0, 0, 0)), .int (nI a), .int (nI t)] (g_S D C (lay C g ad ln ex) ad B)) (vp_Si (fun r => (∃ p, p < 360 ∧ r = nI p) ∧ (∀ p, p < 360 → g (6, 0, 0) a = nI p → t = 0 → r = nI p))) 0 0 (fun _ => False) := by
  refine g_ofWW (cc := cL_placeAt) (maxL := 4) (ret := (some .int)) (hh := [(0, 6, 7, 27), (0, 6, 11, 15)]) (by decide +kernel) rfl ?_
  intro p e s m args below meth c s₁ B₀ hml hv
  obtain ⟨rfl, hG, hF⟩ := hv
  have hK := hF.1
  have hN := hF.2.1
  have hB := hF.2.2.2
  have hx := B₀.exec
  have hb := B₀.bytes
  have hr := B₀.returns
  have hts := atoms_spec (ws := wsL_placeAt) B₀.pre
  have hown : s.vm.findClass RL = some m.cls := findClass_of_methodNamed B₀.named
  have hlocks := B₀.notSynchronized
  have hS : va_S (g_A B) s.heap s.heap [] := va_S.rf
  have hl := lv_entry [.ref (ad (0, 0, 0)), .int (nI a), .int (nI t)] (n := 4) (Nat.le_of_ble_eq_true rfl)
  rw [lg_entry_eq]
  generalize (lg_sl [.ref (ad (0, 0, 0)), .int (nI a), .int (nI t)] ++ List.replicate (4 - (lg_sl [.ref (ad (0, 0, 0)), .int (nI a), .int (nI t)]).length) Slot.unset).toArray = ls at hl ⊢
  have hl : lv_has ls 4 [(0, .ref (ad (0, 0, 0))), (1, .int (nI a)), (2, .int (nI t))] := hl
  refine lv_aload_n hx hb dL_placeAt_0 rfl (lv_at hl 0 rfl) ?_
  refine lv_iload_n hx hb dL_placeAt_1 rfl (lv_at hl 1 rfl) ?_
  refine lv_iload_n hx hb dL_placeAt_2 rfl (lv_at hl 2 rfl) ?_
  refine vp_callSi (W.runV (As := [.int (nI a), .int (nI t)]) (rest := []) ⟨hx, hb, hml, hown, hts⟩ (c_placeAt l hn hc ha ht) (cwV 2 hts gL_placeAt_X5_placeAt rfl rfl rfl (by decide +kernel) ⟨Nat.le_of_ble_eq_true rfl, Nat.le_of_ble_eq_true rfl⟩) (g_preV hF hG hS (lay_main) rfl) rfl rfl hl.1 rfl (lv_room (Nat.le_of_ble_eq_true rfl)) dL_placeAt_3 ⟨Nat.le_of_ble_eq_true rfl, Nat.le_of_ble_eq_true rfl⟩) (fun r_1 h_2 => ?_)
  exact W.iret (v := r_1) hx hb hr (fun t9 ht9 hW9 => ⟨_, rfl, h_2, ht9⟩) (fun q h => nomatch h) dL_placeAt_6

set_option maxHeartbeats 4000000 in
set_option maxRecDepth 100000 in
theorem l_nodeOf (l : Launch) {D : va_G} {C : g_C} {g : g_k → Nat → Int32} {ad ln : g_k → Nat} {ex : g_k → Option va_E} {B : Nat} {M : Nat} (hM : ln (5, 0, 0) = M) (hM20 : M ≤ 20) (hs : g (0, 0, 0) 7 = nI M) {a : Nat} (ha : a < M) : Met l yL_nodeOf wsL_nodeOf ({ frames := 3, cells := 0, slots := 0, locals := 64 } : Room) (va_Pc [.ref (ad (0, 0, 0)), .int (nI a)] (g_S D C (lay C g ad ln ex) ad B)) (vp_Si (fun r => r = g (40, a, 0) 2)) 0 0 (fun _ => False) := by
  refine g_ofWW (cc := cL_nodeOf) (maxL := 3) (ret := (some .int)) (hh := [(0, 5, 6, 27)]) (by decide +kernel) rfl ?_
  intro p e s m args below meth c s₁ B₀ hml hv
  obtain ⟨rfl, hG, hF⟩ := hv
  have hK := hF.1
  have hN := hF.2.1
  have hB := hF.2.2.2
  have hx := B₀.exec
  have hb := B₀.bytes
  have hr := B₀.returns
  have hts := atoms_spec (ws := wsL_nodeOf) B₀.pre
  have hown : s.vm.findClass RL = some m.cls := findClass_of_methodNamed B₀.named
  have hlocks := B₀.notSynchronized
  have hS : va_S (g_A B) s.heap s.heap [] := va_S.rf
  have hl := lv_entry [.ref (ad (0, 0, 0)), .int (nI a)] (n := 3) (Nat.le_of_ble_eq_true rfl)
  rw [lg_entry_eq]
  generalize (lg_sl [.ref (ad (0, 0, 0)), .int (nI a)] ++ List.replicate (3 - (lg_sl [.ref (ad (0, 0, 0)), .int (nI a)]).length) Slot.unset).toArray = ls at hl ⊢
  have hl : lv_has ls 3 [(0, .ref (ad (0, 0, 0))), (1, .int (nI a))] := hl
  refine lv_aload_n hx hb dL_nodeOf_0 rfl (lv_at hl 0 rfl) ?_
  refine lv_iload_n hx hb dL_nodeOf_1 rfl (lv_at hl 1 rfl) ?_
  refine vp_callSi (W.runV (As := [.int (nI a)]) (rest := []) ⟨hx, hb, hml, hown, hts⟩ (c_nodeOf l hM hM20 hs ha) (cwV 1 hts gL_nodeOf_X5_nodeOf rfl rfl rfl (by decide +kernel) ⟨Nat.le_of_ble_eq_true rfl, Nat.le_of_ble_eq_true rfl⟩) (g_preV hF hG hS (lay_main) rfl) rfl rfl hl.1 rfl (lv_room (Nat.le_of_ble_eq_true rfl)) dL_nodeOf_2 ⟨Nat.le_of_ble_eq_true rfl, Nat.le_of_ble_eq_true rfl⟩) (fun r_1 h_2 => ?_)
  exact W.iret (v := r_1) hx hb hr (fun t9 ht9 hW9 => ⟨_, rfl, h_2, ht9⟩) (fun q h => nomatch h) dL_nodeOf_5

set_option maxHeartbeats 4000000 in
set_option maxRecDepth 100000 in
theorem l_hops (l : Launch) {D : va_G} {C : g_C} {g : g_k → Nat → Int32} {ad ln : g_k → Nat} {ex : g_k → Option va_E} {B : Nat} {M : Nat} (hM : ln (5, 0, 0) = M) (hM20 : M ≤ 20) (hs : g (0, 0, 0) 7 = nI M) {a : Nat} (ha : a < M) : Met l yL_hops wsL_hops ({ frames := 3, cells := 0, slots := 0, locals := 64 } : Room) (va_Pc [.ref (ad (0, 0, 0)), .int (nI a)] (g_S D C (lay C g ad ln ex) ad B)) (vp_Si (fun r => r = g (40, a, 0) 5)) 0 0 (fun _ => False) := by
  refine g_ofWW (cc := cL_hops) (maxL := 3) (ret := (some .int)) (hh := [(0, 5, 6, 27)]) (by decide +kernel) rfl ?_
  intro p e s m args below meth c s₁ B₀ hml hv
  obtain ⟨rfl, hG, hF⟩ := hv
  have hK := hF.1
  have hN := hF.2.1
  have hB := hF.2.2.2
  have hx := B₀.exec
  have hb := B₀.bytes
  have hr := B₀.returns
  have hts := atoms_spec (ws := wsL_hops) B₀.pre
  have hown : s.vm.findClass RL = some m.cls := findClass_of_methodNamed B₀.named
  have hlocks := B₀.notSynchronized
  have hS : va_S (g_A B) s.heap s.heap [] := va_S.rf
  have hl := lv_entry [.ref (ad (0, 0, 0)), .int (nI a)] (n := 3) (Nat.le_of_ble_eq_true rfl)
  rw [lg_entry_eq]
  generalize (lg_sl [.ref (ad (0, 0, 0)), .int (nI a)] ++ List.replicate (3 - (lg_sl [.ref (ad (0, 0, 0)), .int (nI a)]).length) Slot.unset).toArray = ls at hl ⊢
  have hl : lv_has ls 3 [(0, .ref (ad (0, 0, 0))), (1, .int (nI a))] := hl
  refine lv_aload_n hx hb dL_hops_0 rfl (lv_at hl 0 rfl) ?_
  refine lv_iload_n hx hb dL_hops_1 rfl (lv_at hl 1 rfl) ?_
  refine vp_callSi (W.runV (As := [.int (nI a)]) (rest := []) ⟨hx, hb, hml, hown, hts⟩ (c_hops l hM hM20 hs ha) (cwV 1 hts gL_hops_X5_hops rfl rfl rfl (by decide +kernel) ⟨Nat.le_of_ble_eq_true rfl, Nat.le_of_ble_eq_true rfl⟩) (g_preV hF hG hS (lay_main) rfl) rfl rfl hl.1 rfl (lv_room (Nat.le_of_ble_eq_true rfl)) dL_hops_2 ⟨Nat.le_of_ble_eq_true rfl, Nat.le_of_ble_eq_true rfl⟩) (fun r_1 h_2 => ?_)
  exact W.iret (v := r_1) hx hb hr (fun t9 ht9 hW9 => ⟨_, rfl, h_2, ht9⟩) (fun q h => nomatch h) dL_hops_5

set_option maxHeartbeats 4000000 in
set_option maxRecDepth 100000 in
theorem l_blocked (l : Launch) {D : va_G} {C : g_C} {g : g_k → Nat → Int32} {ad ln : g_k → Nat} {ex : g_k → Option va_E} {B : Nat} {M : Nat} (hM : ln (5, 0, 0) = M) (hM20 : M ≤ 20) (hs : g (0, 0, 0) 7 = nI M) {a : Nat} (ha : a < M) : Met l yL_blocked wsL_blocked ({ frames := 3, cells := 0, slots := 0, locals := 64 } : Room) (va_Pc [.ref (ad (0, 0, 0)), .int (nI a)] (g_S D C (lay C g ad ln ex) ad B)) (vp_Si (fun r => r = g (40, a, 0) 4)) 0 0 (fun _ => False) := by
  refine g_ofWW (cc := cL_blocked) (maxL := 3) (ret := (some .int)) (hh := [(0, 5, 6, 27)]) (by decide +kernel) rfl ?_
  intro p e s m args below meth c s₁ B₀ hml hv
  obtain ⟨rfl, hG, hF⟩ := hv
  have hK := hF.1
  have hN := hF.2.1
  have hB := hF.2.2.2
  have hx := B₀.exec
  have hb := B₀.bytes
  have hr := B₀.returns
  have hts := atoms_spec (ws := wsL_blocked) B₀.pre
  have hown : s.vm.findClass RL = some m.cls := findClass_of_methodNamed B₀.named
  have hlocks := B₀.notSynchronized
  have hS : va_S (g_A B) s.heap s.heap [] := va_S.rf
  have hl := lv_entry [.ref (ad (0, 0, 0)), .int (nI a)] (n := 3) (Nat.le_of_ble_eq_true rfl)
  rw [lg_entry_eq]
  generalize (lg_sl [.ref (ad (0, 0, 0)), .int (nI a)] ++ List.replicate (3 - (lg_sl [.ref (ad (0, 0, 0)), .int (nI a)]).length) Slot.unset).toArray = ls at hl ⊢
  have hl : lv_has ls 3 [(0, .ref (ad (0, 0, 0))), (1, .int (nI a))] := hl
  refine lv_aload_n hx hb dL_blocked_0 rfl (lv_at hl 0 rfl) ?_
  refine lv_iload_n hx hb dL_blocked_1 rfl (lv_at hl 1 rfl) ?_
  refine vp_callSi (W.runV (As := [.int (nI a)]) (rest := []) ⟨hx, hb, hml, hown, hts⟩ (c_blocked l hM hM20 hs ha) (cwV 1 hts gL_blocked_X5_blocked rfl rfl rfl (by decide +kernel) ⟨Nat.le_of_ble_eq_true rfl, Nat.le_of_ble_eq_true rfl⟩) (g_preV hF hG hS (lay_main) rfl) rfl rfl hl.1 rfl (lv_room (Nat.le_of_ble_eq_true rfl)) dL_blocked_2 ⟨Nat.le_of_ble_eq_true rfl, Nat.le_of_ble_eq_true rfl⟩) (fun r_1 h_2 => ?_)
  exact W.iret (v := r_1) hx hb hr (fun t9 ht9 hW9 => ⟨_, rfl, h_2, ht9⟩) (fun q h => nomatch h) dL_blocked_5

set_option maxHeartbeats 4000000 in
set_option maxRecDepth 100000 in
theorem l_arrivedAt (l : Launch) {D : va_G} {C : g_C} {g : g_k → Nat → Int32} {ad ln : g_k → Nat} {ex : g_k → Option va_E} {B : Nat} {M : Nat} (hM : ln (5, 0, 0) = M) (hM20 : M ≤ 20) (hs : g (0, 0, 0) 7 = nI M) {a : Nat} (ha : a < M) (hat : g (40, a, 0) 2 = g (40, a, 0) 0) : Met l yL_arrivedAt wsL_arrivedAt ({ frames := 3, cells := 0, slots := 0, locals := 65 } : Room) (va_Pc [.ref (ad (0, 0, 0)), .int (nI a)] (g_S D C (lay C g ad ln ex) ad B)) (vp_Si (fun r => r = g (40, a, 0) 3)) 0 0 (fun _ => False) := by
  refine g_ofWW (cc := cL_arrivedAt) (maxL := 3) (ret := (some .int)) (hh := [(0, 5, 6, 27), (0, 5, 10, 64)]) (by decide +kernel) rfl ?_
  intro p e s m args below meth c s₁ B₀ hml hv
  obtain ⟨rfl, hG, hF⟩ := hv
  have hK := hF.1
  have hN := hF.2.1
  have hB := hF.2.2.2
  have hx := B₀.exec
  have hb := B₀.bytes
  have hr := B₀.returns
  have hts := atoms_spec (ws := wsL_arrivedAt) B₀.pre
  have hown : s.vm.findClass RL = some m.cls := findClass_of_methodNamed B₀.named
  have hlocks := B₀.notSynchronized
  have hS : va_S (g_A B) s.heap s.heap [] := va_S.rf
  have hl := lv_entry [.ref (ad (0, 0, 0)), .int (nI a)] (n := 3) (Nat.le_of_ble_eq_true rfl)
  rw [lg_entry_eq]
  generalize (lg_sl [.ref (ad (0, 0, 0)), .int (nI a)] ++ List.replicate (3 - (lg_sl [.ref (ad (0, 0, 0)), .int (nI a)]).length) Slot.unset).toArray = ls at hl ⊢
  have hl : lv_has ls 3 [(0, .ref (ad (0, 0, 0))), (1, .int (nI a))] := hl
  refine lv_aload_n hx hb dL_arrivedAt_0 rfl (lv_at hl 0 rfl) ?_
  refine lv_iload_n hx hb dL_arrivedAt_1 rfl (lv_at hl 1 rfl) ?_
  refine vp_callSi (W.runV (As := [.int (nI a)]) (rest := []) ⟨hx, hb, hml, hown, hts⟩ (c_arrivedAt l hM hM20 hs ha hat) (cwV 1 hts gL_arrivedAt_X5_arrivedAt rfl rfl rfl (by decide +kernel) ⟨Nat.le_of_ble_eq_true rfl, Nat.le_of_ble_eq_true rfl⟩) (g_preV hF hG hS (lay_main) rfl) rfl rfl hl.1 rfl (lv_room (Nat.le_of_ble_eq_true rfl)) dL_arrivedAt_2 ⟨Nat.le_of_ble_eq_true rfl, Nat.le_of_ble_eq_true rfl⟩) (fun r_1 h_2 => ?_)
  exact W.iret (v := r_1) hx hb hr (fun t9 ht9 hW9 => ⟨_, rfl, h_2, ht9⟩) (fun q h => nomatch h) dL_arrivedAt_5

set_option maxHeartbeats 4000000 in
set_option maxRecDepth 100000 in
theorem l_hopNode (l : Launch) {D : va_G} {C : g_C} {g : g_k → Nat → Int32} {ad ln : g_k → Nat} {ex : g_k → Option va_E} {B : Nat} {M : Nat} (hM : ln (5, 0, 0) = M) (hM20 : M ≤ 20) (hs : g (0, 0, 0) 7 = nI M) {a h i : Nat} (ha : a < M) (hh : g (40, a, 0) 5 = nI h) (hh30 : h < 2 ^ 30) (hi9 : i < h) (hil : i < ln (41, a, 0)) (hL30 : ln (41, a, 0) < 2 ^ 30) : Met l yL_hopNode wsL_hopNode ({ frames := 3, cells := 0, slots := 0, locals := 66 } : Room) (va_Pc [.ref (ad (0, 0, 0)), .int (nI a), .int (nI i)] (g_S D C (lay C g ad ln ex) ad B)) (vp_Si (fun r => r = g (41, a, 0) i)) 0 0 (fun _ => False) := by
  refine g_ofWW (cc := cL_hopNode) (maxL := 4) (ret := (some .int)) (hh := [(0, 6, 7, 27)]) (by decide +kernel) rfl ?_
  intro p e s m args below meth c s₁ B₀ hml hv
  obtain ⟨rfl, hG, hF⟩ := hv
  have hK := hF.1
  have hN := hF.2.1
  have hB := hF.2.2.2
  have hx := B₀.exec
  have hb := B₀.bytes
  have hr := B₀.returns
  have hts := atoms_spec (ws := wsL_hopNode) B₀.pre
  have hown : s.vm.findClass RL = some m.cls := findClass_of_methodNamed B₀.named
  have hlocks := B₀.notSynchronized
  have hS : va_S (g_A B) s.heap s.heap [] := va_S.rf
  have hl := lv_entry [.ref (ad (0, 0, 0)), .int (nI a), .int (nI i)] (n := 4) (Nat.le_of_ble_eq_true rfl)
  rw [lg_entry_eq]
  generalize (lg_sl [.ref (ad (0, 0, 0)), .int (nI a), .int (nI i)] ++ List.replicate (4 - (lg_sl [.ref (ad (0, 0, 0)), .int (nI a), .int (nI i)]).length) Slot.unset).toArray = ls at hl ⊢
  have hl : lv_has ls 4 [(0, .ref (ad (0, 0, 0))), (1, .int (nI a)), (2, .int (nI i))] := hl
  refine lv_aload_n hx hb dL_hopNode_0 rfl (lv_at hl 0 rfl) ?_
  refine lv_iload_n hx hb dL_hopNode_1 rfl (lv_at hl 1 rfl) ?_
  refine lv_iload_n hx hb dL_hopNode_2 rfl (lv_at hl 2 rfl) ?_
  refine vp_callSi (W.runV (As := [.int (nI a), .int (nI i)]) (rest := []) ⟨hx, hb, hml, hown, hts⟩ (c_hopNode l hM hM20 hs ha hh hh30 hi9 hil hL30) (cwV 2 hts gL_hopNode_X5_hopNode rfl rfl rfl (by decide +kernel) ⟨Nat.le_of_ble_eq_true rfl, Nat.le_of_ble_eq_true rfl⟩) (g_preV hF hG hS (lay_main) rfl) rfl rfl hl.1 rfl (lv_room (Nat.le_of_ble_eq_true rfl)) dL_hopNode_3 ⟨Nat.le_of_ble_eq_true rfl, Nat.le_of_ble_eq_true rfl⟩) (fun r_1 h_2 => ?_)
  exact W.iret (v := r_1) hx hb hr (fun t9 ht9 hW9 => ⟨_, rfl, h_2, ht9⟩) (fun q h => nomatch h) dL_hopNode_6

set_option maxHeartbeats 4000000 in
set_option maxRecDepth 100000 in
theorem l_hopMinute (l : Launch) {D : va_G} {C : g_C} {g : g_k → Nat → Int32} {ad ln : g_k → Nat} {ex : g_k → Option va_E} {B : Nat} {M : Nat} (hM : ln (5, 0, 0) = M) (hM20 : M ≤ 20) (hs : g (0, 0, 0) 7 = nI M) {a h i : Nat} (ha : a < M) (hh : g (40, a, 0) 5 = nI h) (hh30 : h < 2 ^ 30) (hi9 : i < h) (hil : i < ln (42, a, 0)) (hL30 : ln (42, a, 0) < 2 ^ 30) : Met l yL_hopMinute wsL_hopMinute ({ frames := 3, cells := 0, slots := 0, locals := 66 } : Room) (va_Pc [.ref (ad (0, 0, 0)), .int (nI a), .int (nI i)] (g_S D C (lay C g ad ln ex) ad B)) (vp_Si (fun r => r = g (42, a, 0) i)) 0 0 (fun _ => False) := by
  refine g_ofWW (cc := cL_hopMinute) (maxL := 4) (ret := (some .int)) (hh := [(0, 6, 7, 27)]) (by decide +kernel) rfl ?_
  intro p e s m args below meth c s₁ B₀ hml hv
  obtain ⟨rfl, hG, hF⟩ := hv
  have hK := hF.1
  have hN := hF.2.1
  have hB := hF.2.2.2
  have hx := B₀.exec
  have hb := B₀.bytes
  have hr := B₀.returns
  have hts := atoms_spec (ws := wsL_hopMinute) B₀.pre
  have hown : s.vm.findClass RL = some m.cls := findClass_of_methodNamed B₀.named
  have hlocks := B₀.notSynchronized
  have hS : va_S (g_A B) s.heap s.heap [] := va_S.rf
  have hl := lv_entry [.ref (ad (0, 0, 0)), .int (nI a), .int (nI i)] (n := 4) (Nat.le_of_ble_eq_true rfl)
  rw [lg_entry_eq]
  generalize (lg_sl [.ref (ad (0, 0, 0)), .int (nI a), .int (nI i)] ++ List.replicate (4 - (lg_sl [.ref (ad (0, 0, 0)), .int (nI a), .int (nI i)]).length) Slot.unset).toArray = ls at hl ⊢
  have hl : lv_has ls 4 [(0, .ref (ad (0, 0, 0))), (1, .int (nI a)), (2, .int (nI i))] := hl
  refine lv_aload_n hx hb dL_hopMinute_0 rfl (lv_at hl 0 rfl) ?_
  refine lv_iload_n hx hb dL_hopMinute_1 rfl (lv_at hl 1 rfl) ?_
  refine lv_iload_n hx hb dL_hopMinute_2 rfl (lv_at hl 2 rfl) ?_
  refine vp_callSi (W.runV (As := [.int (nI a), .int (nI i)]) (rest := []) ⟨hx, hb, hml, hown, hts⟩ (c_hopMinute l hM hM20 hs ha hh hh30 hi9 hil hL30) (cwV 2 hts gL_hopMinute_X5_hopMinute rfl rfl rfl (by decide +kernel) ⟨Nat.le_of_ble_eq_true rfl, Nat.le_of_ble_eq_true rfl⟩) (g_preV hF hG hS (lay_main) rfl) rfl rfl hl.1 rfl (lv_room (Nat.le_of_ble_eq_true rfl)) dL_hopMinute_3 ⟨Nat.le_of_ble_eq_true rfl, Nat.le_of_ble_eq_true rfl⟩) (fun r_1 h_2 => ?_)
  exact W.iret (v := r_1) hx hb hr (fun t9 ht9 hW9 => ⟨_, rfl, h_2, ht9⟩) (fun q h => nomatch h) dL_hopMinute_6

set_option maxHeartbeats 4000000 in
set_option maxRecDepth 100000 in
theorem l_load (l : Launch) {D : va_G} {C : g_C} {g : g_k → Nat → Int32} {ad ln : g_k → Nat} {ex : g_k → Option va_E} {B : Nat} {n : Nat} (hn : n ≤ 10) (hc : g (1, 0, 0) 4 = nI n) {M : Nat} (hM : ln (5, 0, 0) = M) (hM20 : M ≤ 20) (hs : g (0, 0, 0) 7 = nI M) {a : Nat} (ha : a < n) : Met l yL_load wsL_load ({ frames := 3, cells := 0, slots := 0, locals := 64 } : Room) (va_Pc [.ref (ad (0, 0, 0)), .int (nI a)] (g_S D C (lay C g ad ln ex) ad B)) (vp_Si (fun r => r = nI (at_c g (nI a) M))) 0 0 (fun _ => False) := by
  refine g_ofWW (cc := cL_load) (maxL := 3) (ret := (some .int)) (hh := [(0, 5, 6, 27)]) (by decide +kernel) rfl ?_
  intro p e s m args below meth c s₁ B₀ hml hv
  obtain ⟨rfl, hG, hF⟩ := hv
  have hK := hF.1
  have hN := hF.2.1
  have hB := hF.2.2.2
  have hx := B₀.exec
  have hb := B₀.bytes
  have hr := B₀.returns
  have hts := atoms_spec (ws := wsL_load) B₀.pre
  have hown : s.vm.findClass RL = some m.cls := findClass_of_methodNamed B₀.named
  have hlocks := B₀.notSynchronized
  have hS : va_S (g_A B) s.heap s.heap [] := va_S.rf
  have hl := lv_entry [.ref (ad (0, 0, 0)), .int (nI a)] (n := 3) (Nat.le_of_ble_eq_true rfl)
  rw [lg_entry_eq]
  generalize (lg_sl [.ref (ad (0, 0, 0)), .int (nI a)] ++ List.replicate (3 - (lg_sl [.ref (ad (0, 0, 0)), .int (nI a)]).length) Slot.unset).toArray = ls at hl ⊢
  have hl : lv_has ls 3 [(0, .ref (ad (0, 0, 0))), (1, .int (nI a))] := hl
  refine lv_aload_n hx hb dL_load_0 rfl (lv_at hl 0 rfl) ?_
  refine lv_iload_n hx hb dL_load_1 rfl (lv_at hl 1 rfl) ?_
  refine vp_callSi (W.runV (As := [.int (nI a)]) (rest := []) ⟨hx, hb, hml, hown, hts⟩ (c_load l hn hc hM hM20 hs ha) (cwV 1 hts gL_load_X5_load rfl rfl rfl (by decide +kernel) ⟨Nat.le_of_ble_eq_true rfl, Nat.le_of_ble_eq_true rfl⟩) (g_preV hF hG hS (lay_main) rfl) rfl rfl hl.1 rfl (lv_room (Nat.le_of_ble_eq_true rfl)) dL_load_2 ⟨Nat.le_of_ble_eq_true rfl, Nat.le_of_ble_eq_true rfl⟩) (fun r_1 h_2 => ?_)
  exact W.iret (v := r_1) hx hb hr (fun t9 ht9 hW9 => ⟨_, rfl, h_2, ht9⟩) (fun q h => nomatch h) dL_load_5

set_option maxHeartbeats 4000000 in
set_option maxRecDepth 100000 in
theorem l_relayOf (l : Launch) {D : va_G} {C : g_C} {g : g_k → Nat → Int32} {ad ln : g_k → Nat} {ex : g_k → Option va_E} {B : Nat} {n : Nat} (hn : n ≤ 10) (hc : g (1, 0, 0) 4 = nI n) {a : Nat} (ha : a < n) (hl9 : ln (30, a, 0) = 1) : Met l yL_relayOf wsL_relayOf ({ frames := 4, cells := 0, slots := 0, locals := 86 } : Room) (va_Pc [.ref (ad (0, 0, 0)), .int (nI a)] (g_S D C (lay C g ad ln ex) ad B)) (vp_Si (fun r => r = g (30, a, 0) 1)) 0 0 (fun _ => False) := by
  refine g_ofWW (cc := cL_relayOf) (maxL := 3) (ret := (some .int)) (hh := [(0, 5, 6, 27)]) (by decide +kernel) rfl ?_
  intro p e s m args below meth c s₁ B₀ hml hv
  obtain ⟨rfl, hG, hF⟩ := hv
  have hK := hF.1
  have hN := hF.2.1
  have hB := hF.2.2.2
  have hx := B₀.exec
  have hb := B₀.bytes
  have hr := B₀.returns
  have hts := atoms_spec (ws := wsL_relayOf) B₀.pre
  have hown : s.vm.findClass RL = some m.cls := findClass_of_methodNamed B₀.named
  have hlocks := B₀.notSynchronized
  have hS : va_S (g_A B) s.heap s.heap [] := va_S.rf
  have hl := lv_entry [.ref (ad (0, 0, 0)), .int (nI a)] (n := 3) (Nat.le_of_ble_eq_true rfl)
  rw [lg_entry_eq]
  generalize (lg_sl [.ref (ad (0, 0, 0)), .int (nI a)] ++ List.replicate (3 - (lg_sl [.ref (ad (0, 0, 0)), .int (nI a)]).length) Slot.unset).toArray = ls at hl ⊢
  have hl : lv_has ls 3 [(0, .ref (ad (0, 0, 0))), (1, .int (nI a))] := hl
  refine lv_aload_n hx hb dL_relayOf_0 rfl (lv_at hl 0 rfl) ?_
  refine lv_iload_n hx hb dL_relayOf_1 rfl (lv_at hl 1 rfl) ?_
  refine vp_callSi (W.runV (As := [.int (nI a)]) (rest := []) ⟨hx, hb, hml, hown, hts⟩ (c_relayOf l hn hc ha hl9) (cwV 1 hts gL_relayOf_X5_relayOf rfl rfl rfl (by decide +kernel) ⟨Nat.le_of_ble_eq_true rfl, Nat.le_of_ble_eq_true rfl⟩) (g_preV hF hG hS (lay_main) rfl) rfl rfl hl.1 rfl (lv_room (Nat.le_of_ble_eq_true rfl)) dL_relayOf_2 ⟨Nat.le_of_ble_eq_true rfl, Nat.le_of_ble_eq_true rfl⟩) (fun r_1 h_2 => ?_)
  exact W.iret (v := r_1) hx hb hr (fun t9 ht9 hW9 => ⟨_, rfl, h_2, ht9⟩) (fun q h => nomatch h) dL_relayOf_5

set_option maxHeartbeats 4000000 in
set_option maxRecDepth 100000 in
theorem l_handovers (l : Launch) {D : va_G} {C : g_C} {g : g_k → Nat → Int32} {ad ln : g_k → Nat} {ex : g_k → Option va_E} {B : Nat} {n : Nat} (hn : n ≤ 10) (hc : g (1, 0, 0) 4 = nI n) {a : Nat} (ha : a < n) (hl9 : ln (30, a, 0) = 1) : Met l yL_handovers wsL_handovers ({ frames := 4, cells := 0, slots := 0, locals := 86 } : Room) (va_Pc [.ref (ad (0, 0, 0)), .int (nI a)] (g_S D C (lay C g ad ln ex) ad B)) (vp_Si (fun r => r = g (30, a, 0) 2)) 0 0 (fun _ => False) := by
  refine g_ofWW (cc := cL_handovers) (maxL := 3) (ret := (some .int)) (hh := [(0, 5, 6, 27)]) (by decide +kernel) rfl ?_
  intro p e s m args below meth c s₁ B₀ hml hv
  obtain ⟨rfl, hG, hF⟩ := hv
  have hK := hF.1
  have hN := hF.2.1
  have hB := hF.2.2.2
  have hx := B₀.exec
  have hb := B₀.bytes
  have hr := B₀.returns
  have hts := atoms_spec (ws := wsL_handovers) B₀.pre
  have hown : s.vm.findClass RL = some m.cls := findClass_of_methodNamed B₀.named
  have hlocks := B₀.notSynchronized
  have hS : va_S (g_A B) s.heap s.heap [] := va_S.rf
  have hl := lv_entry [.ref (ad (0, 0, 0)), .int (nI a)] (n := 3) (Nat.le_of_ble_eq_true rfl)
  rw [lg_entry_eq]
  generalize (lg_sl [.ref (ad (0, 0, 0)), .int (nI a)] ++ List.replicate (3 - (lg_sl [.ref (ad (0, 0, 0)), .int (nI a)]).length) Slot.unset).toArray = ls at hl ⊢
  have hl : lv_has ls 3 [(0, .ref (ad (0, 0, 0))), (1, .int (nI a))] := hl
  refine lv_aload_n hx hb dL_handovers_0 rfl (lv_at hl 0 rfl) ?_
  refine lv_iload_n hx hb dL_handovers_1 rfl (lv_at hl 1 rfl) ?_
  refine vp_callSi (W.runV (As := [.int (nI a)]) (rest := []) ⟨hx, hb, hml, hown, hts⟩ (c_handovers l hn hc ha hl9) (cwV 1 hts gL_handovers_X5_handovers rfl rfl rfl (by decide +kernel) ⟨Nat.le_of_ble_eq_true rfl, Nat.le_of_ble_eq_true rfl⟩) (g_preV hF hG hS (lay_main) rfl) rfl rfl hl.1 rfl (lv_room (Nat.le_of_ble_eq_true rfl)) dL_handovers_2 ⟨Nat.le_of_ble_eq_true rfl, Nat.le_of_ble_eq_true rfl⟩) (fun r_1 h_2 => ?_)
  exact W.iret (v := r_1) hx hb hr (fun t9 ht9 hW9 => ⟨_, rfl, h_2, ht9⟩) (fun q h => nomatch h) dL_handovers_5

set_option maxHeartbeats 4000000 in
set_option maxRecDepth 100000 in
theorem l_setCapacity (l : Launch) {D : va_G} {C : g_C} {g : g_k → Nat → Int32} {ad ln : g_k → Nat} {ex : g_k → Option va_E} {B : Nat} {n : Nat} (hn : n ≤ 10) (hc : g (1, 0, 0) 4 = nI n) {a k : Nat} (ha : a < n) (hnl : ln (30, a, 0) ≠ 1) (hk1 : 1 ≤ k) (hk9 : k ≤ 9) : Met l yL_setCapacity wsL_setCapacity ({ frames := 3, cells := 0, slots := 0, locals := 66 } : Room) (va_Pc [.ref (ad (0, 0, 0)), .int (nI a), .int (nI k)] (g_S D C (lay C g ad ln ex) ad B)) (va_Qi (fun (r : Int32) (g1 : g_k → Nat → Int32) => r = g (4, 0, 0) a ∧ (∀ c, c ≠ (4, 0, 0) → g1 c = g c) ∧ g1 (4, 0, 0) = upd (g (4, 0, 0)) a (nI k)) (fun g1 t => g_P D (lay C g1 ad ln ex) ad B t.heap) (g_A B)) 0 0 (g_A B) := by
  refine g_ofWW (cc := cL_setCapacity) (maxL := 4) (ret := (some .int)) (hh := [(0, 6, 7, 27), (0, 6, 11, 15)]) (by decide +kernel) rfl ?_
  intro p e s m args below meth c s₁ B₀ hml hv
  obtain ⟨rfl, hG, hF⟩ := hv
  have hK := hF.1
  have hN := hF.2.1
  have hB := hF.2.2.2
  have hx := B₀.exec
  have hb := B₀.bytes
  have hr := B₀.returns
  have hts := atoms_spec (ws := wsL_setCapacity) B₀.pre
  have hown : s.vm.findClass RL = some m.cls := findClass_of_methodNamed B₀.named
  have hlocks := B₀.notSynchronized
  have hS : va_S (g_A B) s.heap s.heap [] := va_S.rf
  have hl := lv_entry [.ref (ad (0, 0, 0)), .int (nI a), .int (nI k)] (n := 4) (Nat.le_of_ble_eq_true rfl)
  rw [lg_entry_eq]
  generalize (lg_sl [.ref (ad (0, 0, 0)), .int (nI a), .int (nI k)] ++ List.replicate (4 - (lg_sl [.ref (ad (0, 0, 0)), .int (nI a), .int (nI k)]).length) Slot.unset).toArray = ls at hl ⊢
  have hl : lv_has ls 4 [(0, .ref (ad (0, 0, 0))), (1, .int (nI a)), (2, .int (nI k))] := hl
  refine lv_aload_n hx hb dL_setCapacity_0 rfl (lv_at hl 0 rfl) ?_
  refine lv_iload_n hx hb dL_setCapacity_1 rfl (lv_at hl 1 rfl) ?_
  refine lv_iload_n hx hb dL_setCapacity_2 rfl (lv_at hl 2 rfl) ?_
  refine va_calli (va_runV (As := [.int (nI a), .int (nI k)]) (rest := []) ⟨hx, hb, hml, hown, hts⟩ (c_setCapacity l hn hc ha hnl hk1 hk9) (cwV 2 hts gL_setCapacity_X5_setCapacity rfl rfl rfl (by decide +kernel) ⟨Nat.le_of_ble_eq_true rfl, Nat.le_of_ble_eq_true rfl⟩) (g_preV hF hG hS (lay_main) rfl) rfl rfl hl.1 rfl (lv_room (Nat.le_of_ble_eq_true rfl)) dL_setCapacity_3 ⟨Nat.le_of_ble_eq_true rfl, Nat.le_of_ble_eq_true rfl⟩) hS (fun q _ h => h) (fun q h => h) (fun r_1 g_3 t9 H locs ht9 _ h_2 hB1 _ _ hS => ?_)
  have hG : g_P D (lay C g_3 ad ln ex) ad B H := by rw [← ht9]; exact hB1
  exact W.iret (v := r_1) hx hb hr (fun t9 ht9 hW9 => ⟨⟨_, g_3, rfl, h_2, by show g_P _ _ _ _ t9.heap; rw [ht9]; exact hG⟩, hS.F ht9⟩) hS.2.2 dL_setCapacity_6

set_option maxHeartbeats 4000000 in
set_option maxRecDepth 100000 in
theorem l_addRelay (l : Launch) {D : va_G} {C : g_C} {g : g_k → Nat → Int32} {ad ln : g_k → Nat} {ex : g_k → Option va_E} {B : Nat} {n : Nat} (hn : n < 10) (hc : g (1, 0, 0) 4 = nI n) (hsk : sk1 g n) {x z k rc : Nat} {y : Int32} (hx9 : x < 360) (hy1 : (-30) ≤ y) (hy2 : y ≤ nI 30) (hz9 : z < 180) (hk1 : 1 ≤ k) (hk9 : k ≤ 9) (hrc : g (0, 0, 0) 6 = nI rc) (hrc6 : rc < 6) : Met l yL_addRelay wsL_addRelay ({ frames := 5, cells := 0, slots := 0, locals := 118 } : Room) (va_Pc [.ref (ad (0, 0, 0)), .int (nI x), .int y, .int (nI z), .int (nI k)] (g_S D C (lay C g ad ln ex) ad B)) (va_Qi (fun (r : Int32) (g1 : g_k → Nat → Int32) => r = nI n ∧ add_P g n g1 ∧ g1 (0, 0, 0) = upd (g (0, 0, 0)) 6 (nI (rc + 1)) ∧ g1 (4, 0, 0) = upd (g (4, 0, 0)) n (nI k) ∧ g1 (6, 0, 0) = upd (g (6, 0, 0)) n (nI x)) (fun g1 t => g_P D (lay C g1 ad ln ex) ad B t.heap) (g_A B)) 0 0 (g_A B) := by
  refine g_ofWW (cc := cL_addRelay) (maxL := 6) (ret := (some .int)) (hh := [(0, 9, 10, 15), (0, 9, 15, 17)]) (by decide +kernel) rfl ?_
  intro p e s m args below meth c s₁ B₀ hml hv
  obtain ⟨rfl, hG, hF⟩ := hv
  have hK := hF.1
  have hN := hF.2.1
  have hB := hF.2.2.2
  have hx := B₀.exec
  have hb := B₀.bytes
  have hr := B₀.returns
  have hts := atoms_spec (ws := wsL_addRelay) B₀.pre
  have hown : s.vm.findClass RL = some m.cls := findClass_of_methodNamed B₀.named
  have hlocks := B₀.notSynchronized
  have hS : va_S (g_A B) s.heap s.heap [] := va_S.rf
  have hl := lv_entry [.ref (ad (0, 0, 0)), .int (nI x), .int y, .int (nI z), .int (nI k)] (n := 6) (Nat.le_of_ble_eq_true rfl)
  rw [lg_entry_eq]
  generalize (lg_sl [.ref (ad (0, 0, 0)), .int (nI x), .int y, .int (nI z), .int (nI k)] ++ List.replicate (6 - (lg_sl [.ref (ad (0, 0, 0)), .int (nI x), .int y, .int (nI z), .int (nI k)]).length) Slot.unset).toArray = ls at hl ⊢
  have hl : lv_has ls 6 [(0, .ref (ad (0, 0, 0))), (1, .int (nI x)), (2, .int y), (3, .int (nI z)), (4, .int (nI k))] := hl
  refine lv_aload_n hx hb dL_addRelay_0 rfl (lv_at hl 0 rfl) ?_
  refine lv_iload_n hx hb dL_addRelay_1 rfl (lv_at hl 1 rfl) ?_
  refine lv_iload_n hx hb dL_addRelay_2 rfl (lv_at hl 2 rfl) ?_
  refine lv_iload_n hx hb dL_addRelay_3 rfl (lv_at hl 3 rfl) ?_
  refine lv_iload hx hb dL_addRelay_4 (lv_at hl 4 rfl) ?_
  refine va_calli (va_runV (As := [.int (nI x), .int y, .int (nI z), .int (nI k)]) (rest := []) ⟨hx, hb, hml, hown, hts⟩ (c_addRelay l hn hc hsk hx9 hy1 hy2 hz9 hk1 hk9 hrc hrc6) (cwV 4 hts gL_addRelay_X5_addRelay rfl rfl rfl (by decide +kernel) ⟨Nat.le_of_ble_eq_true rfl, Nat.le_of_ble_eq_true rfl⟩) (g_preV hF hG hS (lay_main) rfl) rfl rfl hl.1 rfl (lv_room (Nat.le_of_ble_eq_true rfl)) dL_addRelay_6 ⟨Nat.le_of_ble_eq_true rfl, Nat.le_of_ble_eq_true rfl⟩) hS (fun q _ h => h) (fun q h => h) (fun r_1 g_3 t9 H locs ht9 _ h_2 hB1 _ _ hS => ?_)
  have hG : g_P D (lay C g_3 ad ln ex) ad B H := by rw [← ht9]; exact hB1
  exact W.iret (v := r_1) hx hb hr (fun t9 ht9 hW9 => ⟨⟨_, g_3, rfl, h_2, by show g_P _ _ _ _ t9.heap; rw [ht9]; exact hG⟩, hS.F ht9⟩) hS.2.2 dL_addRelay_9

set_option maxHeartbeats 4000000 in
set_option maxRecDepth 100000 in
theorem l_addStation (l : Launch) {D : va_G} {C : g_C} {g : g_k → Nat → Int32} {ad ln : g_k → Nat} {ex : g_k → Option va_E} {B : Nat} {n : Nat} (hn : n < 10) (hc : g (1, 0, 0) 4 = nI n) (hsk : sk1 g n) {x sta t : Nat} (hx9 : x < 360) (hst : g (0, 0, 0) 5 = nI sta) (hst4 : sta < 4) (hnl : ln (30, n, 0) ≠ 1) (hM0 : ln (5, 0, 0) = 0) (hnow : g (0, 0, 0) 8 = nI t) (ht : t ≤ 1000000) : Met l yL_addStation wsL_addStation ({ frames := 5, cells := 15, slots := 3639, locals := 118 } : Room) (va_Pc [.ref (ad (0, 0, 0)), .int (nI x)] (g_S D C (lay C g ad ln ex) ad B)) (va_Qi (fun (r : Int32) (u : (g_k → Nat → Int32) × (g_k → Nat) × (g_k → Nat)) => r = nI n ∧ ads_P g ad ln n sta x t u.1 u.2.1 u.2.2) (fun u t => g_P D (lay C u.1 u.2.1 u.2.2 ex) u.2.1 B t.heap) (g_A B)) 15 3639 (g_A B) := by
  refine g_ofWW (cc := cL_addStation) (maxL := 3) (ret := (some .int)) (hh := [(0, 5, 6, 15), (0, 5, 10, 17)]) (by decide +kernel) rfl ?_
  intro p e s m args below meth c s₁ B₀ hml hv
  obtain ⟨rfl, hG, hF⟩ := hv
  have hK := hF.1
  have hN := hF.2.1
  have hB := hF.2.2.2
  have hx := B₀.exec
  have hb := B₀.bytes
  have hr := B₀.returns
  have hts := atoms_spec (ws := wsL_addStation) B₀.pre
  have hown : s.vm.findClass RL = some m.cls := findClass_of_methodNamed B₀.named
  have hlocks := B₀.notSynchronized
  have hS : va_S (g_A B) s.heap s.heap [] := va_S.rf
  have hl := lv_entry [.ref (ad (0, 0, 0)), .int (nI x)] (n := 3) (Nat.le_of_ble_eq_true rfl)
  rw [lg_entry_eq]
  generalize (lg_sl [.ref (ad (0, 0, 0)), .int (nI x)] ++ List.replicate (3 - (lg_sl [.ref (ad (0, 0, 0)), .int (nI x)]).length) Slot.unset).toArray = ls at hl ⊢
  have hl : lv_has ls 3 [(0, .ref (ad (0, 0, 0))), (1, .int (nI x))] := hl
  refine lv_aload_n hx hb dL_addStation_0 rfl (lv_at hl 0 rfl) ?_
  refine lv_iload_n hx hb dL_addStation_1 rfl (lv_at hl 1 rfl) ?_
  refine va_calli (va_runV (As := [.int (nI x)]) (rest := []) ⟨hx, hb, hml, hown, hts⟩ (c_addStation l hn hc hsk hx9 hst hst4 hnl hM0 hnow ht) (cwV 1 hts gL_addStation_X5_addStation rfl rfl rfl (by decide +kernel) ⟨Nat.le_of_ble_eq_true rfl, Nat.le_of_ble_eq_true rfl⟩) (g_preV hF hG hS (lay_main) rfl) rfl rfl hl.1 rfl (lv_room (Nat.le_of_ble_eq_true rfl)) dL_addStation_2 ⟨(by show 0 + 15 ≤ 15; exact Nat.le_of_eq (Nat.zero_add _)), (by show 0 + 3639 ≤ 3639; exact Nat.le_of_eq (Nat.zero_add _))⟩) hS (fun q _ h => h) (fun q h => h) (fun r_1 u9 t9 H locs ht9 _ h_2 hB1 _ _ hS => ?_)
  obtain ⟨g_3, ad_5, ln_4⟩ := u9
  dsimp only at h_2
  have hG : g_P D (lay C g_3 ad_5 ln_4 ex) ad_5 B H := by rw [← ht9]; exact hB1
  refine W.widen (k := 15) (n := 3639) (Nat.le_of_eq (Nat.zero_add _)) (Nat.le_of_eq (Nat.zero_add _)) ?_
  exact W.iret (v := r_1) hx hb hr (fun t9 ht9 hW9 => ⟨⟨_, (g_3, ad_5, ln_4), rfl, h_2, by show g_P D (lay C g_3 ad_5 ln_4 ex) ad_5 B t9.heap; rw [ht9]; exact hG⟩, hS.F ht9⟩) hS.2.2 dL_addStation_5

set_option maxHeartbeats 4000000 in
set_option maxRecDepth 100000 in
theorem l_send (l : Launch) {D : va_G} {C : g_C} {g : g_k → Nat → Int32} {ad ln : g_k → Nat} {ex : g_k → Option va_E} {B : Nat} {n : Nat} (hn : n < 11) (hc : g (1, 0, 0) 4 = nI n) {M : Nat} (hM : ln (5, 0, 0) = M) (hM20 : M < 20) (hs : g (0, 0, 0) 7 = nI M) {a b : Nat} (ha : a < n) (hb9 : b < n) (hla : ln (30, a, 0) = 1) (hlb : ln (30, b, 0) = 1) (hab : a ≠ b) : Met l yL_send wsL_send ({ frames := 4, cells := 3, slots := 24, locals := 89 } : Room) (va_Pc [.ref (ad (0, 0, 0)), .int (nI a), .int (nI b)] (g_S D C (lay C g ad ln ex) ad B)) (va_Qi (fun (r : Int32) (u : (g_k → Nat → Int32) × (g_k → Nat) × (g_k → Nat)) => r = nI M ∧ u.1 = g2 (g_send g M (nI a) (nI b)) (0, 0, 0) 7 (nI (M + 1)) ∧ u.2.2 = ln_send ln M b ∧ ∀ c, c ≠ (40, M, 0) → c ≠ (41, M, 0) → c ≠ (42, M, 0) → u.2.1 c = ad c) (fun u t => g_P D (lay C u.1 u.2.1 u.2.2 ex) u.2.1 B t.heap) (g_A B)) 3 24 (g_A B) := by
  refine g_ofWW (cc := cL_send) (maxL := 4) (ret := (some .int)) (hh := [(0, 6, 7, 27), (0, 6, 11, 15), (0, 6, 15, 17)]) (by decide +kernel) rfl ?_
  intro p e s m args below meth c s₁ B₀ hml hv
  obtain ⟨rfl, hG, hF⟩ := hv
  have hK := hF.1
  have hN := hF.2.1
  have hB := hF.2.2.2
  have hx := B₀.exec
  have hb := B₀.bytes
  have hr := B₀.returns
  have hts := atoms_spec (ws := wsL_send) B₀.pre
  have hown : s.vm.findClass RL = some m.cls := findClass_of_methodNamed B₀.named
  have hlocks := B₀.notSynchronized
  have hS : va_S (g_A B) s.heap s.heap [] := va_S.rf
  have hl := lv_entry [.ref (ad (0, 0, 0)), .int (nI a), .int (nI b)] (n := 4) (Nat.le_of_ble_eq_true rfl)
  rw [lg_entry_eq]
  generalize (lg_sl [.ref (ad (0, 0, 0)), .int (nI a), .int (nI b)] ++ List.replicate (4 - (lg_sl [.ref (ad (0, 0, 0)), .int (nI a), .int (nI b)]).length) Slot.unset).toArray = ls at hl ⊢
  have hl : lv_has ls 4 [(0, .ref (ad (0, 0, 0))), (1, .int (nI a)), (2, .int (nI b))] := hl
  refine lv_aload_n hx hb dL_send_0 rfl (lv_at hl 0 rfl) ?_
  refine lv_iload_n hx hb dL_send_1 rfl (lv_at hl 1 rfl) ?_
  refine lv_iload_n hx hb dL_send_2 rfl (lv_at hl 2 rfl) ?_
  refine va_calli (va_runV (As := [.int (nI a), .int (nI b)]) (rest := []) ⟨hx, hb, hml, hown, hts⟩ (c_send l hn hc hM hM20 hs ha hb9 hla hlb hab) (cwV 2 hts gL_send_X5_send rfl rfl rfl (by decide +kernel) ⟨Nat.le_of_ble_eq_true rfl, Nat.le_of_ble_eq_true rfl⟩) (g_preV hF hG hS (lay_main) rfl) rfl rfl hl.1 rfl (lv_room (Nat.le_of_ble_eq_true rfl)) dL_send_3 ⟨(by show 0 + 3 ≤ 3; exact Nat.le_of_eq (Nat.zero_add _)), (by show 0 + 24 ≤ 24; exact Nat.le_of_eq (Nat.zero_add _))⟩) hS (fun q _ h => h) (fun q h => h) (fun r_1 u9 t9 H locs ht9 _ h_2 hB1 _ _ hS => ?_)
  obtain ⟨g_3, ad_5, ln_4⟩ := u9
  dsimp only at h_2
  have hG : g_P D (lay C g_3 ad_5 ln_4 ex) ad_5 B H := by rw [← ht9]; exact hB1
  refine W.widen (k := 3) (n := 24) (Nat.le_of_eq (Nat.zero_add _)) (Nat.le_of_eq (Nat.zero_add _)) ?_
  exact W.iret (v := r_1) hx hb hr (fun t9 ht9 hW9 => ⟨⟨_, (g_3, ad_5, ln_4), rfl, h_2, by show g_P D (lay C g_3 ad_5 ln_4 ex) ad_5 B t9.heap; rw [ht9]; exact hG⟩, hS.F ht9⟩) hS.2.2 dL_send_6

set_option maxHeartbeats 4000000 in
set_option maxRecDepth 100000 in
theorem l_pass (l : Launch) {D : va_G} {C : g_C} {g : g_k → Nat → Int32} {ad ln : g_k → Nat} {ex : g_k → Option va_E} {B : Nat} {n : Nat} (hn : n ≤ 10) (hc : g (1, 0, 0) 4 = nI n) {M : Nat} (hM : ln (5, 0, 0) = M) (hM20 : M ≤ 20) (hs : g (0, 0, 0) 7 = nI M) {sta t : Nat} {src to : Nat → Nat} (hsl : ∀ i, i < 10 → (ln (30, i, 0) = 1 ↔ i < sta)) (hstn : sta ≤ n) (hto : ∀ j, j < M → ln (43, j, 0) = to j ∧ to j < sta) (hnow : g (0, 0, 0) 8 = nI t) (hmk : ∀ j, j < M → mok g ln n t j (src j) (to j)) (hrl : ∀ i, i < sta → rlw_P g n t i) {k : Nat} (hk1 : 1 ≤ k) (hk30 : k ≤ 30) (ht : t + k < 2 ^ 19) : Met l yL_pass wsL_pass ({ frames := 7, cells := (40 * k), slots := (us t k), locals := 162 } : Room) (va_Pc [.ref (ad (0, 0, 0)), .int (nI k)] (g_S D C (lay C g ad ln ex) ad B)) (va_Qi (fun (r : Int32) (u : (g_k → Nat → Int32) × (g_k → Nat) × (g_k → Nat)) => pm_P g ad ln n sta M t (t + k) src to r u.1 u.2.1 u.2.2) (fun u t => g_P D (lay C u.1 u.2.1 u.2.2 ex) u.2.1 B t.heap) (g_A B)) (40 * k) (us t k) (g_A B) := by
  refine g_ofWW (cc := cL_pass) (maxL := 3) (ret := (some .int)) (hh := [(0, 5, 6, 15), (0, 5, 10, 17)]) (by decide +kernel) rfl ?_
  intro p e s m args below meth c s₁ B₀ hml hv
  obtain ⟨rfl, hG, hF⟩ := hv
  have hK := hF.1
  have hN := hF.2.1
  have hB := hF.2.2.2
  have hx := B₀.exec
  have hb := B₀.bytes
  have hr := B₀.returns
  have hts := atoms_spec (ws := wsL_pass) B₀.pre
  have hown : s.vm.findClass RL = some m.cls := findClass_of_methodNamed B₀.named
  have hlocks := B₀.notSynchronized
  have hS : va_S (g_A B) s.heap s.heap [] := va_S.rf
  have hl := lv_entry [.ref (ad (0, 0, 0)), .int (nI k)] (n := 3) (Nat.le_of_ble_eq_true rfl)
  rw [lg_entry_eq]
  generalize (lg_sl [.ref (ad (0, 0, 0)), .int (nI k)] ++ List.replicate (3 - (lg_sl [.ref (ad (0, 0, 0)), .int (nI k)]).length) Slot.unset).toArray = ls at hl ⊢
  have hl : lv_has ls 3 [(0, .ref (ad (0, 0, 0))), (1, .int (nI k))] := hl
  refine lv_aload_n hx hb dL_pass_0 rfl (lv_at hl 0 rfl) ?_
  refine lv_iload_n hx hb dL_pass_1 rfl (lv_at hl 1 rfl) ?_
  refine va_calli (va_runV (As := [.int (nI k)]) (rest := []) ⟨hx, hb, hml, hown, hts⟩ (c_pass l hn hc hM hM20 hs hsl hstn hto hnow hmk hrl hk1 hk30 ht) (cwV 1 hts gL_pass_X5_pass rfl rfl rfl (by decide +kernel) ⟨Nat.le_of_ble_eq_true rfl, Nat.le_of_ble_eq_true rfl⟩) (g_preV hF hG hS (lay_main) rfl) rfl rfl hl.1 rfl (lv_room (Nat.le_of_ble_eq_true rfl)) dL_pass_2 ⟨(by show 0 + (40 * k) ≤ (40 * k); exact Nat.le_of_eq (Nat.zero_add _)), (by show 0 + (us t k) ≤ (us t k); exact Nat.le_of_eq (Nat.zero_add _))⟩) hS (fun q _ h => h) (fun q h => h) (fun r_1 u9 t9 H locs ht9 _ h_2 hB1 _ _ hS => ?_)
  obtain ⟨g_3, ad_5, ln_4⟩ := u9
  dsimp only at h_2
  have hG : g_P D (lay C g_3 ad_5 ln_4 ex) ad_5 B H := by rw [← ht9]; exact hB1
  refine W.widen (k := (40 * k)) (n := (us t k)) (Nat.le_of_eq (Nat.zero_add _)) (Nat.le_of_eq (Nat.zero_add _)) ?_
  exact W.iret (v := r_1) hx hb hr (fun t9 ht9 hW9 => ⟨⟨_, (g_3, ad_5, ln_4), rfl, h_2, by show g_P D (lay C g_3 ad_5 ln_4 ex) ad_5 B t9.heap; rw [ht9]; exact hG⟩, hS.F ht9⟩) hS.2.2 dL_pass_5

set_option maxHeartbeats 4000000 in
set_option maxRecDepth 100000 in
theorem lx_nodeOf (l : Launch) (hst : l.stackTraces = false) {D : va_G} {C : g_C} {g : g_k → Nat → Int32} {ad ln : g_k → Nat} {ex : g_k → Option va_E} {B : Nat} {M : Nat} (hM : ln (5, 0, 0) = M) (hM20 : M ≤ 20) (hs : g (0, 0, 0) 7 = nI M) {x : Int32} (hx9 : ¬ (nI 0 ≤ x ∧ x ≤ nI M - nI 1)) : Met l yL_nodeOf wsL_nodeOf ({ frames := 8, cells := 1, slots := 6, locals := 124 } : Room) (va_Pc [.ref (ad (0, 0, 0)), .int x] (g_S D C (lay C g ad ln ex) ad B)) (va_Qi (fun (r : Int32) (g1 : g_k → Nat → Int32) => r = (-101) ∧ g1 = g) (fun g1 t => g_P D (lay C g1 ad ln ex) ad B t.heap) (g_A B)) 1 6 (g_A B) := by
  refine g_ofWW (cc := cL_nodeOf) (maxL := 3) (ret := (some .int)) (hh := [(0, 5, 6, 27)]) (by decide +kernel) rfl ?_
  intro p e s m args below meth c s₁ B₀ hml hv
  obtain ⟨rfl, hG, hF⟩ := hv
  have hK := hF.1
  have hN := hF.2.1
  have hB := hF.2.2.2
  have hx := B₀.exec
  have hb := B₀.bytes
  have hr := B₀.returns
  have hts := atoms_spec (ws := wsL_nodeOf) B₀.pre
  have hown : s.vm.findClass RL = some m.cls := findClass_of_methodNamed B₀.named
  have hlocks := B₀.notSynchronized
  have hS : va_S (g_A B) s.heap s.heap [] := va_S.rf
  have hl := lv_entry [.ref (ad (0, 0, 0)), .int x] (n := 3) (Nat.le_of_ble_eq_true rfl)
  rw [lg_entry_eq]
  generalize (lg_sl [.ref (ad (0, 0, 0)), .int x] ++ List.replicate (3 - (lg_sl [.ref (ad (0, 0, 0)), .int x]).length) Slot.unset).toArray = ls at hl ⊢
  have hl : lv_has ls 3 [(0, .ref (ad (0, 0, 0))), (1, .int x)] := hl
  refine lv_aload_n hx hb dL_nodeOf_0 rfl (lv_at hl 0 rfl) ?_
  refine lv_iload_n hx hb dL_nodeOf_1 rfl (lv_at hl 1 rfl) ?_
  have htab := vx_table (x := yL_nodeOf) B₀ (hts (.codeWith yL_nodeOf cL_nodeOf 3 (some .int) [(0, 5, 6, 27)]) List.mem_cons_self)
  refine vx_callx (vx_runV (As := [.int x]) (rest := []) ⟨hx, hb, hml, hown, hts⟩ (x_nodeOf l hst hM hM20 hs hx9) (cwV 1 hts gL_nodeOf_X5_nodeOf rfl rfl rfl (by decide +kernel) ⟨Nat.le_of_ble_eq_true rfl, Nat.le_of_ble_eq_true rfl⟩) (g_preV hF hG hS (lay_main) rfl) rfl rfl hl.1 rfl (lv_room (Nat.le_of_ble_eq_true rfl)) dL_nodeOf_2 ⟨Nat.le_of_ble_eq_true rfl, Nat.le_of_ble_eq_true rfl⟩) hS (fun q h => h) (fun q _ h => h) (fun E ce q9 u t H locs ht9 _ _ hbx hS hce hcv hcl => ?_)
  obtain ⟨rfl, hG1⟩ := hbx
  have hG : g_P D (lay C g ad ln ex) ad B H := by rw [← ht9]; exact hG1
  refine vx_catch hown [] ({ startPc := 0, endPc := 5, handlerPc := 6, catchType := 27 } : ExceptionTableEntry) [] (htab.trans rfl) (fun z hz => nomatch hz) rfl (by decide) (hts (.classLink RL 27 "java/lang/IndexOutOfBoundsException") (by decide +kernel)) (va_Nw.use rfl hF.2.2.1.2.2.1.2.1) hce hcv hcl ?_
  refine W.eq (g2 := F0 m 6 ls [.ref q9]) rfl ?_
  refine lv_astore_n (lv' := [(2, .ref q9), (0, .ref (ad (0, 0, 0))), (1, .int x)]) hx hb dL_nodeOf_6 rfl hl (by decide) rfl (fun ls hl => ?_)
  refine lv_bipush (v := (-101)) hx hb dL_nodeOf_7 (by decide) ?_
  exact W.iret (v := (-101)) hx hb hr (fun t9 ht9 hW9 => ⟨⟨_, g, rfl, ⟨rfl, rfl⟩, by show g_P _ _ _ _ t9.heap; rw [ht9]; exact hG⟩, hS.F ht9⟩) hS.2.2 dL_nodeOf_9

set_option maxHeartbeats 4000000 in
set_option maxRecDepth 100000 in
theorem lx_hops (l : Launch) (hst : l.stackTraces = false) {D : va_G} {C : g_C} {g : g_k → Nat → Int32} {ad ln : g_k → Nat} {ex : g_k → Option va_E} {B : Nat} {M : Nat} (hM : ln (5, 0, 0) = M) (hM20 : M ≤ 20) (hs : g (0, 0, 0) 7 = nI M) {x : Int32} (hx9 : ¬ (nI 0 ≤ x ∧ x ≤ nI M - nI 1)) : Met l yL_hops wsL_hops ({ frames := 8, cells := 1, slots := 6, locals := 124 } : Room) (va_Pc [.ref (ad (0, 0, 0)), .int x] (g_S D C (lay C g ad ln ex) ad B)) (va_Qi (fun (r : Int32) (g1 : g_k → Nat → Int32) => r = (-101) ∧ g1 = g) (fun g1 t => g_P D (lay C g1 ad ln ex) ad B t.heap) (g_A B)) 1 6 (g_A B) := by
  refine g_ofWW (cc := cL_hops) (maxL := 3) (ret := (some .int)) (hh := [(0, 5, 6, 27)]) (by decide +kernel) rfl ?_
  intro p e s m args below meth c s₁ B₀ hml hv
  obtain ⟨rfl, hG, hF⟩ := hv
  have hK := hF.1
  have hN := hF.2.1
  have hB := hF.2.2.2
  have hx := B₀.exec
  have hb := B₀.bytes
  have hr := B₀.returns
  have hts := atoms_spec (ws := wsL_hops) B₀.pre
  have hown : s.vm.findClass RL = some m.cls := findClass_of_methodNamed B₀.named
  have hlocks := B₀.notSynchronized
  have hS : va_S (g_A B) s.heap s.heap [] := va_S.rf
  have hl := lv_entry [.ref (ad (0, 0, 0)), .int x] (n := 3) (Nat.le_of_ble_eq_true rfl)
  rw [lg_entry_eq]
  generalize (lg_sl [.ref (ad (0, 0, 0)), .int x] ++ List.replicate (3 - (lg_sl [.ref (ad (0, 0, 0)), .int x]).length) Slot.unset).toArray = ls at hl ⊢
  have hl : lv_has ls 3 [(0, .ref (ad (0, 0, 0))), (1, .int x)] := hl
  refine lv_aload_n hx hb dL_hops_0 rfl (lv_at hl 0 rfl) ?_
  refine lv_iload_n hx hb dL_hops_1 rfl (lv_at hl 1 rfl) ?_
  have htab := vx_table (x := yL_hops) B₀ (hts (.codeWith yL_hops cL_hops 3 (some .int) [(0, 5, 6, 27)]) List.mem_cons_self)
  refine vx_callx (vx_runV (As := [.int x]) (rest := []) ⟨hx, hb, hml, hown, hts⟩ (x_hops l hst hM hM20 hs hx9) (cwV 1 hts gL_hops_X5_hops rfl rfl rfl (by decide +kernel) ⟨Nat.le_of_ble_eq_true rfl, Nat.le_of_ble_eq_true rfl⟩) (g_preV hF hG hS (lay_main) rfl) rfl rfl hl.1 rfl (lv_room (Nat.le_of_ble_eq_true rfl)) dL_hops_2 ⟨Nat.le_of_ble_eq_true rfl, Nat.le_of_ble_eq_true rfl⟩) hS (fun q h => h) (fun q _ h => h) (fun E ce q9 u t H locs ht9 _ _ hbx hS hce hcv hcl => ?_)
  obtain ⟨rfl, hG1⟩ := hbx
  have hG : g_P D (lay C g ad ln ex) ad B H := by rw [← ht9]; exact hG1
  refine vx_catch hown [] ({ startPc := 0, endPc := 5, handlerPc := 6, catchType := 27 } : ExceptionTableEntry) [] (htab.trans rfl) (fun z hz => nomatch hz) rfl (by decide) (hts (.classLink RL 27 "java/lang/IndexOutOfBoundsException") (by decide +kernel)) (va_Nw.use rfl hF.2.2.1.2.2.1.2.1) hce hcv hcl ?_
  refine W.eq (g2 := F0 m 6 ls [.ref q9]) rfl ?_
  refine lv_astore_n (lv' := [(2, .ref q9), (0, .ref (ad (0, 0, 0))), (1, .int x)]) hx hb dL_hops_6 rfl hl (by decide) rfl (fun ls hl => ?_)
  refine lv_bipush (v := (-101)) hx hb dL_hops_7 (by decide) ?_
  exact W.iret (v := (-101)) hx hb hr (fun t9 ht9 hW9 => ⟨⟨_, g, rfl, ⟨rfl, rfl⟩, by show g_P _ _ _ _ t9.heap; rw [ht9]; exact hG⟩, hS.F ht9⟩) hS.2.2 dL_hops_9

set_option maxHeartbeats 4000000 in
set_option maxRecDepth 100000 in
theorem lx_blocked (l : Launch) (hst : l.stackTraces = false) {D : va_G} {C : g_C} {g : g_k → Nat → Int32} {ad ln : g_k → Nat} {ex : g_k → Option va_E} {B : Nat} {M : Nat} (hM : ln (5, 0, 0) = M) (hM20 : M ≤ 20) (hs : g (0, 0, 0) 7 = nI M) {x : Int32} (hx9 : ¬ (nI 0 ≤ x ∧ x ≤ nI M - nI 1)) : Met l yL_blocked wsL_blocked ({ frames := 8, cells := 1, slots := 6, locals := 124 } : Room) (va_Pc [.ref (ad (0, 0, 0)), .int x] (g_S D C (lay C g ad ln ex) ad B)) (va_Qi (fun (r : Int32) (g1 : g_k → Nat → Int32) => r = (-101) ∧ g1 = g) (fun g1 t => g_P D (lay C g1 ad ln ex) ad B t.heap) (g_A B)) 1 6 (g_A B) := by
  refine g_ofWW (cc := cL_blocked) (maxL := 3) (ret := (some .int)) (hh := [(0, 5, 6, 27)]) (by decide +kernel) rfl ?_
  intro p e s m args below meth c s₁ B₀ hml hv
  obtain ⟨rfl, hG, hF⟩ := hv
  have hK := hF.1
  have hN := hF.2.1
  have hB := hF.2.2.2
  have hx := B₀.exec
  have hb := B₀.bytes
  have hr := B₀.returns
  have hts := atoms_spec (ws := wsL_blocked) B₀.pre
  have hown : s.vm.findClass RL = some m.cls := findClass_of_methodNamed B₀.named
  have hlocks := B₀.notSynchronized
  have hS : va_S (g_A B) s.heap s.heap [] := va_S.rf
  have hl := lv_entry [.ref (ad (0, 0, 0)), .int x] (n := 3) (Nat.le_of_ble_eq_true rfl)
  rw [lg_entry_eq]
  generalize (lg_sl [.ref (ad (0, 0, 0)), .int x] ++ List.replicate (3 - (lg_sl [.ref (ad (0, 0, 0)), .int x]).length) Slot.unset).toArray = ls at hl ⊢
  have hl : lv_has ls 3 [(0, .ref (ad (0, 0, 0))), (1, .int x)] := hl
  refine lv_aload_n hx hb dL_blocked_0 rfl (lv_at hl 0 rfl) ?_
  refine lv_iload_n hx hb dL_blocked_1 rfl (lv_at hl 1 rfl) ?_
  have htab := vx_table (x := yL_blocked) B₀ (hts (.codeWith yL_blocked cL_blocked 3 (some .int) [(0, 5, 6, 27)]) List.mem_cons_self)
  refine vx_callx (vx_runV (As := [.int x]) (rest := []) ⟨hx, hb, hml, hown, hts⟩ (x_blocked l hst hM hM20 hs hx9) (cwV 1 hts gL_blocked_X5_blocked rfl rfl rfl (by decide +kernel) ⟨Nat.le_of_ble_eq_true rfl, Nat.le_of_ble_eq_true rfl⟩) (g_preV hF hG hS (lay_main) rfl) rfl rfl hl.1 rfl (lv_room (Nat.le_of_ble_eq_true rfl)) dL_blocked_2 ⟨Nat.le_of_ble_eq_true rfl, Nat.le_of_ble_eq_true rfl⟩) hS (fun q h => h) (fun q _ h => h) (fun E ce q9 u t H locs ht9 _ _ hbx hS hce hcv hcl => ?_)
  obtain ⟨rfl, hG1⟩ := hbx
  have hG : g_P D (lay C g ad ln ex) ad B H := by rw [← ht9]; exact hG1
  refine vx_catch hown [] ({ startPc := 0, endPc := 5, handlerPc := 6, catchType := 27 } : ExceptionTableEntry) [] (htab.trans rfl) (fun z hz => nomatch hz) rfl (by decide) (hts (.classLink RL 27 "java/lang/IndexOutOfBoundsException") (by decide +kernel)) (va_Nw.use rfl hF.2.2.1.2.2.1.2.1) hce hcv hcl ?_
  refine W.eq (g2 := F0 m 6 ls [.ref q9]) rfl ?_
  refine lv_astore_n (lv' := [(2, .ref q9), (0, .ref (ad (0, 0, 0))), (1, .int x)]) hx hb dL_blocked_6 rfl hl (by decide) rfl (fun ls hl => ?_)
  refine lv_bipush (v := (-101)) hx hb dL_blocked_7 (by decide) ?_
  exact W.iret (v := (-101)) hx hb hr (fun t9 ht9 hW9 => ⟨⟨_, g, rfl, ⟨rfl, rfl⟩, by show g_P _ _ _ _ t9.heap; rw [ht9]; exact hG⟩, hS.F ht9⟩) hS.2.2 dL_blocked_9

set_option maxHeartbeats 4000000 in
set_option maxRecDepth 100000 in
theorem lx_arrivedAt (l : Launch) (hst : l.stackTraces = false) {D : va_G} {C : g_C} {g : g_k → Nat → Int32} {ad ln : g_k → Nat} {ex : g_k → Option va_E} {B : Nat} {M : Nat} (hM : ln (5, 0, 0) = M) (hM20 : M ≤ 20) (hs : g (0, 0, 0) 7 = nI M) {x : Int32} (hx9 : ¬ (nI 0 ≤ x ∧ x ≤ nI M - nI 1)) : Met l yL_arrivedAt wsL_arrivedAt ({ frames := 8, cells := 1, slots := 6, locals := 125 } : Room) (va_Pc [.ref (ad (0, 0, 0)), .int x] (g_S D C (lay C g ad ln ex) ad B)) (va_Qi (fun (r : Int32) (g1 : g_k → Nat → Int32) => r = (-101) ∧ g1 = g) (fun g1 t => g_P D (lay C g1 ad ln ex) ad B t.heap) (g_A B)) 1 6 (g_A B) := by
  refine g_ofWW (cc := cL_arrivedAt) (maxL := 3) (ret := (some .int)) (hh := [(0, 5, 6, 27), (0, 5, 10, 64)]) (by decide +kernel) rfl ?_
  intro p e s m args below meth c s₁ B₀ hml hv
  obtain ⟨rfl, hG, hF⟩ := hv
  have hK := hF.1
  have hN := hF.2.1
  have hB := hF.2.2.2
  have hx := B₀.exec
  have hb := B₀.bytes
  have hr := B₀.returns
  have hts := atoms_spec (ws := wsL_arrivedAt) B₀.pre
  have hown : s.vm.findClass RL = some m.cls := findClass_of_methodNamed B₀.named
  have hlocks := B₀.notSynchronized
  have hS : va_S (g_A B) s.heap s.heap [] := va_S.rf
  have hl := lv_entry [.ref (ad (0, 0, 0)), .int x] (n := 3) (Nat.le_of_ble_eq_true rfl)
  rw [lg_entry_eq]
  generalize (lg_sl [.ref (ad (0, 0, 0)), .int x] ++ List.replicate (3 - (lg_sl [.ref (ad (0, 0, 0)), .int x]).length) Slot.unset).toArray = ls at hl ⊢
  have hl : lv_has ls 3 [(0, .ref (ad (0, 0, 0))), (1, .int x)] := hl
  refine lv_aload_n hx hb dL_arrivedAt_0 rfl (lv_at hl 0 rfl) ?_
  refine lv_iload_n hx hb dL_arrivedAt_1 rfl (lv_at hl 1 rfl) ?_
  have htab := vx_table (x := yL_arrivedAt) B₀ (hts (.codeWith yL_arrivedAt cL_arrivedAt 3 (some .int) [(0, 5, 6, 27), (0, 5, 10, 64)]) List.mem_cons_self)
  refine vx_callx (vx_runV (As := [.int x]) (rest := []) ⟨hx, hb, hml, hown, hts⟩ (x_arrivedAt l hst hM hM20 hs hx9) (cwV 1 hts gL_arrivedAt_X5_arrivedAt rfl rfl rfl (by decide +kernel) ⟨Nat.le_of_ble_eq_true rfl, Nat.le_of_ble_eq_true rfl⟩) (g_preV hF hG hS (lay_main) rfl) rfl rfl hl.1 rfl (lv_room (Nat.le_of_ble_eq_true rfl)) dL_arrivedAt_2 ⟨Nat.le_of_ble_eq_true rfl, Nat.le_of_ble_eq_true rfl⟩) hS (fun q h => h) (fun q _ h => h) (fun E ce q9 u t H locs ht9 _ _ hbx hS hce hcv hcl => ?_)
  obtain ⟨rfl, hG1⟩ := hbx
  have hG : g_P D (lay C g ad ln ex) ad B H := by rw [← ht9]; exact hG1
  refine vx_catch hown [] ({ startPc := 0, endPc := 5, handlerPc := 6, catchType := 27 } : ExceptionTableEntry) [({ startPc := 0, endPc := 5, handlerPc := 10, catchType := 64 } : ExceptionTableEntry)] (htab.trans rfl) (fun z hz => nomatch hz) rfl (by decide) (hts (.classLink RL 27 "java/lang/IndexOutOfBoundsException") (by decide +kernel)) (va_Nw.use rfl hF.2.2.1.2.2.1.2.1) hce hcv hcl ?_
  refine W.eq (g2 := F0 m 6 ls [.ref q9]) rfl ?_
  refine lv_astore_n (lv' := [(2, .ref q9), (0, .ref (ad (0, 0, 0))), (1, .int x)]) hx hb dL_arrivedAt_6 rfl hl (by decide) rfl (fun ls hl => ?_)
  refine lv_bipush (v := (-101)) hx hb dL_arrivedAt_7 (by decide) ?_
  exact W.iret (v := (-101)) hx hb hr (fun t9 ht9 hW9 => ⟨⟨_, g, rfl, ⟨rfl, rfl⟩, by show g_P _ _ _ _ t9.heap; rw [ht9]; exact hG⟩, hS.F ht9⟩) hS.2.2 dL_arrivedAt_9

set_option maxHeartbeats 4000000 in
set_option maxRecDepth 100000 in
theorem lx_arrivedAtN (l : Launch) (hst : l.stackTraces = false) {D : va_G} {C : g_C} {g : g_k → Nat → Int32} {ad ln : g_k → Nat} {ex : g_k → Option va_E} {B : Nat} {M : Nat} (hM : ln (5, 0, 0) = M) (hM20 : M ≤ 20) (hs : g (0, 0, 0) 7 = nI M) {a : Nat} (ha : a < M) (hat : ¬ g (40, a, 0) 2 = g (40, a, 0) 0) : Met l yL_arrivedAt wsL_arrivedAt ({ frames := 7, cells := 1, slots := 6, locals := 104 } : Room) (va_Pc [.ref (ad (0, 0, 0)), .int (nI a)] (g_S D C (lay C g ad ln ex) ad B)) (va_Qi (fun (r : Int32) (g1 : g_k → Nat → Int32) => r = (-104) ∧ g1 = g) (fun g1 t => g_P D (lay C g1 ad ln ex) ad B t.heap) (g_A B)) 1 6 (g_A B) := by
  refine g_ofWW (cc := cL_arrivedAt) (maxL := 3) (ret := (some .int)) (hh := [(0, 5, 6, 27), (0, 5, 10, 64)]) (by decide +kernel) rfl ?_
  intro p e s m args below meth c s₁ B₀ hml hv
  obtain ⟨rfl, hG, hF⟩ := hv
  have hK := hF.1
  have hN := hF.2.1
  have hB := hF.2.2.2
  have hx := B₀.exec
  have hb := B₀.bytes
  have hr := B₀.returns
  have hts := atoms_spec (ws := wsL_arrivedAt) B₀.pre
  have hown : s.vm.findClass RL = some m.cls := findClass_of_methodNamed B₀.named
  have hlocks := B₀.notSynchronized
  have hS : va_S (g_A B) s.heap s.heap [] := va_S.rf
  have hl := lv_entry [.ref (ad (0, 0, 0)), .int (nI a)] (n := 3) (Nat.le_of_ble_eq_true rfl)
  rw [lg_entry_eq]
  generalize (lg_sl [.ref (ad (0, 0, 0)), .int (nI a)] ++ List.replicate (3 - (lg_sl [.ref (ad (0, 0, 0)), .int (nI a)]).length) Slot.unset).toArray = ls at hl ⊢
  have hl : lv_has ls 3 [(0, .ref (ad (0, 0, 0))), (1, .int (nI a))] := hl
  refine lv_aload_n hx hb dL_arrivedAt_0 rfl (lv_at hl 0 rfl) ?_
  refine lv_iload_n hx hb dL_arrivedAt_1 rfl (lv_at hl 1 rfl) ?_
  have htab := vx_table (x := yL_arrivedAt) B₀ (hts (.codeWith yL_arrivedAt cL_arrivedAt 3 (some .int) [(0, 5, 6, 27), (0, 5, 10, 64)]) List.mem_cons_self)
  refine vx_callx (vx_runV (As := [.int (nI a)]) (rest := []) ⟨hx, hb, hml, hown, hts⟩ (x_arrivedAtN l hst hM hM20 hs ha hat) (cwV 1 hts gL_arrivedAt_X5_arrivedAt rfl rfl rfl (by decide +kernel) ⟨Nat.le_of_ble_eq_true rfl, Nat.le_of_ble_eq_true rfl⟩) (g_preV hF hG hS (lay_main) rfl) rfl rfl hl.1 rfl (lv_room (Nat.le_of_ble_eq_true rfl)) dL_arrivedAt_2 ⟨Nat.le_of_ble_eq_true rfl, Nat.le_of_ble_eq_true rfl⟩) hS (fun q h => h) (fun q _ h => h) (fun E ce q9 u t H locs ht9 _ _ hbx hS hce hcv hcl => ?_)
  obtain ⟨rfl, hG1⟩ := hbx
  have hG : g_P D (lay C g ad ln ex) ad B H := by rw [← ht9]; exact hG1
  refine vx_catch hown [({ startPc := 0, endPc := 5, handlerPc := 6, catchType := 27 } : ExceptionTableEntry)] ({ startPc := 0, endPc := 5, handlerPc := 10, catchType := 64 } : ExceptionTableEntry) [] (htab.trans rfl) (fun z hz => Or.inr (by cases List.mem_singleton.mp hz; exact ⟨by decide, "java/lang/IndexOutOfBoundsException", hts (.classLink RL 27 "java/lang/IndexOutOfBoundsException") (by decide +kernel), hF.2.2.1.2.2.1.2.2.2.1⟩)) rfl (by decide) (hts (.classLink RL 64 "java/util/NoSuchElementException") (by decide +kernel)) (va_Nw.use rfl hF.2.2.1.2.2.1.2.2.1) hce hcv hcl ?_
  refine W.eq (g2 := F0 m 10 ls [.ref q9]) rfl ?_
  refine lv_astore_n (lv' := [(2, .ref q9), (0, .ref (ad (0, 0, 0))), (1, .int (nI a))]) hx hb dL_arrivedAt_10 rfl hl (by decide) rfl (fun ls hl => ?_)
  refine lv_bipush (v := (-104)) hx hb dL_arrivedAt_11 (by decide) ?_
  exact W.iret (v := (-104)) hx hb hr (fun t9 ht9 hW9 => ⟨⟨_, g, rfl, ⟨rfl, rfl⟩, by show g_P _ _ _ _ t9.heap; rw [ht9]; exact hG⟩, hS.F ht9⟩) hS.2.2 dL_arrivedAt_13

set_option maxHeartbeats 4000000 in
set_option maxRecDepth 100000 in
theorem lx_hopNode (l : Launch) (hst : l.stackTraces = false) {D : va_G} {C : g_C} {g : g_k → Nat → Int32} {ad ln : g_k → Nat} {ex : g_k → Option va_E} {B : Nat} {M : Nat} (hM : ln (5, 0, 0) = M) (hM20 : M ≤ 20) (hs : g (0, 0, 0) 7 = nI M) {a h : Nat} (ha : a < M) (hh : g (40, a, 0) 5 = nI h) {x : Int32} (hx9 : ¬ (nI 0 ≤ x ∧ x ≤ nI h - nI 1)) : Met l yL_hopNode wsL_hopNode ({ frames := 8, cells := 1, slots := 6, locals := 126 } : Room) (va_Pc [.ref (ad (0, 0, 0)), .int (nI a), .int x] (g_S D C (lay C g ad ln ex) ad B)) (va_Qi (fun (r : Int32) (g1 : g_k → Nat → Int32) => r = (-101) ∧ g1 = g) (fun g1 t => g_P D (lay C g1 ad ln ex) ad B t.heap) (g_A B)) 1 6 (g_A B) := by
  refine g_ofWW (cc := cL_hopNode) (maxL := 4) (ret := (some .int)) (hh := [(0, 6, 7, 27)]) (by decide +kernel) rfl ?_
  intro p e s m args below meth c s₁ B₀ hml hv
  obtain ⟨rfl, hG, hF⟩ := hv
  have hK := hF.1
  have hN := hF.2.1
  have hB := hF.2.2.2
  have hx := B₀.exec
  have hb := B₀.bytes
  have hr := B₀.returns
  have hts := atoms_spec (ws := wsL_hopNode) B₀.pre
  have hown : s.vm.findClass RL = some m.cls := findClass_of_methodNamed B₀.named
  have hlocks := B₀.notSynchronized
  have hS : va_S (g_A B) s.heap s.heap [] := va_S.rf
  have hl := lv_entry [.ref (ad (0, 0, 0)), .int (nI a), .int x] (n := 4) (Nat.le_of_ble_eq_true rfl)
  rw [lg_entry_eq]
  generalize (lg_sl [.ref (ad (0, 0, 0)), .int (nI a), .int x] ++ List.replicate (4 - (lg_sl [.ref (ad (0, 0, 0)), .int (nI a), .int x]).length) Slot.unset).toArray = ls at hl ⊢
  have hl : lv_has ls 4 [(0, .ref (ad (0, 0, 0))), (1, .int (nI a)), (2, .int x)] := hl
  refine lv_aload_n hx hb dL_hopNode_0 rfl (lv_at hl 0 rfl) ?_
  refine lv_iload_n hx hb dL_hopNode_1 rfl (lv_at hl 1 rfl) ?_
  refine lv_iload_n hx hb dL_hopNode_2 rfl (lv_at hl 2 rfl) ?_
  have htab := vx_table (x := yL_hopNode) B₀ (hts (.codeWith yL_hopNode cL_hopNode 4 (some .int) [(0, 6, 7, 27)]) List.mem_cons_self)
  refine vx_callx (vx_runV (As := [.int (nI a), .int x]) (rest := []) ⟨hx, hb, hml, hown, hts⟩ (x_hopNode l hst hM hM20 hs ha hh hx9) (cwV 2 hts gL_hopNode_X5_hopNode rfl rfl rfl (by decide +kernel) ⟨Nat.le_of_ble_eq_true rfl, Nat.le_of_ble_eq_true rfl⟩) (g_preV hF hG hS (lay_main) rfl) rfl rfl hl.1 rfl (lv_room (Nat.le_of_ble_eq_true rfl)) dL_hopNode_3 ⟨Nat.le_of_ble_eq_true rfl, Nat.le_of_ble_eq_true rfl⟩) hS (fun q h => h) (fun q _ h => h) (fun E ce q9 u t H locs ht9 _ _ hbx hS hce hcv hcl => ?_)
  obtain ⟨rfl, hG1⟩ := hbx
  have hG : g_P D (lay C g ad ln ex) ad B H := by rw [← ht9]; exact hG1
  refine vx_catch hown [] ({ startPc := 0, endPc := 6, handlerPc := 7, catchType := 27 } : ExceptionTableEntry) [] (htab.trans rfl) (fun z hz => nomatch hz) rfl (by decide) (hts (.classLink RL 27 "java/lang/IndexOutOfBoundsException") (by decide +kernel)) (va_Nw.use rfl hF.2.2.1.2.2.1.2.1) hce hcv hcl ?_
  refine W.eq (g2 := F0 m 7 ls [.ref q9]) rfl ?_
  refine lv_astore_n (lv' := [(3, .ref q9), (0, .ref (ad (0, 0, 0))), (1, .int (nI a)), (2, .int x)]) hx hb dL_hopNode_7 rfl hl (by decide) rfl (fun ls hl => ?_)
  refine lv_bipush (v := (-101)) hx hb dL_hopNode_8 (by decide) ?_
  exact W.iret (v := (-101)) hx hb hr (fun t9 ht9 hW9 => ⟨⟨_, g, rfl, ⟨rfl, rfl⟩, by show g_P _ _ _ _ t9.heap; rw [ht9]; exact hG⟩, hS.F ht9⟩) hS.2.2 dL_hopNode_10

set_option maxHeartbeats 4000000 in
set_option maxRecDepth 100000 in
theorem lx_hopMinute (l : Launch) (hst : l.stackTraces = false) {D : va_G} {C : g_C} {g : g_k → Nat → Int32} {ad ln : g_k → Nat} {ex : g_k → Option va_E} {B : Nat} {M : Nat} (hM : ln (5, 0, 0) = M) (hM20 : M ≤ 20) (hs : g (0, 0, 0) 7 = nI M) {a h : Nat} (ha : a < M) (hh : g (40, a, 0) 5 = nI h) {x : Int32} (hx9 : ¬ (nI 0 ≤ x ∧ x ≤ nI h - nI 1)) : Met l yL_hopMinute wsL_hopMinute ({ frames := 8, cells := 1, slots := 6, locals := 126 } : Room) (va_Pc [.ref (ad (0, 0, 0)), .int (nI a), .int x] (g_S D C (lay C g ad ln ex) ad B)) (va_Qi (fun (r : Int32) (g1 : g_k → Nat → Int32) => r = (-101) ∧ g1 = g) (fun g1 t => g_P D (lay C g1 ad ln ex) ad B t.heap) (g_A B)) 1 6 (g_A B) := by
  refine g_ofWW (cc := cL_hopMinute) (maxL := 4) (ret := (some .int)) (hh := [(0, 6, 7, 27)]) (by decide +kernel) rfl ?_
  intro p e s m args below meth c s₁ B₀ hml hv
  obtain ⟨rfl, hG, hF⟩ := hv
  have hK := hF.1
  have hN := hF.2.1
  have hB := hF.2.2.2
  have hx := B₀.exec
  have hb := B₀.bytes
  have hr := B₀.returns
  have hts := atoms_spec (ws := wsL_hopMinute) B₀.pre
  have hown : s.vm.findClass RL = some m.cls := findClass_of_methodNamed B₀.named
  have hlocks := B₀.notSynchronized
  have hS : va_S (g_A B) s.heap s.heap [] := va_S.rf
  have hl := lv_entry [.ref (ad (0, 0, 0)), .int (nI a), .int x] (n := 4) (Nat.le_of_ble_eq_true rfl)
  rw [lg_entry_eq]
  generalize (lg_sl [.ref (ad (0, 0, 0)), .int (nI a), .int x] ++ List.replicate (4 - (lg_sl [.ref (ad (0, 0, 0)), .int (nI a), .int x]).length) Slot.unset).toArray = ls at hl ⊢
  have hl : lv_has ls 4 [(0, .ref (ad (0, 0, 0))), (1, .int (nI a)), (2, .int x)] := hl
  refine lv_aload_n hx hb dL_hopMinute_0 rfl (lv_at hl 0 rfl) ?_
  refine lv_iload_n hx hb dL_hopMinute_1 rfl (lv_at hl 1 rfl) ?_
  refine lv_iload_n hx hb dL_hopMinute_2 rfl (lv_at hl 2 rfl) ?_
  have htab := vx_table (x := yL_hopMinute) B₀ (hts (.codeWith yL_hopMinute cL_hopMinute 4 (some .int) [(0, 6, 7, 27)]) List.mem_cons_self)
  refine vx_callx (vx_runV (As := [.int (nI a), .int x]) (rest := []) ⟨hx, hb, hml, hown, hts⟩ (x_hopMinute l hst hM hM20 hs ha hh hx9) (cwV 2 hts gL_hopMinute_X5_hopMinute rfl rfl rfl (by decide +kernel) ⟨Nat.le_of_ble_eq_true rfl, Nat.le_of_ble_eq_true rfl⟩) (g_preV hF hG hS (lay_main) rfl) rfl rfl hl.1 rfl (lv_room (Nat.le_of_ble_eq_true rfl)) dL_hopMinute_3 ⟨Nat.le_of_ble_eq_true rfl, Nat.le_of_ble_eq_true rfl⟩) hS (fun q h => h) (fun q _ h => h) (fun E ce q9 u t H locs ht9 _ _ hbx hS hce hcv hcl => ?_)
  obtain ⟨rfl, hG1⟩ := hbx
  have hG : g_P D (lay C g ad ln ex) ad B H := by rw [← ht9]; exact hG1
  refine vx_catch hown [] ({ startPc := 0, endPc := 6, handlerPc := 7, catchType := 27 } : ExceptionTableEntry) [] (htab.trans rfl) (fun z hz => nomatch hz) rfl (by decide) (hts (.classLink RL 27 "java/lang/IndexOutOfBoundsException") (by decide +kernel)) (va_Nw.use rfl hF.2.2.1.2.2.1.2.1) hce hcv hcl ?_
  refine W.eq (g2 := F0 m 7 ls [.ref q9]) rfl ?_
  refine lv_astore_n (lv' := [(3, .ref q9), (0, .ref (ad (0, 0, 0))), (1, .int (nI a)), (2, .int x)]) hx hb dL_hopMinute_7 rfl hl (by decide) rfl (fun ls hl => ?_)
  refine lv_bipush (v := (-101)) hx hb dL_hopMinute_8 (by decide) ?_
  exact W.iret (v := (-101)) hx hb hr (fun t9 ht9 hW9 => ⟨⟨_, g, rfl, ⟨rfl, rfl⟩, by show g_P _ _ _ _ t9.heap; rw [ht9]; exact hG⟩, hS.F ht9⟩) hS.2.2 dL_hopMinute_10

set_option maxHeartbeats 4000000 in
set_option maxRecDepth 100000 in
theorem lx_setCapacity (l : Launch) (hst : l.stackTraces = false) {D : va_G} {C : g_C} {g : g_k → Nat → Int32} {ad ln : g_k → Nat} {ex : g_k → Option va_E} {B : Nat} {n : Nat} (hn : n ≤ 10) (hc : g (1, 0, 0) 4 = nI n) {a : Nat} {x : Int32} (ha : a < n) (hl9 : ln (30, a, 0) = 1) : Met l yL_setCapacity wsL_setCapacity ({ frames := 7, cells := 1, slots := 6, locals := 105 } : Room) (va_Pc [.ref (ad (0, 0, 0)), .int (nI a), .int x] (g_S D C (lay C g ad ln ex) ad B)) (va_Qi (fun (r : Int32) (g1 : g_k → Nat → Int32) => r = (-101) ∧ g1 = g) (fun g1 t => g_P D (lay C g1 ad ln ex) ad B t.heap) (g_A B)) 1 6 (g_A B) := by
  refine g_ofWW (cc := cL_setCapacity) (maxL := 4) (ret := (some .int)) (hh := [(0, 6, 7, 27), (0, 6, 11, 15)]) (by decide +kernel) rfl ?_
  intro p e s m args below meth c s₁ B₀ hml hv
  obtain ⟨rfl, hG, hF⟩ := hv
  have hK := hF.1
  have hN := hF.2.1
  have hB := hF.2.2.2
  have hx := B₀.exec
  have hb := B₀.bytes
  have hr := B₀.returns
  have hts := atoms_spec (ws := wsL_setCapacity) B₀.pre
  have hown : s.vm.findClass RL = some m.cls := findClass_of_methodNamed B₀.named
  have hlocks := B₀.notSynchronized
  have hS : va_S (g_A B) s.heap s.heap [] := va_S.rf
  have hl := lv_entry [.ref (ad (0, 0, 0)), .int (nI a), .int x] (n := 4) (Nat.le_of_ble_eq_true rfl)
  rw [lg_entry_eq]
  generalize (lg_sl [.ref (ad (0, 0, 0)), .int (nI a), .int x] ++ List.replicate (4 - (lg_sl [.ref (ad (0, 0, 0)), .int (nI a), .int x]).length) Slot.unset).toArray = ls at hl ⊢
  have hl : lv_has ls 4 [(0, .ref (ad (0, 0, 0))), (1, .int (nI a)), (2, .int x)] := hl
  refine lv_aload_n hx hb dL_setCapacity_0 rfl (lv_at hl 0 rfl) ?_
  refine lv_iload_n hx hb dL_setCapacity_1 rfl (lv_at hl 1 rfl) ?_
  refine lv_iload_n hx hb dL_setCapacity_2 rfl (lv_at hl 2 rfl) ?_
  have htab := vx_table (x := yL_setCapacity) B₀ (hts (.codeWith yL_setCapacity cL_setCapacity 4 (some .int) [(0, 6, 7, 27), (0, 6, 11, 15)]) List.mem_cons_self)
  refine vx_callx (vx_runV (As := [.int (nI a), .int x]) (rest := []) ⟨hx, hb, hml, hown, hts⟩ (x_setCapacity l hst hn hc ha hl9) (cwV 2 hts gL_setCapacity_X5_setCapacity rfl rfl rfl (by decide +kernel) ⟨Nat.le_of_ble_eq_true rfl, Nat.le_of_ble_eq_true rfl⟩) (g_preV hF hG hS (lay_main) rfl) rfl rfl hl.1 rfl (lv_room (Nat.le_of_ble_eq_true rfl)) dL_setCapacity_3 ⟨Nat.le_of_ble_eq_true rfl, Nat.le_of_ble_eq_true rfl⟩) hS (fun q h => h) (fun q _ h => h) (fun E ce q9 u t H locs ht9 _ _ hbx hS hce hcv hcl => ?_)
  obtain ⟨rfl, hG1⟩ := hbx
  have hG : g_P D (lay C g ad ln ex) ad B H := by rw [← ht9]; exact hG1
  refine vx_catch hown [] ({ startPc := 0, endPc := 6, handlerPc := 7, catchType := 27 } : ExceptionTableEntry) [({ startPc := 0, endPc := 6, handlerPc := 11, catchType := 15 } : ExceptionTableEntry)] (htab.trans rfl) (fun z hz => nomatch hz) rfl (by decide) (hts (.classLink RL 27 "java/lang/IndexOutOfBoundsException") (by decide +kernel)) (va_Nw.use rfl hF.2.2.1.2.2.1.2.1) hce hcv hcl ?_
  refine W.eq (g2 := F0 m 7 ls [.ref q9]) rfl ?_
  refine lv_astore_n (lv' := [(3, .ref q9), (0, .ref (ad (0, 0, 0))), (1, .int (nI a)), (2, .int x)]) hx hb dL_setCapacity_7 rfl hl (by decide) rfl (fun ls hl => ?_)
  refine lv_bipush (v := (-101)) hx hb dL_setCapacity_8 (by decide) ?_
  exact W.iret (v := (-101)) hx hb hr (fun t9 ht9 hW9 => ⟨⟨_, g, rfl, ⟨rfl, rfl⟩, by show g_P _ _ _ _ t9.heap; rw [ht9]; exact hG⟩, hS.F ht9⟩) hS.2.2 dL_setCapacity_10

set_option maxHeartbeats 4000000 in
set_option maxRecDepth 100000 in
theorem lx_relayOf (l : Launch) (hst : l.stackTraces = false) {D : va_G} {C : g_C} {g : g_k → Nat → Int32} {ad ln : g_k → Nat} {ex : g_k → Option va_E} {B : Nat} {n : Nat} (hn : n ≤ 10) (hc : g (1, 0, 0) 4 = nI n) {a : Nat} (ha : a < n) (hnl : ln (30, a, 0) ≠ 1) : Met l yL_relayOf wsL_relayOf ({ frames := 8, cells := 1, slots := 6, locals := 125 } : Room) (va_Pc [.ref (ad (0, 0, 0)), .int (nI a)] (g_S D C (lay C g ad ln ex) ad B)) (va_Qi (fun (r : Int32) (g1 : g_k → Nat → Int32) => r = (-101) ∧ g1 = g) (fun g1 t => g_P D (lay C g1 ad ln ex) ad B t.heap) (g_A B)) 1 6 (g_A B) := by
  refine g_ofWW (cc := cL_relayOf) (maxL := 3) (ret := (some .int)) (hh := [(0, 5, 6, 27)]) (by decide +kernel) rfl ?_
  intro p e s m args below meth c s₁ B₀ hml hv
  obtain ⟨rfl, hG, hF⟩ := hv
  have hK := hF.1
  have hN := hF.2.1
  have hB := hF.2.2.2
  have hx := B₀.exec
  have hb := B₀.bytes
  have hr := B₀.returns
  have hts := atoms_spec (ws := wsL_relayOf) B₀.pre
  have hown : s.vm.findClass RL = some m.cls := findClass_of_methodNamed B₀.named
  have hlocks := B₀.notSynchronized
  have hS : va_S (g_A B) s.heap s.heap [] := va_S.rf
  have hl := lv_entry [.ref (ad (0, 0, 0)), .int (nI a)] (n := 3) (Nat.le_of_ble_eq_true rfl)
  rw [lg_entry_eq]
  generalize (lg_sl [.ref (ad (0, 0, 0)), .int (nI a)] ++ List.replicate (3 - (lg_sl [.ref (ad (0, 0, 0)), .int (nI a)]).length) Slot.unset).toArray = ls at hl ⊢
  have hl : lv_has ls 3 [(0, .ref (ad (0, 0, 0))), (1, .int (nI a))] := hl
  refine lv_aload_n hx hb dL_relayOf_0 rfl (lv_at hl 0 rfl) ?_
  refine lv_iload_n hx hb dL_relayOf_1 rfl (lv_at hl 1 rfl) ?_
  have htab := vx_table (x := yL_relayOf) B₀ (hts (.codeWith yL_relayOf cL_relayOf 3 (some .int) [(0, 5, 6, 27)]) List.mem_cons_self)
  refine vx_callx (vx_runV (As := [.int (nI a)]) (rest := []) ⟨hx, hb, hml, hown, hts⟩ (x_relayOf l hst hn hc ha hnl) (cwV 1 hts gL_relayOf_X5_relayOf rfl rfl rfl (by decide +kernel) ⟨Nat.le_of_ble_eq_true rfl, Nat.le_of_ble_eq_true rfl⟩) (g_preV hF hG hS (lay_main) rfl) rfl rfl hl.1 rfl (lv_room (Nat.le_of_ble_eq_true rfl)) dL_relayOf_2 ⟨Nat.le_of_ble_eq_true rfl, Nat.le_of_ble_eq_true rfl⟩) hS (fun q h => h) (fun q _ h => h) (fun E ce q9 u t H locs ht9 _ _ hbx hS hce hcv hcl => ?_)
  obtain ⟨rfl, hG1⟩ := hbx
  have hG : g_P D (lay C g ad ln ex) ad B H := by rw [← ht9]; exact hG1
  refine vx_catch hown [] ({ startPc := 0, endPc := 5, handlerPc := 6, catchType := 27 } : ExceptionTableEntry) [] (htab.trans rfl) (fun z hz => nomatch hz) rfl (by decide) (hts (.classLink RL 27 "java/lang/IndexOutOfBoundsException") (by decide +kernel)) (va_Nw.use rfl hF.2.2.1.2.2.1.2.1) hce hcv hcl ?_
  refine W.eq (g2 := F0 m 6 ls [.ref q9]) rfl ?_
  refine lv_astore_n (lv' := [(2, .ref q9), (0, .ref (ad (0, 0, 0))), (1, .int (nI a))]) hx hb dL_relayOf_6 rfl hl (by decide) rfl (fun ls hl => ?_)
  refine lv_bipush (v := (-101)) hx hb dL_relayOf_7 (by decide) ?_
  exact W.iret (v := (-101)) hx hb hr (fun t9 ht9 hW9 => ⟨⟨_, g, rfl, ⟨rfl, rfl⟩, by show g_P _ _ _ _ t9.heap; rw [ht9]; exact hG⟩, hS.F ht9⟩) hS.2.2 dL_relayOf_9
