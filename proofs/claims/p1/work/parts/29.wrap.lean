theorem st_sk (g : g_k → Nat → Int32) (hg : ∀ c j, g c j = 0) : sk1 g 0 := fun a b t _ _ h => by
  unfold see at h
  rw [hg, b_0] at h
  exact absurd h (by decide)
/-- a contract of a method that has handlers -/
theorem g_ofWW {l : Launch} {y : MethodName} {ws ws' : List Cond} {rm : Room} {Pc : Array Value → State → Prop} {Qc : Array Value → State → Outcome → State → Prop} {mc ms : Nat} {free : Addr → Prop} {cc : ByteArray} {maxL : Nat} {ret : Option FieldType} {hh : List (Nat × Nat × Nat × Nat)} (hy : plainFor y = true) (hw : ws = Cond.codeWith y cc maxL ret hh :: ws')
    (body : ∀ p e s m args below meth c s₁, BodyLoose p l y (headSpec ws rm) cc maxL ret e s m args below meth c s₁ → c.maxLocals = maxL → Pc args s → W p l e (headSpec ws rm).room s m args below meth c s.heap [] 0 0 (MQ below Qc args s mc ms free) (entryFrame m args maxL)) : Met l y ws rm Pc Qc mc ms free := by
  refine MetFree.of_bodySF (code := cc) (maxLocals := maxL) (ret := ret) hy ?_ ?_
  · intro args s m h hn
    obtain ⟨m9, meth, c, hn9, h1, h2, h3, h4, -, h5, h6, -⟩ := Cond.codeWith_spec (atoms_spec (ws := ws) h _ (by rw [hw]; exact List.mem_cons_self))
    cases Option.some.inj (hn9.symm.trans hn)
    exact ⟨meth, c, h1, h2, h3, h4, h5, h6⟩
  · intro p e s m args below meth c s₁ B hml hP _
    have hh0 : s₁.heap = s.heap := by rw [B.state]; rfl
    obtain ⟨t, a1, o, b1, b2, b3⟩ := body p e s m args below meth c s₁ B hml hP s₁ hh0 (Stand.of_body B)
    exact ⟨t, o, a1, b1, b2, ⟨b3.1, b3.2⟩⟩
section GCS
variable {p : Program} {l : Launch} {e : Env} {R : Room} {s : State} {m : MethodId} {args : Array Value} {below : List Frame} {meth : Method} {c : Code} {H : Heap} {locs : List Loc} {cells slots : Nat} {Q : State → Prop}
variable {pc : Nat} {ls : Array Slot} {rest st0 : List Value} {a : Array Value}
theorem g_callSi {post : Int32 → Prop} (hr : va_Run p l e R s m args below meth c H locs cells slots 0 0 (F0 m pc ls st0) rest (vp_Si post a) (fun _ => False))
    (kk : ∀ r : Int32, post r → W p l e R s m args below meth c H locs cells slots Q (F0 m (pc + 3) ls (.int r :: rest))) : W p l e R s m args below meth c H locs cells slots Q (F0 m pc ls st0) := by
  intro T hT X
  obtain ⟨v, st₀, t, T', L, h0, X', hL, e1, e2, ⟨r, hv, hp, hh⟩, st⟩ := hr T hT X
  cases hv
  obtain ⟨t2, a1, b1⟩ := kk r hp T' (by rw [e1, hh, h0]) (Stand.forget X' (fun q h => (hL q h).elim))
  exact ⟨t2, st t2 a1, b1⟩
end GCS

section MROWS
variable {p : Program} {l : Launch} {e : Env} {R : Room} {s : State} {m : MethodId} {args : Array Value} {below : List Frame} {meth : Method} {c : Code} {H : Heap} {locs : List Loc} {cells slots : Nat} {Q : State → Prop}
variable {cc : ByteArray} {pc : Nat} {ls : Array Slot} {rest : List Value} {D : va_G} {C : g_C} {E : m_C} {v : g_k → Option va_E} {ad : g_k → Nat} {B : Nat} {H0 : Heap}
theorem g_lald (hx : p.tables.exec = Jvm.exec) (hb : c.code = cc) (hK : va_K D vwCl (m_T E) s) (hG : g_P D v ad B H) {cd : g_k} {n : Nat} {f : Nat → Int64} (he : v cd = some (.inl (E.2, n, .inr (.inl f)))) {j : Nat} (hj : j < n) (hn : n < 2 ^ 31) (hdg : decode cc pc = .ok (.laload, 1))
    (kk : W p l e R s m args below meth c H locs cells slots Q (F0 m (pc + 1) ls (.long (f j) :: rest))) : W p l e R s m args below meth c H locs cells slots Q (F0 m pc ls (.int (nI j) :: .ref (ad cd) :: rest)) := by
  refine va_lald hx hb hK (g_one (hG.1 cd _ he).1) 0 1 rfl rfl (vp_in_nI hj hn) hdg ?_
  rw [nI_clamp (Nat.lt_trans hj hn)]
  exact kk
theorem g_last (hx : p.tables.exec = Jvm.exec) (hb : c.code = cc) (hK : va_K D vwCl (m_T E) s) (hG : g_P D v ad B H) (hS : va_S (g_A B) H0 H locs) {cd : g_k} {n : Nat} {f : Nat → Int64} (he : v cd = some (.inl (E.2, n, .inr (.inl f)))) {j : Nat} {x : Int64} (hj : j < n) (hn : n < 2 ^ 31) (hdg : decode cc pc = .ok (.lastore, 1))
    (kk : ∀ (H1 : Heap) (locs1 : List Loc), g_P D (k_up v cd (some (.inl (E.2, n, .inr (.inl (vp_updL f j x)))))) ad B H1 → va_S (g_A B) H0 H1 locs1 → W p l e R s m args below meth c H1 locs1 cells slots Q (F0 m (pc + 1) ls rest)) : W p l e R s m args below meth c H locs cells slots Q (F0 m pc ls (.long x :: .int (nI j) :: .ref (ad cd) :: rest)) := by
  obtain ⟨L, h1, h2, h3⟩ := g_P_ws hG
  obtain ⟨q0, hq0⟩ := h3 cd _ he
  refine va_last hx hb hK h1 h2 hS q0 1 hq0 rfl (vp_in_nI hj hn) hdg (fun H1 locs1 p1 _ s1 => kk H1 locs1 (g_P_set hG he h3 hq0 ?_) s1)
  rw [nI_clamp (Nat.lt_trans hj hn)] at p1
  exact p1
theorem g_zald (hx : p.tables.exec = Jvm.exec) (hb : c.code = cc) (hK : va_K D vwCl (m_T E) s) (hG : g_P D v ad B H) {cd : g_k} {n : Nat} {f : Nat → Int32} (he : v cd = some (.inl (E.1, n, .inl f))) {j : Nat} (hj : j < n) (hn : n < 2 ^ 31) (hdg : decode cc pc = .ok (.baload, 1))
    (kk : W p l e R s m args below meth c H locs cells slots Q (F0 m (pc + 1) ls (.int (f j) :: rest))) : W p l e R s m args below meth c H locs cells slots Q (F0 m pc ls (.int (nI j) :: .ref (ad cd) :: rest)) := by
  refine va_zald hx hb hK (g_one (hG.1 cd _ he).1) 0 0 rfl rfl (vp_in_nI hj hn) hdg ?_
  rw [nI_clamp (Nat.lt_trans hj hn)]
  exact kk
theorem g_zast (hx : p.tables.exec = Jvm.exec) (hb : c.code = cc) (hK : va_K D vwCl (m_T E) s) (hG : g_P D v ad B H) (hS : va_S (g_A B) H0 H locs) {cd : g_k} {n : Nat} {f : Nat → Int32} (he : v cd = some (.inl (E.1, n, .inl f))) {j : Nat} {x : Int32} (hj : j < n) (hn : n < 2 ^ 31) (hdg : decode cc pc = .ok (.bastore, 1))
    (kk : ∀ (H1 : Heap) (locs1 : List Loc), g_P D (k_up v cd (some (.inl (E.1, n, .inl (upd f j (vp_nar .boolean x)))))) ad B H1 → va_S (g_A B) H0 H1 locs1 → W p l e R s m args below meth c H1 locs1 cells slots Q (F0 m (pc + 1) ls rest)) : W p l e R s m args below meth c H locs cells slots Q (F0 m pc ls (.int x :: .int (nI j) :: .ref (ad cd) :: rest)) := by
  obtain ⟨L, h1, h2, h3⟩ := g_P_ws hG
  obtain ⟨q0, hq0⟩ := h3 cd _ he
  refine va_zast hx hb hK h1 h2 hS q0 0 hq0 rfl (vp_in_nI hj hn) hdg (fun H1 locs1 p1 _ s1 => kk H1 locs1 (g_P_set hG he h3 hq0 ?_) s1)
  rw [nI_clamp (Nat.lt_trans hj hn)] at p1
  exact p1
end MROWS
theorem in_nI {x : Int32} {a b : Nat} (h : nI a ≤ x ∧ x ≤ nI b) (ha : a < 2 ^ 31) (hb : b < 2 ^ 31) : ∃ k, a ≤ k ∧ k ≤ b ∧ x = nI k := by
  obtain ⟨h1, h2⟩ := h
  rw [Int32.le_iff_toInt_le, nI_toInt (by omega)] at h1
  rw [Int32.le_iff_toInt_le, nI_toInt hb] at h2
  refine ⟨x.toInt.toNat, by omega, by omega, ?_⟩
  apply Int32.toInt_inj.mp
  rw [nI_toInt (by omega)]
  omega
/-- what a call of the class leaves of the rest: out holds f1 -/
def oK (E : m_C) (ex : g_k → Option va_E) (ad : g_k → Nat) (u : (g_k → Option va_E) × (g_k → Nat) × (Nat → Int64)) : Prop := (∀ c : g_k, 51 ≤ c.1 → u.1 c = ex c ∧ u.2.1 c = ad c) ∧ u.1 (50, 0, 0) = some (.inl (E.2, 1, .inr (.inl u.2.2))) ∧ u.2.1 (50, 0, 0) = ad (50, 0, 0)
theorem oK_0 {C : g_C} {E : m_C} {g : g_k → Nat → Int32} {ad ln : g_k → Nat} {ex : g_k → Option va_E} {f : Nat → Int64} (hex : ex (50, 0, 0) = some (.inl (E.2, 1, .inr (.inl f)))) : oK E ex ad (lay C g ad ln ex, ad, f) := ⟨fun c hc => ⟨by obtain ⟨a, i, j⟩ := c; exact lay_ex (show 50 ≤ a by have : 51 ≤ a := hc; omega), rfl⟩, (lay_ex (C := C) (g := g) (ad := ad) (ln := ln) (ex := ex) (a := 50) (i := 0) (j := 0) (by decide)).trans hex, rfl⟩
theorem oK_1 {C : g_C} {E : m_C} {g : g_k → Nat → Int32} {ad ad1 ln : g_k → Nat} {ex : g_k → Option va_E} {f : Nat → Int64} (had : ∀ c : g_k, 50 ≤ c.1 → ad1 c = ad c) : oK E ex ad (k_up (lay C g ad1 ln ex) (50, 0, 0) (some (.inl (E.2, 1, .inr (.inl f)))), ad1, f) := ⟨fun c hc => ⟨by
  obtain ⟨a, i, j⟩ := c
  have ha : 51 ≤ a := hc
  exact (k_up_ne _ _ (fun z => by have := congrArg (fun y : g_k => y.1) z; have : a = 50 := this; omega)).trans (lay_ex (show 50 ≤ a by omega)), had c (by omega)⟩, (show k_up (lay C g ad1 ln ex) (50, 0, 0) (some (.inl (E.2, 1, .inr (.inl f)))) (50, 0, 0) = some (.inl (E.2, 1, .inr (.inl f))) from k_up_self _ _ _), had _ (by decide)⟩
theorem updL_0 (f : Nat → Int64) (x : Int64) : vp_updL f 0 x 0 = x := by simp [vp_updL]

set_option maxHeartbeats 4000000 in
set_option maxRecDepth 100000 in
theorem p_see (l : Launch) (hst : l.stackTraces = false) {D : va_G} {C : g_C} {E : m_C} {g : g_k → Nat → Int32} {ad ln : g_k → Nat} {ex : g_k → Option va_E} {B : Nat} (hc : g (1, 0, 0) 4 = nI 0) {x y z : Int32} : Met l yL_see wsL_see ({ frames := 9, cells := 1, slots := 6, locals := 149 } : Room) (va_Pc [.ref (ad (0, 0, 0)), .int x, .int y, .int z, .ref (ad (50, 0, 0))] (g_S D C (lay C g ad ln ex) ad B)) (va_Qi (fun (r : Int32) (u : Unit) => r = nI 1) (fun _ t => g_P D (lay C g ad ln ex) ad B t.heap) (g_A B)) 1 6 (g_A B) := by
  refine g_ofWW (cc := cL_see) (maxL := 6) (ret := some .int) (hh := [(0, 19, 22, 25), (0, 19, 26, 13)]) (by decide +kernel) rfl ?_
  intro p e s m args below meth c s₁ B₀ hml hv
  obtain ⟨rfl, hG, hF⟩ := hv
  have hK := hF.1
  have hN := hF.2.1
  have hB := hF.2.2.2
  have hx := B₀.exec
  have hb := B₀.bytes
  have hr := B₀.returns
  have hts := atoms_spec (ws := wsL_see) B₀.pre
  have hown : s.vm.findClass RL = some m.cls := findClass_of_methodNamed B₀.named
  have hlocks := B₀.notSynchronized
  have hS : va_S (g_A B) s.heap s.heap [] := va_S.rf
  have hl := lv_entry [.ref (ad (0, 0, 0)), .int x, .int y, .int z, .ref (ad (50, 0, 0))] (n := 6) (Nat.le_of_ble_eq_true rfl)
  rw [lg_entry_eq]
  generalize (lg_sl [.ref (ad (0, 0, 0)), .int x, .int y, .int z, .ref (ad (50, 0, 0))] ++ List.replicate (6 - (lg_sl [.ref (ad (0, 0, 0)), .int x, .int y, .int z, .ref (ad (50, 0, 0))]).length) Slot.unset).toArray = ls at hl ⊢
  have hl : lv_has ls 6 [(0, .ref (ad (0, 0, 0))), (1, .int x), (2, .int y), (3, .int z), (4, .ref (ad (50, 0, 0)))] := hl
  refine lv_aload hx hb dL_see_0 (lv_at hl 4 rfl) ?_
  refine lv_iconst (v := nI 0) hx hb dL_see_2 (by decide) ?_
  refine lv_aload_n hx hb dL_see_3 rfl (lv_at hl 0 rfl) ?_
  refine lv_iload_n hx hb dL_see_4 rfl (lv_at hl 1 rfl) ?_
  refine lv_iload_n hx hb dL_see_5 rfl (lv_at hl 2 rfl) ?_
  refine lv_iload_n hx hb dL_see_6 rfl (lv_at hl 3 rfl) ?_
  have htab := vx_table (x := yL_see) B₀ (hts (.codeWith yL_see cL_see 6 (some .int) [(0, 19, 22, 25), (0, 19, 26, 13)]) List.mem_cons_self)
  refine vx_callx (vx_runV (As := [.int x, .int y, .int z]) (rest := [.int (nI 0), .ref (ad (50, 0, 0))]) ⟨hx, hb, hml, hown, hts⟩ (z_see l hst hc) (cwV 3 hts gL_see_X5_see rfl rfl rfl (by decide +kernel) ⟨Nat.le_of_ble_eq_true rfl, Nat.le_of_ble_eq_true rfl⟩) (g_preV hF hG hS (lay_main) rfl) rfl rfl hl.1 rfl (lv_room (Nat.le_of_ble_eq_true rfl)) dL_see_7 ⟨Nat.le_of_ble_eq_true rfl, Nat.le_of_ble_eq_true rfl⟩) hS (fun q h => h) (fun q _ h => h) (fun E9 ce q9 u t H locs ht9 _ _ hbx hS hce hcv hcl => ?_)
  obtain ⟨rfl, hG1⟩ := hbx
  have hG : g_P D (lay C g ad ln ex) ad B H := by rw [← ht9]; exact hG1
  refine vx_catch hown [] ({ startPc := 0, endPc := 19, handlerPc := 22, catchType := 25 } : ExceptionTableEntry) [({ startPc := 0, endPc := 19, handlerPc := 26, catchType := 13 } : ExceptionTableEntry)] (htab.trans rfl) (fun z hz => nomatch hz) rfl (by decide) (hts (.classLink RL 25 "java/lang/IndexOutOfBoundsException") (by decide +kernel)) (va_Nw.use rfl hF.2.2.1.2.2.1.2.1) hce hcv hcl ?_
  refine W.eq (g2 := F0 m 22 ls [.ref q9]) rfl ?_
  refine lv_astore (lv' := [(5, .ref q9), (0, .ref (ad (0, 0, 0))), (1, .int x), (2, .int y), (3, .int z), (4, .ref (ad (50, 0, 0)))]) hx hb dL_see_22 hl (by decide) rfl (fun ls hl => ?_)
  refine lv_iconst (v := nI 1) hx hb dL_see_24 (by decide) ?_
  exact W.iret (v := nI 1) hx hb hr (fun t9 ht9 hW9 => ⟨⟨_, (), rfl, rfl, by show g_P D _ _ B t9.heap; rw [ht9]; exact hG⟩, hS.F ht9⟩) hS.2.2 dL_see_25

set_option maxHeartbeats 4000000 in
set_option maxRecDepth 100000 in
theorem p_nextContact (l : Launch) (hst : l.stackTraces = false) {D : va_G} {C : g_C} {E : m_C} {g : g_k → Nat → Int32} {ad ln : g_k → Nat} {ex : g_k → Option va_E} {B : Nat} (hc : g (1, 0, 0) 4 = nI 0) {x y z : Int32} : Met l yL_nextContact wsL_nextContact ({ frames := 9, cells := 1, slots := 6, locals := 149 } : Room) (va_Pc [.ref (ad (0, 0, 0)), .int x, .int y, .int z, .ref (ad (50, 0, 0))] (g_S D C (lay C g ad ln ex) ad B)) (va_Qi (fun (r : Int32) (u : Unit) => r = nI 1) (fun _ t => g_P D (lay C g ad ln ex) ad B t.heap) (g_A B)) 1 6 (g_A B) := by
  refine g_ofWW (cc := cL_nextContact) (maxL := 6) (ret := some .int) (hh := [(0, 12, 15, 25), (0, 12, 19, 13)]) (by decide +kernel) rfl ?_
  intro p e s m args below meth c s₁ B₀ hml hv
  obtain ⟨rfl, hG, hF⟩ := hv
  have hK := hF.1
  have hN := hF.2.1
  have hB := hF.2.2.2
  have hx := B₀.exec
  have hb := B₀.bytes
  have hr := B₀.returns
  have hts := atoms_spec (ws := wsL_nextContact) B₀.pre
  have hown : s.vm.findClass RL = some m.cls := findClass_of_methodNamed B₀.named
  have hlocks := B₀.notSynchronized
  have hS : va_S (g_A B) s.heap s.heap [] := va_S.rf
  have hl := lv_entry [.ref (ad (0, 0, 0)), .int x, .int y, .int z, .ref (ad (50, 0, 0))] (n := 6) (Nat.le_of_ble_eq_true rfl)
  rw [lg_entry_eq]
  generalize (lg_sl [.ref (ad (0, 0, 0)), .int x, .int y, .int z, .ref (ad (50, 0, 0))] ++ List.replicate (6 - (lg_sl [.ref (ad (0, 0, 0)), .int x, .int y, .int z, .ref (ad (50, 0, 0))]).length) Slot.unset).toArray = ls at hl ⊢
  have hl : lv_has ls 6 [(0, .ref (ad (0, 0, 0))), (1, .int x), (2, .int y), (3, .int z), (4, .ref (ad (50, 0, 0)))] := hl
  refine lv_aload hx hb dL_nextContact_0 (lv_at hl 4 rfl) ?_
  refine lv_iconst (v := nI 0) hx hb dL_nextContact_2 (by decide) ?_
  refine lv_aload_n hx hb dL_nextContact_3 rfl (lv_at hl 0 rfl) ?_
  refine lv_iload_n hx hb dL_nextContact_4 rfl (lv_at hl 1 rfl) ?_
  refine lv_iload_n hx hb dL_nextContact_5 rfl (lv_at hl 2 rfl) ?_
  refine lv_iload_n hx hb dL_nextContact_6 rfl (lv_at hl 3 rfl) ?_
  have htab := vx_table (x := yL_nextContact) B₀ (hts (.codeWith yL_nextContact cL_nextContact 6 (some .int) [(0, 12, 15, 25), (0, 12, 19, 13)]) List.mem_cons_self)
  refine vx_callx (vx_runV (As := [.int x, .int y, .int z]) (rest := [.int (nI 0), .ref (ad (50, 0, 0))]) ⟨hx, hb, hml, hown, hts⟩ (z_nextContact l hst hc) (cwV 3 hts gL_nextContact_X5_nextContact rfl rfl rfl (by decide +kernel) ⟨Nat.le_of_ble_eq_true rfl, Nat.le_of_ble_eq_true rfl⟩) (g_preV hF hG hS (lay_main) rfl) rfl rfl hl.1 rfl (lv_room (Nat.le_of_ble_eq_true rfl)) dL_nextContact_7 ⟨Nat.le_of_ble_eq_true rfl, Nat.le_of_ble_eq_true rfl⟩) hS (fun q h => h) (fun q _ h => h) (fun E9 ce q9 u t H locs ht9 _ _ hbx hS hce hcv hcl => ?_)
  obtain ⟨rfl, hG1⟩ := hbx
  have hG : g_P D (lay C g ad ln ex) ad B H := by rw [← ht9]; exact hG1
  refine vx_catch hown [] ({ startPc := 0, endPc := 12, handlerPc := 15, catchType := 25 } : ExceptionTableEntry) [({ startPc := 0, endPc := 12, handlerPc := 19, catchType := 13 } : ExceptionTableEntry)] (htab.trans rfl) (fun z hz => nomatch hz) rfl (by decide) (hts (.classLink RL 25 "java/lang/IndexOutOfBoundsException") (by decide +kernel)) (va_Nw.use rfl hF.2.2.1.2.2.1.2.1) hce hcv hcl ?_
  refine W.eq (g2 := F0 m 15 ls [.ref q9]) rfl ?_
  refine lv_astore (lv' := [(5, .ref q9), (0, .ref (ad (0, 0, 0))), (1, .int x), (2, .int y), (3, .int z), (4, .ref (ad (50, 0, 0)))]) hx hb dL_nextContact_15 hl (by decide) rfl (fun ls hl => ?_)
  refine lv_iconst (v := nI 1) hx hb dL_nextContact_17 (by decide) ?_
  exact W.iret (v := nI 1) hx hb hr (fun t9 ht9 hW9 => ⟨⟨_, (), rfl, rfl, by show g_P D _ _ B t9.heap; rw [ht9]; exact hG⟩, hS.F ht9⟩) hS.2.2 dL_nextContact_18

set_option maxHeartbeats 4000000 in
set_option maxRecDepth 100000 in
theorem p_view (l : Launch) (hst : l.stackTraces = false) {D : va_G} {C : g_C} {E : m_C} {g : g_k → Nat → Int32} {ad ln : g_k → Nat} {ex : g_k → Option va_E} {B : Nat} (hc : g (1, 0, 0) 4 = nI 0) {x y z : Int32} : Met l yL_view wsL_view ({ frames := 9, cells := 1, slots := 6, locals := 149 } : Room) (va_Pc [.ref (ad (0, 0, 0)), .int x, .int y, .int z, .ref (ad (50, 0, 0))] (g_S D C (lay C g ad ln ex) ad B)) (va_Qi (fun (r : Int32) (u : Unit) => r = nI 1) (fun _ t => g_P D (lay C g ad ln ex) ad B t.heap) (g_A B)) 1 6 (g_A B) := by
  refine g_ofWW (cc := cL_view) (maxL := 6) (ret := some .int) (hh := [(0, 12, 15, 25), (0, 12, 19, 13)]) (by decide +kernel) rfl ?_
  intro p e s m args below meth c s₁ B₀ hml hv
  obtain ⟨rfl, hG, hF⟩ := hv
  have hK := hF.1
  have hN := hF.2.1
  have hB := hF.2.2.2
  have hx := B₀.exec
  have hb := B₀.bytes
  have hr := B₀.returns
  have hts := atoms_spec (ws := wsL_view) B₀.pre
  have hown : s.vm.findClass RL = some m.cls := findClass_of_methodNamed B₀.named
  have hlocks := B₀.notSynchronized
  have hS : va_S (g_A B) s.heap s.heap [] := va_S.rf
  have hl := lv_entry [.ref (ad (0, 0, 0)), .int x, .int y, .int z, .ref (ad (50, 0, 0))] (n := 6) (Nat.le_of_ble_eq_true rfl)
  rw [lg_entry_eq]
  generalize (lg_sl [.ref (ad (0, 0, 0)), .int x, .int y, .int z, .ref (ad (50, 0, 0))] ++ List.replicate (6 - (lg_sl [.ref (ad (0, 0, 0)), .int x, .int y, .int z, .ref (ad (50, 0, 0))]).length) Slot.unset).toArray = ls at hl ⊢
  have hl : lv_has ls 6 [(0, .ref (ad (0, 0, 0))), (1, .int x), (2, .int y), (3, .int z), (4, .ref (ad (50, 0, 0)))] := hl
  refine lv_aload hx hb dL_view_0 (lv_at hl 4 rfl) ?_
  refine lv_iconst (v := nI 0) hx hb dL_view_2 (by decide) ?_
  refine lv_aload_n hx hb dL_view_3 rfl (lv_at hl 0 rfl) ?_
  refine lv_iload_n hx hb dL_view_4 rfl (lv_at hl 1 rfl) ?_
  refine lv_iload_n hx hb dL_view_5 rfl (lv_at hl 2 rfl) ?_
  refine lv_iload_n hx hb dL_view_6 rfl (lv_at hl 3 rfl) ?_
  have htab := vx_table (x := yL_view) B₀ (hts (.codeWith yL_view cL_view 6 (some .int) [(0, 12, 15, 25), (0, 12, 19, 13)]) List.mem_cons_self)
  refine vx_callx (vx_runV (As := [.int x, .int y, .int z]) (rest := [.int (nI 0), .ref (ad (50, 0, 0))]) ⟨hx, hb, hml, hown, hts⟩ (z_view l hst hc) (cwV 3 hts gL_view_X5_view rfl rfl rfl (by decide +kernel) ⟨Nat.le_of_ble_eq_true rfl, Nat.le_of_ble_eq_true rfl⟩) (g_preV hF hG hS (lay_main) rfl) rfl rfl hl.1 rfl (lv_room (Nat.le_of_ble_eq_true rfl)) dL_view_7 ⟨Nat.le_of_ble_eq_true rfl, Nat.le_of_ble_eq_true rfl⟩) hS (fun q h => h) (fun q _ h => h) (fun E9 ce q9 u t H locs ht9 _ _ hbx hS hce hcv hcl => ?_)
  obtain ⟨rfl, hG1⟩ := hbx
  have hG : g_P D (lay C g ad ln ex) ad B H := by rw [← ht9]; exact hG1
  refine vx_catch hown [] ({ startPc := 0, endPc := 12, handlerPc := 15, catchType := 25 } : ExceptionTableEntry) [({ startPc := 0, endPc := 12, handlerPc := 19, catchType := 13 } : ExceptionTableEntry)] (htab.trans rfl) (fun z hz => nomatch hz) rfl (by decide) (hts (.classLink RL 25 "java/lang/IndexOutOfBoundsException") (by decide +kernel)) (va_Nw.use rfl hF.2.2.1.2.2.1.2.1) hce hcv hcl ?_
  refine W.eq (g2 := F0 m 15 ls [.ref q9]) rfl ?_
  refine lv_astore (lv' := [(5, .ref q9), (0, .ref (ad (0, 0, 0))), (1, .int x), (2, .int y), (3, .int z), (4, .ref (ad (50, 0, 0)))]) hx hb dL_view_15 hl (by decide) rfl (fun ls hl => ?_)
  refine lv_iconst (v := nI 1) hx hb dL_view_17 (by decide) ?_
  exact W.iret (v := nI 1) hx hb hr (fun t9 ht9 hW9 => ⟨⟨_, (), rfl, rfl, by show g_P D _ _ B t9.heap; rw [ht9]; exact hG⟩, hS.F ht9⟩) hS.2.2 dL_view_18

set_option maxHeartbeats 4000000 in
set_option maxRecDepth 100000 in
theorem p_arrival (l : Launch) (hst : l.stackTraces = false) {D : va_G} {C : g_C} {E : m_C} {g : g_k → Nat → Int32} {ad ln : g_k → Nat} {ex : g_k → Option va_E} {B : Nat} (hc : g (1, 0, 0) 4 = nI 0) {x y z : Int32} : Met l yL_arrival wsL_arrival ({ frames := 9, cells := 1, slots := 6, locals := 149 } : Room) (va_Pc [.ref (ad (0, 0, 0)), .int x, .int y, .int z, .ref (ad (50, 0, 0))] (g_S D C (lay C g ad ln ex) ad B)) (va_Qi (fun (r : Int32) (u : Unit) => r = nI 1) (fun _ t => g_P D (lay C g ad ln ex) ad B t.heap) (g_A B)) 1 6 (g_A B) := by
  refine g_ofWW (cc := cL_arrival) (maxL := 6) (ret := some .int) (hh := [(0, 12, 15, 25), (0, 12, 19, 13)]) (by decide +kernel) rfl ?_
  intro p e s m args below meth c s₁ B₀ hml hv
  obtain ⟨rfl, hG, hF⟩ := hv
  have hK := hF.1
  have hN := hF.2.1
  have hB := hF.2.2.2
  have hx := B₀.exec
  have hb := B₀.bytes
  have hr := B₀.returns
  have hts := atoms_spec (ws := wsL_arrival) B₀.pre
  have hown : s.vm.findClass RL = some m.cls := findClass_of_methodNamed B₀.named
  have hlocks := B₀.notSynchronized
  have hS : va_S (g_A B) s.heap s.heap [] := va_S.rf
  have hl := lv_entry [.ref (ad (0, 0, 0)), .int x, .int y, .int z, .ref (ad (50, 0, 0))] (n := 6) (Nat.le_of_ble_eq_true rfl)
  rw [lg_entry_eq]
  generalize (lg_sl [.ref (ad (0, 0, 0)), .int x, .int y, .int z, .ref (ad (50, 0, 0))] ++ List.replicate (6 - (lg_sl [.ref (ad (0, 0, 0)), .int x, .int y, .int z, .ref (ad (50, 0, 0))]).length) Slot.unset).toArray = ls at hl ⊢
  have hl : lv_has ls 6 [(0, .ref (ad (0, 0, 0))), (1, .int x), (2, .int y), (3, .int z), (4, .ref (ad (50, 0, 0)))] := hl
  refine lv_aload hx hb dL_arrival_0 (lv_at hl 4 rfl) ?_
  refine lv_iconst (v := nI 0) hx hb dL_arrival_2 (by decide) ?_
  refine lv_aload_n hx hb dL_arrival_3 rfl (lv_at hl 0 rfl) ?_
  refine lv_iload_n hx hb dL_arrival_4 rfl (lv_at hl 1 rfl) ?_
  refine lv_iload_n hx hb dL_arrival_5 rfl (lv_at hl 2 rfl) ?_
  refine lv_iload_n hx hb dL_arrival_6 rfl (lv_at hl 3 rfl) ?_
  have htab := vx_table (x := yL_arrival) B₀ (hts (.codeWith yL_arrival cL_arrival 6 (some .int) [(0, 12, 15, 25), (0, 12, 19, 13)]) List.mem_cons_self)
  refine vx_callx (vx_runV (As := [.int x, .int y, .int z]) (rest := [.int (nI 0), .ref (ad (50, 0, 0))]) ⟨hx, hb, hml, hown, hts⟩ (z_arrival l hst hc) (cwV 3 hts gL_arrival_X5_arrival rfl rfl rfl (by decide +kernel) ⟨Nat.le_of_ble_eq_true rfl, Nat.le_of_ble_eq_true rfl⟩) (g_preV hF hG hS (lay_main) rfl) rfl rfl hl.1 rfl (lv_room (Nat.le_of_ble_eq_true rfl)) dL_arrival_7 ⟨Nat.le_of_ble_eq_true rfl, Nat.le_of_ble_eq_true rfl⟩) hS (fun q h => h) (fun q _ h => h) (fun E9 ce q9 u t H locs ht9 _ _ hbx hS hce hcv hcl => ?_)
  obtain ⟨rfl, hG1⟩ := hbx
  have hG : g_P D (lay C g ad ln ex) ad B H := by rw [← ht9]; exact hG1
  refine vx_catch hown [] ({ startPc := 0, endPc := 12, handlerPc := 15, catchType := 25 } : ExceptionTableEntry) [({ startPc := 0, endPc := 12, handlerPc := 19, catchType := 13 } : ExceptionTableEntry)] (htab.trans rfl) (fun z hz => nomatch hz) rfl (by decide) (hts (.classLink RL 25 "java/lang/IndexOutOfBoundsException") (by decide +kernel)) (va_Nw.use rfl hF.2.2.1.2.2.1.2.1) hce hcv hcl ?_
  refine W.eq (g2 := F0 m 15 ls [.ref q9]) rfl ?_
  refine lv_astore (lv' := [(5, .ref q9), (0, .ref (ad (0, 0, 0))), (1, .int x), (2, .int y), (3, .int z), (4, .ref (ad (50, 0, 0)))]) hx hb dL_arrival_15 hl (by decide) rfl (fun ls hl => ?_)
  refine lv_iconst (v := nI 1) hx hb dL_arrival_17 (by decide) ?_
  exact W.iret (v := nI 1) hx hb hr (fun t9 ht9 hW9 => ⟨⟨_, (), rfl, rfl, by show g_P D _ _ B t9.heap; rw [ht9]; exact hG⟩, hS.F ht9⟩) hS.2.2 dL_arrival_18

set_option maxHeartbeats 4000000 in
set_option maxRecDepth 100000 in
theorem p_arrivalByFlooding (l : Launch) (hst : l.stackTraces = false) {D : va_G} {C : g_C} {E : m_C} {g : g_k → Nat → Int32} {ad ln : g_k → Nat} {ex : g_k → Option va_E} {B : Nat} (hc : g (1, 0, 0) 4 = nI 0) {x y z : Int32} : Met l yL_arrivalByFlooding wsL_arrivalByFlooding ({ frames := 9, cells := 1, slots := 6, locals := 149 } : Room) (va_Pc [.ref (ad (0, 0, 0)), .int x, .int y, .int z, .ref (ad (50, 0, 0))] (g_S D C (lay C g ad ln ex) ad B)) (va_Qi (fun (r : Int32) (u : Unit) => r = nI 1) (fun _ t => g_P D (lay C g ad ln ex) ad B t.heap) (g_A B)) 1 6 (g_A B) := by
  refine g_ofWW (cc := cL_arrivalByFlooding) (maxL := 6) (ret := some .int) (hh := [(0, 12, 15, 25), (0, 12, 19, 13)]) (by decide +kernel) rfl ?_
  intro p e s m args below meth c s₁ B₀ hml hv
  obtain ⟨rfl, hG, hF⟩ := hv
  have hK := hF.1
  have hN := hF.2.1
  have hB := hF.2.2.2
  have hx := B₀.exec
  have hb := B₀.bytes
  have hr := B₀.returns
  have hts := atoms_spec (ws := wsL_arrivalByFlooding) B₀.pre
  have hown : s.vm.findClass RL = some m.cls := findClass_of_methodNamed B₀.named
  have hlocks := B₀.notSynchronized
  have hS : va_S (g_A B) s.heap s.heap [] := va_S.rf
  have hl := lv_entry [.ref (ad (0, 0, 0)), .int x, .int y, .int z, .ref (ad (50, 0, 0))] (n := 6) (Nat.le_of_ble_eq_true rfl)
  rw [lg_entry_eq]
  generalize (lg_sl [.ref (ad (0, 0, 0)), .int x, .int y, .int z, .ref (ad (50, 0, 0))] ++ List.replicate (6 - (lg_sl [.ref (ad (0, 0, 0)), .int x, .int y, .int z, .ref (ad (50, 0, 0))]).length) Slot.unset).toArray = ls at hl ⊢
  have hl : lv_has ls 6 [(0, .ref (ad (0, 0, 0))), (1, .int x), (2, .int y), (3, .int z), (4, .ref (ad (50, 0, 0)))] := hl
  refine lv_aload hx hb dL_arrivalByFlooding_0 (lv_at hl 4 rfl) ?_
  refine lv_iconst (v := nI 0) hx hb dL_arrivalByFlooding_2 (by decide) ?_
  refine lv_aload_n hx hb dL_arrivalByFlooding_3 rfl (lv_at hl 0 rfl) ?_
  refine lv_iload_n hx hb dL_arrivalByFlooding_4 rfl (lv_at hl 1 rfl) ?_
  refine lv_iload_n hx hb dL_arrivalByFlooding_5 rfl (lv_at hl 2 rfl) ?_
  refine lv_iload_n hx hb dL_arrivalByFlooding_6 rfl (lv_at hl 3 rfl) ?_
  have htab := vx_table (x := yL_arrivalByFlooding) B₀ (hts (.codeWith yL_arrivalByFlooding cL_arrivalByFlooding 6 (some .int) [(0, 12, 15, 25), (0, 12, 19, 13)]) List.mem_cons_self)
  refine vx_callx (vx_runV (As := [.int x, .int y, .int z]) (rest := [.int (nI 0), .ref (ad (50, 0, 0))]) ⟨hx, hb, hml, hown, hts⟩ (z_arrivalByFlooding l hst hc) (cwV 3 hts gL_arrivalByFlooding_X5_arrivalByFlooding rfl rfl rfl (by decide +kernel) ⟨Nat.le_of_ble_eq_true rfl, Nat.le_of_ble_eq_true rfl⟩) (g_preV hF hG hS (lay_main) rfl) rfl rfl hl.1 rfl (lv_room (Nat.le_of_ble_eq_true rfl)) dL_arrivalByFlooding_7 ⟨Nat.le_of_ble_eq_true rfl, Nat.le_of_ble_eq_true rfl⟩) hS (fun q h => h) (fun q _ h => h) (fun E9 ce q9 u t H locs ht9 _ _ hbx hS hce hcv hcl => ?_)
  obtain ⟨rfl, hG1⟩ := hbx
  have hG : g_P D (lay C g ad ln ex) ad B H := by rw [← ht9]; exact hG1
  refine vx_catch hown [] ({ startPc := 0, endPc := 12, handlerPc := 15, catchType := 25 } : ExceptionTableEntry) [({ startPc := 0, endPc := 12, handlerPc := 19, catchType := 13 } : ExceptionTableEntry)] (htab.trans rfl) (fun z hz => nomatch hz) rfl (by decide) (hts (.classLink RL 25 "java/lang/IndexOutOfBoundsException") (by decide +kernel)) (va_Nw.use rfl hF.2.2.1.2.2.1.2.1) hce hcv hcl ?_
  refine W.eq (g2 := F0 m 15 ls [.ref q9]) rfl ?_
  refine lv_astore (lv' := [(5, .ref q9), (0, .ref (ad (0, 0, 0))), (1, .int x), (2, .int y), (3, .int z), (4, .ref (ad (50, 0, 0)))]) hx hb dL_arrivalByFlooding_15 hl (by decide) rfl (fun ls hl => ?_)
  refine lv_iconst (v := nI 1) hx hb dL_arrivalByFlooding_17 (by decide) ?_
  exact W.iret (v := nI 1) hx hb hr (fun t9 ht9 hW9 => ⟨⟨_, (), rfl, rfl, by show g_P D _ _ B t9.heap; rw [ht9]; exact hG⟩, hS.F ht9⟩) hS.2.2 dL_arrivalByFlooding_18

set_option maxHeartbeats 4000000 in
set_option maxRecDepth 100000 in
theorem p_spread (l : Launch) (hst : l.stackTraces = false) {D : va_G} {C : g_C} {E : m_C} {g : g_k → Nat → Int32} {ad ln : g_k → Nat} {ex : g_k → Option va_E} {B : Nat} (hc : g (1, 0, 0) 4 = nI 0) {x y z : Int32} : Met l yL_spread wsL_spread ({ frames := 8, cells := 1, slots := 6, locals := 126 } : Room) (va_Pc [.ref (ad (0, 0, 0)), .int x, .int y, .int z, .ref (ad (50, 0, 0))] (g_S D C (lay C g ad ln ex) ad B)) (va_Qi (fun (r : Int32) (u : Unit) => r = nI 1) (fun _ t => g_P D (lay C g ad ln ex) ad B t.heap) (g_A B)) 1 6 (g_A B) := by
  refine g_ofWW (cc := cL_spread) (maxL := 6) (ret := some .int) (hh := [(0, 12, 15, 25), (0, 12, 19, 13)]) (by decide +kernel) rfl ?_
  intro p e s m args below meth c s₁ B₀ hml hv
  obtain ⟨rfl, hG, hF⟩ := hv
  have hK := hF.1
  have hN := hF.2.1
  have hB := hF.2.2.2
  have hx := B₀.exec
  have hb := B₀.bytes
  have hr := B₀.returns
  have hts := atoms_spec (ws := wsL_spread) B₀.pre
  have hown : s.vm.findClass RL = some m.cls := findClass_of_methodNamed B₀.named
  have hlocks := B₀.notSynchronized
  have hS : va_S (g_A B) s.heap s.heap [] := va_S.rf
  have hl := lv_entry [.ref (ad (0, 0, 0)), .int x, .int y, .int z, .ref (ad (50, 0, 0))] (n := 6) (Nat.le_of_ble_eq_true rfl)
  rw [lg_entry_eq]
  generalize (lg_sl [.ref (ad (0, 0, 0)), .int x, .int y, .int z, .ref (ad (50, 0, 0))] ++ List.replicate (6 - (lg_sl [.ref (ad (0, 0, 0)), .int x, .int y, .int z, .ref (ad (50, 0, 0))]).length) Slot.unset).toArray = ls at hl ⊢
  have hl : lv_has ls 6 [(0, .ref (ad (0, 0, 0))), (1, .int x), (2, .int y), (3, .int z), (4, .ref (ad (50, 0, 0)))] := hl
  refine lv_aload hx hb dL_spread_0 (lv_at hl 4 rfl) ?_
  refine lv_iconst (v := nI 0) hx hb dL_spread_2 (by decide) ?_
  refine lv_aload_n hx hb dL_spread_3 rfl (lv_at hl 0 rfl) ?_
  refine lv_iload_n hx hb dL_spread_4 rfl (lv_at hl 1 rfl) ?_
  refine lv_iload_n hx hb dL_spread_5 rfl (lv_at hl 2 rfl) ?_
  refine lv_iload_n hx hb dL_spread_6 rfl (lv_at hl 3 rfl) ?_
  have htab := vx_table (x := yL_spread) B₀ (hts (.codeWith yL_spread cL_spread 6 (some .int) [(0, 12, 15, 25), (0, 12, 19, 13)]) List.mem_cons_self)
  refine vx_callx (vx_runV (As := [.int x, .int y, .int z]) (rest := [.int (nI 0), .ref (ad (50, 0, 0))]) ⟨hx, hb, hml, hown, hts⟩ (z_spread l hst hc) (cwV 3 hts gL_spread_X5_spread rfl rfl rfl (by decide +kernel) ⟨Nat.le_of_ble_eq_true rfl, Nat.le_of_ble_eq_true rfl⟩) (g_preV hF hG hS (lay_main) rfl) rfl rfl hl.1 rfl (lv_room (Nat.le_of_ble_eq_true rfl)) dL_spread_7 ⟨Nat.le_of_ble_eq_true rfl, Nat.le_of_ble_eq_true rfl⟩) hS (fun q h => h) (fun q _ h => h) (fun E9 ce q9 u t H locs ht9 _ _ hbx hS hce hcv hcl => ?_)
  obtain ⟨rfl, hG1⟩ := hbx
  have hG : g_P D (lay C g ad ln ex) ad B H := by rw [← ht9]; exact hG1
  refine vx_catch hown [] ({ startPc := 0, endPc := 12, handlerPc := 15, catchType := 25 } : ExceptionTableEntry) [({ startPc := 0, endPc := 12, handlerPc := 19, catchType := 13 } : ExceptionTableEntry)] (htab.trans rfl) (fun z hz => nomatch hz) rfl (by decide) (hts (.classLink RL 25 "java/lang/IndexOutOfBoundsException") (by decide +kernel)) (va_Nw.use rfl hF.2.2.1.2.2.1.2.1) hce hcv hcl ?_
  refine W.eq (g2 := F0 m 15 ls [.ref q9]) rfl ?_
  refine lv_astore (lv' := [(5, .ref q9), (0, .ref (ad (0, 0, 0))), (1, .int x), (2, .int y), (3, .int z), (4, .ref (ad (50, 0, 0)))]) hx hb dL_spread_15 hl (by decide) rfl (fun ls hl => ?_)
  refine lv_iconst (v := nI 1) hx hb dL_spread_17 (by decide) ?_
  exact W.iret (v := nI 1) hx hb hr (fun t9 ht9 hW9 => ⟨⟨_, (), rfl, rfl, by show g_P D _ _ B t9.heap; rw [ht9]; exact hG⟩, hS.F ht9⟩) hS.2.2 dL_spread_18

set_option maxHeartbeats 4000000 in
set_option maxRecDepth 100000 in
theorem p_setCapacity (l : Launch) (hst : l.stackTraces = false) {D : va_G} {C : g_C} {E : m_C} {g : g_k → Nat → Int32} {ad ln : g_k → Nat} {ex : g_k → Option va_E} {B : Nat} (hc : g (1, 0, 0) 4 = nI 0) {x y : Int32} : Met l yL_setCapacity wsL_setCapacity ({ frames := 8, cells := 1, slots := 6, locals := 126 } : Room) (va_Pc [.ref (ad (0, 0, 0)), .int x, .int y, .ref (ad (50, 0, 0))] (g_S D C (lay C g ad ln ex) ad B)) (va_Qi (fun (r : Int32) (u : Unit) => r = nI 1) (fun _ t => g_P D (lay C g ad ln ex) ad B t.heap) (g_A B)) 1 6 (g_A B) := by
  refine g_ofWW (cc := cL_setCapacity) (maxL := 5) (ret := some .int) (hh := [(0, 10, 13, 25), (0, 10, 17, 13)]) (by decide +kernel) rfl ?_
  intro p e s m args below meth c s₁ B₀ hml hv
  obtain ⟨rfl, hG, hF⟩ := hv
  have hK := hF.1
  have hN := hF.2.1
  have hB := hF.2.2.2
  have hx := B₀.exec
  have hb := B₀.bytes
  have hr := B₀.returns
  have hts := atoms_spec (ws := wsL_setCapacity) B₀.pre
  have hown : s.vm.findClass RL = some m.cls := findClass_of_methodNamed B₀.named
  have hlocks := B₀.notSynchronized
  have hS : va_S (g_A B) s.heap s.heap [] := va_S.rf
  have hl := lv_entry [.ref (ad (0, 0, 0)), .int x, .int y, .ref (ad (50, 0, 0))] (n := 5) (Nat.le_of_ble_eq_true rfl)
  rw [lg_entry_eq]
  generalize (lg_sl [.ref (ad (0, 0, 0)), .int x, .int y, .ref (ad (50, 0, 0))] ++ List.replicate (5 - (lg_sl [.ref (ad (0, 0, 0)), .int x, .int y, .ref (ad (50, 0, 0))]).length) Slot.unset).toArray = ls at hl ⊢
  have hl : lv_has ls 5 [(0, .ref (ad (0, 0, 0))), (1, .int x), (2, .int y), (3, .ref (ad (50, 0, 0)))] := hl
  refine lv_aload_n hx hb dL_setCapacity_0 rfl (lv_at hl 3 rfl) ?_
  refine lv_iconst (v := nI 0) hx hb dL_setCapacity_1 (by decide) ?_
  refine lv_aload_n hx hb dL_setCapacity_2 rfl (lv_at hl 0 rfl) ?_
  refine lv_iload_n hx hb dL_setCapacity_3 rfl (lv_at hl 1 rfl) ?_
  refine lv_iload_n hx hb dL_setCapacity_4 rfl (lv_at hl 2 rfl) ?_
  have htab := vx_table (x := yL_setCapacity) B₀ (hts (.codeWith yL_setCapacity cL_setCapacity 5 (some .int) [(0, 10, 13, 25), (0, 10, 17, 13)]) List.mem_cons_self)
  refine vx_callx (vx_runV (As := [.int x, .int y]) (rest := [.int (nI 0), .ref (ad (50, 0, 0))]) ⟨hx, hb, hml, hown, hts⟩ (z_setCapacity l hst hc) (cwV 2 hts gL_setCapacity_X5_setCapacity rfl rfl rfl (by decide +kernel) ⟨Nat.le_of_ble_eq_true rfl, Nat.le_of_ble_eq_true rfl⟩) (g_preV hF hG hS (lay_main) rfl) rfl rfl hl.1 rfl (lv_room (Nat.le_of_ble_eq_true rfl)) dL_setCapacity_5 ⟨Nat.le_of_ble_eq_true rfl, Nat.le_of_ble_eq_true rfl⟩) hS (fun q h => h) (fun q _ h => h) (fun E9 ce q9 u t H locs ht9 _ _ hbx hS hce hcv hcl => ?_)
  obtain ⟨rfl, hG1⟩ := hbx
  have hG : g_P D (lay C g ad ln ex) ad B H := by rw [← ht9]; exact hG1
  refine vx_catch hown [] ({ startPc := 0, endPc := 10, handlerPc := 13, catchType := 25 } : ExceptionTableEntry) [({ startPc := 0, endPc := 10, handlerPc := 17, catchType := 13 } : ExceptionTableEntry)] (htab.trans rfl) (fun z hz => nomatch hz) rfl (by decide) (hts (.classLink RL 25 "java/lang/IndexOutOfBoundsException") (by decide +kernel)) (va_Nw.use rfl hF.2.2.1.2.2.1.2.1) hce hcv hcl ?_
  refine W.eq (g2 := F0 m 13 ls [.ref q9]) rfl ?_
  refine lv_astore (lv' := [(4, .ref q9), (0, .ref (ad (0, 0, 0))), (1, .int x), (2, .int y), (3, .ref (ad (50, 0, 0)))]) hx hb dL_setCapacity_13 hl (by decide) rfl (fun ls hl => ?_)
  refine lv_iconst (v := nI 1) hx hb dL_setCapacity_15 (by decide) ?_
  exact W.iret (v := nI 1) hx hb hr (fun t9 ht9 hW9 => ⟨⟨_, (), rfl, rfl, by show g_P D _ _ B t9.heap; rw [ht9]; exact hG⟩, hS.F ht9⟩) hS.2.2 dL_setCapacity_16

set_option maxHeartbeats 4000000 in
set_option maxRecDepth 100000 in
theorem p_placeAt (l : Launch) (hst : l.stackTraces = false) {D : va_G} {C : g_C} {E : m_C} {g : g_k → Nat → Int32} {ad ln : g_k → Nat} {ex : g_k → Option va_E} {B : Nat} (hc : g (1, 0, 0) 4 = nI 0) {x y : Int32} : Met l yL_placeAt wsL_placeAt ({ frames := 8, cells := 1, slots := 6, locals := 125 } : Room) (va_Pc [.ref (ad (0, 0, 0)), .int x, .int y, .ref (ad (50, 0, 0))] (g_S D C (lay C g ad ln ex) ad B)) (va_Qi (fun (r : Int32) (u : Unit) => r = nI 1) (fun _ t => g_P D (lay C g ad ln ex) ad B t.heap) (g_A B)) 1 6 (g_A B) := by
  refine g_ofWW (cc := cL_placeAt) (maxL := 5) (ret := some .int) (hh := [(0, 10, 13, 25), (0, 10, 17, 13)]) (by decide +kernel) rfl ?_
  intro p e s m args below meth c s₁ B₀ hml hv
  obtain ⟨rfl, hG, hF⟩ := hv
  have hK := hF.1
  have hN := hF.2.1
  have hB := hF.2.2.2
  have hx := B₀.exec
  have hb := B₀.bytes
  have hr := B₀.returns
  have hts := atoms_spec (ws := wsL_placeAt) B₀.pre
  have hown : s.vm.findClass RL = some m.cls := findClass_of_methodNamed B₀.named
  have hlocks := B₀.notSynchronized
  have hS : va_S (g_A B) s.heap s.heap [] := va_S.rf
  have hl := lv_entry [.ref (ad (0, 0, 0)), .int x, .int y, .ref (ad (50, 0, 0))] (n := 5) (Nat.le_of_ble_eq_true rfl)
  rw [lg_entry_eq]
  generalize (lg_sl [.ref (ad (0, 0, 0)), .int x, .int y, .ref (ad (50, 0, 0))] ++ List.replicate (5 - (lg_sl [.ref (ad (0, 0, 0)), .int x, .int y, .ref (ad (50, 0, 0))]).length) Slot.unset).toArray = ls at hl ⊢
  have hl : lv_has ls 5 [(0, .ref (ad (0, 0, 0))), (1, .int x), (2, .int y), (3, .ref (ad (50, 0, 0)))] := hl
  refine lv_aload_n hx hb dL_placeAt_0 rfl (lv_at hl 3 rfl) ?_
  refine lv_iconst (v := nI 0) hx hb dL_placeAt_1 (by decide) ?_
  refine lv_aload_n hx hb dL_placeAt_2 rfl (lv_at hl 0 rfl) ?_
  refine lv_iload_n hx hb dL_placeAt_3 rfl (lv_at hl 1 rfl) ?_
  refine lv_iload_n hx hb dL_placeAt_4 rfl (lv_at hl 2 rfl) ?_
  have htab := vx_table (x := yL_placeAt) B₀ (hts (.codeWith yL_placeAt cL_placeAt 5 (some .int) [(0, 10, 13, 25), (0, 10, 17, 13)]) List.mem_cons_self)
  refine vx_callx (vx_runV (As := [.int x, .int y]) (rest := [.int (nI 0), .ref (ad (50, 0, 0))]) ⟨hx, hb, hml, hown, hts⟩ (z_placeAt l hst hc) (cwV 2 hts gL_placeAt_X5_placeAt rfl rfl rfl (by decide +kernel) ⟨Nat.le_of_ble_eq_true rfl, Nat.le_of_ble_eq_true rfl⟩) (g_preV hF hG hS (lay_main) rfl) rfl rfl hl.1 rfl (lv_room (Nat.le_of_ble_eq_true rfl)) dL_placeAt_5 ⟨Nat.le_of_ble_eq_true rfl, Nat.le_of_ble_eq_true rfl⟩) hS (fun q h => h) (fun q _ h => h) (fun E9 ce q9 u t H locs ht9 _ _ hbx hS hce hcv hcl => ?_)
  obtain ⟨rfl, hG1⟩ := hbx
  have hG : g_P D (lay C g ad ln ex) ad B H := by rw [← ht9]; exact hG1
  refine vx_catch hown [] ({ startPc := 0, endPc := 10, handlerPc := 13, catchType := 25 } : ExceptionTableEntry) [({ startPc := 0, endPc := 10, handlerPc := 17, catchType := 13 } : ExceptionTableEntry)] (htab.trans rfl) (fun z hz => nomatch hz) rfl (by decide) (hts (.classLink RL 25 "java/lang/IndexOutOfBoundsException") (by decide +kernel)) (va_Nw.use rfl hF.2.2.1.2.2.1.2.1) hce hcv hcl ?_
  refine W.eq (g2 := F0 m 13 ls [.ref q9]) rfl ?_
  refine lv_astore (lv' := [(4, .ref q9), (0, .ref (ad (0, 0, 0))), (1, .int x), (2, .int y), (3, .ref (ad (50, 0, 0)))]) hx hb dL_placeAt_13 hl (by decide) rfl (fun ls hl => ?_)
  refine lv_iconst (v := nI 1) hx hb dL_placeAt_15 (by decide) ?_
  exact W.iret (v := nI 1) hx hb hr (fun t9 ht9 hW9 => ⟨⟨_, (), rfl, rfl, by show g_P D _ _ B t9.heap; rw [ht9]; exact hG⟩, hS.F ht9⟩) hS.2.2 dL_placeAt_16

set_option maxHeartbeats 4000000 in
set_option maxRecDepth 100000 in
theorem p_send (l : Launch) (hst : l.stackTraces = false) {D : va_G} {C : g_C} {E : m_C} {g : g_k → Nat → Int32} {ad ln : g_k → Nat} {ex : g_k → Option va_E} {B : Nat} (hc : g (1, 0, 0) 4 = nI 0) {x y : Int32} : Met l yL_send wsL_send ({ frames := 9, cells := 1, slots := 6, locals := 149 } : Room) (va_Pc [.ref (ad (0, 0, 0)), .int x, .int y, .ref (ad (50, 0, 0))] (g_S D C (lay C g ad ln ex) ad B)) (va_Qi (fun (r : Int32) (u : Unit) => r = nI 1) (fun _ t => g_P D (lay C g ad ln ex) ad B t.heap) (g_A B)) 1 6 (g_A B) := by
  refine g_ofWW (cc := cL_send) (maxL := 5) (ret := some .int) (hh := [(0, 10, 13, 25), (0, 10, 17, 13), (0, 10, 21, 15)]) (by decide +kernel) rfl ?_
  intro p e s m args below meth c s₁ B₀ hml hv
  obtain ⟨rfl, hG, hF⟩ := hv
  have hK := hF.1
  have hN := hF.2.1
  have hB := hF.2.2.2
  have hx := B₀.exec
  have hb := B₀.bytes
  have hr := B₀.returns
  have hts := atoms_spec (ws := wsL_send) B₀.pre
  have hown : s.vm.findClass RL = some m.cls := findClass_of_methodNamed B₀.named
  have hlocks := B₀.notSynchronized
  have hS : va_S (g_A B) s.heap s.heap [] := va_S.rf
  have hl := lv_entry [.ref (ad (0, 0, 0)), .int x, .int y, .ref (ad (50, 0, 0))] (n := 5) (Nat.le_of_ble_eq_true rfl)
  rw [lg_entry_eq]
  generalize (lg_sl [.ref (ad (0, 0, 0)), .int x, .int y, .ref (ad (50, 0, 0))] ++ List.replicate (5 - (lg_sl [.ref (ad (0, 0, 0)), .int x, .int y, .ref (ad (50, 0, 0))]).length) Slot.unset).toArray = ls at hl ⊢
  have hl : lv_has ls 5 [(0, .ref (ad (0, 0, 0))), (1, .int x), (2, .int y), (3, .ref (ad (50, 0, 0)))] := hl
  refine lv_aload_n hx hb dL_send_0 rfl (lv_at hl 3 rfl) ?_
  refine lv_iconst (v := nI 0) hx hb dL_send_1 (by decide) ?_
  refine lv_aload_n hx hb dL_send_2 rfl (lv_at hl 0 rfl) ?_
  refine lv_iload_n hx hb dL_send_3 rfl (lv_at hl 1 rfl) ?_
  refine lv_iload_n hx hb dL_send_4 rfl (lv_at hl 2 rfl) ?_
  have htab := vx_table (x := yL_send) B₀ (hts (.codeWith yL_send cL_send 5 (some .int) [(0, 10, 13, 25), (0, 10, 17, 13), (0, 10, 21, 15)]) List.mem_cons_self)
  refine vx_callx (vx_runV (As := [.int x, .int y]) (rest := [.int (nI 0), .ref (ad (50, 0, 0))]) ⟨hx, hb, hml, hown, hts⟩ (z_send l hst hc) (cwV 2 hts gL_send_X5_send rfl rfl rfl (by decide +kernel) ⟨Nat.le_of_ble_eq_true rfl, Nat.le_of_ble_eq_true rfl⟩) (g_preV hF hG hS (lay_main) rfl) rfl rfl hl.1 rfl (lv_room (Nat.le_of_ble_eq_true rfl)) dL_send_5 ⟨Nat.le_of_ble_eq_true rfl, Nat.le_of_ble_eq_true rfl⟩) hS (fun q h => h) (fun q _ h => h) (fun E9 ce q9 u t H locs ht9 _ _ hbx hS hce hcv hcl => ?_)
  obtain ⟨rfl, hG1⟩ := hbx
  have hG : g_P D (lay C g ad ln ex) ad B H := by rw [← ht9]; exact hG1
  refine vx_catch hown [] ({ startPc := 0, endPc := 10, handlerPc := 13, catchType := 25 } : ExceptionTableEntry) [({ startPc := 0, endPc := 10, handlerPc := 17, catchType := 13 } : ExceptionTableEntry), ({ startPc := 0, endPc := 10, handlerPc := 21, catchType := 15 } : ExceptionTableEntry)] (htab.trans rfl) (fun z hz => nomatch hz) rfl (by decide) (hts (.classLink RL 25 "java/lang/IndexOutOfBoundsException") (by decide +kernel)) (va_Nw.use rfl hF.2.2.1.2.2.1.2.1) hce hcv hcl ?_
  refine W.eq (g2 := F0 m 13 ls [.ref q9]) rfl ?_
  refine lv_astore (lv' := [(4, .ref q9), (0, .ref (ad (0, 0, 0))), (1, .int x), (2, .int y), (3, .ref (ad (50, 0, 0)))]) hx hb dL_send_13 hl (by decide) rfl (fun ls hl => ?_)
  refine lv_iconst (v := nI 1) hx hb dL_send_15 (by decide) ?_
  exact W.iret (v := nI 1) hx hb hr (fun t9 ht9 hW9 => ⟨⟨_, (), rfl, rfl, by show g_P D _ _ B t9.heap; rw [ht9]; exact hG⟩, hS.F ht9⟩) hS.2.2 dL_send_16

set_option maxHeartbeats 4000000 in
set_option maxRecDepth 100000 in
theorem p_load (l : Launch) (hst : l.stackTraces = false) {D : va_G} {C : g_C} {E : m_C} {g : g_k → Nat → Int32} {ad ln : g_k → Nat} {ex : g_k → Option va_E} {B : Nat} (hc : g (1, 0, 0) 4 = nI 0) {x : Int32} : Met l yL_load wsL_load ({ frames := 8, cells := 1, slots := 6, locals := 124 } : Room) (va_Pc [.ref (ad (0, 0, 0)), .int x, .ref (ad (50, 0, 0))] (g_S D C (lay C g ad ln ex) ad B)) (va_Qi (fun (r : Int32) (u : Unit) => r = nI 1) (fun _ t => g_P D (lay C g ad ln ex) ad B t.heap) (g_A B)) 1 6 (g_A B) := by
  refine g_ofWW (cc := cL_load) (maxL := 4) (ret := some .int) (hh := [(0, 9, 12, 25)]) (by decide +kernel) rfl ?_
  intro p e s m args below meth c s₁ B₀ hml hv
  obtain ⟨rfl, hG, hF⟩ := hv
  have hK := hF.1
  have hN := hF.2.1
  have hB := hF.2.2.2
  have hx := B₀.exec
  have hb := B₀.bytes
  have hr := B₀.returns
  have hts := atoms_spec (ws := wsL_load) B₀.pre
  have hown : s.vm.findClass RL = some m.cls := findClass_of_methodNamed B₀.named
  have hlocks := B₀.notSynchronized
  have hS : va_S (g_A B) s.heap s.heap [] := va_S.rf
  have hl := lv_entry [.ref (ad (0, 0, 0)), .int x, .ref (ad (50, 0, 0))] (n := 4) (Nat.le_of_ble_eq_true rfl)
  rw [lg_entry_eq]
  generalize (lg_sl [.ref (ad (0, 0, 0)), .int x, .ref (ad (50, 0, 0))] ++ List.replicate (4 - (lg_sl [.ref (ad (0, 0, 0)), .int x, .ref (ad (50, 0, 0))]).length) Slot.unset).toArray = ls at hl ⊢
  have hl : lv_has ls 4 [(0, .ref (ad (0, 0, 0))), (1, .int x), (2, .ref (ad (50, 0, 0)))] := hl
  refine lv_aload_n hx hb dL_load_0 rfl (lv_at hl 2 rfl) ?_
  refine lv_iconst (v := nI 0) hx hb dL_load_1 (by decide) ?_
  refine lv_aload_n hx hb dL_load_2 rfl (lv_at hl 0 rfl) ?_
  refine lv_iload_n hx hb dL_load_3 rfl (lv_at hl 1 rfl) ?_
  have htab := vx_table (x := yL_load) B₀ (hts (.codeWith yL_load cL_load 4 (some .int) [(0, 9, 12, 25)]) List.mem_cons_self)
  refine vx_callx (vx_runV (As := [.int x]) (rest := [.int (nI 0), .ref (ad (50, 0, 0))]) ⟨hx, hb, hml, hown, hts⟩ (z_load l hst hc) (cwV 1 hts gL_load_X5_load rfl rfl rfl (by decide +kernel) ⟨Nat.le_of_ble_eq_true rfl, Nat.le_of_ble_eq_true rfl⟩) (g_preV hF hG hS (lay_main) rfl) rfl rfl hl.1 rfl (lv_room (Nat.le_of_ble_eq_true rfl)) dL_load_4 ⟨Nat.le_of_ble_eq_true rfl, Nat.le_of_ble_eq_true rfl⟩) hS (fun q h => h) (fun q _ h => h) (fun E9 ce q9 u t H locs ht9 _ _ hbx hS hce hcv hcl => ?_)
  obtain ⟨rfl, hG1⟩ := hbx
  have hG : g_P D (lay C g ad ln ex) ad B H := by rw [← ht9]; exact hG1
  refine vx_catch hown [] ({ startPc := 0, endPc := 9, handlerPc := 12, catchType := 25 } : ExceptionTableEntry) [] (htab.trans rfl) (fun z hz => nomatch hz) rfl (by decide) (hts (.classLink RL 25 "java/lang/IndexOutOfBoundsException") (by decide +kernel)) (va_Nw.use rfl hF.2.2.1.2.2.1.2.1) hce hcv hcl ?_
  refine W.eq (g2 := F0 m 12 ls [.ref q9]) rfl ?_
  refine lv_astore_n (lv' := [(3, .ref q9), (0, .ref (ad (0, 0, 0))), (1, .int x), (2, .ref (ad (50, 0, 0)))]) hx hb dL_load_12 rfl hl (by decide) rfl (fun ls hl => ?_)
  refine lv_iconst (v := nI 1) hx hb dL_load_13 (by decide) ?_
  exact W.iret (v := nI 1) hx hb hr (fun t9 ht9 hW9 => ⟨⟨_, (), rfl, rfl, by show g_P D _ _ B t9.heap; rw [ht9]; exact hG⟩, hS.F ht9⟩) hS.2.2 dL_load_14

set_option maxHeartbeats 4000000 in
set_option maxRecDepth 100000 in
theorem p_relayOf (l : Launch) (hst : l.stackTraces = false) {D : va_G} {C : g_C} {E : m_C} {g : g_k → Nat → Int32} {ad ln : g_k → Nat} {ex : g_k → Option va_E} {B : Nat} (hc : g (1, 0, 0) 4 = nI 0) {x : Int32} : Met l yL_relayOf wsL_relayOf ({ frames := 9, cells := 1, slots := 6, locals := 146 } : Room) (va_Pc [.ref (ad (0, 0, 0)), .int x, .ref (ad (50, 0, 0))] (g_S D C (lay C g ad ln ex) ad B)) (va_Qi (fun (r : Int32) (u : Unit) => r = nI 1) (fun _ t => g_P D (lay C g ad ln ex) ad B t.heap) (g_A B)) 1 6 (g_A B) := by
  refine g_ofWW (cc := cL_relayOf) (maxL := 4) (ret := some .int) (hh := [(0, 9, 12, 25)]) (by decide +kernel) rfl ?_
  intro p e s m args below meth c s₁ B₀ hml hv
  obtain ⟨rfl, hG, hF⟩ := hv
  have hK := hF.1
  have hN := hF.2.1
  have hB := hF.2.2.2
  have hx := B₀.exec
  have hb := B₀.bytes
  have hr := B₀.returns
  have hts := atoms_spec (ws := wsL_relayOf) B₀.pre
  have hown : s.vm.findClass RL = some m.cls := findClass_of_methodNamed B₀.named
  have hlocks := B₀.notSynchronized
  have hS : va_S (g_A B) s.heap s.heap [] := va_S.rf
  have hl := lv_entry [.ref (ad (0, 0, 0)), .int x, .ref (ad (50, 0, 0))] (n := 4) (Nat.le_of_ble_eq_true rfl)
  rw [lg_entry_eq]
  generalize (lg_sl [.ref (ad (0, 0, 0)), .int x, .ref (ad (50, 0, 0))] ++ List.replicate (4 - (lg_sl [.ref (ad (0, 0, 0)), .int x, .ref (ad (50, 0, 0))]).length) Slot.unset).toArray = ls at hl ⊢
  have hl : lv_has ls 4 [(0, .ref (ad (0, 0, 0))), (1, .int x), (2, .ref (ad (50, 0, 0)))] := hl
  refine lv_aload_n hx hb dL_relayOf_0 rfl (lv_at hl 2 rfl) ?_
  refine lv_iconst (v := nI 0) hx hb dL_relayOf_1 (by decide) ?_
  refine lv_aload_n hx hb dL_relayOf_2 rfl (lv_at hl 0 rfl) ?_
  refine lv_iload_n hx hb dL_relayOf_3 rfl (lv_at hl 1 rfl) ?_
  have htab := vx_table (x := yL_relayOf) B₀ (hts (.codeWith yL_relayOf cL_relayOf 4 (some .int) [(0, 9, 12, 25)]) List.mem_cons_self)
  refine vx_callx (vx_runV (As := [.int x]) (rest := [.int (nI 0), .ref (ad (50, 0, 0))]) ⟨hx, hb, hml, hown, hts⟩ (z_relayOf l hst hc) (cwV 1 hts gL_relayOf_X5_relayOf rfl rfl rfl (by decide +kernel) ⟨Nat.le_of_ble_eq_true rfl, Nat.le_of_ble_eq_true rfl⟩) (g_preV hF hG hS (lay_main) rfl) rfl rfl hl.1 rfl (lv_room (Nat.le_of_ble_eq_true rfl)) dL_relayOf_4 ⟨Nat.le_of_ble_eq_true rfl, Nat.le_of_ble_eq_true rfl⟩) hS (fun q h => h) (fun q _ h => h) (fun E9 ce q9 u t H locs ht9 _ _ hbx hS hce hcv hcl => ?_)
  obtain ⟨rfl, hG1⟩ := hbx
  have hG : g_P D (lay C g ad ln ex) ad B H := by rw [← ht9]; exact hG1
  refine vx_catch hown [] ({ startPc := 0, endPc := 9, handlerPc := 12, catchType := 25 } : ExceptionTableEntry) [] (htab.trans rfl) (fun z hz => nomatch hz) rfl (by decide) (hts (.classLink RL 25 "java/lang/IndexOutOfBoundsException") (by decide +kernel)) (va_Nw.use rfl hF.2.2.1.2.2.1.2.1) hce hcv hcl ?_
  refine W.eq (g2 := F0 m 12 ls [.ref q9]) rfl ?_
  refine lv_astore_n (lv' := [(3, .ref q9), (0, .ref (ad (0, 0, 0))), (1, .int x), (2, .ref (ad (50, 0, 0)))]) hx hb dL_relayOf_12 rfl hl (by decide) rfl (fun ls hl => ?_)
  refine lv_iconst (v := nI 1) hx hb dL_relayOf_13 (by decide) ?_
  exact W.iret (v := nI 1) hx hb hr (fun t9 ht9 hW9 => ⟨⟨_, (), rfl, rfl, by show g_P D _ _ B t9.heap; rw [ht9]; exact hG⟩, hS.F ht9⟩) hS.2.2 dL_relayOf_14

set_option maxHeartbeats 4000000 in
set_option maxRecDepth 100000 in
theorem p_handovers (l : Launch) (hst : l.stackTraces = false) {D : va_G} {C : g_C} {E : m_C} {g : g_k → Nat → Int32} {ad ln : g_k → Nat} {ex : g_k → Option va_E} {B : Nat} (hc : g (1, 0, 0) 4 = nI 0) {x : Int32} : Met l yL_handovers wsL_handovers ({ frames := 9, cells := 1, slots := 6, locals := 146 } : Room) (va_Pc [.ref (ad (0, 0, 0)), .int x, .ref (ad (50, 0, 0))] (g_S D C (lay C g ad ln ex) ad B)) (va_Qi (fun (r : Int32) (u : Unit) => r = nI 1) (fun _ t => g_P D (lay C g ad ln ex) ad B t.heap) (g_A B)) 1 6 (g_A B) := by
  refine g_ofWW (cc := cL_handovers) (maxL := 4) (ret := some .int) (hh := [(0, 9, 12, 25)]) (by decide +kernel) rfl ?_
  intro p e s m args below meth c s₁ B₀ hml hv
  obtain ⟨rfl, hG, hF⟩ := hv
  have hK := hF.1
  have hN := hF.2.1
  have hB := hF.2.2.2
  have hx := B₀.exec
  have hb := B₀.bytes
  have hr := B₀.returns
  have hts := atoms_spec (ws := wsL_handovers) B₀.pre
  have hown : s.vm.findClass RL = some m.cls := findClass_of_methodNamed B₀.named
  have hlocks := B₀.notSynchronized
  have hS : va_S (g_A B) s.heap s.heap [] := va_S.rf
  have hl := lv_entry [.ref (ad (0, 0, 0)), .int x, .ref (ad (50, 0, 0))] (n := 4) (Nat.le_of_ble_eq_true rfl)
  rw [lg_entry_eq]
  generalize (lg_sl [.ref (ad (0, 0, 0)), .int x, .ref (ad (50, 0, 0))] ++ List.replicate (4 - (lg_sl [.ref (ad (0, 0, 0)), .int x, .ref (ad (50, 0, 0))]).length) Slot.unset).toArray = ls at hl ⊢
  have hl : lv_has ls 4 [(0, .ref (ad (0, 0, 0))), (1, .int x), (2, .ref (ad (50, 0, 0)))] := hl
  refine lv_aload_n hx hb dL_handovers_0 rfl (lv_at hl 2 rfl) ?_
  refine lv_iconst (v := nI 0) hx hb dL_handovers_1 (by decide) ?_
  refine lv_aload_n hx hb dL_handovers_2 rfl (lv_at hl 0 rfl) ?_
  refine lv_iload_n hx hb dL_handovers_3 rfl (lv_at hl 1 rfl) ?_
  have htab := vx_table (x := yL_handovers) B₀ (hts (.codeWith yL_handovers cL_handovers 4 (some .int) [(0, 9, 12, 25)]) List.mem_cons_self)
  refine vx_callx (vx_runV (As := [.int x]) (rest := [.int (nI 0), .ref (ad (50, 0, 0))]) ⟨hx, hb, hml, hown, hts⟩ (z_handovers l hst hc) (cwV 1 hts gL_handovers_X5_handovers rfl rfl rfl (by decide +kernel) ⟨Nat.le_of_ble_eq_true rfl, Nat.le_of_ble_eq_true rfl⟩) (g_preV hF hG hS (lay_main) rfl) rfl rfl hl.1 rfl (lv_room (Nat.le_of_ble_eq_true rfl)) dL_handovers_4 ⟨Nat.le_of_ble_eq_true rfl, Nat.le_of_ble_eq_true rfl⟩) hS (fun q h => h) (fun q _ h => h) (fun E9 ce q9 u t H locs ht9 _ _ hbx hS hce hcv hcl => ?_)
  obtain ⟨rfl, hG1⟩ := hbx
  have hG : g_P D (lay C g ad ln ex) ad B H := by rw [← ht9]; exact hG1
  refine vx_catch hown [] ({ startPc := 0, endPc := 9, handlerPc := 12, catchType := 25 } : ExceptionTableEntry) [] (htab.trans rfl) (fun z hz => nomatch hz) rfl (by decide) (hts (.classLink RL 25 "java/lang/IndexOutOfBoundsException") (by decide +kernel)) (va_Nw.use rfl hF.2.2.1.2.2.1.2.1) hce hcv hcl ?_
  refine W.eq (g2 := F0 m 12 ls [.ref q9]) rfl ?_
  refine lv_astore_n (lv' := [(3, .ref q9), (0, .ref (ad (0, 0, 0))), (1, .int x), (2, .ref (ad (50, 0, 0)))]) hx hb dL_handovers_12 rfl hl (by decide) rfl (fun ls hl => ?_)
  refine lv_iconst (v := nI 1) hx hb dL_handovers_13 (by decide) ?_
  exact W.iret (v := nI 1) hx hb hr (fun t9 ht9 hW9 => ⟨⟨_, (), rfl, rfl, by show g_P D _ _ B t9.heap; rw [ht9]; exact hG⟩, hS.F ht9⟩) hS.2.2 dL_handovers_14

set_option maxHeartbeats 4000000 in
set_option maxRecDepth 100000 in
theorem p_nodeOf (l : Launch) (hst : l.stackTraces = false) {D : va_G} {C : g_C} {E : m_C} {g : g_k → Nat → Int32} {ad ln : g_k → Nat} {ex : g_k → Option va_E} {B : Nat} (hM : ln (5, 0, 0) = 0) (hs : g (0, 0, 0) 7 = nI 0) {x : Int32} : Met l yL_nodeOf wsL_nodeOf ({ frames := 8, cells := 1, slots := 6, locals := 124 } : Room) (va_Pc [.ref (ad (0, 0, 0)), .int x, .ref (ad (50, 0, 0))] (g_S D C (lay C g ad ln ex) ad B)) (va_Qi (fun (r : Int32) (u : Unit) => r = nI 1) (fun _ t => g_P D (lay C g ad ln ex) ad B t.heap) (g_A B)) 1 6 (g_A B) := by
  refine g_ofWW (cc := cL_nodeOf) (maxL := 4) (ret := some .int) (hh := [(0, 9, 12, 25)]) (by decide +kernel) rfl ?_
  intro p e s m args below meth c s₁ B₀ hml hv
  obtain ⟨rfl, hG, hF⟩ := hv
  have hK := hF.1
  have hN := hF.2.1
  have hB := hF.2.2.2
  have hx := B₀.exec
  have hb := B₀.bytes
  have hr := B₀.returns
  have hts := atoms_spec (ws := wsL_nodeOf) B₀.pre
  have hown : s.vm.findClass RL = some m.cls := findClass_of_methodNamed B₀.named
  have hlocks := B₀.notSynchronized
  have hS : va_S (g_A B) s.heap s.heap [] := va_S.rf
  have hl := lv_entry [.ref (ad (0, 0, 0)), .int x, .ref (ad (50, 0, 0))] (n := 4) (Nat.le_of_ble_eq_true rfl)
  rw [lg_entry_eq]
  generalize (lg_sl [.ref (ad (0, 0, 0)), .int x, .ref (ad (50, 0, 0))] ++ List.replicate (4 - (lg_sl [.ref (ad (0, 0, 0)), .int x, .ref (ad (50, 0, 0))]).length) Slot.unset).toArray = ls at hl ⊢
  have hl : lv_has ls 4 [(0, .ref (ad (0, 0, 0))), (1, .int x), (2, .ref (ad (50, 0, 0)))] := hl
  refine lv_aload_n hx hb dL_nodeOf_0 rfl (lv_at hl 2 rfl) ?_
  refine lv_iconst (v := nI 0) hx hb dL_nodeOf_1 (by decide) ?_
  refine lv_aload_n hx hb dL_nodeOf_2 rfl (lv_at hl 0 rfl) ?_
  refine lv_iload_n hx hb dL_nodeOf_3 rfl (lv_at hl 1 rfl) ?_
  have htab := vx_table (x := yL_nodeOf) B₀ (hts (.codeWith yL_nodeOf cL_nodeOf 4 (some .int) [(0, 9, 12, 25)]) List.mem_cons_self)
  refine vx_callx (vx_runV (As := [.int x]) (rest := [.int (nI 0), .ref (ad (50, 0, 0))]) ⟨hx, hb, hml, hown, hts⟩ (z_nodeOf l hst hM hs) (cwV 1 hts gL_nodeOf_X5_nodeOf rfl rfl rfl (by decide +kernel) ⟨Nat.le_of_ble_eq_true rfl, Nat.le_of_ble_eq_true rfl⟩) (g_preV hF hG hS (lay_main) rfl) rfl rfl hl.1 rfl (lv_room (Nat.le_of_ble_eq_true rfl)) dL_nodeOf_4 ⟨Nat.le_of_ble_eq_true rfl, Nat.le_of_ble_eq_true rfl⟩) hS (fun q h => h) (fun q _ h => h) (fun E9 ce q9 u t H locs ht9 _ _ hbx hS hce hcv hcl => ?_)
  obtain ⟨rfl, hG1⟩ := hbx
  have hG : g_P D (lay C g ad ln ex) ad B H := by rw [← ht9]; exact hG1
  refine vx_catch hown [] ({ startPc := 0, endPc := 9, handlerPc := 12, catchType := 25 } : ExceptionTableEntry) [] (htab.trans rfl) (fun z hz => nomatch hz) rfl (by decide) (hts (.classLink RL 25 "java/lang/IndexOutOfBoundsException") (by decide +kernel)) (va_Nw.use rfl hF.2.2.1.2.2.1.2.1) hce hcv hcl ?_
  refine W.eq (g2 := F0 m 12 ls [.ref q9]) rfl ?_
  refine lv_astore_n (lv' := [(3, .ref q9), (0, .ref (ad (0, 0, 0))), (1, .int x), (2, .ref (ad (50, 0, 0)))]) hx hb dL_nodeOf_12 rfl hl (by decide) rfl (fun ls hl => ?_)
  refine lv_iconst (v := nI 1) hx hb dL_nodeOf_13 (by decide) ?_
  exact W.iret (v := nI 1) hx hb hr (fun t9 ht9 hW9 => ⟨⟨_, (), rfl, rfl, by show g_P D _ _ B t9.heap; rw [ht9]; exact hG⟩, hS.F ht9⟩) hS.2.2 dL_nodeOf_14

set_option maxHeartbeats 4000000 in
set_option maxRecDepth 100000 in
theorem p_arrivedAt (l : Launch) (hst : l.stackTraces = false) {D : va_G} {C : g_C} {E : m_C} {g : g_k → Nat → Int32} {ad ln : g_k → Nat} {ex : g_k → Option va_E} {B : Nat} (hM : ln (5, 0, 0) = 0) (hs : g (0, 0, 0) 7 = nI 0) {x : Int32} : Met l yL_arrivedAt wsL_arrivedAt ({ frames := 8, cells := 1, slots := 6, locals := 125 } : Room) (va_Pc [.ref (ad (0, 0, 0)), .int x, .ref (ad (50, 0, 0))] (g_S D C (lay C g ad ln ex) ad B)) (va_Qi (fun (r : Int32) (u : Unit) => r = nI 1) (fun _ t => g_P D (lay C g ad ln ex) ad B t.heap) (g_A B)) 1 6 (g_A B) := by
  refine g_ofWW (cc := cL_arrivedAt) (maxL := 4) (ret := some .int) (hh := [(0, 9, 12, 25), (0, 9, 15, 62)]) (by decide +kernel) rfl ?_
  intro p e s m args below meth c s₁ B₀ hml hv
  obtain ⟨rfl, hG, hF⟩ := hv
  have hK := hF.1
  have hN := hF.2.1
  have hB := hF.2.2.2
  have hx := B₀.exec
  have hb := B₀.bytes
  have hr := B₀.returns
  have hts := atoms_spec (ws := wsL_arrivedAt) B₀.pre
  have hown : s.vm.findClass RL = some m.cls := findClass_of_methodNamed B₀.named
  have hlocks := B₀.notSynchronized
  have hS : va_S (g_A B) s.heap s.heap [] := va_S.rf
  have hl := lv_entry [.ref (ad (0, 0, 0)), .int x, .ref (ad (50, 0, 0))] (n := 4) (Nat.le_of_ble_eq_true rfl)
  rw [lg_entry_eq]
  generalize (lg_sl [.ref (ad (0, 0, 0)), .int x, .ref (ad (50, 0, 0))] ++ List.replicate (4 - (lg_sl [.ref (ad (0, 0, 0)), .int x, .ref (ad (50, 0, 0))]).length) Slot.unset).toArray = ls at hl ⊢
  have hl : lv_has ls 4 [(0, .ref (ad (0, 0, 0))), (1, .int x), (2, .ref (ad (50, 0, 0)))] := hl
  refine lv_aload_n hx hb dL_arrivedAt_0 rfl (lv_at hl 2 rfl) ?_
  refine lv_iconst (v := nI 0) hx hb dL_arrivedAt_1 (by decide) ?_
  refine lv_aload_n hx hb dL_arrivedAt_2 rfl (lv_at hl 0 rfl) ?_
  refine lv_iload_n hx hb dL_arrivedAt_3 rfl (lv_at hl 1 rfl) ?_
  have htab := vx_table (x := yL_arrivedAt) B₀ (hts (.codeWith yL_arrivedAt cL_arrivedAt 4 (some .int) [(0, 9, 12, 25), (0, 9, 15, 62)]) List.mem_cons_self)
  refine vx_callx (vx_runV (As := [.int x]) (rest := [.int (nI 0), .ref (ad (50, 0, 0))]) ⟨hx, hb, hml, hown, hts⟩ (z_arrivedAt l hst hM hs) (cwV 1 hts gL_arrivedAt_X5_arrivedAt rfl rfl rfl (by decide +kernel) ⟨Nat.le_of_ble_eq_true rfl, Nat.le_of_ble_eq_true rfl⟩) (g_preV hF hG hS (lay_main) rfl) rfl rfl hl.1 rfl (lv_room (Nat.le_of_ble_eq_true rfl)) dL_arrivedAt_4 ⟨Nat.le_of_ble_eq_true rfl, Nat.le_of_ble_eq_true rfl⟩) hS (fun q h => h) (fun q _ h => h) (fun E9 ce q9 u t H locs ht9 _ _ hbx hS hce hcv hcl => ?_)
  obtain ⟨rfl, hG1⟩ := hbx
  have hG : g_P D (lay C g ad ln ex) ad B H := by rw [← ht9]; exact hG1
  refine vx_catch hown [] ({ startPc := 0, endPc := 9, handlerPc := 12, catchType := 25 } : ExceptionTableEntry) [({ startPc := 0, endPc := 9, handlerPc := 15, catchType := 62 } : ExceptionTableEntry)] (htab.trans rfl) (fun z hz => nomatch hz) rfl (by decide) (hts (.classLink RL 25 "java/lang/IndexOutOfBoundsException") (by decide +kernel)) (va_Nw.use rfl hF.2.2.1.2.2.1.2.1) hce hcv hcl ?_
  refine W.eq (g2 := F0 m 12 ls [.ref q9]) rfl ?_
  refine lv_astore_n (lv' := [(3, .ref q9), (0, .ref (ad (0, 0, 0))), (1, .int x), (2, .ref (ad (50, 0, 0)))]) hx hb dL_arrivedAt_12 rfl hl (by decide) rfl (fun ls hl => ?_)
  refine lv_iconst (v := nI 1) hx hb dL_arrivedAt_13 (by decide) ?_
  exact W.iret (v := nI 1) hx hb hr (fun t9 ht9 hW9 => ⟨⟨_, (), rfl, rfl, by show g_P D _ _ B t9.heap; rw [ht9]; exact hG⟩, hS.F ht9⟩) hS.2.2 dL_arrivedAt_14

set_option maxHeartbeats 4000000 in
set_option maxRecDepth 100000 in
theorem p_hops (l : Launch) (hst : l.stackTraces = false) {D : va_G} {C : g_C} {E : m_C} {g : g_k → Nat → Int32} {ad ln : g_k → Nat} {ex : g_k → Option va_E} {B : Nat} (hM : ln (5, 0, 0) = 0) (hs : g (0, 0, 0) 7 = nI 0) {x : Int32} : Met l yL_hops wsL_hops ({ frames := 8, cells := 1, slots := 6, locals := 124 } : Room) (va_Pc [.ref (ad (0, 0, 0)), .int x, .ref (ad (50, 0, 0))] (g_S D C (lay C g ad ln ex) ad B)) (va_Qi (fun (r : Int32) (u : Unit) => r = nI 1) (fun _ t => g_P D (lay C g ad ln ex) ad B t.heap) (g_A B)) 1 6 (g_A B) := by
  refine g_ofWW (cc := cL_hops) (maxL := 4) (ret := some .int) (hh := [(0, 9, 12, 25)]) (by decide +kernel) rfl ?_
  intro p e s m args below meth c s₁ B₀ hml hv
  obtain ⟨rfl, hG, hF⟩ := hv
  have hK := hF.1
  have hN := hF.2.1
  have hB := hF.2.2.2
  have hx := B₀.exec
  have hb := B₀.bytes
  have hr := B₀.returns
  have hts := atoms_spec (ws := wsL_hops) B₀.pre
  have hown : s.vm.findClass RL = some m.cls := findClass_of_methodNamed B₀.named
  have hlocks := B₀.notSynchronized
  have hS : va_S (g_A B) s.heap s.heap [] := va_S.rf
  have hl := lv_entry [.ref (ad (0, 0, 0)), .int x, .ref (ad (50, 0, 0))] (n := 4) (Nat.le_of_ble_eq_true rfl)
  rw [lg_entry_eq]
  generalize (lg_sl [.ref (ad (0, 0, 0)), .int x, .ref (ad (50, 0, 0))] ++ List.replicate (4 - (lg_sl [.ref (ad (0, 0, 0)), .int x, .ref (ad (50, 0, 0))]).length) Slot.unset).toArray = ls at hl ⊢
  have hl : lv_has ls 4 [(0, .ref (ad (0, 0, 0))), (1, .int x), (2, .ref (ad (50, 0, 0)))] := hl
  refine lv_aload_n hx hb dL_hops_0 rfl (lv_at hl 2 rfl) ?_
  refine lv_iconst (v := nI 0) hx hb dL_hops_1 (by decide) ?_
  refine lv_aload_n hx hb dL_hops_2 rfl (lv_at hl 0 rfl) ?_
  refine lv_iload_n hx hb dL_hops_3 rfl (lv_at hl 1 rfl) ?_
  have htab := vx_table (x := yL_hops) B₀ (hts (.codeWith yL_hops cL_hops 4 (some .int) [(0, 9, 12, 25)]) List.mem_cons_self)
  refine vx_callx (vx_runV (As := [.int x]) (rest := [.int (nI 0), .ref (ad (50, 0, 0))]) ⟨hx, hb, hml, hown, hts⟩ (z_hops l hst hM hs) (cwV 1 hts gL_hops_X5_hops rfl rfl rfl (by decide +kernel) ⟨Nat.le_of_ble_eq_true rfl, Nat.le_of_ble_eq_true rfl⟩) (g_preV hF hG hS (lay_main) rfl) rfl rfl hl.1 rfl (lv_room (Nat.le_of_ble_eq_true rfl)) dL_hops_4 ⟨Nat.le_of_ble_eq_true rfl, Nat.le_of_ble_eq_true rfl⟩) hS (fun q h => h) (fun q _ h => h) (fun E9 ce q9 u t H locs ht9 _ _ hbx hS hce hcv hcl => ?_)
  obtain ⟨rfl, hG1⟩ := hbx
  have hG : g_P D (lay C g ad ln ex) ad B H := by rw [← ht9]; exact hG1
  refine vx_catch hown [] ({ startPc := 0, endPc := 9, handlerPc := 12, catchType := 25 } : ExceptionTableEntry) [] (htab.trans rfl) (fun z hz => nomatch hz) rfl (by decide) (hts (.classLink RL 25 "java/lang/IndexOutOfBoundsException") (by decide +kernel)) (va_Nw.use rfl hF.2.2.1.2.2.1.2.1) hce hcv hcl ?_
  refine W.eq (g2 := F0 m 12 ls [.ref q9]) rfl ?_
  refine lv_astore_n (lv' := [(3, .ref q9), (0, .ref (ad (0, 0, 0))), (1, .int x), (2, .ref (ad (50, 0, 0)))]) hx hb dL_hops_12 rfl hl (by decide) rfl (fun ls hl => ?_)
  refine lv_iconst (v := nI 1) hx hb dL_hops_13 (by decide) ?_
  exact W.iret (v := nI 1) hx hb hr (fun t9 ht9 hW9 => ⟨⟨_, (), rfl, rfl, by show g_P D _ _ B t9.heap; rw [ht9]; exact hG⟩, hS.F ht9⟩) hS.2.2 dL_hops_14

set_option maxHeartbeats 4000000 in
set_option maxRecDepth 100000 in
theorem p_blocked (l : Launch) (hst : l.stackTraces = false) {D : va_G} {C : g_C} {E : m_C} {g : g_k → Nat → Int32} {ad ln : g_k → Nat} {ex : g_k → Option va_E} {B : Nat} (hM : ln (5, 0, 0) = 0) (hs : g (0, 0, 0) 7 = nI 0) {x : Int32} : Met l yL_blocked wsL_blocked ({ frames := 8, cells := 1, slots := 6, locals := 124 } : Room) (va_Pc [.ref (ad (0, 0, 0)), .int x, .ref (ad (50, 0, 0))] (g_S D C (lay C g ad ln ex) ad B)) (va_Qi (fun (r : Int32) (u : Unit) => r = nI 1) (fun _ t => g_P D (lay C g ad ln ex) ad B t.heap) (g_A B)) 1 6 (g_A B) := by
  refine g_ofWW (cc := cL_blocked) (maxL := 4) (ret := some .int) (hh := [(0, 9, 12, 25)]) (by decide +kernel) rfl ?_
  intro p e s m args below meth c s₁ B₀ hml hv
  obtain ⟨rfl, hG, hF⟩ := hv
  have hK := hF.1
  have hN := hF.2.1
  have hB := hF.2.2.2
  have hx := B₀.exec
  have hb := B₀.bytes
  have hr := B₀.returns
  have hts := atoms_spec (ws := wsL_blocked) B₀.pre
  have hown : s.vm.findClass RL = some m.cls := findClass_of_methodNamed B₀.named
  have hlocks := B₀.notSynchronized
  have hS : va_S (g_A B) s.heap s.heap [] := va_S.rf
  have hl := lv_entry [.ref (ad (0, 0, 0)), .int x, .ref (ad (50, 0, 0))] (n := 4) (Nat.le_of_ble_eq_true rfl)
  rw [lg_entry_eq]
  generalize (lg_sl [.ref (ad (0, 0, 0)), .int x, .ref (ad (50, 0, 0))] ++ List.replicate (4 - (lg_sl [.ref (ad (0, 0, 0)), .int x, .ref (ad (50, 0, 0))]).length) Slot.unset).toArray = ls at hl ⊢
  have hl : lv_has ls 4 [(0, .ref (ad (0, 0, 0))), (1, .int x), (2, .ref (ad (50, 0, 0)))] := hl
  refine lv_aload_n hx hb dL_blocked_0 rfl (lv_at hl 2 rfl) ?_
  refine lv_iconst (v := nI 0) hx hb dL_blocked_1 (by decide) ?_
  refine lv_aload_n hx hb dL_blocked_2 rfl (lv_at hl 0 rfl) ?_
  refine lv_iload_n hx hb dL_blocked_3 rfl (lv_at hl 1 rfl) ?_
  have htab := vx_table (x := yL_blocked) B₀ (hts (.codeWith yL_blocked cL_blocked 4 (some .int) [(0, 9, 12, 25)]) List.mem_cons_self)
  refine vx_callx (vx_runV (As := [.int x]) (rest := [.int (nI 0), .ref (ad (50, 0, 0))]) ⟨hx, hb, hml, hown, hts⟩ (z_blocked l hst hM hs) (cwV 1 hts gL_blocked_X5_blocked rfl rfl rfl (by decide +kernel) ⟨Nat.le_of_ble_eq_true rfl, Nat.le_of_ble_eq_true rfl⟩) (g_preV hF hG hS (lay_main) rfl) rfl rfl hl.1 rfl (lv_room (Nat.le_of_ble_eq_true rfl)) dL_blocked_4 ⟨Nat.le_of_ble_eq_true rfl, Nat.le_of_ble_eq_true rfl⟩) hS (fun q h => h) (fun q _ h => h) (fun E9 ce q9 u t H locs ht9 _ _ hbx hS hce hcv hcl => ?_)
  obtain ⟨rfl, hG1⟩ := hbx
  have hG : g_P D (lay C g ad ln ex) ad B H := by rw [← ht9]; exact hG1
  refine vx_catch hown [] ({ startPc := 0, endPc := 9, handlerPc := 12, catchType := 25 } : ExceptionTableEntry) [] (htab.trans rfl) (fun z hz => nomatch hz) rfl (by decide) (hts (.classLink RL 25 "java/lang/IndexOutOfBoundsException") (by decide +kernel)) (va_Nw.use rfl hF.2.2.1.2.2.1.2.1) hce hcv hcl ?_
  refine W.eq (g2 := F0 m 12 ls [.ref q9]) rfl ?_
  refine lv_astore_n (lv' := [(3, .ref q9), (0, .ref (ad (0, 0, 0))), (1, .int x), (2, .ref (ad (50, 0, 0)))]) hx hb dL_blocked_12 rfl hl (by decide) rfl (fun ls hl => ?_)
  refine lv_iconst (v := nI 1) hx hb dL_blocked_13 (by decide) ?_
  exact W.iret (v := nI 1) hx hb hr (fun t9 ht9 hW9 => ⟨⟨_, (), rfl, rfl, by show g_P D _ _ B t9.heap; rw [ht9]; exact hG⟩, hS.F ht9⟩) hS.2.2 dL_blocked_14

set_option maxHeartbeats 4000000 in
set_option maxRecDepth 100000 in
theorem p_hopNode (l : Launch) (hst : l.stackTraces = false) {D : va_G} {C : g_C} {E : m_C} {g : g_k → Nat → Int32} {ad ln : g_k → Nat} {ex : g_k → Option va_E} {B : Nat} (hM : ln (5, 0, 0) = 0) (hs : g (0, 0, 0) 7 = nI 0) {x y : Int32} : Met l yL_hopNode wsL_hopNode ({ frames := 8, cells := 1, slots := 6, locals := 126 } : Room) (va_Pc [.ref (ad (0, 0, 0)), .int x, .int y, .ref (ad (50, 0, 0))] (g_S D C (lay C g ad ln ex) ad B)) (va_Qi (fun (r : Int32) (u : Unit) => r = nI 1) (fun _ t => g_P D (lay C g ad ln ex) ad B t.heap) (g_A B)) 1 6 (g_A B) := by
  refine g_ofWW (cc := cL_hopNode) (maxL := 5) (ret := some .int) (hh := [(0, 10, 13, 25)]) (by decide +kernel) rfl ?_
  intro p e s m args below meth c s₁ B₀ hml hv
  obtain ⟨rfl, hG, hF⟩ := hv
  have hK := hF.1
  have hN := hF.2.1
  have hB := hF.2.2.2
  have hx := B₀.exec
  have hb := B₀.bytes
  have hr := B₀.returns
  have hts := atoms_spec (ws := wsL_hopNode) B₀.pre
  have hown : s.vm.findClass RL = some m.cls := findClass_of_methodNamed B₀.named
  have hlocks := B₀.notSynchronized
  have hS : va_S (g_A B) s.heap s.heap [] := va_S.rf
  have hl := lv_entry [.ref (ad (0, 0, 0)), .int x, .int y, .ref (ad (50, 0, 0))] (n := 5) (Nat.le_of_ble_eq_true rfl)
  rw [lg_entry_eq]
  generalize (lg_sl [.ref (ad (0, 0, 0)), .int x, .int y, .ref (ad (50, 0, 0))] ++ List.replicate (5 - (lg_sl [.ref (ad (0, 0, 0)), .int x, .int y, .ref (ad (50, 0, 0))]).length) Slot.unset).toArray = ls at hl ⊢
  have hl : lv_has ls 5 [(0, .ref (ad (0, 0, 0))), (1, .int x), (2, .int y), (3, .ref (ad (50, 0, 0)))] := hl
  refine lv_aload_n hx hb dL_hopNode_0 rfl (lv_at hl 3 rfl) ?_
  refine lv_iconst (v := nI 0) hx hb dL_hopNode_1 (by decide) ?_
  refine lv_aload_n hx hb dL_hopNode_2 rfl (lv_at hl 0 rfl) ?_
  refine lv_iload_n hx hb dL_hopNode_3 rfl (lv_at hl 1 rfl) ?_
  refine lv_iload_n hx hb dL_hopNode_4 rfl (lv_at hl 2 rfl) ?_
  have htab := vx_table (x := yL_hopNode) B₀ (hts (.codeWith yL_hopNode cL_hopNode 5 (some .int) [(0, 10, 13, 25)]) List.mem_cons_self)
  refine vx_callx (vx_runV (As := [.int x, .int y]) (rest := [.int (nI 0), .ref (ad (50, 0, 0))]) ⟨hx, hb, hml, hown, hts⟩ (z_hopNode l hst hM hs) (cwV 2 hts gL_hopNode_X5_hopNode rfl rfl rfl (by decide +kernel) ⟨Nat.le_of_ble_eq_true rfl, Nat.le_of_ble_eq_true rfl⟩) (g_preV hF hG hS (lay_main) rfl) rfl rfl hl.1 rfl (lv_room (Nat.le_of_ble_eq_true rfl)) dL_hopNode_5 ⟨Nat.le_of_ble_eq_true rfl, Nat.le_of_ble_eq_true rfl⟩) hS (fun q h => h) (fun q _ h => h) (fun E9 ce q9 u t H locs ht9 _ _ hbx hS hce hcv hcl => ?_)
  obtain ⟨rfl, hG1⟩ := hbx
  have hG : g_P D (lay C g ad ln ex) ad B H := by rw [← ht9]; exact hG1
  refine vx_catch hown [] ({ startPc := 0, endPc := 10, handlerPc := 13, catchType := 25 } : ExceptionTableEntry) [] (htab.trans rfl) (fun z hz => nomatch hz) rfl (by decide) (hts (.classLink RL 25 "java/lang/IndexOutOfBoundsException") (by decide +kernel)) (va_Nw.use rfl hF.2.2.1.2.2.1.2.1) hce hcv hcl ?_
  refine W.eq (g2 := F0 m 13 ls [.ref q9]) rfl ?_
  refine lv_astore (lv' := [(4, .ref q9), (0, .ref (ad (0, 0, 0))), (1, .int x), (2, .int y), (3, .ref (ad (50, 0, 0)))]) hx hb dL_hopNode_13 hl (by decide) rfl (fun ls hl => ?_)
  refine lv_iconst (v := nI 1) hx hb dL_hopNode_15 (by decide) ?_
  exact W.iret (v := nI 1) hx hb hr (fun t9 ht9 hW9 => ⟨⟨_, (), rfl, rfl, by show g_P D _ _ B t9.heap; rw [ht9]; exact hG⟩, hS.F ht9⟩) hS.2.2 dL_hopNode_16

set_option maxHeartbeats 4000000 in
set_option maxRecDepth 100000 in
theorem p_hopMinute (l : Launch) (hst : l.stackTraces = false) {D : va_G} {C : g_C} {E : m_C} {g : g_k → Nat → Int32} {ad ln : g_k → Nat} {ex : g_k → Option va_E} {B : Nat} (hM : ln (5, 0, 0) = 0) (hs : g (0, 0, 0) 7 = nI 0) {x y : Int32} : Met l yL_hopMinute wsL_hopMinute ({ frames := 8, cells := 1, slots := 6, locals := 126 } : Room) (va_Pc [.ref (ad (0, 0, 0)), .int x, .int y, .ref (ad (50, 0, 0))] (g_S D C (lay C g ad ln ex) ad B)) (va_Qi (fun (r : Int32) (u : Unit) => r = nI 1) (fun _ t => g_P D (lay C g ad ln ex) ad B t.heap) (g_A B)) 1 6 (g_A B) := by
  refine g_ofWW (cc := cL_hopMinute) (maxL := 5) (ret := some .int) (hh := [(0, 10, 13, 25)]) (by decide +kernel) rfl ?_
  intro p e s m args below meth c s₁ B₀ hml hv
  obtain ⟨rfl, hG, hF⟩ := hv
  have hK := hF.1
  have hN := hF.2.1
  have hB := hF.2.2.2
  have hx := B₀.exec
  have hb := B₀.bytes
  have hr := B₀.returns
  have hts := atoms_spec (ws := wsL_hopMinute) B₀.pre
  have hown : s.vm.findClass RL = some m.cls := findClass_of_methodNamed B₀.named
  have hlocks := B₀.notSynchronized
  have hS : va_S (g_A B) s.heap s.heap [] := va_S.rf
  have hl := lv_entry [.ref (ad (0, 0, 0)), .int x, .int y, .ref (ad (50, 0, 0))] (n := 5) (Nat.le_of_ble_eq_true rfl)
  rw [lg_entry_eq]
  generalize (lg_sl [.ref (ad (0, 0, 0)), .int x, .int y, .ref (ad (50, 0, 0))] ++ List.replicate (5 - (lg_sl [.ref (ad (0, 0, 0)), .int x, .int y, .ref (ad (50, 0, 0))]).length) Slot.unset).toArray = ls at hl ⊢
  have hl : lv_has ls 5 [(0, .ref (ad (0, 0, 0))), (1, .int x), (2, .int y), (3, .ref (ad (50, 0, 0)))] := hl
  refine lv_aload_n hx hb dL_hopMinute_0 rfl (lv_at hl 3 rfl) ?_
  refine lv_iconst (v := nI 0) hx hb dL_hopMinute_1 (by decide) ?_
  refine lv_aload_n hx hb dL_hopMinute_2 rfl (lv_at hl 0 rfl) ?_
  refine lv_iload_n hx hb dL_hopMinute_3 rfl (lv_at hl 1 rfl) ?_
  refine lv_iload_n hx hb dL_hopMinute_4 rfl (lv_at hl 2 rfl) ?_
  have htab := vx_table (x := yL_hopMinute) B₀ (hts (.codeWith yL_hopMinute cL_hopMinute 5 (some .int) [(0, 10, 13, 25)]) List.mem_cons_self)
  refine vx_callx (vx_runV (As := [.int x, .int y]) (rest := [.int (nI 0), .ref (ad (50, 0, 0))]) ⟨hx, hb, hml, hown, hts⟩ (z_hopMinute l hst hM hs) (cwV 2 hts gL_hopMinute_X5_hopMinute rfl rfl rfl (by decide +kernel) ⟨Nat.le_of_ble_eq_true rfl, Nat.le_of_ble_eq_true rfl⟩) (g_preV hF hG hS (lay_main) rfl) rfl rfl hl.1 rfl (lv_room (Nat.le_of_ble_eq_true rfl)) dL_hopMinute_5 ⟨Nat.le_of_ble_eq_true rfl, Nat.le_of_ble_eq_true rfl⟩) hS (fun q h => h) (fun q _ h => h) (fun E9 ce q9 u t H locs ht9 _ _ hbx hS hce hcv hcl => ?_)
  obtain ⟨rfl, hG1⟩ := hbx
  have hG : g_P D (lay C g ad ln ex) ad B H := by rw [← ht9]; exact hG1
  refine vx_catch hown [] ({ startPc := 0, endPc := 10, handlerPc := 13, catchType := 25 } : ExceptionTableEntry) [] (htab.trans rfl) (fun z hz => nomatch hz) rfl (by decide) (hts (.classLink RL 25 "java/lang/IndexOutOfBoundsException") (by decide +kernel)) (va_Nw.use rfl hF.2.2.1.2.2.1.2.1) hce hcv hcl ?_
  refine W.eq (g2 := F0 m 13 ls [.ref q9]) rfl ?_
  refine lv_astore (lv' := [(4, .ref q9), (0, .ref (ad (0, 0, 0))), (1, .int x), (2, .int y), (3, .ref (ad (50, 0, 0)))]) hx hb dL_hopMinute_13 hl (by decide) rfl (fun ls hl => ?_)
  refine lv_iconst (v := nI 1) hx hb dL_hopMinute_15 (by decide) ?_
  exact W.iret (v := nI 1) hx hb hr (fun t9 ht9 hW9 => ⟨⟨_, (), rfl, rfl, by show g_P D _ _ B t9.heap; rw [ht9]; exact hG⟩, hS.F ht9⟩) hS.2.2 dL_hopMinute_16

set_option maxHeartbeats 4000000 in
set_option maxRecDepth 100000 in
theorem p_addStation (l : Launch) (hst : l.stackTraces = false) {D : va_G} {C : g_C} {E : m_C} {g : g_k → Nat → Int32} {ad ln : g_k → Nat} {ex : g_k → Option va_E} {B : Nat} (hg0 : ∀ c j, g c j = 0) (hl0 : ∀ c, ln c = 0) {f : Nat → Int64} (hex : ex (50, 0, 0) = some (.inl (E.2, 1, .inr (.inl f)))) {x : Int32} : Met l yL_addStation wsL_addStation ({ frames := 8, cells := 15, slots := 3639, locals := 125 } : Room) (va_Pc [.ref (ad (0, 0, 0)), .int x, .ref (ad (50, 0, 0))] (m_S D C E (lay C g ad ln ex) ad B)) (va_Qi (fun (r : Int32) (u : (g_k → Option va_E) × (g_k → Nat) × (Nat → Int64)) => oK E ex ad u ∧ (((nI 0 ≤ x ∧ x ≤ nI 359) ∧ r = nI 0 ∧ u.2.2 0 = (nI 0).toInt64) ∨ (¬ (nI 0 ≤ x ∧ x ≤ nI 359) ∧ r = nI 1))) (fun u t => g_P D u.1 u.2.1 B t.heap) (g_A B)) 15 3639 (g_A B) := by
  refine g_ofWW (cc := cL_addStation) (maxL := 4) (ret := some .int) (hh := [(0, 9, 12, 13), (0, 9, 15, 15)]) (by decide +kernel) rfl ?_
  intro p e s m args below meth c s₁ B₀ hml hv
  obtain ⟨rfl, ⟨hG, hF⟩, hK2, hCA⟩ := hv
  have hK := hF.1
  have hN := hF.2.1
  have hB := hF.2.2.2
  have hx := B₀.exec
  have hb := B₀.bytes
  have hr := B₀.returns
  have hts := atoms_spec (ws := wsL_addStation) B₀.pre
  have hown : s.vm.findClass RL = some m.cls := findClass_of_methodNamed B₀.named
  have hlocks := B₀.notSynchronized
  have hS : va_S (g_A B) s.heap s.heap [] := va_S.rf
  have hl := lv_entry [.ref (ad (0, 0, 0)), .int x, .ref (ad (50, 0, 0))] (n := 4) (Nat.le_of_ble_eq_true rfl)
  rw [lg_entry_eq]
  generalize (lg_sl [.ref (ad (0, 0, 0)), .int x, .ref (ad (50, 0, 0))] ++ List.replicate (4 - (lg_sl [.ref (ad (0, 0, 0)), .int x, .ref (ad (50, 0, 0))]).length) Slot.unset).toArray = ls at hl ⊢
  have hl : lv_has ls 4 [(0, .ref (ad (0, 0, 0))), (1, .int x), (2, .ref (ad (50, 0, 0)))] := hl
  refine lv_aload_n hx hb dL_addStation_0 rfl (lv_at hl 2 rfl) ?_
  refine lv_iconst (v := nI 0) hx hb dL_addStation_1 (by decide) ?_
  refine lv_aload_n hx hb dL_addStation_2 rfl (lv_at hl 0 rfl) ?_
  refine lv_iload_n hx hb dL_addStation_3 rfl (lv_at hl 1 rfl) ?_
  rcases Classical.em (nI 0 ≤ x ∧ x ≤ nI 359) with hbad | hbad
  · obtain ⟨k, hk0, hk9, ek⟩ := in_nI hbad (by decide) (by decide)
    subst ek
    refine va_calli (va_runV (As := [.int (nI k)]) (rest := [.int (nI 0), .ref (ad (50, 0, 0))]) ⟨hx, hb, hml, hown, hts⟩ (c_addStation l (n := 0) (by decide) ((hg0 _ _).trans nI_0.symm) (st_sk g hg0) (x := k) (sta := 0) (t := 0) (by omega) ((hg0 _ _).trans nI_0.symm) (by decide) (by rw [hl0]; decide) (hl0 _) ((hg0 _ _).trans nI_0.symm) (by decide)) (cwV 1 hts gL_addStation_X5_addStation rfl rfl rfl (by decide +kernel) ⟨Nat.le_of_ble_eq_true rfl, Nat.le_of_ble_eq_true rfl⟩) (g_preV hF hG hS (lay_main) rfl) rfl rfl hl.1 rfl (lv_room (Nat.le_of_ble_eq_true rfl)) dL_addStation_4 ⟨Nat.le_of_ble_eq_true rfl, Nat.le_of_ble_eq_true rfl⟩) hS (fun q _ h => h) (fun q h => h) (fun r_1 u9 t9 H locs ht9 _ h_2 hB1 _ _ hS => ?_)
    obtain ⟨g_3, ad_5, ln_4⟩ := u9
    dsimp only at h_2
    have hG : g_P D (lay C g_3 ad_5 ln_4 ex) ad_5 B H := by rw [← ht9]; exact hB1
    obtain ⟨er, f1⟩ := h_2
    refine lv_to (y := nI 0) (er) ?_
    have fad := f1.2.2.2.2.2.2.2.2.2.1
    have hada : ∀ c : g_k, 50 ≤ c.1 → ad_5 c = ad c := fun c hc9 => fad c (by omega)
    refine W.eq (g2 := F0 m 7 ls [.int (nI 0), .int (nI 0), .ref (ad_5 (50, 0, 0))]) (by rw [hada _ (by decide)]) ?_
    refine W.widen (k := 15) (n := 3639) (by omega) (by omega) ?_
    refine lv_i2l hx hb dL_addStation_7 rfl ?_
    refine g_last hx hb hK2 hG hS (cd := (50, 0, 0)) ((lay_ex (by decide)).trans hex) (j := 0) (by decide) (by decide) dL_addStation_8 (fun H locs hG hS => ?_)
    refine lv_goto (tgt := 18) hx hb dL_addStation_9 (by decide) ?_
    refine lv_iconst (v := nI 0) hx hb dL_addStation_18 (by decide) ?_
    exact W.iret (v := nI 0) hx hb hr (fun t9 ht9 hW9 => ⟨⟨_, (_, ad_5, vp_updL f 0 (nI 0).toInt64), rfl, ⟨oK_1 hada, Or.inl ⟨hbad, rfl, updL_0 f (nI 0).toInt64⟩⟩, by show g_P D _ _ B t9.heap; rw [ht9]; exact hG⟩, hS.F ht9⟩) hS.2.2 dL_addStation_19
  · have htab := vx_table (x := yL_addStation) B₀ (hts (.codeWith yL_addStation cL_addStation 4 (some .int) [(0, 9, 12, 13), (0, 9, 15, 15)]) List.mem_cons_self)
    refine vx_callx (vx_runV (As := [.int x]) (rest := [.int (nI 0), .ref (ad (50, 0, 0))]) ⟨hx, hb, hml, hown, hts⟩ (z_addStation l hst hbad) (cwV 1 hts gL_addStation_X5_addStation rfl rfl rfl (by decide +kernel) ⟨Nat.le_of_ble_eq_true rfl, Nat.le_of_ble_eq_true rfl⟩) (m_preV hF hK2 hCA hG hS (lay_main) rfl) rfl rfl hl.1 rfl (lv_room (Nat.le_of_ble_eq_true rfl)) dL_addStation_4 ⟨Nat.le_of_ble_eq_true rfl, Nat.le_of_ble_eq_true rfl⟩) hS (fun q h => h) (fun q _ h => h) (fun E9 ce q9 u t H locs ht9 _ _ hbx hS hce hcv hcl => ?_)
    obtain ⟨rfl, hG1⟩ := hbx
    have hG : g_P D (lay C g ad ln ex) ad B H := by rw [← ht9]; exact hG1
    refine vx_catch hown [] ({ startPc := 0, endPc := 9, handlerPc := 12, catchType := 13 } : ExceptionTableEntry) [({ startPc := 0, endPc := 9, handlerPc := 15, catchType := 15 } : ExceptionTableEntry)] (htab.trans rfl) (fun z hz => nomatch hz) rfl (by decide) (hts (.classLink RL 13 "java/lang/IllegalArgumentException") (by decide +kernel)) (va_Nw.use rfl hCA) hce hcv hcl ?_
    refine W.eq (g2 := F0 m 12 ls [.ref q9]) rfl ?_
    refine W.widen (k := 15) (n := 3639) (by omega) (by omega) ?_
    refine lv_astore_n (lv' := [(3, .ref q9), (0, .ref (ad (0, 0, 0))), (1, .int x), (2, .ref (ad (50, 0, 0)))]) hx hb dL_addStation_12 rfl hl (by decide) rfl (fun ls hl => ?_)
    refine lv_iconst (v := nI 1) hx hb dL_addStation_13 (by decide) ?_
    exact W.iret (v := nI 1) hx hb hr (fun t9 ht9 hW9 => ⟨⟨_, (_, ad, f), rfl, ⟨oK_0 hex, Or.inr ⟨hbad, rfl⟩⟩, by show g_P D _ _ B t9.heap; rw [ht9]; exact hG⟩, hS.F ht9⟩) hS.2.2 dL_addStation_14

set_option maxHeartbeats 4000000 in
set_option maxRecDepth 100000 in
theorem p_addRelay (l : Launch) (hst : l.stackTraces = false) {D : va_G} {C : g_C} {E : m_C} {g : g_k → Nat → Int32} {ad ln : g_k → Nat} {ex : g_k → Option va_E} {B : Nat} (hg0 : ∀ c j, g c j = 0) (hl0 : ∀ c, ln c = 0) {f : Nat → Int64} (hex : ex (50, 0, 0) = some (.inl (E.2, 1, .inr (.inl f)))) {x y z v4 : Int32} : Met l yL_addRelay wsL_addRelay ({ frames := 8, cells := 1, slots := 6, locals := 127 } : Room) (va_Pc [.ref (ad (0, 0, 0)), .int x, .int y, .int z, .int v4, .ref (ad (50, 0, 0))] (m_S D C E (lay C g ad ln ex) ad B)) (va_Qi (fun (r : Int32) (u : (g_k → Option va_E) × (g_k → Nat) × (Nat → Int64)) => oK E ex ad u ∧ ((((nI 0 ≤ x ∧ x ≤ nI 359) ∧ ((-30) ≤ y ∧ y ≤ nI 30) ∧ (nI 0 ≤ z ∧ z ≤ nI 179) ∧ (nI 1 ≤ v4 ∧ v4 ≤ nI 9)) ∧ r = nI 0 ∧ u.2.2 0 = (nI 0).toInt64) ∨ (¬ ((nI 0 ≤ x ∧ x ≤ nI 359) ∧ ((-30) ≤ y ∧ y ≤ nI 30) ∧ (nI 0 ≤ z ∧ z ≤ nI 179) ∧ (nI 1 ≤ v4 ∧ v4 ≤ nI 9)) ∧ r = nI 1))) (fun u t => g_P D u.1 u.2.1 B t.heap) (g_A B)) 1 6 (g_A B) := by
  refine g_ofWW (cc := cL_addRelay) (maxL := 7) (ret := some .int) (hh := [(0, 14, 17, 13), (0, 14, 21, 15)]) (by decide +kernel) rfl ?_
  intro p e s m args below meth c s₁ B₀ hml hv
  obtain ⟨rfl, ⟨hG, hF⟩, hK2, hCA⟩ := hv
  have hK := hF.1
  have hN := hF.2.1
  have hB := hF.2.2.2
  have hx := B₀.exec
  have hb := B₀.bytes
  have hr := B₀.returns
  have hts := atoms_spec (ws := wsL_addRelay) B₀.pre
  have hown : s.vm.findClass RL = some m.cls := findClass_of_methodNamed B₀.named
  have hlocks := B₀.notSynchronized
  have hS : va_S (g_A B) s.heap s.heap [] := va_S.rf
  have hl := lv_entry [.ref (ad (0, 0, 0)), .int x, .int y, .int z, .int v4, .ref (ad (50, 0, 0))] (n := 7) (Nat.le_of_ble_eq_true rfl)
  rw [lg_entry_eq]
  generalize (lg_sl [.ref (ad (0, 0, 0)), .int x, .int y, .int z, .int v4, .ref (ad (50, 0, 0))] ++ List.replicate (7 - (lg_sl [.ref (ad (0, 0, 0)), .int x, .int y, .int z, .int v4, .ref (ad (50, 0, 0))]).length) Slot.unset).toArray = ls at hl ⊢
  have hl : lv_has ls 7 [(0, .ref (ad (0, 0, 0))), (1, .int x), (2, .int y), (3, .int z), (4, .int v4), (5, .ref (ad (50, 0, 0)))] := hl
  refine lv_aload hx hb dL_addRelay_0 (lv_at hl 5 rfl) ?_
  refine lv_iconst (v := nI 0) hx hb dL_addRelay_2 (by decide) ?_
  refine lv_aload_n hx hb dL_addRelay_3 rfl (lv_at hl 0 rfl) ?_
  refine lv_iload_n hx hb dL_addRelay_4 rfl (lv_at hl 1 rfl) ?_
  refine lv_iload_n hx hb dL_addRelay_5 rfl (lv_at hl 2 rfl) ?_
  refine lv_iload_n hx hb dL_addRelay_6 rfl (lv_at hl 3 rfl) ?_
  refine lv_iload hx hb dL_addRelay_7 (lv_at hl 4 rfl) ?_
  rcases Classical.em ((nI 0 ≤ x ∧ x ≤ nI 359) ∧ ((-30) ≤ y ∧ y ≤ nI 30) ∧ (nI 0 ≤ z ∧ z ≤ nI 179) ∧ (nI 1 ≤ v4 ∧ v4 ≤ nI 9)) with hbad | hbad
  · obtain ⟨c0, c1, c2, c3⟩ := id hbad
    obtain ⟨a, ha0, ha9, ea⟩ := in_nI c0 (by decide) (by decide)
    subst ea
    obtain ⟨b, hb0, hb9, eb⟩ := in_nI c2 (by decide) (by decide)
    subst eb
    obtain ⟨d, hd0, hd9, ed⟩ := in_nI c3 (by decide) (by decide)
    subst ed
    refine va_calli (va_runV (As := [.int (nI a), .int y, .int (nI b), .int (nI d)]) (rest := [.int (nI 0), .ref (ad (50, 0, 0))]) ⟨hx, hb, hml, hown, hts⟩ (c_addRelay l (n := 0) (by decide) ((hg0 _ _).trans nI_0.symm) (st_sk g hg0) (x := a) (z := b) (k := d) (rc := 0) (y := y) (by omega) c1.1 c1.2 (by omega) (by omega) (by omega) ((hg0 _ _).trans nI_0.symm) (by decide)) (cwV 4 hts gL_addRelay_X5_addRelay rfl rfl rfl (by decide +kernel) ⟨Nat.le_of_ble_eq_true rfl, Nat.le_of_ble_eq_true rfl⟩) (g_preV hF hG hS (lay_main) rfl) rfl rfl hl.1 rfl (lv_room (Nat.le_of_ble_eq_true rfl)) dL_addRelay_9 ⟨Nat.le_of_ble_eq_true rfl, Nat.le_of_ble_eq_true rfl⟩) hS (fun q _ h => h) (fun q h => h) (fun r_1 g_3 t9 H locs ht9 _ h_2 hB1 _ _ hS => ?_)
    have hG : g_P D (lay C g_3 ad ln ex) ad B H := by rw [← ht9]; exact hB1
    obtain ⟨er, -⟩ := h_2
    refine lv_to (y := nI 0) (er) ?_
    have hada : ∀ c : g_k, 50 ≤ c.1 → ad c = ad c := fun _ _ => rfl
    refine W.widen (k := 1) (n := 6) (by omega) (by omega) ?_
    refine lv_i2l hx hb dL_addRelay_12 rfl ?_
    refine g_last hx hb hK2 hG hS (cd := (50, 0, 0)) ((lay_ex (by decide)).trans hex) (j := 0) (by decide) (by decide) dL_addRelay_13 (fun H locs hG hS => ?_)
    refine lv_goto (tgt := 25) hx hb dL_addRelay_14 (by decide) ?_
    refine lv_iconst (v := nI 0) hx hb dL_addRelay_25 (by decide) ?_
    exact W.iret (v := nI 0) hx hb hr (fun t9 ht9 hW9 => ⟨⟨_, (_, ad, vp_updL f 0 (nI 0).toInt64), rfl, ⟨oK_1 hada, Or.inl ⟨hbad, rfl, updL_0 f (nI 0).toInt64⟩⟩, by show g_P D _ _ B t9.heap; rw [ht9]; exact hG⟩, hS.F ht9⟩) hS.2.2 dL_addRelay_26
  · have htab := vx_table (x := yL_addRelay) B₀ (hts (.codeWith yL_addRelay cL_addRelay 7 (some .int) [(0, 14, 17, 13), (0, 14, 21, 15)]) List.mem_cons_self)
    refine vx_callx (vx_runV (As := [.int x, .int y, .int z, .int v4]) (rest := [.int (nI 0), .ref (ad (50, 0, 0))]) ⟨hx, hb, hml, hown, hts⟩ (z_addRelay l hst hbad) (cwV 4 hts gL_addRelay_X5_addRelay rfl rfl rfl (by decide +kernel) ⟨Nat.le_of_ble_eq_true rfl, Nat.le_of_ble_eq_true rfl⟩) (m_preV hF hK2 hCA hG hS (lay_main) rfl) rfl rfl hl.1 rfl (lv_room (Nat.le_of_ble_eq_true rfl)) dL_addRelay_9 ⟨Nat.le_of_ble_eq_true rfl, Nat.le_of_ble_eq_true rfl⟩) hS (fun q h => h) (fun q _ h => h) (fun E9 ce q9 u t H locs ht9 _ _ hbx hS hce hcv hcl => ?_)
    obtain ⟨rfl, hG1⟩ := hbx
    have hG : g_P D (lay C g ad ln ex) ad B H := by rw [← ht9]; exact hG1
    refine vx_catch hown [] ({ startPc := 0, endPc := 14, handlerPc := 17, catchType := 13 } : ExceptionTableEntry) [({ startPc := 0, endPc := 14, handlerPc := 21, catchType := 15 } : ExceptionTableEntry)] (htab.trans rfl) (fun z hz => nomatch hz) rfl (by decide) (hts (.classLink RL 13 "java/lang/IllegalArgumentException") (by decide +kernel)) (va_Nw.use rfl hCA) hce hcv hcl ?_
    refine W.eq (g2 := F0 m 17 ls [.ref q9]) rfl ?_
    refine W.widen (k := 1) (n := 6) (by omega) (by omega) ?_
    refine lv_astore (lv' := [(6, .ref q9), (0, .ref (ad (0, 0, 0))), (1, .int x), (2, .int y), (3, .int z), (4, .int v4), (5, .ref (ad (50, 0, 0)))]) hx hb dL_addRelay_17 hl (by decide) rfl (fun ls hl => ?_)
    refine lv_iconst (v := nI 1) hx hb dL_addRelay_19 (by decide) ?_
    exact W.iret (v := nI 1) hx hb hr (fun t9 ht9 hW9 => ⟨⟨_, (_, ad, f), rfl, ⟨oK_0 hex, Or.inr ⟨hbad, rfl⟩⟩, by show g_P D _ _ B t9.heap; rw [ht9]; exact hG⟩, hS.F ht9⟩) hS.2.2 dL_addRelay_20

set_option maxHeartbeats 4000000 in
set_option maxRecDepth 100000 in
theorem p_pass (l : Launch) (hst : l.stackTraces = false) {D : va_G} {C : g_C} {E : m_C} {g : g_k → Nat → Int32} {ad ln : g_k → Nat} {ex : g_k → Option va_E} {B : Nat} (hg0 : ∀ c j, g c j = 0) (hl0 : ∀ c, ln c = 0) {f : Nat → Int64} (hex : ex (50, 0, 0) = some (.inl (E.2, 1, .inr (.inl f)))) {x : Int32} : Met l yL_pass wsL_pass ({ frames := 8, cells := 1200, slots := 30000, locals := 162 } : Room) (va_Pc [.ref (ad (0, 0, 0)), .int x, .ref (ad (50, 0, 0))] (m_S D C E (lay C g ad ln ex) ad B)) (va_Qi (fun (r : Int32) (u : (g_k → Option va_E) × (g_k → Nat) × (Nat → Int64)) => oK E ex ad u ∧ (((nI 1 ≤ x ∧ x ≤ nI 30) ∧ r = nI 0 ∧ u.2.2 0 = (nI 0).toInt64) ∨ (¬ (nI 1 ≤ x ∧ x ≤ nI 30) ∧ r = nI 1))) (fun u t => g_P D u.1 u.2.1 B t.heap) (g_A B)) 1200 30000 (g_A B) := by
  refine g_ofWW (cc := cL_pass) (maxL := 4) (ret := some .int) (hh := [(0, 9, 12, 13), (0, 9, 15, 15)]) (by decide +kernel) rfl ?_
  intro p e s m args below meth c s₁ B₀ hml hv
  obtain ⟨rfl, ⟨hG, hF⟩, hK2, hCA⟩ := hv
  have hK := hF.1
  have hN := hF.2.1
  have hB := hF.2.2.2
  have hx := B₀.exec
  have hb := B₀.bytes
  have hr := B₀.returns
  have hts := atoms_spec (ws := wsL_pass) B₀.pre
  have hown : s.vm.findClass RL = some m.cls := findClass_of_methodNamed B₀.named
  have hlocks := B₀.notSynchronized
  have hS : va_S (g_A B) s.heap s.heap [] := va_S.rf
  have hl := lv_entry [.ref (ad (0, 0, 0)), .int x, .ref (ad (50, 0, 0))] (n := 4) (Nat.le_of_ble_eq_true rfl)
  rw [lg_entry_eq]
  generalize (lg_sl [.ref (ad (0, 0, 0)), .int x, .ref (ad (50, 0, 0))] ++ List.replicate (4 - (lg_sl [.ref (ad (0, 0, 0)), .int x, .ref (ad (50, 0, 0))]).length) Slot.unset).toArray = ls at hl ⊢
  have hl : lv_has ls 4 [(0, .ref (ad (0, 0, 0))), (1, .int x), (2, .ref (ad (50, 0, 0)))] := hl
  refine lv_aload_n hx hb dL_pass_0 rfl (lv_at hl 2 rfl) ?_
  refine lv_iconst (v := nI 0) hx hb dL_pass_1 (by decide) ?_
  refine lv_aload_n hx hb dL_pass_2 rfl (lv_at hl 0 rfl) ?_
  refine lv_iload_n hx hb dL_pass_3 rfl (lv_at hl 1 rfl) ?_
  rcases Classical.em (nI 1 ≤ x ∧ x ≤ nI 30) with hbad | hbad
  · obtain ⟨k, hk0, hk9, ek⟩ := in_nI hbad (by decide) (by decide)
    subst ek
    have hus : us 0 k ≤ us 0 30 := us_le 0 hk9
    have hu3 : us 0 30 ≤ 30000 := by decide +kernel
    refine va_calli (va_runV (As := [.int (nI k)]) (rest := [.int (nI 0), .ref (ad (50, 0, 0))]) ⟨hx, hb, hml, hown, hts⟩ (c_pass l (n := 0) (by decide) ((hg0 _ _).trans nI_0.symm) (M := 0) (hl0 _) (by decide) ((hg0 _ _).trans nI_0.symm) (sta := 0) (t := 0) (src := fun _ => 0) (to := fun _ => 0) (fun i _ => ⟨fun h9 => absurd ((hl0 _).symm.trans h9) (by decide), fun h9 => absurd h9 (Nat.not_lt_zero i)⟩) (Nat.le_refl 0) (fun j hj => absurd hj (Nat.not_lt_zero j)) ((hg0 _ _).trans nI_0.symm) (fun j hj => absurd hj (Nat.not_lt_zero j)) (fun j hj => absurd hj (Nat.not_lt_zero j)) (k := k) hk0 hk9 (by omega)) (cwV 1 hts gL_pass_X5_pass rfl rfl rfl (by decide +kernel) ⟨Nat.le_of_ble_eq_true rfl, Nat.le_of_ble_eq_true rfl⟩) (g_preV hF hG hS (lay_main) rfl) rfl rfl hl.1 rfl (lv_room (Nat.le_of_ble_eq_true rfl)) dL_pass_4 ⟨(by show 0 + 40 * k ≤ 1200; omega), (by show 0 + us 0 k ≤ 30000; omega)⟩) hS (fun q _ h => h) (fun q h => h) (fun r_1 u9 t9 H locs ht9 _ h_2 hB1 _ _ hS => ?_)
    obtain ⟨g_3, ad_5, ln_4⟩ := u9
    dsimp only at h_2
    have hG : g_P D (lay C g_3 ad_5 ln_4 ex) ad_5 B H := by rw [← ht9]; exact hB1
    obtain ⟨⟨-, fad, -⟩, -, -, -, -, q, hq, er, -⟩ := h_2
    have hq0 : q = 0 := by omega
    subst hq0
    refine lv_to (y := nI 0) (er) ?_
    have hada : ∀ c : g_k, 50 ≤ c.1 → ad_5 c = ad c := fun c hc9 => fad c (by omega) (by omega)
    refine W.eq (g2 := F0 m 7 ls [.int (nI 0), .int (nI 0), .ref (ad_5 (50, 0, 0))]) (by rw [hada _ (by decide)]) ?_
    refine W.widen (k := 1200) (n := 30000) (by omega) (by omega) ?_
    refine lv_i2l hx hb dL_pass_7 rfl ?_
    refine g_last hx hb hK2 hG hS (cd := (50, 0, 0)) ((lay_ex (by decide)).trans hex) (j := 0) (by decide) (by decide) dL_pass_8 (fun H locs hG hS => ?_)
    refine lv_goto (tgt := 18) hx hb dL_pass_9 (by decide) ?_
    refine lv_iconst (v := nI 0) hx hb dL_pass_18 (by decide) ?_
    exact W.iret (v := nI 0) hx hb hr (fun t9 ht9 hW9 => ⟨⟨_, (_, ad_5, vp_updL f 0 (nI 0).toInt64), rfl, ⟨oK_1 hada, Or.inl ⟨hbad, rfl, updL_0 f (nI 0).toInt64⟩⟩, by show g_P D _ _ B t9.heap; rw [ht9]; exact hG⟩, hS.F ht9⟩) hS.2.2 dL_pass_19
  · have htab := vx_table (x := yL_pass) B₀ (hts (.codeWith yL_pass cL_pass 4 (some .int) [(0, 9, 12, 13), (0, 9, 15, 15)]) List.mem_cons_self)
    refine vx_callx (vx_runV (As := [.int x]) (rest := [.int (nI 0), .ref (ad (50, 0, 0))]) ⟨hx, hb, hml, hown, hts⟩ (z_pass l hst hbad) (cwV 1 hts gL_pass_X5_pass rfl rfl rfl (by decide +kernel) ⟨Nat.le_of_ble_eq_true rfl, Nat.le_of_ble_eq_true rfl⟩) (m_preV hF hK2 hCA hG hS (lay_main) rfl) rfl rfl hl.1 rfl (lv_room (Nat.le_of_ble_eq_true rfl)) dL_pass_4 ⟨Nat.le_of_ble_eq_true rfl, Nat.le_of_ble_eq_true rfl⟩) hS (fun q h => h) (fun q _ h => h) (fun E9 ce q9 u t H locs ht9 _ _ hbx hS hce hcv hcl => ?_)
    obtain ⟨rfl, hG1⟩ := hbx
    have hG : g_P D (lay C g ad ln ex) ad B H := by rw [← ht9]; exact hG1
    refine vx_catch hown [] ({ startPc := 0, endPc := 9, handlerPc := 12, catchType := 13 } : ExceptionTableEntry) [({ startPc := 0, endPc := 9, handlerPc := 15, catchType := 15 } : ExceptionTableEntry)] (htab.trans rfl) (fun z hz => nomatch hz) rfl (by decide) (hts (.classLink RL 13 "java/lang/IllegalArgumentException") (by decide +kernel)) (va_Nw.use rfl hCA) hce hcv hcl ?_
    refine W.eq (g2 := F0 m 12 ls [.ref q9]) rfl ?_
    refine W.widen (k := 1200) (n := 30000) (by omega) (by omega) ?_
    refine lv_astore_n (lv' := [(3, .ref q9), (0, .ref (ad (0, 0, 0))), (1, .int x), (2, .ref (ad (50, 0, 0)))]) hx hb dL_pass_12 rfl hl (by decide) rfl (fun ls hl => ?_)
    refine lv_iconst (v := nI 1) hx hb dL_pass_13 (by decide) ?_
    exact W.iret (v := nI 1) hx hb hr (fun t9 ht9 hW9 => ⟨⟨_, (_, ad, f), rfl, ⟨oK_0 hex, Or.inr ⟨hbad, rfl⟩⟩, by show g_P D _ _ B t9.heap; rw [ht9]; exact hG⟩, hS.F ht9⟩) hS.2.2 dL_pass_14
