abbrev F_mo (ad : g_k → Nat) (a : Nat → Int32) : List Value := [.ref (ad (61, 0, 0)), .ref (ad (62, 0, 0)), .ref (ad (63, 0, 0)), .ref (ad (64, 0, 0)), .ref (ad (65, 0, 0)), .int (a 5), .int (a 6), .ref (ad (66, 0, 0)), .ref (ad (67, 0, 0)), .ref (ad (68, 0, 0)), .ref (ad (69, 0, 0)), .ref (ad (70, 0, 0)), .ref (ad (71, 0, 0)), .ref (ad (72, 0, 0)), .int (a 14), .ref (ad (73, 0, 0)), .int (a 16), .int (a 17), .int (a 18)]
def mo0 (E : m_C) (C : g_C) (h : g_k → Nat → Int32) (ad : g_k → Nat) : g_k → Option va_E := fun c =>
  if c = (60, 0, 0) then some (.inr (6, F_mo ad (h c)))
  else if c = (61, 0, 0) then some (.inl (C.1, 10, .inl (h c)))
  else if c = (62, 0, 0) then some (.inl (C.1, 10, .inl (h c)))
  else if c = (63, 0, 0) then some (.inl (C.1, 10, .inl (h c)))
  else if c = (64, 0, 0) then some (.inl (C.1, 10, .inl (h c)))
  else if c = (65, 0, 0) then some (.inl (E.1, 10, .inl (h c)))
  else if c = (66, 0, 0) then some (.inl (C.1, 3600, .inl (h c)))
  else if c = (67, 0, 0) then some (.inl (C.1, 10, .inl (h c)))
  else if c = (68, 0, 0) then some (.inl (C.1, 10, .inl (h c)))
  else if c = (69, 0, 0) then some (.inl (C.1, 20, .inl (h c)))
  else if c = (70, 0, 0) then some (.inl (C.1, 20, .inl (h c)))
  else if c = (71, 0, 0) then some (.inl (C.1, 20, .inl (h c)))
  else if c = (72, 0, 0) then some (.inl (C.1, 20, .inl (h c)))
  else if c = (73, 0, 0) then some (.inl (C.1, 60000, .inl (h c)))
  else none
/-- the reference, laid over vw -/
def mo (E : m_C) (C : g_C) (h : g_k → Nat → Int32) (ad : g_k → Nat) (vw : g_k → Option va_E) : g_k → Option va_E := fun c => (mo0 E C h ad c).or (vw c)
section MO
variable {E : m_C} {C : g_C} {h h1 : g_k → Nat → Int32} {ad ad1 : g_k → Nat} {vw v : g_k → Option va_E}
theorem mo_obj : mo E C h ad vw (60, 0, 0) = some (.inr (6, F_mo ad (h (60, 0, 0)))) := by simp [mo, mo0]
theorem mo_61 : mo E C h ad vw (61, 0, 0) = some (.inl (C.1, 10, .inl (h (61, 0, 0)))) := by simp [mo, mo0]
theorem mo_62 : mo E C h ad vw (62, 0, 0) = some (.inl (C.1, 10, .inl (h (62, 0, 0)))) := by simp [mo, mo0]
theorem mo_63 : mo E C h ad vw (63, 0, 0) = some (.inl (C.1, 10, .inl (h (63, 0, 0)))) := by simp [mo, mo0]
theorem mo_64 : mo E C h ad vw (64, 0, 0) = some (.inl (C.1, 10, .inl (h (64, 0, 0)))) := by simp [mo, mo0]
theorem mo_65 : mo E C h ad vw (65, 0, 0) = some (.inl (E.1, 10, .inl (h (65, 0, 0)))) := by simp [mo, mo0]
theorem mo_66 : mo E C h ad vw (66, 0, 0) = some (.inl (C.1, 3600, .inl (h (66, 0, 0)))) := by simp [mo, mo0]
theorem mo_67 : mo E C h ad vw (67, 0, 0) = some (.inl (C.1, 10, .inl (h (67, 0, 0)))) := by simp [mo, mo0]
theorem mo_68 : mo E C h ad vw (68, 0, 0) = some (.inl (C.1, 10, .inl (h (68, 0, 0)))) := by simp [mo, mo0]
theorem mo_69 : mo E C h ad vw (69, 0, 0) = some (.inl (C.1, 20, .inl (h (69, 0, 0)))) := by simp [mo, mo0]
theorem mo_70 : mo E C h ad vw (70, 0, 0) = some (.inl (C.1, 20, .inl (h (70, 0, 0)))) := by simp [mo, mo0]
theorem mo_71 : mo E C h ad vw (71, 0, 0) = some (.inl (C.1, 20, .inl (h (71, 0, 0)))) := by simp [mo, mo0]
theorem mo_72 : mo E C h ad vw (72, 0, 0) = some (.inl (C.1, 20, .inl (h (72, 0, 0)))) := by simp [mo, mo0]
theorem mo_73 : mo E C h ad vw (73, 0, 0) = some (.inl (C.1, 60000, .inl (h (73, 0, 0)))) := by simp [mo, mo0]
theorem mo0_lo {a i j : Nat} (ha : a < 60) : mo0 E C h ad (a, i, j) = none := by
  have h9 : a ≠ 60 ∧ a ≠ 61 ∧ a ≠ 62 ∧ a ≠ 63 ∧ a ≠ 64 ∧ a ≠ 65 ∧ a ≠ 66 ∧ a ≠ 67 ∧ a ≠ 68 ∧ a ≠ 69 ∧ a ≠ 70 ∧ a ≠ 71 ∧ a ≠ 72 ∧ a ≠ 73 := by omega
  simp [mo0, h9]
theorem mo_cong (c : g_k) (hc : h c = h1 c) : mo E C h ad vw c = mo E C h1 ad vw c := by
  unfold mo mo0
  rw [hc]
theorem mo_up {c : g_k} {k : Nat} {x : Int32} {e : va_E} (he : mo E C (g2 h c k x) ad vw c = some e) : k_up (mo E C h ad vw) c (some e) = mo E C (g2 h c k x) ad vw := by
  funext d
  by_cases hd : d = c
  · subst hd
    rw [k_up_self, he]
  · rw [k_up_ne _ _ hd]
    exact mo_cong d (g2_ne h k x hd).symm
theorem mo0_ad (ha : ∀ c : g_k, 51 ≤ c.1 → ad1 c = ad c) : mo0 E C h ad1 = mo0 E C h ad := by
  have eF : F_mo ad1 = F_mo ad := by
    funext a
    simp only [F_mo, ha (61, 0, 0) (by decide), ha (62, 0, 0) (by decide), ha (63, 0, 0) (by decide), ha (64, 0, 0) (by decide), ha (65, 0, 0) (by decide), ha (66, 0, 0) (by decide), ha (67, 0, 0) (by decide), ha (68, 0, 0) (by decide), ha (69, 0, 0) (by decide), ha (70, 0, 0) (by decide), ha (71, 0, 0) (by decide), ha (72, 0, 0) (by decide), ha (73, 0, 0) (by decide)]
  funext c
  unfold mo0
  rw [eF]
theorem mo_fix (hv : ∀ c : g_k, 51 ≤ c.1 → v c = mo E C h ad vw c) (ha : ∀ c : g_k, 51 ≤ c.1 → ad1 c = ad c) : mo E C h ad1 v = v := by
  funext c
  unfold mo
  rw [mo0_ad ha]
  by_cases hc : 51 ≤ c.1
  · have h9 := hv c hc
    unfold mo at h9
    cases hm : mo0 E C h ad c with
    | none => rfl
    | some e =>
      rw [hm] at h9
      rw [h9]
      rfl
  · obtain ⟨a, i, j⟩ := c
    have h8 : ¬ 51 ≤ a := hc
    rw [mo0_lo (by omega)]
    rfl
theorem lay_exc {g : g_k → Nat → Int32} {ln : g_k → Nat} {ex ex' : g_k → Option va_E} {a i j : Nat} (ha : a < 50) : lay C g ad ln ex (a, i, j) = lay C g ad ln ex' (a, i, j) := by
  unfold lay
  simp only [if_pos ha]
theorem lay_mo {g : g_k → Nat → Int32} {ln : g_k → Nat} {ex : g_k → Option va_E} : mo E C h ad1 (lay C g ad ln ex) = lay C g ad ln (mo E C h ad1 ex) := by
  funext c
  obtain ⟨a, i, j⟩ := c
  by_cases ha : 50 ≤ a
  · rw [lay_ex ha]
    unfold mo
    rw [lay_ex ha]
  · rw [lay_exc (ex' := ex) (by omega)]
    unfold mo
    rw [mo0_lo (by omega)]
    rfl
theorem mo_of (h60 : v (60, 0, 0) = some (.inr (6, F_mo ad (h (60, 0, 0))))) (h61 : v (61, 0, 0) = some (.inl (C.1, 10, .inl (h (61, 0, 0))))) (h62 : v (62, 0, 0) = some (.inl (C.1, 10, .inl (h (62, 0, 0))))) (h63 : v (63, 0, 0) = some (.inl (C.1, 10, .inl (h (63, 0, 0))))) (h64 : v (64, 0, 0) = some (.inl (C.1, 10, .inl (h (64, 0, 0))))) (h65 : v (65, 0, 0) = some (.inl (E.1, 10, .inl (h (65, 0, 0))))) (h66 : v (66, 0, 0) = some (.inl (C.1, 3600, .inl (h (66, 0, 0))))) (h67 : v (67, 0, 0) = some (.inl (C.1, 10, .inl (h (67, 0, 0))))) (h68 : v (68, 0, 0) = some (.inl (C.1, 10, .inl (h (68, 0, 0))))) (h69 : v (69, 0, 0) = some (.inl (C.1, 20, .inl (h (69, 0, 0))))) (h70 : v (70, 0, 0) = some (.inl (C.1, 20, .inl (h (70, 0, 0))))) (h71 : v (71, 0, 0) = some (.inl (C.1, 20, .inl (h (71, 0, 0))))) (h72 : v (72, 0, 0) = some (.inl (C.1, 20, .inl (h (72, 0, 0))))) (h73 : v (73, 0, 0) = some (.inl (C.1, 60000, .inl (h (73, 0, 0))))) (hr : ∀ c : g_k, c ≠ (60, 0, 0) → c ≠ (61, 0, 0) → c ≠ (62, 0, 0) → c ≠ (63, 0, 0) → c ≠ (64, 0, 0) → c ≠ (65, 0, 0) → c ≠ (66, 0, 0) → c ≠ (67, 0, 0) → c ≠ (68, 0, 0) → c ≠ (69, 0, 0) → c ≠ (70, 0, 0) → c ≠ (71, 0, 0) → c ≠ (72, 0, 0) → c ≠ (73, 0, 0) → v c = vw c) : v = mo E C h ad vw := by
  funext d
  by_cases e60 : d = (60, 0, 0)
  · subst e60; rw [h60, mo_obj]
  by_cases e61 : d = (61, 0, 0)
  · subst e61; rw [h61, mo_61]
  by_cases e62 : d = (62, 0, 0)
  · subst e62; rw [h62, mo_62]
  by_cases e63 : d = (63, 0, 0)
  · subst e63; rw [h63, mo_63]
  by_cases e64 : d = (64, 0, 0)
  · subst e64; rw [h64, mo_64]
  by_cases e65 : d = (65, 0, 0)
  · subst e65; rw [h65, mo_65]
  by_cases e66 : d = (66, 0, 0)
  · subst e66; rw [h66, mo_66]
  by_cases e67 : d = (67, 0, 0)
  · subst e67; rw [h67, mo_67]
  by_cases e68 : d = (68, 0, 0)
  · subst e68; rw [h68, mo_68]
  by_cases e69 : d = (69, 0, 0)
  · subst e69; rw [h69, mo_69]
  by_cases e70 : d = (70, 0, 0)
  · subst e70; rw [h70, mo_70]
  by_cases e71 : d = (71, 0, 0)
  · subst e71; rw [h71, mo_71]
  by_cases e72 : d = (72, 0, 0)
  · subst e72; rw [h72, mo_72]
  by_cases e73 : d = (73, 0, 0)
  · subst e73; rw [h73, mo_73]
  rw [hr d e60 e61 e62 e63 e64 e65 e66 e67 e68 e69 e70 e71 e72 e73]
  simp [mo, mo0, e60, e61, e62, e63, e64, e65, e66, e67, e68, e69, e70, e71, e72, e73]
end MO
theorem t_z : (0 : Int32).toInt = 0 := by decide +kernel
theorem t_m30 : (-30 : Int32).toInt = -30 := by decide +kernel
theorem t_m1 : (-1 : Int32).toInt = -1 := by decide +kernel
theorem t_0 : (nI 0).toInt = 0 := by decide +kernel
theorem t_1 : (nI 1).toInt = 1 := by decide +kernel
theorem t_4 : (nI 4).toInt = 4 := by decide +kernel
theorem t_6 : (nI 6).toInt = 6 := by decide +kernel
theorem t_9 : (nI 9).toInt = 9 := by decide +kernel
theorem t_20 : (nI 20).toInt = 20 := by decide +kernel
theorem t_30 : (nI 30).toInt = 30 := by decide +kernel
theorem t_179 : (nI 179).toInt = 179 := by decide +kernel
theorem t_359 : (nI 359).toInt = 359 := by decide +kernel
theorem t_360 : (nI 360).toInt = 360 := by decide +kernel
theorem t_1000000 : (nI 1000000).toInt = 1000000 := by decide +kernel
section QROWS
variable {p : Program} {l : Launch} {e : Env} {R : Room} {s : State} {m : MethodId} {args : Array Value} {below : List Frame} {meth : Method} {c : Code} {H : Heap} {locs : List Loc} {cells slots : Nat} {Q : State → Prop}
variable {cc : ByteArray} {pc : Nat} {ls : Array Slot} {rest : List Value} {D : va_G} {C : g_C} {E : m_C} {h : g_k → Nat → Int32} {ad : g_k → Nat} {vw : g_k → Option va_E} {B : Nat} {H0 : Heap} {tys : List (ClassId × FieldType)}
theorem q_put (hx : p.tables.exec = Jvm.exec) (hb : c.code = cc) {index : Nat} {Ts : List Cond} (hts : ∀ w ∈ Ts, w.before args s = true) (hin : ∀ w ∈ wsX60, w ∈ Ts) (hown : s.vm.findClass RX6 = some m.cls) (hK : va_K D vwCl tys s) (hG : g_P D (mo E C h ad vw) ad B H) (hS : va_S (g_A B) H0 H locs) (k : Nat) (hk : k < 19) (hint : tyX6 k = .int) (hfin : (TX6 k).2.2.2 = false) (hlink : (Cond.fieldLink RX6 index (TX6 k).1 (TX6 k).2.1 (TX6 k).2.2.1).before args s = true) {x : Int32} (hF9 : (F_mo ad (h (60, 0, 0))).set k (.int x) = F_mo ad (upd (h (60, 0, 0)) k x)) (hdg : decode cc pc = .ok (.putfield index, 3))
    (kk : ∀ (H1 : Heap) (locs1 : List Loc), g_P D (mo E C (g2 h (60, 0, 0) k x) ad vw) ad B H1 → va_S (g_A B) H0 H1 locs1 → W p l e R s m args below meth c H1 locs1 cells slots Q (F0 m (pc + 3) ls rest)) : W p l e R s m args below meth c H locs cells slots Q (F0 m pc ls (.int x :: .ref (ad (60, 0, 0)) :: rest)) :=
  g_put hx hb hts hin tyX6 tyX6_ok nmX6 hown hK hG hS mo_obj (ci := 6) rfl k hk hlink hfin (by rw [hint]; rfl) (by rw [hint]; rfl) hk hdg (fun H1 locs1 p1 s1 => kk H1 locs1 (p1.to (by rw [hF9]; exact mo_up (by rw [mo_obj, g2_self])) rfl) s1)
theorem q_iast (hx : p.tables.exec = Jvm.exec) (hb : c.code = cc) (hK : va_K D vwCl (g_T C) s) (hG : g_P D (mo E C h ad vw) ad B H) (hS : va_S (g_A B) H0 H locs) {cd : g_k} {n : Nat} (hO : ∀ h, mo E C h ad vw cd = some (.inl (C.1, n, .inl (h cd)))) {j : Nat} {x : Int32} (hj : j < n) (hn : n < 2 ^ 31) (hdg : decode cc pc = .ok (.iastore, 1))
    (kk : ∀ (H1 : Heap) (locs1 : List Loc), g_P D (mo E C (g2 h cd j x) ad vw) ad B H1 → va_S (g_A B) H0 H1 locs1 → W p l e R s m args below meth c H1 locs1 cells slots Q (F0 m (pc + 1) ls rest)) : W p l e R s m args below meth c H locs cells slots Q (F0 m pc ls (.int x :: .int (nI j) :: .ref (ad cd) :: rest)) :=
  g_iast hx hb hK hG hS (hO h) hj hn hdg (fun H1 locs1 p1 s1 => kk H1 locs1 (p1.to (mo_up (by rw [hO, g2_self])) rfl) s1)
theorem q_zast (hx : p.tables.exec = Jvm.exec) (hb : c.code = cc) (hK2 : va_K D vwCl (m_T E) s) (hG : g_P D (mo E C h ad vw) ad B H) (hS : va_S (g_A B) H0 H locs) {j : Nat} {x : Int32} (hj : j < 10) (hdg : decode cc pc = .ok (.bastore, 1))
    (kk : ∀ (H1 : Heap) (locs1 : List Loc), g_P D (mo E C (g2 h (65, 0, 0) j (vp_nar .boolean x)) ad vw) ad B H1 → va_S (g_A B) H0 H1 locs1 → W p l e R s m args below meth c H1 locs1 cells slots Q (F0 m (pc + 1) ls rest)) : W p l e R s m args below meth c H locs cells slots Q (F0 m pc ls (.int x :: .int (nI j) :: .ref (ad (65, 0, 0)) :: rest)) :=
  g_zast hx hb hK2 hG hS mo_65 hj (by decide) hdg (fun H1 locs1 p1 s1 => kk H1 locs1 (p1.to (mo_up (by rw [mo_65, g2_self])) rfl) s1)
end QROWS

set_option maxHeartbeats 4000000 in
set_option maxRecDepth 100000 in
theorem m_thrown (l : Launch) {D : va_G} {C : g_C} {E : m_C} {h : g_k → Nat → Int32} {ad : g_k → Nat} {vw : g_k → Option va_E} {B : Nat}  : Met l yX6_thrown wsX6_thrown ({ frames := 0, cells := 0, slots := 0, locals := 0 } : Room) (va_Pc [.ref (ad (60, 0, 0))] (m_S D C E (mo E C h ad vw) ad B)) (vp_Si (fun r => r = h (60, 0, 0) 18)) 0 0 (fun _ => False) := by
  refine Met.ofW (cc := cX6_thrown) (maxL := 1) (ret := (some .int)) (by decide) rfl ?_
  intro p e s m args below meth c s₁ B₀ hml hv
  obtain ⟨rfl, ⟨hG, hF⟩, hK2, hCA⟩ := hv
  have hK := hF.1
  have hN := hF.2.1
  have hB := hF.2.2.2
  have hx := B₀.exec
  have hb := B₀.bytes
  have hr := B₀.returns
  have hts := atoms_spec (ws := wsX6_thrown) B₀.pre
  have hown : s.vm.findClass RX6 = some m.cls := findClass_of_methodNamed B₀.named
  have hlocks := B₀.notSynchronized
  have hS : va_S (g_A B) s.heap s.heap [] := va_S.rf
  have hi6 : ∀ w ∈ wsX60, w ∈ wsX6_thrown := by decide +kernel
  have hl := lv_entry [.ref (ad (60, 0, 0))] (n := 1) (Nat.le_of_ble_eq_true rfl)
  rw [lg_entry_eq]
  generalize (lg_sl [.ref (ad (60, 0, 0))] ++ List.replicate (1 - (lg_sl [.ref (ad (60, 0, 0))]).length) Slot.unset).toArray = ls at hl ⊢
  have hl : lv_has ls 1 [(0, .ref (ad (60, 0, 0)))] := hl
  refine lv_aload_n hx hb dX6_thrown_0 rfl (lv_at hl 0 rfl) ?_
  refine g_get hx hb hts hi6 hown hK hG (mo_obj) rfl 18 (by decide) (hts (.fieldLink RX6 51 "SatelliteringModel" "thrown" "I") (by decide +kernel)) rfl dX6_thrown_1 ?_
  exact W.iret (v := h (60, 0, 0) 18) hx hb hr (fun t9 ht9 hW9 => ⟨_, rfl, rfl, ht9⟩) (fun q h => nomatch h) dX6_thrown_4

set_option maxHeartbeats 4000000 in
set_option maxRecDepth 100000 in
theorem m_goes1 (l : Launch) {D : va_G} {C : g_C} {E : m_C} {h : g_k → Nat → Int32} {ad : g_k → Nat} {vw : g_k → Option va_E} {B : Nat} {x y : Int32} : Met l yX6_goes wsX6_goes ({ frames := 0, cells := 0, slots := 0, locals := 0 } : Room) (va_Pc [.ref (ad (60, 0, 0)), .int (nI 0), .int x, .int y] (m_S D C E (mo E C h ad vw) ad B)) (va_Qi (fun (r : Int32) (h1 : g_k → Nat → Int32) => r = nI 0 ∧ h1 = g2 h (60, 0, 0) 18 (nI 1)) (fun h1 t => g_P D (mo E C h1 ad vw) ad B t.heap) (g_A B)) 0 0 (g_A B) := by
  refine Met.ofW (cc := cX6_goes) (maxL := 4) (ret := (some .boolean)) (by decide) rfl ?_
  intro p e s m args below meth c s₁ B₀ hml hv
  obtain ⟨rfl, ⟨hG, hF⟩, hK2, hCA⟩ := hv
  have hK := hF.1
  have hN := hF.2.1
  have hB := hF.2.2.2
  have hx := B₀.exec
  have hb := B₀.bytes
  have hr := B₀.returns
  have hts := atoms_spec (ws := wsX6_goes) B₀.pre
  have hown : s.vm.findClass RX6 = some m.cls := findClass_of_methodNamed B₀.named
  have hlocks := B₀.notSynchronized
  have hS : va_S (g_A B) s.heap s.heap [] := va_S.rf
  have hi6 : ∀ w ∈ wsX60, w ∈ wsX6_goes := by decide +kernel
  have hl := lv_entry [.ref (ad (60, 0, 0)), .int (nI 0), .int x, .int y] (n := 4) (Nat.le_of_ble_eq_true rfl)
  rw [lg_entry_eq]
  generalize (lg_sl [.ref (ad (60, 0, 0)), .int (nI 0), .int x, .int y] ++ List.replicate (4 - (lg_sl [.ref (ad (60, 0, 0)), .int (nI 0), .int x, .int y]).length) Slot.unset).toArray = ls at hl ⊢
  have hl : lv_has ls 4 [(0, .ref (ad (60, 0, 0))), (1, .int (nI 0)), (2, .int x), (3, .int y)] := hl
  refine lv_aload_n hx hb dX6_goes_0 rfl (lv_at hl 0 rfl) ?_
  refine lv_iload_n hx hb dX6_goes_1 rfl (lv_at hl 1 rfl) ?_
  refine lv_if_ne (tgt := 9) hx hb dX6_goes_2 (by decide) (fun c => absurd (by decide) c) (fun _ => ?_)
  refine lv_iconst (v := nI 1) hx hb dX6_goes_5 (by decide) ?_
  refine lv_goto (tgt := 26) hx hb dX6_goes_6 (by decide) ?_
  refine q_put hx hb hts hi6 hown hK hG hS 18 (by decide) rfl rfl (hts (.fieldLink RX6 51 "SatelliteringModel" "thrown" "I") (by decide +kernel)) (by simp [upd]) dX6_goes_26 (fun H locs hG hS => ?_)
  obtain ⟨h_1, eh_1⟩ : ∃ z9, z9 = g2 h (60, 0, 0) 18 (nI 1) := ⟨_, rfl⟩
  rw [← eh_1] at hG
  have f_2 : h_1 (60, 0, 0) 18 = nI 1 := by rw [eh_1, g2_self, upd_self]
  refine lv_aload_n hx hb dX6_goes_29 rfl (lv_at hl 0 rfl) ?_
  refine g_get hx hb hts hi6 hown hK hG (mo_obj) rfl 18 (by decide) (hts (.fieldLink RX6 51 "SatelliteringModel" "thrown" "I") (by decide +kernel)) rfl dX6_goes_30 ?_
  refine lv_to (y := nI 1) (f_2) ?_
  refine lv_if_ne (tgt := 40) hx hb dX6_goes_33 (by decide) (fun _ => ?_) (fun c => absurd c (by decide))
  refine lv_iconst (v := nI 0) hx hb dX6_goes_40 (by decide) ?_
  exact W.zret (v := nI 0) hx hb hr rfl (fun t9 ht9 hW9 => ⟨⟨_, h_1, rfl, ⟨rfl, eh_1⟩, by show g_P D _ _ B t9.heap; rw [ht9]; exact hG⟩, hS.F ht9⟩) hS.2.2 dX6_goes_41

set_option maxHeartbeats 4000000 in
set_option maxRecDepth 100000 in
theorem m_goes0 (l : Launch) {D : va_G} {C : g_C} {E : m_C} {h : g_k → Nat → Int32} {ad : g_k → Nat} {vw : g_k → Option va_E} {B : Nat}  : Met l yX6_goes wsX6_goes ({ frames := 0, cells := 0, slots := 0, locals := 0 } : Room) (va_Pc [.ref (ad (60, 0, 0)), .int (nI 1), .int (nI 1), .int (nI 1)] (m_S D C E (mo E C h ad vw) ad B)) (va_Qi (fun (r : Int32) (h1 : g_k → Nat → Int32) => r = nI 1 ∧ h1 = g2 h (60, 0, 0) 18 (nI 0)) (fun h1 t => g_P D (mo E C h1 ad vw) ad B t.heap) (g_A B)) 0 0 (g_A B) := by
  refine Met.ofW (cc := cX6_goes) (maxL := 4) (ret := (some .boolean)) (by decide) rfl ?_
  intro p e s m args below meth c s₁ B₀ hml hv
  obtain ⟨rfl, ⟨hG, hF⟩, hK2, hCA⟩ := hv
  have hK := hF.1
  have hN := hF.2.1
  have hB := hF.2.2.2
  have hx := B₀.exec
  have hb := B₀.bytes
  have hr := B₀.returns
  have hts := atoms_spec (ws := wsX6_goes) B₀.pre
  have hown : s.vm.findClass RX6 = some m.cls := findClass_of_methodNamed B₀.named
  have hlocks := B₀.notSynchronized
  have hS : va_S (g_A B) s.heap s.heap [] := va_S.rf
  have hi6 : ∀ w ∈ wsX60, w ∈ wsX6_goes := by decide +kernel
  have hl := lv_entry [.ref (ad (60, 0, 0)), .int (nI 1), .int (nI 1), .int (nI 1)] (n := 4) (Nat.le_of_ble_eq_true rfl)
  rw [lg_entry_eq]
  generalize (lg_sl [.ref (ad (60, 0, 0)), .int (nI 1), .int (nI 1), .int (nI 1)] ++ List.replicate (4 - (lg_sl [.ref (ad (60, 0, 0)), .int (nI 1), .int (nI 1), .int (nI 1)]).length) Slot.unset).toArray = ls at hl ⊢
  have hl : lv_has ls 4 [(0, .ref (ad (60, 0, 0))), (1, .int (nI 1)), (2, .int (nI 1)), (3, .int (nI 1))] := hl
  refine lv_aload_n hx hb dX6_goes_0 rfl (lv_at hl 0 rfl) ?_
  refine lv_iload_n hx hb dX6_goes_1 rfl (lv_at hl 1 rfl) ?_
  refine lv_if_ne (tgt := 9) hx hb dX6_goes_2 (by decide) (fun _ => ?_) (fun c => absurd c (by decide))
  refine lv_iload_n hx hb dX6_goes_9 rfl (lv_at hl 2 rfl) ?_
  refine lv_if_ne (tgt := 17) hx hb dX6_goes_10 (by decide) (fun _ => ?_) (fun c => absurd c (by decide))
  refine lv_iload_n hx hb dX6_goes_17 rfl (lv_at hl 3 rfl) ?_
  refine lv_if_ne (tgt := 25) hx hb dX6_goes_18 (by decide) (fun _ => ?_) (fun c => absurd c (by decide))
  refine lv_iconst (v := nI 0) hx hb dX6_goes_25 (by decide) ?_
  refine q_put hx hb hts hi6 hown hK hG hS 18 (by decide) rfl rfl (hts (.fieldLink RX6 51 "SatelliteringModel" "thrown" "I") (by decide +kernel)) (by simp [upd]) dX6_goes_26 (fun H locs hG hS => ?_)
  obtain ⟨h_1, eh_1⟩ : ∃ z9, z9 = g2 h (60, 0, 0) 18 (nI 0) := ⟨_, rfl⟩
  rw [← eh_1] at hG
  have f_2 : h_1 (60, 0, 0) 18 = nI 0 := by rw [eh_1, g2_self, upd_self]
  refine lv_aload_n hx hb dX6_goes_29 rfl (lv_at hl 0 rfl) ?_
  refine g_get hx hb hts hi6 hown hK hG (mo_obj) rfl 18 (by decide) (hts (.fieldLink RX6 51 "SatelliteringModel" "thrown" "I") (by decide +kernel)) rfl dX6_goes_30 ?_
  refine lv_to (y := nI 0) (f_2) ?_
  refine lv_if_ne (tgt := 40) hx hb dX6_goes_33 (by decide) (fun c => absurd (by decide) c) (fun _ => ?_)
  refine lv_iconst (v := nI 1) hx hb dX6_goes_36 (by decide) ?_
  refine lv_goto (tgt := 41) hx hb dX6_goes_37 (by decide) ?_
  exact W.zret (v := nI 1) hx hb hr rfl (fun t9 ht9 hW9 => ⟨⟨_, h_1, rfl, ⟨rfl, eh_1⟩, by show g_P D _ _ B t9.heap; rw [ht9]; exact hG⟩, hS.F ht9⟩) hS.2.2 dX6_goes_41

set_option maxHeartbeats 4000000 in
set_option maxRecDepth 100000 in
theorem m_isNode (l : Launch) {D : va_G} {C : g_C} {E : m_C} {h : g_k → Nat → Int32} {ad : g_k → Nat} {vw : g_k → Option va_E} {B : Nat} (hn : h (60, 0, 0) 5 = nI 0) {x : Int32} : Met l yX6_isNode wsX6_isNode ({ frames := 0, cells := 0, slots := 0, locals := 0 } : Room) (va_Pc [.ref (ad (60, 0, 0)), .int x] (m_S D C E (mo E C h ad vw) ad B)) (vp_Si (fun r => r = nI 0)) 0 0 (fun _ => False) := by
  refine Met.ofW (cc := cX6_isNode) (maxL := 2) (ret := (some .boolean)) (by decide) rfl ?_
  intro p e s m args below meth c s₁ B₀ hml hv
  obtain ⟨rfl, ⟨hG, hF⟩, hK2, hCA⟩ := hv
  have hK := hF.1
  have hN := hF.2.1
  have hB := hF.2.2.2
  have hx := B₀.exec
  have hb := B₀.bytes
  have hr := B₀.returns
  have hts := atoms_spec (ws := wsX6_isNode) B₀.pre
  have hown : s.vm.findClass RX6 = some m.cls := findClass_of_methodNamed B₀.named
  have hlocks := B₀.notSynchronized
  have hS : va_S (g_A B) s.heap s.heap [] := va_S.rf
  have hi6 : ∀ w ∈ wsX60, w ∈ wsX6_isNode := by decide +kernel
  have hl := lv_entry [.ref (ad (60, 0, 0)), .int x] (n := 2) (Nat.le_of_ble_eq_true rfl)
  rw [lg_entry_eq]
  generalize (lg_sl [.ref (ad (60, 0, 0)), .int x] ++ List.replicate (2 - (lg_sl [.ref (ad (60, 0, 0)), .int x]).length) Slot.unset).toArray = ls at hl ⊢
  have hl : lv_has ls 2 [(0, .ref (ad (60, 0, 0))), (1, .int x)] := hl
  refine lv_iload_n hx hb dX6_isNode_0 rfl (lv_at hl 1 rfl) ?_
  refine lv_if_lt (tgt := 16) hx hb dX6_isNode_1 (by decide) (fun c_1 => ?_) (fun c_1 => ?_)
  · refine lv_iconst (v := nI 0) hx hb dX6_isNode_16 (by decide) ?_
    exact W.zret (v := nI 0) hx hb hr rfl (fun t9 ht9 hW9 => ⟨_, rfl, rfl, ht9⟩) (fun q h => nomatch h) dX6_isNode_17
  · refine lv_iload_n hx hb dX6_isNode_4 rfl (lv_at hl 1 rfl) ?_
    refine lv_aload_n hx hb dX6_isNode_5 rfl (lv_at hl 0 rfl) ?_
    refine g_get hx hb hts hi6 hown hK hG (mo_obj) rfl 5 (by decide) (hts (.fieldLink RX6 55 "SatelliteringModel" "nodes" "I") (by decide +kernel)) rfl dX6_isNode_6 ?_
    refine lv_to (y := nI 0) (hn) ?_
    refine lv_icmp_ge (tgt := 16) hx hb dX6_isNode_9 (by decide) (fun c_2 => ?_) (fun c_2 => ?_)
    · refine lv_iconst (v := nI 0) hx hb dX6_isNode_16 (by decide) ?_
      exact W.zret (v := nI 0) hx hb hr rfl (fun t9 ht9 hW9 => ⟨_, rfl, rfl, ht9⟩) (fun q h => nomatch h) dX6_isNode_17
    · refine lv_iconst (v := nI 1) hx hb dX6_isNode_12 (by decide) ?_
      refine lv_goto (tgt := 17) hx hb dX6_isNode_13 (by decide) ?_
      exact absurd trivial (fun _ => by simp only [Int32.le_iff_toInt_le, Int32.lt_iff_toInt_lt, t_z, t_m30, t_m1, t_0, t_1, t_4, t_6, t_9, t_20, t_30, t_179, t_359, t_360, t_1000000] at c_1 c_2; omega)

set_option maxHeartbeats 4000000 in
set_option maxRecDepth 100000 in
theorem m_isMessage (l : Launch) {D : va_G} {C : g_C} {E : m_C} {h : g_k → Nat → Int32} {ad : g_k → Nat} {vw : g_k → Option va_E} {B : Nat} (hm : h (60, 0, 0) 14 = nI 0) {x : Int32} : Met l yX6_isMessage wsX6_isMessage ({ frames := 0, cells := 0, slots := 0, locals := 0 } : Room) (va_Pc [.ref (ad (60, 0, 0)), .int x] (m_S D C E (mo E C h ad vw) ad B)) (vp_Si (fun r => r = nI 0)) 0 0 (fun _ => False) := by
  refine Met.ofW (cc := cX6_isMessage) (maxL := 2) (ret := (some .boolean)) (by decide) rfl ?_
  intro p e s m args below meth c s₁ B₀ hml hv
  obtain ⟨rfl, ⟨hG, hF⟩, hK2, hCA⟩ := hv
  have hK := hF.1
  have hN := hF.2.1
  have hB := hF.2.2.2
  have hx := B₀.exec
  have hb := B₀.bytes
  have hr := B₀.returns
  have hts := atoms_spec (ws := wsX6_isMessage) B₀.pre
  have hown : s.vm.findClass RX6 = some m.cls := findClass_of_methodNamed B₀.named
  have hlocks := B₀.notSynchronized
  have hS : va_S (g_A B) s.heap s.heap [] := va_S.rf
  have hi6 : ∀ w ∈ wsX60, w ∈ wsX6_isMessage := by decide +kernel
  have hl := lv_entry [.ref (ad (60, 0, 0)), .int x] (n := 2) (Nat.le_of_ble_eq_true rfl)
  rw [lg_entry_eq]
  generalize (lg_sl [.ref (ad (60, 0, 0)), .int x] ++ List.replicate (2 - (lg_sl [.ref (ad (60, 0, 0)), .int x]).length) Slot.unset).toArray = ls at hl ⊢
  have hl : lv_has ls 2 [(0, .ref (ad (60, 0, 0))), (1, .int x)] := hl
  refine lv_iload_n hx hb dX6_isMessage_0 rfl (lv_at hl 1 rfl) ?_
  refine lv_if_lt (tgt := 16) hx hb dX6_isMessage_1 (by decide) (fun c_1 => ?_) (fun c_1 => ?_)
  · refine lv_iconst (v := nI 0) hx hb dX6_isMessage_16 (by decide) ?_
    exact W.zret (v := nI 0) hx hb hr rfl (fun t9 ht9 hW9 => ⟨_, rfl, rfl, ht9⟩) (fun q h => nomatch h) dX6_isMessage_17
  · refine lv_iload_n hx hb dX6_isMessage_4 rfl (lv_at hl 1 rfl) ?_
    refine lv_aload_n hx hb dX6_isMessage_5 rfl (lv_at hl 0 rfl) ?_
    refine g_get hx hb hts hi6 hown hK hG (mo_obj) rfl 14 (by decide) (hts (.fieldLink RX6 62 "SatelliteringModel" "messages" "I") (by decide +kernel)) rfl dX6_isMessage_6 ?_
    refine lv_to (y := nI 0) (hm) ?_
    refine lv_icmp_ge (tgt := 16) hx hb dX6_isMessage_9 (by decide) (fun c_2 => ?_) (fun c_2 => ?_)
    · refine lv_iconst (v := nI 0) hx hb dX6_isMessage_16 (by decide) ?_
      exact W.zret (v := nI 0) hx hb hr rfl (fun t9 ht9 hW9 => ⟨_, rfl, rfl, ht9⟩) (fun q h => nomatch h) dX6_isMessage_17
    · refine lv_iconst (v := nI 1) hx hb dX6_isMessage_12 (by decide) ?_
      refine lv_goto (tgt := 17) hx hb dX6_isMessage_13 (by decide) ?_
      exact absurd trivial (fun _ => by simp only [Int32.le_iff_toInt_le, Int32.lt_iff_toInt_lt, t_z, t_m30, t_m1, t_0, t_1, t_4, t_6, t_9, t_20, t_30, t_179, t_359, t_360, t_1000000] at c_1 c_2; omega)

set_option maxHeartbeats 4000000 in
set_option maxRecDepth 100000 in
theorem m_isStation (l : Launch) {D : va_G} {C : g_C} {E : m_C} {h : g_k → Nat → Int32} {ad : g_k → Nat} {vw : g_k → Option va_E} {B : Nat} (hn : h (60, 0, 0) 5 = nI 0) {x : Int32} : Met l yX6_isStation wsX6_isStation ({ frames := 1, cells := 0, slots := 0, locals := 21 } : Room) (va_Pc [.ref (ad (60, 0, 0)), .int x] (m_S D C E (mo E C h ad vw) ad B)) (vp_Si (fun r => r = nI 0)) 0 0 (fun _ => False) := by
  refine Met.ofW (cc := cX6_isStation) (maxL := 2) (ret := (some .boolean)) (by decide) rfl ?_
  intro p e s m args below meth c s₁ B₀ hml hv
  obtain ⟨rfl, ⟨hG, hF⟩, hK2, hCA⟩ := hv
  have hK := hF.1
  have hN := hF.2.1
  have hB := hF.2.2.2
  have hx := B₀.exec
  have hb := B₀.bytes
  have hr := B₀.returns
  have hts := atoms_spec (ws := wsX6_isStation) B₀.pre
  have hown : s.vm.findClass RX6 = some m.cls := findClass_of_methodNamed B₀.named
  have hlocks := B₀.notSynchronized
  have hS : va_S (g_A B) s.heap s.heap [] := va_S.rf
  have hl := lv_entry [.ref (ad (60, 0, 0)), .int x] (n := 2) (Nat.le_of_ble_eq_true rfl)
  rw [lg_entry_eq]
  generalize (lg_sl [.ref (ad (60, 0, 0)), .int x] ++ List.replicate (2 - (lg_sl [.ref (ad (60, 0, 0)), .int x]).length) Slot.unset).toArray = ls at hl ⊢
  have hl : lv_has ls 2 [(0, .ref (ad (60, 0, 0))), (1, .int x)] := hl
  refine lv_aload_n hx hb dX6_isStation_0 rfl (lv_at hl 0 rfl) ?_
  refine lv_iload_n hx hb dX6_isStation_1 rfl (lv_at hl 1 rfl) ?_
  refine vp_callSi (W.runV (As := [.int x]) (rest := []) ⟨hx, hb, hml, hown, hts⟩ (m_isNode l hn) (cwV 1 hts gX6_isStation_X6_isNode rfl rfl rfl (by decide +kernel) ⟨Nat.le_of_ble_eq_true rfl, Nat.le_of_ble_eq_true rfl⟩) (m_preV hF hK2 hCA hG hS (mo_obj) rfl) rfl rfl hl.1 rfl (lv_room (Nat.le_of_ble_eq_true rfl)) dX6_isStation_2 ⟨Nat.le_of_ble_eq_true rfl, Nat.le_of_ble_eq_true rfl⟩) (fun r_1 h_2 => ?_)
  refine lv_to (y := nI 0) (h_2) ?_
  refine lv_if_eq (tgt := 21) hx hb dX6_isStation_5 (by decide) (fun _ => ?_) (fun c => absurd (by decide) c)
  refine lv_iconst (v := nI 0) hx hb dX6_isStation_21 (by decide) ?_
  exact W.zret (v := nI 0) hx hb hr rfl (fun t9 ht9 hW9 => ⟨_, rfl, rfl, ht9⟩) (fun q h => nomatch h) dX6_isStation_22

set_option maxHeartbeats 4000000 in
set_option maxRecDepth 100000 in
theorem m_isMinute (l : Launch) {D : va_G} {C : g_C} {E : m_C} {h : g_k → Nat → Int32} {ad : g_k → Nat} {vw : g_k → Option va_E} {B : Nat} {x : Int32} : Met l yX6_isMinute wsX6_isMinute ({ frames := 0, cells := 0, slots := 0, locals := 0 } : Room) (va_Pc [.int x] (m_S D C E (mo E C h ad vw) ad B)) (vp_Si (fun r => True)) 0 0 (fun _ => False) := by
  refine Met.ofW (cc := cX6_isMinute) (maxL := 1) (ret := (some .boolean)) (by decide) rfl ?_
  intro p e s m args below meth c s₁ B₀ hml hv
  obtain ⟨rfl, ⟨hG, hF⟩, hK2, hCA⟩ := hv
  have hK := hF.1
  have hN := hF.2.1
  have hB := hF.2.2.2
  have hx := B₀.exec
  have hb := B₀.bytes
  have hr := B₀.returns
  have hts := atoms_spec (ws := wsX6_isMinute) B₀.pre
  have hown : s.vm.findClass RX6 = some m.cls := findClass_of_methodNamed B₀.named
  have hlocks := B₀.notSynchronized
  have hS : va_S (g_A B) s.heap s.heap [] := va_S.rf
  have hl := lv_entry [.int x] (n := 1) (Nat.le_of_ble_eq_true rfl)
  rw [lg_entry_eq]
  generalize (lg_sl [.int x] ++ List.replicate (1 - (lg_sl [.int x]).length) Slot.unset).toArray = ls at hl ⊢
  have hl : lv_has ls 1 [(0, .int x)] := hl
  refine lv_iload_n hx hb dX6_isMinute_0 rfl (lv_at hl 0 rfl) ?_
  refine lv_if_lt (tgt := 14) hx hb dX6_isMinute_1 (by decide) (fun c_1 => ?_) (fun c_1 => ?_)
  · refine lv_iconst (v := nI 0) hx hb dX6_isMinute_14 (by decide) ?_
    exact W.zret (v := nI 0) hx hb hr rfl (fun t9 ht9 hW9 => ⟨_, rfl, trivial, ht9⟩) (fun q h => nomatch h) dX6_isMinute_15
  · refine lv_iload_n hx hb dX6_isMinute_4 rfl (lv_at hl 0 rfl) ?_
    refine lv_ldc (v := 1000000) hx hb hown (hts (.constant RX6 65 (1000000)) (by decide +kernel)) dX6_isMinute_5 ?_
    refine lv_to (y := nI 1000000) (by decide) ?_
    refine lv_icmp_gt (tgt := 14) hx hb dX6_isMinute_7 (by decide) (fun c_2 => ?_) (fun c_2 => ?_)
    · refine lv_iconst (v := nI 0) hx hb dX6_isMinute_14 (by decide) ?_
      exact W.zret (v := nI 0) hx hb hr rfl (fun t9 ht9 hW9 => ⟨_, rfl, trivial, ht9⟩) (fun q h => nomatch h) dX6_isMinute_15
    · refine lv_iconst (v := nI 1) hx hb dX6_isMinute_10 (by decide) ?_
      refine lv_goto (tgt := 15) hx hb dX6_isMinute_11 (by decide) ?_
      exact W.zret (v := nI 1) hx hb hr rfl (fun t9 ht9 hW9 => ⟨_, rfl, trivial, ht9⟩) (fun q h => nomatch h) dX6_isMinute_15

set_option maxHeartbeats 4000000 in
set_option maxRecDepth 100000 in
theorem m_has0 (l : Launch) {D : va_G} {C : g_C} {E : m_C} {h : g_k → Nat → Int32} {ad : g_k → Nat} {vw : g_k → Option va_E} {B : Nat}  : Met l yX6_has wsX6_has ({ frames := 0, cells := 0, slots := 0, locals := 0 } : Room) (va_Pc [.int (nI 0), .int (nI 0)] (m_S D C E (mo E C h ad vw) ad B)) (vp_Si (fun r => r = nI 0)) 0 0 (fun _ => False) := by
  refine Met.ofW (cc := cX6_has) (maxL := 2) (ret := (some .boolean)) (by decide) rfl ?_
  intro p e s m args below meth c s₁ B₀ hml hv
  obtain ⟨rfl, ⟨hG, hF⟩, hK2, hCA⟩ := hv
  have hK := hF.1
  have hN := hF.2.1
  have hB := hF.2.2.2
  have hx := B₀.exec
  have hb := B₀.bytes
  have hr := B₀.returns
  have hts := atoms_spec (ws := wsX6_has) B₀.pre
  have hown : s.vm.findClass RX6 = some m.cls := findClass_of_methodNamed B₀.named
  have hlocks := B₀.notSynchronized
  have hS : va_S (g_A B) s.heap s.heap [] := va_S.rf
  have hl := lv_entry [.int (nI 0), .int (nI 0)] (n := 2) (Nat.le_of_ble_eq_true rfl)
  rw [lg_entry_eq]
  generalize (lg_sl [.int (nI 0), .int (nI 0)] ++ List.replicate (2 - (lg_sl [.int (nI 0), .int (nI 0)]).length) Slot.unset).toArray = ls at hl ⊢
  have hl : lv_has ls 2 [(0, .int (nI 0)), (1, .int (nI 0))] := hl
  refine lv_iload_n hx hb dX6_has_0 rfl (lv_at hl 0 rfl) ?_
  refine lv_iload_n hx hb dX6_has_1 rfl (lv_at hl 1 rfl) ?_
  refine lv_ishr hx hb dX6_has_2 ?_
  refine lv_iconst (v := nI 1) hx hb dX6_has_3 (by decide) ?_
  refine lv_iand hx hb dX6_has_4 ?_
  refine lv_iconst (v := nI 1) hx hb dX6_has_5 (by decide) ?_
  refine W.eq (g2 := F0 m 6 ls [.int (nI 1), .int (nI 0)]) (by first | rfl | decide) ?_
  refine lv_icmp_ne (tgt := 13) hx hb dX6_has_6 (by decide) (fun _ => ?_) (fun c => absurd c (by decide))
  refine lv_iconst (v := nI 0) hx hb dX6_has_13 (by decide) ?_
  exact W.zret (v := nI 0) hx hb hr rfl (fun t9 ht9 hW9 => ⟨_, rfl, rfl, ht9⟩) (fun q h => nomatch h) dX6_has_14

set_option maxHeartbeats 4000000 in
set_option maxRecDepth 100000 in
theorem m_see (l : Launch) {D : va_G} {C : g_C} {E : m_C} {h : g_k → Nat → Int32} {ad : g_k → Nat} {vw : g_k → Option va_E} {B : Nat} (hn : h (60, 0, 0) 5 = nI 0) (hm : h (60, 0, 0) 14 = nI 0) {x y z : Int32} : Met l yX6_see wsX6_see ({ frames := 1, cells := 0, slots := 0, locals := 23 } : Room) (va_Pc [.ref (ad (60, 0, 0)), .int x, .int y, .int z] (m_S D C E (mo E C h ad vw) ad B)) (va_Qi (fun (r : Int32) (h1 : g_k → Nat → Int32) => h1 (60, 0, 0) 18 = nI 1) (fun h1 t => g_P D (mo E C h1 ad vw) ad B t.heap) (g_A B)) 0 0 (g_A B) := by
  refine Met.ofW (cc := cX6_see) (maxL := 4) (ret := (some .boolean)) (by decide) rfl ?_
  intro p e s m args below meth c s₁ B₀ hml hv
  obtain ⟨rfl, ⟨hG, hF⟩, hK2, hCA⟩ := hv
  have hK := hF.1
  have hN := hF.2.1
  have hB := hF.2.2.2
  have hx := B₀.exec
  have hb := B₀.bytes
  have hr := B₀.returns
  have hts := atoms_spec (ws := wsX6_see) B₀.pre
  have hown : s.vm.findClass RX6 = some m.cls := findClass_of_methodNamed B₀.named
  have hlocks := B₀.notSynchronized
  have hS : va_S (g_A B) s.heap s.heap [] := va_S.rf
  have hl := lv_entry [.ref (ad (60, 0, 0)), .int x, .int y, .int z] (n := 4) (Nat.le_of_ble_eq_true rfl)
  rw [lg_entry_eq]
  generalize (lg_sl [.ref (ad (60, 0, 0)), .int x, .int y, .int z] ++ List.replicate (4 - (lg_sl [.ref (ad (60, 0, 0)), .int x, .int y, .int z]).length) Slot.unset).toArray = ls at hl ⊢
  have hl : lv_has ls 4 [(0, .ref (ad (60, 0, 0))), (1, .int x), (2, .int y), (3, .int z)] := hl
  refine lv_aload_n hx hb dX6_see_0 rfl (lv_at hl 0 rfl) ?_
  refine lv_aload_n hx hb dX6_see_1 rfl (lv_at hl 0 rfl) ?_
  refine lv_iload_n hx hb dX6_see_2 rfl (lv_at hl 1 rfl) ?_
  refine vp_callSi (W.runV (As := [.int x]) (rest := [.ref (ad (60, 0, 0))]) ⟨hx, hb, hml, hown, hts⟩ (m_isNode l hn) (cwV 1 hts gX6_see_X6_isNode rfl rfl rfl (by decide +kernel) ⟨Nat.le_of_ble_eq_true rfl, Nat.le_of_ble_eq_true rfl⟩) (m_preV hF hK2 hCA hG hS (mo_obj) rfl) rfl rfl hl.1 rfl (lv_room (Nat.le_of_ble_eq_true rfl)) dX6_see_3 ⟨Nat.le_of_ble_eq_true rfl, Nat.le_of_ble_eq_true rfl⟩) (fun r_1 h_2 => ?_)
  refine lv_to (y := nI 0) (h_2) ?_
  refine lv_if_eq (tgt := 21) hx hb dX6_see_6 (by decide) (fun _ => ?_) (fun c => absurd (by decide) c)
  refine lv_iconst (v := nI 0) hx hb dX6_see_21 (by decide) ?_
  refine lv_iload_n hx hb dX6_see_22 rfl (lv_at hl 3 rfl) ?_
  refine vp_callSi (W.runS (As := [.int z]) (rest := [.int (nI 0), .ref (ad (60, 0, 0))]) ⟨hx, hb, hml, hown, hts⟩ (m_isMinute l ) (va_cwS 1 hts gX6_see_X6_isMinute rfl rfl rfl (by decide +kernel) ⟨Nat.le_of_ble_eq_true rfl, Nat.le_of_ble_eq_true rfl⟩) (m_preS hF hK2 hCA hG hS) rfl rfl hl.1 rfl (lv_room (Nat.le_of_ble_eq_true rfl)) dX6_see_23 ⟨Nat.le_of_ble_eq_true rfl, Nat.le_of_ble_eq_true rfl⟩) (fun r_3 h_4 => ?_)
  refine lv_iconst (v := nI 1) hx hb dX6_see_26 (by decide) ?_
  refine va_calli (va_runV (As := [.int (nI 0), .int r_3, .int (nI 1)]) (rest := []) ⟨hx, hb, hml, hown, hts⟩ (m_goes1 l ) (cwV 3 hts gX6_see_X6_goes rfl rfl rfl (by decide +kernel) ⟨Nat.le_of_ble_eq_true rfl, Nat.le_of_ble_eq_true rfl⟩) (m_preV hF hK2 hCA hG hS (mo_obj) rfl) rfl rfl hl.1 rfl (lv_room (Nat.le_of_ble_eq_true rfl)) dX6_see_27 ⟨Nat.le_of_ble_eq_true rfl, Nat.le_of_ble_eq_true rfl⟩) hS (fun q _ h => h) (fun q h => h) (fun r_5 g_7 t9 H locs ht9 _ h_6 hB1 _ _ hS => ?_)
  have hG : g_P D (mo E C g_7 ad vw) ad B H := by rw [← ht9]; exact hB1
  obtain ⟨erg_7, eg_7⟩ := h_6
  refine lv_to (y := nI 0) (erg_7) ?_
  have f_8 : g_7 (60, 0, 0) 5 = nI 0 := by rw [eg_7, g2_self, upd_ne _ _ (by decide)]; exact hn
  have f_9 : g_7 (60, 0, 0) 14 = nI 0 := by rw [eg_7, g2_self, upd_ne _ _ (by decide)]; exact hm
  have f_10 : g_7 (60, 0, 0) 18 = nI 1 := by rw [eg_7, g2_self, upd_self]
  refine lv_if_eq (tgt := 50) hx hb dX6_see_30 (by decide) (fun _ => ?_) (fun c => absurd (by decide) c)
  refine lv_iconst (v := nI 0) hx hb dX6_see_50 (by decide) ?_
  exact W.zret (v := nI 0) hx hb hr rfl (fun t9 ht9 hW9 => ⟨⟨_, g_7, rfl, f_10, by show g_P D _ _ B t9.heap; rw [ht9]; exact hG⟩, hS.F ht9⟩) hS.2.2 dX6_see_51

set_option maxHeartbeats 4000000 in
set_option maxRecDepth 100000 in
theorem m_nextContact (l : Launch) {D : va_G} {C : g_C} {E : m_C} {h : g_k → Nat → Int32} {ad : g_k → Nat} {vw : g_k → Option va_E} {B : Nat} (hn : h (60, 0, 0) 5 = nI 0) (hm : h (60, 0, 0) 14 = nI 0) {x y z : Int32} : Met l yX6_nextContact wsX6_nextContact ({ frames := 1, cells := 0, slots := 0, locals := 23 } : Room) (va_Pc [.ref (ad (60, 0, 0)), .int x, .int y, .int z] (m_S D C E (mo E C h ad vw) ad B)) (va_Qi (fun (r : Int32) (h1 : g_k → Nat → Int32) => h1 (60, 0, 0) 18 = nI 1) (fun h1 t => g_P D (mo E C h1 ad vw) ad B t.heap) (g_A B)) 0 0 (g_A B) := by
  refine Met.ofW (cc := cX6_nextContact) (maxL := 6) (ret := (some .int)) (by decide) rfl ?_
  intro p e s m args below meth c s₁ B₀ hml hv
  obtain ⟨rfl, ⟨hG, hF⟩, hK2, hCA⟩ := hv
  have hK := hF.1
  have hN := hF.2.1
  have hB := hF.2.2.2
  have hx := B₀.exec
  have hb := B₀.bytes
  have hr := B₀.returns
  have hts := atoms_spec (ws := wsX6_nextContact) B₀.pre
  have hown : s.vm.findClass RX6 = some m.cls := findClass_of_methodNamed B₀.named
  have hlocks := B₀.notSynchronized
  have hS : va_S (g_A B) s.heap s.heap [] := va_S.rf
  have hl := lv_entry [.ref (ad (60, 0, 0)), .int x, .int y, .int z] (n := 6) (Nat.le_of_ble_eq_true rfl)
  rw [lg_entry_eq]
  generalize (lg_sl [.ref (ad (60, 0, 0)), .int x, .int y, .int z] ++ List.replicate (6 - (lg_sl [.ref (ad (60, 0, 0)), .int x, .int y, .int z]).length) Slot.unset).toArray = ls at hl ⊢
  have hl : lv_has ls 6 [(0, .ref (ad (60, 0, 0))), (1, .int x), (2, .int y), (3, .int z)] := hl
  refine lv_aload_n hx hb dX6_nextContact_0 rfl (lv_at hl 0 rfl) ?_
  refine lv_aload_n hx hb dX6_nextContact_1 rfl (lv_at hl 0 rfl) ?_
  refine lv_iload_n hx hb dX6_nextContact_2 rfl (lv_at hl 1 rfl) ?_
  refine vp_callSi (W.runV (As := [.int x]) (rest := [.ref (ad (60, 0, 0))]) ⟨hx, hb, hml, hown, hts⟩ (m_isNode l hn) (cwV 1 hts gX6_nextContact_X6_isNode rfl rfl rfl (by decide +kernel) ⟨Nat.le_of_ble_eq_true rfl, Nat.le_of_ble_eq_true rfl⟩) (m_preV hF hK2 hCA hG hS (mo_obj) rfl) rfl rfl hl.1 rfl (lv_room (Nat.le_of_ble_eq_true rfl)) dX6_nextContact_3 ⟨Nat.le_of_ble_eq_true rfl, Nat.le_of_ble_eq_true rfl⟩) (fun r_1 h_2 => ?_)
  refine lv_to (y := nI 0) (h_2) ?_
  refine lv_if_eq (tgt := 21) hx hb dX6_nextContact_6 (by decide) (fun _ => ?_) (fun c => absurd (by decide) c)
  refine lv_iconst (v := nI 0) hx hb dX6_nextContact_21 (by decide) ?_
  refine lv_iload_n hx hb dX6_nextContact_22 rfl (lv_at hl 3 rfl) ?_
  refine vp_callSi (W.runS (As := [.int z]) (rest := [.int (nI 0), .ref (ad (60, 0, 0))]) ⟨hx, hb, hml, hown, hts⟩ (m_isMinute l ) (va_cwS 1 hts gX6_nextContact_X6_isMinute rfl rfl rfl (by decide +kernel) ⟨Nat.le_of_ble_eq_true rfl, Nat.le_of_ble_eq_true rfl⟩) (m_preS hF hK2 hCA hG hS) rfl rfl hl.1 rfl (lv_room (Nat.le_of_ble_eq_true rfl)) dX6_nextContact_23 ⟨Nat.le_of_ble_eq_true rfl, Nat.le_of_ble_eq_true rfl⟩) (fun r_3 h_4 => ?_)
  refine lv_iconst (v := nI 1) hx hb dX6_nextContact_26 (by decide) ?_
  refine va_calli (va_runV (As := [.int (nI 0), .int r_3, .int (nI 1)]) (rest := []) ⟨hx, hb, hml, hown, hts⟩ (m_goes1 l ) (cwV 3 hts gX6_nextContact_X6_goes rfl rfl rfl (by decide +kernel) ⟨Nat.le_of_ble_eq_true rfl, Nat.le_of_ble_eq_true rfl⟩) (m_preV hF hK2 hCA hG hS (mo_obj) rfl) rfl rfl hl.1 rfl (lv_room (Nat.le_of_ble_eq_true rfl)) dX6_nextContact_27 ⟨Nat.le_of_ble_eq_true rfl, Nat.le_of_ble_eq_true rfl⟩) hS (fun q _ h => h) (fun q h => h) (fun r_5 g_7 t9 H locs ht9 _ h_6 hB1 _ _ hS => ?_)
  have hG : g_P D (mo E C g_7 ad vw) ad B H := by rw [← ht9]; exact hB1
  obtain ⟨erg_7, eg_7⟩ := h_6
  refine lv_to (y := nI 0) (erg_7) ?_
  have f_8 : g_7 (60, 0, 0) 5 = nI 0 := by rw [eg_7, g2_self, upd_ne _ _ (by decide)]; exact hn
  have f_9 : g_7 (60, 0, 0) 14 = nI 0 := by rw [eg_7, g2_self, upd_ne _ _ (by decide)]; exact hm
  have f_10 : g_7 (60, 0, 0) 18 = nI 1 := by rw [eg_7, g2_self, upd_self]
  refine lv_if_ne (tgt := 35) hx hb dX6_nextContact_30 (by decide) (fun c => absurd (by decide) c) (fun _ => ?_)
  refine lv_iconst (v := nI 0) hx hb dX6_nextContact_33 (by decide) ?_
  exact W.iret (v := nI 0) hx hb hr (fun t9 ht9 hW9 => ⟨⟨_, g_7, rfl, f_10, by show g_P D _ _ B t9.heap; rw [ht9]; exact hG⟩, hS.F ht9⟩) hS.2.2 dX6_nextContact_34

set_option maxHeartbeats 4000000 in
set_option maxRecDepth 100000 in
theorem m_view (l : Launch) {D : va_G} {C : g_C} {E : m_C} {h : g_k → Nat → Int32} {ad : g_k → Nat} {vw : g_k → Option va_E} {B : Nat} (hn : h (60, 0, 0) 5 = nI 0) (hm : h (60, 0, 0) 14 = nI 0) {x y z : Int32} : Met l yX6_view wsX6_view ({ frames := 1, cells := 0, slots := 0, locals := 23 } : Room) (va_Pc [.ref (ad (60, 0, 0)), .int x, .int y, .int z] (m_S D C E (mo E C h ad vw) ad B)) (va_Qi (fun (r : Int32) (h1 : g_k → Nat → Int32) => h1 (60, 0, 0) 18 = nI 1) (fun h1 t => g_P D (mo E C h1 ad vw) ad B t.heap) (g_A B)) 0 0 (g_A B) := by
  refine Met.ofW (cc := cX6_view) (maxL := 4) (ret := (some .int)) (by decide) rfl ?_
  intro p e s m args below meth c s₁ B₀ hml hv
  obtain ⟨rfl, ⟨hG, hF⟩, hK2, hCA⟩ := hv
  have hK := hF.1
  have hN := hF.2.1
  have hB := hF.2.2.2
  have hx := B₀.exec
  have hb := B₀.bytes
  have hr := B₀.returns
  have hts := atoms_spec (ws := wsX6_view) B₀.pre
  have hown : s.vm.findClass RX6 = some m.cls := findClass_of_methodNamed B₀.named
  have hlocks := B₀.notSynchronized
  have hS : va_S (g_A B) s.heap s.heap [] := va_S.rf
  have hl := lv_entry [.ref (ad (60, 0, 0)), .int x, .int y, .int z] (n := 4) (Nat.le_of_ble_eq_true rfl)
  rw [lg_entry_eq]
  generalize (lg_sl [.ref (ad (60, 0, 0)), .int x, .int y, .int z] ++ List.replicate (4 - (lg_sl [.ref (ad (60, 0, 0)), .int x, .int y, .int z]).length) Slot.unset).toArray = ls at hl ⊢
  have hl : lv_has ls 4 [(0, .ref (ad (60, 0, 0))), (1, .int x), (2, .int y), (3, .int z)] := hl
  refine lv_aload_n hx hb dX6_view_0 rfl (lv_at hl 0 rfl) ?_
  refine lv_aload_n hx hb dX6_view_1 rfl (lv_at hl 0 rfl) ?_
  refine lv_iload_n hx hb dX6_view_2 rfl (lv_at hl 1 rfl) ?_
  refine vp_callSi (W.runV (As := [.int x]) (rest := [.ref (ad (60, 0, 0))]) ⟨hx, hb, hml, hown, hts⟩ (m_isNode l hn) (cwV 1 hts gX6_view_X6_isNode rfl rfl rfl (by decide +kernel) ⟨Nat.le_of_ble_eq_true rfl, Nat.le_of_ble_eq_true rfl⟩) (m_preV hF hK2 hCA hG hS (mo_obj) rfl) rfl rfl hl.1 rfl (lv_room (Nat.le_of_ble_eq_true rfl)) dX6_view_3 ⟨Nat.le_of_ble_eq_true rfl, Nat.le_of_ble_eq_true rfl⟩) (fun r_1 h_2 => ?_)
  refine lv_to (y := nI 0) (h_2) ?_
  refine lv_if_eq (tgt := 21) hx hb dX6_view_6 (by decide) (fun _ => ?_) (fun c => absurd (by decide) c)
  refine lv_iconst (v := nI 0) hx hb dX6_view_21 (by decide) ?_
  refine lv_iload_n hx hb dX6_view_22 rfl (lv_at hl 3 rfl) ?_
  refine vp_callSi (W.runS (As := [.int z]) (rest := [.int (nI 0), .ref (ad (60, 0, 0))]) ⟨hx, hb, hml, hown, hts⟩ (m_isMinute l ) (va_cwS 1 hts gX6_view_X6_isMinute rfl rfl rfl (by decide +kernel) ⟨Nat.le_of_ble_eq_true rfl, Nat.le_of_ble_eq_true rfl⟩) (m_preS hF hK2 hCA hG hS) rfl rfl hl.1 rfl (lv_room (Nat.le_of_ble_eq_true rfl)) dX6_view_23 ⟨Nat.le_of_ble_eq_true rfl, Nat.le_of_ble_eq_true rfl⟩) (fun r_3 h_4 => ?_)
  refine lv_iconst (v := nI 1) hx hb dX6_view_26 (by decide) ?_
  refine va_calli (va_runV (As := [.int (nI 0), .int r_3, .int (nI 1)]) (rest := []) ⟨hx, hb, hml, hown, hts⟩ (m_goes1 l ) (cwV 3 hts gX6_view_X6_goes rfl rfl rfl (by decide +kernel) ⟨Nat.le_of_ble_eq_true rfl, Nat.le_of_ble_eq_true rfl⟩) (m_preV hF hK2 hCA hG hS (mo_obj) rfl) rfl rfl hl.1 rfl (lv_room (Nat.le_of_ble_eq_true rfl)) dX6_view_27 ⟨Nat.le_of_ble_eq_true rfl, Nat.le_of_ble_eq_true rfl⟩) hS (fun q _ h => h) (fun q h => h) (fun r_5 g_7 t9 H locs ht9 _ h_6 hB1 _ _ hS => ?_)
  have hG : g_P D (mo E C g_7 ad vw) ad B H := by rw [← ht9]; exact hB1
  obtain ⟨erg_7, eg_7⟩ := h_6
  refine lv_to (y := nI 0) (erg_7) ?_
  have f_8 : g_7 (60, 0, 0) 5 = nI 0 := by rw [eg_7, g2_self, upd_ne _ _ (by decide)]; exact hn
  have f_9 : g_7 (60, 0, 0) 14 = nI 0 := by rw [eg_7, g2_self, upd_ne _ _ (by decide)]; exact hm
  have f_10 : g_7 (60, 0, 0) 18 = nI 1 := by rw [eg_7, g2_self, upd_self]
  refine lv_if_eq (tgt := 43) hx hb dX6_view_30 (by decide) (fun _ => ?_) (fun c => absurd (by decide) c)
  refine lv_iconst (v := nI 0) hx hb dX6_view_43 (by decide) ?_
  exact W.iret (v := nI 0) hx hb hr (fun t9 ht9 hW9 => ⟨⟨_, g_7, rfl, f_10, by show g_P D _ _ B t9.heap; rw [ht9]; exact hG⟩, hS.F ht9⟩) hS.2.2 dX6_view_44

set_option maxHeartbeats 4000000 in
set_option maxRecDepth 100000 in
theorem m_arrival (l : Launch) {D : va_G} {C : g_C} {E : m_C} {h : g_k → Nat → Int32} {ad : g_k → Nat} {vw : g_k → Option va_E} {B : Nat} (hn : h (60, 0, 0) 5 = nI 0) (hm : h (60, 0, 0) 14 = nI 0) {x y z : Int32} : Met l yX6_arrival wsX6_arrival ({ frames := 1, cells := 0, slots := 0, locals := 23 } : Room) (va_Pc [.ref (ad (60, 0, 0)), .int x, .int y, .int z] (m_S D C E (mo E C h ad vw) ad B)) (va_Qi (fun (r : Int32) (h1 : g_k → Nat → Int32) => h1 (60, 0, 0) 18 = nI 1) (fun h1 t => g_P D (mo E C h1 ad vw) ad B t.heap) (g_A B)) 0 0 (g_A B) := by
  refine Met.ofW (cc := cX6_arrival) (maxL := 4) (ret := (some .int)) (by decide) rfl ?_
  intro p e s m args below meth c s₁ B₀ hml hv
  obtain ⟨rfl, ⟨hG, hF⟩, hK2, hCA⟩ := hv
  have hK := hF.1
  have hN := hF.2.1
  have hB := hF.2.2.2
  have hx := B₀.exec
  have hb := B₀.bytes
  have hr := B₀.returns
  have hts := atoms_spec (ws := wsX6_arrival) B₀.pre
  have hown : s.vm.findClass RX6 = some m.cls := findClass_of_methodNamed B₀.named
  have hlocks := B₀.notSynchronized
  have hS : va_S (g_A B) s.heap s.heap [] := va_S.rf
  have hl := lv_entry [.ref (ad (60, 0, 0)), .int x, .int y, .int z] (n := 4) (Nat.le_of_ble_eq_true rfl)
  rw [lg_entry_eq]
  generalize (lg_sl [.ref (ad (60, 0, 0)), .int x, .int y, .int z] ++ List.replicate (4 - (lg_sl [.ref (ad (60, 0, 0)), .int x, .int y, .int z]).length) Slot.unset).toArray = ls at hl ⊢
  have hl : lv_has ls 4 [(0, .ref (ad (60, 0, 0))), (1, .int x), (2, .int y), (3, .int z)] := hl
  refine lv_aload_n hx hb dX6_arrival_0 rfl (lv_at hl 0 rfl) ?_
  refine lv_aload_n hx hb dX6_arrival_1 rfl (lv_at hl 0 rfl) ?_
  refine lv_iload_n hx hb dX6_arrival_2 rfl (lv_at hl 1 rfl) ?_
  refine vp_callSi (W.runV (As := [.int x]) (rest := [.ref (ad (60, 0, 0))]) ⟨hx, hb, hml, hown, hts⟩ (m_isNode l hn) (cwV 1 hts gX6_arrival_X6_isNode rfl rfl rfl (by decide +kernel) ⟨Nat.le_of_ble_eq_true rfl, Nat.le_of_ble_eq_true rfl⟩) (m_preV hF hK2 hCA hG hS (mo_obj) rfl) rfl rfl hl.1 rfl (lv_room (Nat.le_of_ble_eq_true rfl)) dX6_arrival_3 ⟨Nat.le_of_ble_eq_true rfl, Nat.le_of_ble_eq_true rfl⟩) (fun r_1 h_2 => ?_)
  refine lv_to (y := nI 0) (h_2) ?_
  refine lv_if_eq (tgt := 21) hx hb dX6_arrival_6 (by decide) (fun _ => ?_) (fun c => absurd (by decide) c)
  refine lv_iconst (v := nI 0) hx hb dX6_arrival_21 (by decide) ?_
  refine lv_iload_n hx hb dX6_arrival_22 rfl (lv_at hl 3 rfl) ?_
  refine vp_callSi (W.runS (As := [.int z]) (rest := [.int (nI 0), .ref (ad (60, 0, 0))]) ⟨hx, hb, hml, hown, hts⟩ (m_isMinute l ) (va_cwS 1 hts gX6_arrival_X6_isMinute rfl rfl rfl (by decide +kernel) ⟨Nat.le_of_ble_eq_true rfl, Nat.le_of_ble_eq_true rfl⟩) (m_preS hF hK2 hCA hG hS) rfl rfl hl.1 rfl (lv_room (Nat.le_of_ble_eq_true rfl)) dX6_arrival_23 ⟨Nat.le_of_ble_eq_true rfl, Nat.le_of_ble_eq_true rfl⟩) (fun r_3 h_4 => ?_)
  refine lv_iconst (v := nI 1) hx hb dX6_arrival_26 (by decide) ?_
  refine va_calli (va_runV (As := [.int (nI 0), .int r_3, .int (nI 1)]) (rest := []) ⟨hx, hb, hml, hown, hts⟩ (m_goes1 l ) (cwV 3 hts gX6_arrival_X6_goes rfl rfl rfl (by decide +kernel) ⟨Nat.le_of_ble_eq_true rfl, Nat.le_of_ble_eq_true rfl⟩) (m_preV hF hK2 hCA hG hS (mo_obj) rfl) rfl rfl hl.1 rfl (lv_room (Nat.le_of_ble_eq_true rfl)) dX6_arrival_27 ⟨Nat.le_of_ble_eq_true rfl, Nat.le_of_ble_eq_true rfl⟩) hS (fun q _ h => h) (fun q h => h) (fun r_5 g_7 t9 H locs ht9 _ h_6 hB1 _ _ hS => ?_)
  have hG : g_P D (mo E C g_7 ad vw) ad B H := by rw [← ht9]; exact hB1
  obtain ⟨erg_7, eg_7⟩ := h_6
  refine lv_to (y := nI 0) (erg_7) ?_
  have f_8 : g_7 (60, 0, 0) 5 = nI 0 := by rw [eg_7, g2_self, upd_ne _ _ (by decide)]; exact hn
  have f_9 : g_7 (60, 0, 0) 14 = nI 0 := by rw [eg_7, g2_self, upd_ne _ _ (by decide)]; exact hm
  have f_10 : g_7 (60, 0, 0) 18 = nI 1 := by rw [eg_7, g2_self, upd_self]
  refine lv_if_eq (tgt := 43) hx hb dX6_arrival_30 (by decide) (fun _ => ?_) (fun c => absurd (by decide) c)
  refine lv_iconst (v := nI 0) hx hb dX6_arrival_43 (by decide) ?_
  exact W.iret (v := nI 0) hx hb hr (fun t9 ht9 hW9 => ⟨⟨_, g_7, rfl, f_10, by show g_P D _ _ B t9.heap; rw [ht9]; exact hG⟩, hS.F ht9⟩) hS.2.2 dX6_arrival_44

set_option maxHeartbeats 4000000 in
set_option maxRecDepth 100000 in
theorem m_spread (l : Launch) {D : va_G} {C : g_C} {E : m_C} {h : g_k → Nat → Int32} {ad : g_k → Nat} {vw : g_k → Option va_E} {B : Nat} (hn : h (60, 0, 0) 5 = nI 0) (hm : h (60, 0, 0) 14 = nI 0) {x y z : Int32} : Met l yX6_spread wsX6_spread ({ frames := 1, cells := 0, slots := 0, locals := 23 } : Room) (va_Pc [.ref (ad (60, 0, 0)), .int x, .int y, .int z] (m_S D C E (mo E C h ad vw) ad B)) (va_Qi (fun (r : Int32) (h1 : g_k → Nat → Int32) => h1 (60, 0, 0) 18 = nI 1) (fun h1 t => g_P D (mo E C h1 ad vw) ad B t.heap) (g_A B)) 0 0 (g_A B) := by
  refine Met.ofW (cc := cX6_spread) (maxL := 7) (ret := (some .int)) (by decide) rfl ?_
  intro p e s m args below meth c s₁ B₀ hml hv
  obtain ⟨rfl, ⟨hG, hF⟩, hK2, hCA⟩ := hv
  have hK := hF.1
  have hN := hF.2.1
  have hB := hF.2.2.2
  have hx := B₀.exec
  have hb := B₀.bytes
  have hr := B₀.returns
  have hts := atoms_spec (ws := wsX6_spread) B₀.pre
  have hown : s.vm.findClass RX6 = some m.cls := findClass_of_methodNamed B₀.named
  have hlocks := B₀.notSynchronized
  have hS : va_S (g_A B) s.heap s.heap [] := va_S.rf
  have hl := lv_entry [.ref (ad (60, 0, 0)), .int x, .int y, .int z] (n := 7) (Nat.le_of_ble_eq_true rfl)
  rw [lg_entry_eq]
  generalize (lg_sl [.ref (ad (60, 0, 0)), .int x, .int y, .int z] ++ List.replicate (7 - (lg_sl [.ref (ad (60, 0, 0)), .int x, .int y, .int z]).length) Slot.unset).toArray = ls at hl ⊢
  have hl : lv_has ls 7 [(0, .ref (ad (60, 0, 0))), (1, .int x), (2, .int y), (3, .int z)] := hl
  refine lv_aload_n hx hb dX6_spread_0 rfl (lv_at hl 0 rfl) ?_
  refine lv_aload_n hx hb dX6_spread_1 rfl (lv_at hl 0 rfl) ?_
  refine lv_iload_n hx hb dX6_spread_2 rfl (lv_at hl 1 rfl) ?_
  refine vp_callSi (W.runV (As := [.int x]) (rest := [.ref (ad (60, 0, 0))]) ⟨hx, hb, hml, hown, hts⟩ (m_isNode l hn) (cwV 1 hts gX6_spread_X6_isNode rfl rfl rfl (by decide +kernel) ⟨Nat.le_of_ble_eq_true rfl, Nat.le_of_ble_eq_true rfl⟩) (m_preV hF hK2 hCA hG hS (mo_obj) rfl) rfl rfl hl.1 rfl (lv_room (Nat.le_of_ble_eq_true rfl)) dX6_spread_3 ⟨Nat.le_of_ble_eq_true rfl, Nat.le_of_ble_eq_true rfl⟩) (fun r_1 h_2 => ?_)
  refine lv_to (y := nI 0) (h_2) ?_
  refine lv_iload_n hx hb dX6_spread_6 rfl (lv_at hl 2 rfl) ?_
  refine vp_callSi (W.runS (As := [.int y]) (rest := [.int (nI 0), .ref (ad (60, 0, 0))]) ⟨hx, hb, hml, hown, hts⟩ (m_isMinute l ) (va_cwS 1 hts gX6_spread_X6_isMinute rfl rfl rfl (by decide +kernel) ⟨Nat.le_of_ble_eq_true rfl, Nat.le_of_ble_eq_true rfl⟩) (m_preS hF hK2 hCA hG hS) rfl rfl hl.1 rfl (lv_room (Nat.le_of_ble_eq_true rfl)) dX6_spread_7 ⟨Nat.le_of_ble_eq_true rfl, Nat.le_of_ble_eq_true rfl⟩) (fun r_3 h_4 => ?_)
  refine lv_if_eq (tgt := 28) hx hb dX6_spread_10 (by decide) (fun c_5 => ?_) (fun c_5 => ?_)
  · refine lv_iconst (v := nI 0) hx hb dX6_spread_28 (by decide) ?_
    refine lv_iconst (v := nI 1) hx hb dX6_spread_29 (by decide) ?_
    refine va_calli (va_runV (As := [.int (nI 0), .int (nI 0), .int (nI 1)]) (rest := []) ⟨hx, hb, hml, hown, hts⟩ (m_goes1 l ) (cwV 3 hts gX6_spread_X6_goes rfl rfl rfl (by decide +kernel) ⟨Nat.le_of_ble_eq_true rfl, Nat.le_of_ble_eq_true rfl⟩) (m_preV hF hK2 hCA hG hS (mo_obj) rfl) rfl rfl hl.1 rfl (lv_room (Nat.le_of_ble_eq_true rfl)) dX6_spread_30 ⟨Nat.le_of_ble_eq_true rfl, Nat.le_of_ble_eq_true rfl⟩) hS (fun q _ h => h) (fun q h => h) (fun r_6 g_8 t9 H locs ht9 _ h_7 hB1 _ _ hS => ?_)
    have hG : g_P D (mo E C g_8 ad vw) ad B H := by rw [← ht9]; exact hB1
    obtain ⟨erg_8, eg_8⟩ := h_7
    refine lv_to (y := nI 0) (erg_8) ?_
    have f_9 : g_8 (60, 0, 0) 5 = nI 0 := by rw [eg_8, g2_self, upd_ne _ _ (by decide)]; exact hn
    have f_10 : g_8 (60, 0, 0) 14 = nI 0 := by rw [eg_8, g2_self, upd_ne _ _ (by decide)]; exact hm
    have f_11 : g_8 (60, 0, 0) 18 = nI 1 := by rw [eg_8, g2_self, upd_self]
    refine lv_if_ne (tgt := 38) hx hb dX6_spread_33 (by decide) (fun c => absurd (by decide) c) (fun _ => ?_)
    refine lv_iconst (v := nI 0) hx hb dX6_spread_36 (by decide) ?_
    exact W.iret (v := nI 0) hx hb hr (fun t9 ht9 hW9 => ⟨⟨_, g_8, rfl, f_11, by show g_P D _ _ B t9.heap; rw [ht9]; exact hG⟩, hS.F ht9⟩) hS.2.2 dX6_spread_37
  · refine lv_iload_n hx hb dX6_spread_13 rfl (lv_at hl 3 rfl) ?_
    refine lv_if_lt (tgt := 28) hx hb dX6_spread_14 (by decide) (fun c_12 => ?_) (fun c_12 => ?_)
    · refine lv_iconst (v := nI 0) hx hb dX6_spread_28 (by decide) ?_
      refine lv_iconst (v := nI 1) hx hb dX6_spread_29 (by decide) ?_
      refine va_calli (va_runV (As := [.int (nI 0), .int (nI 0), .int (nI 1)]) (rest := []) ⟨hx, hb, hml, hown, hts⟩ (m_goes1 l ) (cwV 3 hts gX6_spread_X6_goes rfl rfl rfl (by decide +kernel) ⟨Nat.le_of_ble_eq_true rfl, Nat.le_of_ble_eq_true rfl⟩) (m_preV hF hK2 hCA hG hS (mo_obj) rfl) rfl rfl hl.1 rfl (lv_room (Nat.le_of_ble_eq_true rfl)) dX6_spread_30 ⟨Nat.le_of_ble_eq_true rfl, Nat.le_of_ble_eq_true rfl⟩) hS (fun q _ h => h) (fun q h => h) (fun r_13 g_15 t9 H locs ht9 _ h_14 hB1 _ _ hS => ?_)
      have hG : g_P D (mo E C g_15 ad vw) ad B H := by rw [← ht9]; exact hB1
      obtain ⟨erg_15, eg_15⟩ := h_14
      refine lv_to (y := nI 0) (erg_15) ?_
      have f_16 : g_15 (60, 0, 0) 5 = nI 0 := by rw [eg_15, g2_self, upd_ne _ _ (by decide)]; exact hn
      have f_17 : g_15 (60, 0, 0) 14 = nI 0 := by rw [eg_15, g2_self, upd_ne _ _ (by decide)]; exact hm
      have f_18 : g_15 (60, 0, 0) 18 = nI 1 := by rw [eg_15, g2_self, upd_self]
      refine lv_if_ne (tgt := 38) hx hb dX6_spread_33 (by decide) (fun c => absurd (by decide) c) (fun _ => ?_)
      refine lv_iconst (v := nI 0) hx hb dX6_spread_36 (by decide) ?_
      exact W.iret (v := nI 0) hx hb hr (fun t9 ht9 hW9 => ⟨⟨_, g_15, rfl, f_18, by show g_P D _ _ B t9.heap; rw [ht9]; exact hG⟩, hS.F ht9⟩) hS.2.2 dX6_spread_37
    · refine lv_iload_n hx hb dX6_spread_17 rfl (lv_at hl 3 rfl) ?_
      refine lv_sipush (v := nI 400) hx hb dX6_spread_18 (by decide) ?_
      refine lv_icmp_gt (tgt := 28) hx hb dX6_spread_21 (by decide) (fun c_19 => ?_) (fun c_19 => ?_)
      · refine lv_iconst (v := nI 0) hx hb dX6_spread_28 (by decide) ?_
        refine lv_iconst (v := nI 1) hx hb dX6_spread_29 (by decide) ?_
        refine va_calli (va_runV (As := [.int (nI 0), .int (nI 0), .int (nI 1)]) (rest := []) ⟨hx, hb, hml, hown, hts⟩ (m_goes1 l ) (cwV 3 hts gX6_spread_X6_goes rfl rfl rfl (by decide +kernel) ⟨Nat.le_of_ble_eq_true rfl, Nat.le_of_ble_eq_true rfl⟩) (m_preV hF hK2 hCA hG hS (mo_obj) rfl) rfl rfl hl.1 rfl (lv_room (Nat.le_of_ble_eq_true rfl)) dX6_spread_30 ⟨Nat.le_of_ble_eq_true rfl, Nat.le_of_ble_eq_true rfl⟩) hS (fun q _ h => h) (fun q h => h) (fun r_20 g_22 t9 H locs ht9 _ h_21 hB1 _ _ hS => ?_)
        have hG : g_P D (mo E C g_22 ad vw) ad B H := by rw [← ht9]; exact hB1
        obtain ⟨erg_22, eg_22⟩ := h_21
        refine lv_to (y := nI 0) (erg_22) ?_
        have f_23 : g_22 (60, 0, 0) 5 = nI 0 := by rw [eg_22, g2_self, upd_ne _ _ (by decide)]; exact hn
        have f_24 : g_22 (60, 0, 0) 14 = nI 0 := by rw [eg_22, g2_self, upd_ne _ _ (by decide)]; exact hm
        have f_25 : g_22 (60, 0, 0) 18 = nI 1 := by rw [eg_22, g2_self, upd_self]
        refine lv_if_ne (tgt := 38) hx hb dX6_spread_33 (by decide) (fun c => absurd (by decide) c) (fun _ => ?_)
        refine lv_iconst (v := nI 0) hx hb dX6_spread_36 (by decide) ?_
        exact W.iret (v := nI 0) hx hb hr (fun t9 ht9 hW9 => ⟨⟨_, g_22, rfl, f_25, by show g_P D _ _ B t9.heap; rw [ht9]; exact hG⟩, hS.F ht9⟩) hS.2.2 dX6_spread_37
      · refine lv_iconst (v := nI 1) hx hb dX6_spread_24 (by decide) ?_
        refine lv_goto (tgt := 29) hx hb dX6_spread_25 (by decide) ?_
        refine lv_iconst (v := nI 1) hx hb dX6_spread_29 (by decide) ?_
        refine va_calli (va_runV (As := [.int (nI 0), .int (nI 1), .int (nI 1)]) (rest := []) ⟨hx, hb, hml, hown, hts⟩ (m_goes1 l ) (cwV 3 hts gX6_spread_X6_goes rfl rfl rfl (by decide +kernel) ⟨Nat.le_of_ble_eq_true rfl, Nat.le_of_ble_eq_true rfl⟩) (m_preV hF hK2 hCA hG hS (mo_obj) rfl) rfl rfl hl.1 rfl (lv_room (Nat.le_of_ble_eq_true rfl)) dX6_spread_30 ⟨Nat.le_of_ble_eq_true rfl, Nat.le_of_ble_eq_true rfl⟩) hS (fun q _ h => h) (fun q h => h) (fun r_26 g_28 t9 H locs ht9 _ h_27 hB1 _ _ hS => ?_)
        have hG : g_P D (mo E C g_28 ad vw) ad B H := by rw [← ht9]; exact hB1
        obtain ⟨erg_28, eg_28⟩ := h_27
        refine lv_to (y := nI 0) (erg_28) ?_
        have f_29 : g_28 (60, 0, 0) 5 = nI 0 := by rw [eg_28, g2_self, upd_ne _ _ (by decide)]; exact hn
        have f_30 : g_28 (60, 0, 0) 14 = nI 0 := by rw [eg_28, g2_self, upd_ne _ _ (by decide)]; exact hm
        have f_31 : g_28 (60, 0, 0) 18 = nI 1 := by rw [eg_28, g2_self, upd_self]
        refine lv_if_ne (tgt := 38) hx hb dX6_spread_33 (by decide) (fun c => absurd (by decide) c) (fun _ => ?_)
        refine lv_iconst (v := nI 0) hx hb dX6_spread_36 (by decide) ?_
        exact W.iret (v := nI 0) hx hb hr (fun t9 ht9 hW9 => ⟨⟨_, g_28, rfl, f_31, by show g_P D _ _ B t9.heap; rw [ht9]; exact hG⟩, hS.F ht9⟩) hS.2.2 dX6_spread_37

set_option maxHeartbeats 4000000 in
set_option maxRecDepth 100000 in
theorem m_arrivalByFlooding (l : Launch) {D : va_G} {C : g_C} {E : m_C} {h : g_k → Nat → Int32} {ad : g_k → Nat} {vw : g_k → Option va_E} {B : Nat} (hn : h (60, 0, 0) 5 = nI 0) (hm : h (60, 0, 0) 14 = nI 0) {x y z : Int32} : Met l yX6_arrivalByFlooding wsX6_arrivalByFlooding ({ frames := 2, cells := 0, slots := 0, locals := 46 } : Room) (va_Pc [.ref (ad (60, 0, 0)), .int x, .int y, .int z] (m_S D C E (mo E C h ad vw) ad B)) (va_Qi (fun (r : Int32) (h1 : g_k → Nat → Int32) => h1 (60, 0, 0) 18 = nI 1) (fun h1 t => g_P D (mo E C h1 ad vw) ad B t.heap) (g_A B)) 0 0 (g_A B) := by
  refine Met.ofW (cc := cX6_arrivalByFlooding) (maxL := 4) (ret := (some .int)) (by decide) rfl ?_
  intro p e s m args below meth c s₁ B₀ hml hv
  obtain ⟨rfl, ⟨hG, hF⟩, hK2, hCA⟩ := hv
  have hK := hF.1
  have hN := hF.2.1
  have hB := hF.2.2.2
  have hx := B₀.exec
  have hb := B₀.bytes
  have hr := B₀.returns
  have hts := atoms_spec (ws := wsX6_arrivalByFlooding) B₀.pre
  have hown : s.vm.findClass RX6 = some m.cls := findClass_of_methodNamed B₀.named
  have hlocks := B₀.notSynchronized
  have hS : va_S (g_A B) s.heap s.heap [] := va_S.rf
  have hl := lv_entry [.ref (ad (60, 0, 0)), .int x, .int y, .int z] (n := 4) (Nat.le_of_ble_eq_true rfl)
  rw [lg_entry_eq]
  generalize (lg_sl [.ref (ad (60, 0, 0)), .int x, .int y, .int z] ++ List.replicate (4 - (lg_sl [.ref (ad (60, 0, 0)), .int x, .int y, .int z]).length) Slot.unset).toArray = ls at hl ⊢
  have hl : lv_has ls 4 [(0, .ref (ad (60, 0, 0))), (1, .int x), (2, .int y), (3, .int z)] := hl
  refine lv_aload_n hx hb dX6_arrivalByFlooding_0 rfl (lv_at hl 0 rfl) ?_
  refine lv_iload_n hx hb dX6_arrivalByFlooding_1 rfl (lv_at hl 1 rfl) ?_
  refine lv_iload_n hx hb dX6_arrivalByFlooding_2 rfl (lv_at hl 2 rfl) ?_
  refine lv_iload_n hx hb dX6_arrivalByFlooding_3 rfl (lv_at hl 3 rfl) ?_
  refine va_calli (va_runV (As := [.int x, .int y, .int z]) (rest := []) ⟨hx, hb, hml, hown, hts⟩ (m_arrival l hn hm) (cwV 3 hts gX6_arrivalByFlooding_X6_arrival rfl rfl rfl (by decide +kernel) ⟨Nat.le_of_ble_eq_true rfl, Nat.le_of_ble_eq_true rfl⟩) (m_preV hF hK2 hCA hG hS (mo_obj) rfl) rfl rfl hl.1 rfl (lv_room (Nat.le_of_ble_eq_true rfl)) dX6_arrivalByFlooding_4 ⟨Nat.le_of_ble_eq_true rfl, Nat.le_of_ble_eq_true rfl⟩) hS (fun q _ h => h) (fun q h => h) (fun r_1 g_3 t9 H locs ht9 _ h_2 hB1 _ _ hS => ?_)
  have hG : g_P D (mo E C g_3 ad vw) ad B H := by rw [← ht9]; exact hB1
  exact W.iret (v := r_1) hx hb hr (fun t9 ht9 hW9 => ⟨⟨_, g_3, rfl, h_2, by show g_P D _ _ B t9.heap; rw [ht9]; exact hG⟩, hS.F ht9⟩) hS.2.2 dX6_arrivalByFlooding_7

set_option maxHeartbeats 4000000 in
set_option maxRecDepth 100000 in
theorem m_setCapacity (l : Launch) {D : va_G} {C : g_C} {E : m_C} {h : g_k → Nat → Int32} {ad : g_k → Nat} {vw : g_k → Option va_E} {B : Nat} (hn : h (60, 0, 0) 5 = nI 0) (hm : h (60, 0, 0) 14 = nI 0) {x y : Int32} : Met l yX6_setCapacity wsX6_setCapacity ({ frames := 1, cells := 0, slots := 0, locals := 23 } : Room) (va_Pc [.ref (ad (60, 0, 0)), .int x, .int y] (m_S D C E (mo E C h ad vw) ad B)) (va_Qi (fun (r : Int32) (h1 : g_k → Nat → Int32) => h1 (60, 0, 0) 18 = nI 1) (fun h1 t => g_P D (mo E C h1 ad vw) ad B t.heap) (g_A B)) 0 0 (g_A B) := by
  refine Met.ofW (cc := cX6_setCapacity) (maxL := 4) (ret := (some .int)) (by decide) rfl ?_
  intro p e s m args below meth c s₁ B₀ hml hv
  obtain ⟨rfl, ⟨hG, hF⟩, hK2, hCA⟩ := hv
  have hK := hF.1
  have hN := hF.2.1
  have hB := hF.2.2.2
  have hx := B₀.exec
  have hb := B₀.bytes
  have hr := B₀.returns
  have hts := atoms_spec (ws := wsX6_setCapacity) B₀.pre
  have hown : s.vm.findClass RX6 = some m.cls := findClass_of_methodNamed B₀.named
  have hlocks := B₀.notSynchronized
  have hS : va_S (g_A B) s.heap s.heap [] := va_S.rf
  have hl := lv_entry [.ref (ad (60, 0, 0)), .int x, .int y] (n := 4) (Nat.le_of_ble_eq_true rfl)
  rw [lg_entry_eq]
  generalize (lg_sl [.ref (ad (60, 0, 0)), .int x, .int y] ++ List.replicate (4 - (lg_sl [.ref (ad (60, 0, 0)), .int x, .int y]).length) Slot.unset).toArray = ls at hl ⊢
  have hl : lv_has ls 4 [(0, .ref (ad (60, 0, 0))), (1, .int x), (2, .int y)] := hl
  refine lv_aload_n hx hb dX6_setCapacity_0 rfl (lv_at hl 0 rfl) ?_
  refine lv_aload_n hx hb dX6_setCapacity_1 rfl (lv_at hl 0 rfl) ?_
  refine lv_iload_n hx hb dX6_setCapacity_2 rfl (lv_at hl 1 rfl) ?_
  refine vp_callSi (W.runV (As := [.int x]) (rest := [.ref (ad (60, 0, 0))]) ⟨hx, hb, hml, hown, hts⟩ (m_isNode l hn) (cwV 1 hts gX6_setCapacity_X6_isNode rfl rfl rfl (by decide +kernel) ⟨Nat.le_of_ble_eq_true rfl, Nat.le_of_ble_eq_true rfl⟩) (m_preV hF hK2 hCA hG hS (mo_obj) rfl) rfl rfl hl.1 rfl (lv_room (Nat.le_of_ble_eq_true rfl)) dX6_setCapacity_3 ⟨Nat.le_of_ble_eq_true rfl, Nat.le_of_ble_eq_true rfl⟩) (fun r_1 h_2 => ?_)
  refine lv_to (y := nI 0) (h_2) ?_
  refine lv_if_eq (tgt := 22) hx hb dX6_setCapacity_6 (by decide) (fun _ => ?_) (fun c => absurd (by decide) c)
  refine lv_iconst (v := nI 0) hx hb dX6_setCapacity_22 (by decide) ?_
  refine lv_iload_n hx hb dX6_setCapacity_23 rfl (lv_at hl 2 rfl) ?_
  refine lv_iconst (v := nI 1) hx hb dX6_setCapacity_24 (by decide) ?_
  refine lv_icmp_lt (tgt := 38) hx hb dX6_setCapacity_25 (by decide) (fun c_3 => ?_) (fun c_3 => ?_)
  · refine lv_iconst (v := nI 0) hx hb dX6_setCapacity_38 (by decide) ?_
    refine lv_iconst (v := nI 1) hx hb dX6_setCapacity_39 (by decide) ?_
    refine va_calli (va_runV (As := [.int (nI 0), .int (nI 0), .int (nI 1)]) (rest := []) ⟨hx, hb, hml, hown, hts⟩ (m_goes1 l ) (cwV 3 hts gX6_setCapacity_X6_goes rfl rfl rfl (by decide +kernel) ⟨Nat.le_of_ble_eq_true rfl, Nat.le_of_ble_eq_true rfl⟩) (m_preV hF hK2 hCA hG hS (mo_obj) rfl) rfl rfl hl.1 rfl (lv_room (Nat.le_of_ble_eq_true rfl)) dX6_setCapacity_40 ⟨Nat.le_of_ble_eq_true rfl, Nat.le_of_ble_eq_true rfl⟩) hS (fun q _ h => h) (fun q h => h) (fun r_4 g_6 t9 H locs ht9 _ h_5 hB1 _ _ hS => ?_)
    have hG : g_P D (mo E C g_6 ad vw) ad B H := by rw [← ht9]; exact hB1
    obtain ⟨erg_6, eg_6⟩ := h_5
    refine lv_to (y := nI 0) (erg_6) ?_
    have f_7 : g_6 (60, 0, 0) 5 = nI 0 := by rw [eg_6, g2_self, upd_ne _ _ (by decide)]; exact hn
    have f_8 : g_6 (60, 0, 0) 14 = nI 0 := by rw [eg_6, g2_self, upd_ne _ _ (by decide)]; exact hm
    have f_9 : g_6 (60, 0, 0) 18 = nI 1 := by rw [eg_6, g2_self, upd_self]
    refine lv_if_ne (tgt := 48) hx hb dX6_setCapacity_43 (by decide) (fun c => absurd (by decide) c) (fun _ => ?_)
    refine lv_iconst (v := nI 0) hx hb dX6_setCapacity_46 (by decide) ?_
    exact W.iret (v := nI 0) hx hb hr (fun t9 ht9 hW9 => ⟨⟨_, g_6, rfl, f_9, by show g_P D _ _ B t9.heap; rw [ht9]; exact hG⟩, hS.F ht9⟩) hS.2.2 dX6_setCapacity_47
  · refine lv_iload_n hx hb dX6_setCapacity_28 rfl (lv_at hl 2 rfl) ?_
    refine lv_bipush (v := nI 9) hx hb dX6_setCapacity_29 (by decide) ?_
    refine lv_icmp_gt (tgt := 38) hx hb dX6_setCapacity_31 (by decide) (fun c_10 => ?_) (fun c_10 => ?_)
    · refine lv_iconst (v := nI 0) hx hb dX6_setCapacity_38 (by decide) ?_
      refine lv_iconst (v := nI 1) hx hb dX6_setCapacity_39 (by decide) ?_
      refine va_calli (va_runV (As := [.int (nI 0), .int (nI 0), .int (nI 1)]) (rest := []) ⟨hx, hb, hml, hown, hts⟩ (m_goes1 l ) (cwV 3 hts gX6_setCapacity_X6_goes rfl rfl rfl (by decide +kernel) ⟨Nat.le_of_ble_eq_true rfl, Nat.le_of_ble_eq_true rfl⟩) (m_preV hF hK2 hCA hG hS (mo_obj) rfl) rfl rfl hl.1 rfl (lv_room (Nat.le_of_ble_eq_true rfl)) dX6_setCapacity_40 ⟨Nat.le_of_ble_eq_true rfl, Nat.le_of_ble_eq_true rfl⟩) hS (fun q _ h => h) (fun q h => h) (fun r_11 g_13 t9 H locs ht9 _ h_12 hB1 _ _ hS => ?_)
      have hG : g_P D (mo E C g_13 ad vw) ad B H := by rw [← ht9]; exact hB1
      obtain ⟨erg_13, eg_13⟩ := h_12
      refine lv_to (y := nI 0) (erg_13) ?_
      have f_14 : g_13 (60, 0, 0) 5 = nI 0 := by rw [eg_13, g2_self, upd_ne _ _ (by decide)]; exact hn
      have f_15 : g_13 (60, 0, 0) 14 = nI 0 := by rw [eg_13, g2_self, upd_ne _ _ (by decide)]; exact hm
      have f_16 : g_13 (60, 0, 0) 18 = nI 1 := by rw [eg_13, g2_self, upd_self]
      refine lv_if_ne (tgt := 48) hx hb dX6_setCapacity_43 (by decide) (fun c => absurd (by decide) c) (fun _ => ?_)
      refine lv_iconst (v := nI 0) hx hb dX6_setCapacity_46 (by decide) ?_
      exact W.iret (v := nI 0) hx hb hr (fun t9 ht9 hW9 => ⟨⟨_, g_13, rfl, f_16, by show g_P D _ _ B t9.heap; rw [ht9]; exact hG⟩, hS.F ht9⟩) hS.2.2 dX6_setCapacity_47
    · refine lv_iconst (v := nI 1) hx hb dX6_setCapacity_34 (by decide) ?_
      refine lv_goto (tgt := 39) hx hb dX6_setCapacity_35 (by decide) ?_
      refine lv_iconst (v := nI 1) hx hb dX6_setCapacity_39 (by decide) ?_
      refine va_calli (va_runV (As := [.int (nI 0), .int (nI 1), .int (nI 1)]) (rest := []) ⟨hx, hb, hml, hown, hts⟩ (m_goes1 l ) (cwV 3 hts gX6_setCapacity_X6_goes rfl rfl rfl (by decide +kernel) ⟨Nat.le_of_ble_eq_true rfl, Nat.le_of_ble_eq_true rfl⟩) (m_preV hF hK2 hCA hG hS (mo_obj) rfl) rfl rfl hl.1 rfl (lv_room (Nat.le_of_ble_eq_true rfl)) dX6_setCapacity_40 ⟨Nat.le_of_ble_eq_true rfl, Nat.le_of_ble_eq_true rfl⟩) hS (fun q _ h => h) (fun q h => h) (fun r_17 g_19 t9 H locs ht9 _ h_18 hB1 _ _ hS => ?_)
      have hG : g_P D (mo E C g_19 ad vw) ad B H := by rw [← ht9]; exact hB1
      obtain ⟨erg_19, eg_19⟩ := h_18
      refine lv_to (y := nI 0) (erg_19) ?_
      have f_20 : g_19 (60, 0, 0) 5 = nI 0 := by rw [eg_19, g2_self, upd_ne _ _ (by decide)]; exact hn
      have f_21 : g_19 (60, 0, 0) 14 = nI 0 := by rw [eg_19, g2_self, upd_ne _ _ (by decide)]; exact hm
      have f_22 : g_19 (60, 0, 0) 18 = nI 1 := by rw [eg_19, g2_self, upd_self]
      refine lv_if_ne (tgt := 48) hx hb dX6_setCapacity_43 (by decide) (fun c => absurd (by decide) c) (fun _ => ?_)
      refine lv_iconst (v := nI 0) hx hb dX6_setCapacity_46 (by decide) ?_
      exact W.iret (v := nI 0) hx hb hr (fun t9 ht9 hW9 => ⟨⟨_, g_19, rfl, f_22, by show g_P D _ _ B t9.heap; rw [ht9]; exact hG⟩, hS.F ht9⟩) hS.2.2 dX6_setCapacity_47

set_option maxHeartbeats 4000000 in
set_option maxRecDepth 100000 in
theorem m_placeAt (l : Launch) {D : va_G} {C : g_C} {E : m_C} {h : g_k → Nat → Int32} {ad : g_k → Nat} {vw : g_k → Option va_E} {B : Nat} (hn : h (60, 0, 0) 5 = nI 0) (hm : h (60, 0, 0) 14 = nI 0) {x y : Int32} : Met l yX6_placeAt wsX6_placeAt ({ frames := 1, cells := 0, slots := 0, locals := 23 } : Room) (va_Pc [.ref (ad (60, 0, 0)), .int x, .int y] (m_S D C E (mo E C h ad vw) ad B)) (va_Qi (fun (r : Int32) (h1 : g_k → Nat → Int32) => h1 (60, 0, 0) 18 = nI 1) (fun h1 t => g_P D (mo E C h1 ad vw) ad B t.heap) (g_A B)) 0 0 (g_A B) := by
  refine Met.ofW (cc := cX6_placeAt) (maxL := 3) (ret := (some .int)) (by decide) rfl ?_
  intro p e s m args below meth c s₁ B₀ hml hv
  obtain ⟨rfl, ⟨hG, hF⟩, hK2, hCA⟩ := hv
  have hK := hF.1
  have hN := hF.2.1
  have hB := hF.2.2.2
  have hx := B₀.exec
  have hb := B₀.bytes
  have hr := B₀.returns
  have hts := atoms_spec (ws := wsX6_placeAt) B₀.pre
  have hown : s.vm.findClass RX6 = some m.cls := findClass_of_methodNamed B₀.named
  have hlocks := B₀.notSynchronized
  have hS : va_S (g_A B) s.heap s.heap [] := va_S.rf
  have hl := lv_entry [.ref (ad (60, 0, 0)), .int x, .int y] (n := 3) (Nat.le_of_ble_eq_true rfl)
  rw [lg_entry_eq]
  generalize (lg_sl [.ref (ad (60, 0, 0)), .int x, .int y] ++ List.replicate (3 - (lg_sl [.ref (ad (60, 0, 0)), .int x, .int y]).length) Slot.unset).toArray = ls at hl ⊢
  have hl : lv_has ls 3 [(0, .ref (ad (60, 0, 0))), (1, .int x), (2, .int y)] := hl
  refine lv_aload_n hx hb dX6_placeAt_0 rfl (lv_at hl 0 rfl) ?_
  refine lv_aload_n hx hb dX6_placeAt_1 rfl (lv_at hl 0 rfl) ?_
  refine lv_iload_n hx hb dX6_placeAt_2 rfl (lv_at hl 1 rfl) ?_
  refine vp_callSi (W.runV (As := [.int x]) (rest := [.ref (ad (60, 0, 0))]) ⟨hx, hb, hml, hown, hts⟩ (m_isNode l hn) (cwV 1 hts gX6_placeAt_X6_isNode rfl rfl rfl (by decide +kernel) ⟨Nat.le_of_ble_eq_true rfl, Nat.le_of_ble_eq_true rfl⟩) (m_preV hF hK2 hCA hG hS (mo_obj) rfl) rfl rfl hl.1 rfl (lv_room (Nat.le_of_ble_eq_true rfl)) dX6_placeAt_3 ⟨Nat.le_of_ble_eq_true rfl, Nat.le_of_ble_eq_true rfl⟩) (fun r_1 h_2 => ?_)
  refine lv_to (y := nI 0) (h_2) ?_
  refine lv_iload_n hx hb dX6_placeAt_6 rfl (lv_at hl 2 rfl) ?_
  refine vp_callSi (W.runS (As := [.int y]) (rest := [.int (nI 0), .ref (ad (60, 0, 0))]) ⟨hx, hb, hml, hown, hts⟩ (m_isMinute l ) (va_cwS 1 hts gX6_placeAt_X6_isMinute rfl rfl rfl (by decide +kernel) ⟨Nat.le_of_ble_eq_true rfl, Nat.le_of_ble_eq_true rfl⟩) (m_preS hF hK2 hCA hG hS) rfl rfl hl.1 rfl (lv_room (Nat.le_of_ble_eq_true rfl)) dX6_placeAt_7 ⟨Nat.le_of_ble_eq_true rfl, Nat.le_of_ble_eq_true rfl⟩) (fun r_3 h_4 => ?_)
  refine lv_iconst (v := nI 1) hx hb dX6_placeAt_10 (by decide) ?_
  refine va_calli (va_runV (As := [.int (nI 0), .int r_3, .int (nI 1)]) (rest := []) ⟨hx, hb, hml, hown, hts⟩ (m_goes1 l ) (cwV 3 hts gX6_placeAt_X6_goes rfl rfl rfl (by decide +kernel) ⟨Nat.le_of_ble_eq_true rfl, Nat.le_of_ble_eq_true rfl⟩) (m_preV hF hK2 hCA hG hS (mo_obj) rfl) rfl rfl hl.1 rfl (lv_room (Nat.le_of_ble_eq_true rfl)) dX6_placeAt_11 ⟨Nat.le_of_ble_eq_true rfl, Nat.le_of_ble_eq_true rfl⟩) hS (fun q _ h => h) (fun q h => h) (fun r_5 g_7 t9 H locs ht9 _ h_6 hB1 _ _ hS => ?_)
  have hG : g_P D (mo E C g_7 ad vw) ad B H := by rw [← ht9]; exact hB1
  obtain ⟨erg_7, eg_7⟩ := h_6
  refine lv_to (y := nI 0) (erg_7) ?_
  have f_8 : g_7 (60, 0, 0) 5 = nI 0 := by rw [eg_7, g2_self, upd_ne _ _ (by decide)]; exact hn
  have f_9 : g_7 (60, 0, 0) 14 = nI 0 := by rw [eg_7, g2_self, upd_ne _ _ (by decide)]; exact hm
  have f_10 : g_7 (60, 0, 0) 18 = nI 1 := by rw [eg_7, g2_self, upd_self]
  refine lv_if_eq (tgt := 26) hx hb dX6_placeAt_14 (by decide) (fun _ => ?_) (fun c => absurd (by decide) c)
  refine lv_iconst (v := nI 0) hx hb dX6_placeAt_26 (by decide) ?_
  exact W.iret (v := nI 0) hx hb hr (fun t9 ht9 hW9 => ⟨⟨_, g_7, rfl, f_10, by show g_P D _ _ B t9.heap; rw [ht9]; exact hG⟩, hS.F ht9⟩) hS.2.2 dX6_placeAt_27

set_option maxHeartbeats 4000000 in
set_option maxRecDepth 100000 in
theorem m_send (l : Launch) {D : va_G} {C : g_C} {E : m_C} {h : g_k → Nat → Int32} {ad : g_k → Nat} {vw : g_k → Option va_E} {B : Nat} (hn : h (60, 0, 0) 5 = nI 0) (hm : h (60, 0, 0) 14 = nI 0) {x y : Int32} : Met l yX6_send wsX6_send ({ frames := 2, cells := 0, slots := 0, locals := 42 } : Room) (va_Pc [.ref (ad (60, 0, 0)), .int x, .int y] (m_S D C E (mo E C h ad vw) ad B)) (va_Qi (fun (r : Int32) (h1 : g_k → Nat → Int32) => h1 (60, 0, 0) 18 = nI 1) (fun h1 t => g_P D (mo E C h1 ad vw) ad B t.heap) (g_A B)) 0 0 (g_A B) := by
  refine Met.ofW (cc := cX6_send) (maxL := 3) (ret := (some .int)) (by decide) rfl ?_
  intro p e s m args below meth c s₁ B₀ hml hv
  obtain ⟨rfl, ⟨hG, hF⟩, hK2, hCA⟩ := hv
  have hK := hF.1
  have hN := hF.2.1
  have hB := hF.2.2.2
  have hx := B₀.exec
  have hb := B₀.bytes
  have hr := B₀.returns
  have hts := atoms_spec (ws := wsX6_send) B₀.pre
  have hown : s.vm.findClass RX6 = some m.cls := findClass_of_methodNamed B₀.named
  have hlocks := B₀.notSynchronized
  have hS : va_S (g_A B) s.heap s.heap [] := va_S.rf
  have hi6 : ∀ w ∈ wsX60, w ∈ wsX6_send := by decide +kernel
  have hl := lv_entry [.ref (ad (60, 0, 0)), .int x, .int y] (n := 3) (Nat.le_of_ble_eq_true rfl)
  rw [lg_entry_eq]
  generalize (lg_sl [.ref (ad (60, 0, 0)), .int x, .int y] ++ List.replicate (3 - (lg_sl [.ref (ad (60, 0, 0)), .int x, .int y]).length) Slot.unset).toArray = ls at hl ⊢
  have hl : lv_has ls 3 [(0, .ref (ad (60, 0, 0))), (1, .int x), (2, .int y)] := hl
  refine lv_aload_n hx hb dX6_send_0 rfl (lv_at hl 0 rfl) ?_
  refine lv_aload_n hx hb dX6_send_1 rfl (lv_at hl 0 rfl) ?_
  refine lv_iload_n hx hb dX6_send_2 rfl (lv_at hl 1 rfl) ?_
  refine vp_callSi (W.runV (As := [.int x]) (rest := [.ref (ad (60, 0, 0))]) ⟨hx, hb, hml, hown, hts⟩ (m_isStation l hn) (cwV 1 hts gX6_send_X6_isStation rfl rfl rfl (by decide +kernel) ⟨Nat.le_of_ble_eq_true rfl, Nat.le_of_ble_eq_true rfl⟩) (m_preV hF hK2 hCA hG hS (mo_obj) rfl) rfl rfl hl.1 rfl (lv_room (Nat.le_of_ble_eq_true rfl)) dX6_send_3 ⟨Nat.le_of_ble_eq_true rfl, Nat.le_of_ble_eq_true rfl⟩) (fun r_1 h_2 => ?_)
  refine lv_to (y := nI 0) (h_2) ?_
  refine lv_if_eq (tgt := 21) hx hb dX6_send_6 (by decide) (fun _ => ?_) (fun c => absurd (by decide) c)
  refine lv_iconst (v := nI 0) hx hb dX6_send_21 (by decide) ?_
  refine lv_iload_n hx hb dX6_send_22 rfl (lv_at hl 1 rfl) ?_
  refine lv_iload_n hx hb dX6_send_23 rfl (lv_at hl 2 rfl) ?_
  refine lv_icmp_eq (tgt := 31) hx hb dX6_send_24 (by decide) (fun c_3 => ?_) (fun c_3 => ?_)
  · refine lv_iconst (v := nI 0) hx hb dX6_send_31 (by decide) ?_
    refine lv_aload_n hx hb dX6_send_32 rfl (lv_at hl 0 rfl) ?_
    refine g_get hx hb hts hi6 hown hK hG (mo_obj) rfl 14 (by decide) (hts (.fieldLink RX6 62 "SatelliteringModel" "messages" "I") (by decide +kernel)) rfl dX6_send_33 ?_
    refine lv_to (y := nI 0) (hm) ?_
    refine lv_bipush (v := nI 20) hx hb dX6_send_36 (by decide) ?_
    refine lv_icmp_ge (tgt := 45) hx hb dX6_send_38 (by decide) (fun c => absurd c (by decide)) (fun _ => ?_)
    refine lv_iconst (v := nI 1) hx hb dX6_send_41 (by decide) ?_
    refine lv_goto (tgt := 46) hx hb dX6_send_42 (by decide) ?_
    refine va_calli (va_runV (As := [.int (nI 0), .int (nI 0), .int (nI 1)]) (rest := []) ⟨hx, hb, hml, hown, hts⟩ (m_goes1 l ) (cwV 3 hts gX6_send_X6_goes rfl rfl rfl (by decide +kernel) ⟨Nat.le_of_ble_eq_true rfl, Nat.le_of_ble_eq_true rfl⟩) (m_preV hF hK2 hCA hG hS (mo_obj) rfl) rfl rfl hl.1 rfl (lv_room (Nat.le_of_ble_eq_true rfl)) dX6_send_46 ⟨Nat.le_of_ble_eq_true rfl, Nat.le_of_ble_eq_true rfl⟩) hS (fun q _ h => h) (fun q h => h) (fun r_4 g_6 t9 H locs ht9 _ h_5 hB1 _ _ hS => ?_)
    have hG : g_P D (mo E C g_6 ad vw) ad B H := by rw [← ht9]; exact hB1
    obtain ⟨erg_6, eg_6⟩ := h_5
    refine lv_to (y := nI 0) (erg_6) ?_
    have f_7 : g_6 (60, 0, 0) 5 = nI 0 := by rw [eg_6, g2_self, upd_ne _ _ (by decide)]; exact hn
    have f_8 : g_6 (60, 0, 0) 14 = nI 0 := by rw [eg_6, g2_self, upd_ne _ _ (by decide)]; exact hm
    have f_9 : g_6 (60, 0, 0) 18 = nI 1 := by rw [eg_6, g2_self, upd_self]
    refine lv_if_ne (tgt := 54) hx hb dX6_send_49 (by decide) (fun c => absurd (by decide) c) (fun _ => ?_)
    refine lv_iconst (v := nI 0) hx hb dX6_send_52 (by decide) ?_
    exact W.iret (v := nI 0) hx hb hr (fun t9 ht9 hW9 => ⟨⟨_, g_6, rfl, f_9, by show g_P D _ _ B t9.heap; rw [ht9]; exact hG⟩, hS.F ht9⟩) hS.2.2 dX6_send_53
  · refine lv_iconst (v := nI 1) hx hb dX6_send_27 (by decide) ?_
    refine lv_goto (tgt := 32) hx hb dX6_send_28 (by decide) ?_
    refine lv_aload_n hx hb dX6_send_32 rfl (lv_at hl 0 rfl) ?_
    refine g_get hx hb hts hi6 hown hK hG (mo_obj) rfl 14 (by decide) (hts (.fieldLink RX6 62 "SatelliteringModel" "messages" "I") (by decide +kernel)) rfl dX6_send_33 ?_
    refine lv_to (y := nI 0) (hm) ?_
    refine lv_bipush (v := nI 20) hx hb dX6_send_36 (by decide) ?_
    refine lv_icmp_ge (tgt := 45) hx hb dX6_send_38 (by decide) (fun c => absurd c (by decide)) (fun _ => ?_)
    refine lv_iconst (v := nI 1) hx hb dX6_send_41 (by decide) ?_
    refine lv_goto (tgt := 46) hx hb dX6_send_42 (by decide) ?_
    refine va_calli (va_runV (As := [.int (nI 0), .int (nI 1), .int (nI 1)]) (rest := []) ⟨hx, hb, hml, hown, hts⟩ (m_goes1 l ) (cwV 3 hts gX6_send_X6_goes rfl rfl rfl (by decide +kernel) ⟨Nat.le_of_ble_eq_true rfl, Nat.le_of_ble_eq_true rfl⟩) (m_preV hF hK2 hCA hG hS (mo_obj) rfl) rfl rfl hl.1 rfl (lv_room (Nat.le_of_ble_eq_true rfl)) dX6_send_46 ⟨Nat.le_of_ble_eq_true rfl, Nat.le_of_ble_eq_true rfl⟩) hS (fun q _ h => h) (fun q h => h) (fun r_10 g_12 t9 H locs ht9 _ h_11 hB1 _ _ hS => ?_)
    have hG : g_P D (mo E C g_12 ad vw) ad B H := by rw [← ht9]; exact hB1
    obtain ⟨erg_12, eg_12⟩ := h_11
    refine lv_to (y := nI 0) (erg_12) ?_
    have f_13 : g_12 (60, 0, 0) 5 = nI 0 := by rw [eg_12, g2_self, upd_ne _ _ (by decide)]; exact hn
    have f_14 : g_12 (60, 0, 0) 14 = nI 0 := by rw [eg_12, g2_self, upd_ne _ _ (by decide)]; exact hm
    have f_15 : g_12 (60, 0, 0) 18 = nI 1 := by rw [eg_12, g2_self, upd_self]
    refine lv_if_ne (tgt := 54) hx hb dX6_send_49 (by decide) (fun c => absurd (by decide) c) (fun _ => ?_)
    refine lv_iconst (v := nI 0) hx hb dX6_send_52 (by decide) ?_
    exact W.iret (v := nI 0) hx hb hr (fun t9 ht9 hW9 => ⟨⟨_, g_12, rfl, f_15, by show g_P D _ _ B t9.heap; rw [ht9]; exact hG⟩, hS.F ht9⟩) hS.2.2 dX6_send_53

set_option maxHeartbeats 4000000 in
set_option maxRecDepth 100000 in
theorem m_hopNode (l : Launch) {D : va_G} {C : g_C} {E : m_C} {h : g_k → Nat → Int32} {ad : g_k → Nat} {vw : g_k → Option va_E} {B : Nat} (hn : h (60, 0, 0) 5 = nI 0) (hm : h (60, 0, 0) 14 = nI 0) {x y : Int32} : Met l yX6_hopNode wsX6_hopNode ({ frames := 1, cells := 0, slots := 0, locals := 23 } : Room) (va_Pc [.ref (ad (60, 0, 0)), .int x, .int y] (m_S D C E (mo E C h ad vw) ad B)) (va_Qi (fun (r : Int32) (h1 : g_k → Nat → Int32) => h1 (60, 0, 0) 18 = nI 1) (fun h1 t => g_P D (mo E C h1 ad vw) ad B t.heap) (g_A B)) 0 0 (g_A B) := by
  refine Met.ofW (cc := cX6_hopNode) (maxL := 4) (ret := (some .int)) (by decide) rfl ?_
  intro p e s m args below meth c s₁ B₀ hml hv
  obtain ⟨rfl, ⟨hG, hF⟩, hK2, hCA⟩ := hv
  have hK := hF.1
  have hN := hF.2.1
  have hB := hF.2.2.2
  have hx := B₀.exec
  have hb := B₀.bytes
  have hr := B₀.returns
  have hts := atoms_spec (ws := wsX6_hopNode) B₀.pre
  have hown : s.vm.findClass RX6 = some m.cls := findClass_of_methodNamed B₀.named
  have hlocks := B₀.notSynchronized
  have hS : va_S (g_A B) s.heap s.heap [] := va_S.rf
  have hl := lv_entry [.ref (ad (60, 0, 0)), .int x, .int y] (n := 4) (Nat.le_of_ble_eq_true rfl)
  rw [lg_entry_eq]
  generalize (lg_sl [.ref (ad (60, 0, 0)), .int x, .int y] ++ List.replicate (4 - (lg_sl [.ref (ad (60, 0, 0)), .int x, .int y]).length) Slot.unset).toArray = ls at hl ⊢
  have hl : lv_has ls 4 [(0, .ref (ad (60, 0, 0))), (1, .int x), (2, .int y)] := hl
  refine lv_aload_n hx hb dX6_hopNode_0 rfl (lv_at hl 0 rfl) ?_
  refine lv_iload_n hx hb dX6_hopNode_1 rfl (lv_at hl 1 rfl) ?_
  refine vp_callSi (W.runV (As := [.int x]) (rest := []) ⟨hx, hb, hml, hown, hts⟩ (m_isMessage l hm) (cwV 1 hts gX6_hopNode_X6_isMessage rfl rfl rfl (by decide +kernel) ⟨Nat.le_of_ble_eq_true rfl, Nat.le_of_ble_eq_true rfl⟩) (m_preV hF hK2 hCA hG hS (mo_obj) rfl) rfl rfl hl.1 rfl (lv_room (Nat.le_of_ble_eq_true rfl)) dX6_hopNode_2 ⟨Nat.le_of_ble_eq_true rfl, Nat.le_of_ble_eq_true rfl⟩) (fun r_1 h_2 => ?_)
  refine lv_to (y := nI 0) (h_2) ?_
  refine lv_if_eq (tgt := 17) hx hb dX6_hopNode_5 (by decide) (fun _ => ?_) (fun c => absurd (by decide) c)
  refine lv_iconst (v := (-1)) hx hb dX6_hopNode_17 (by decide) ?_
  refine lv_istore_n (lv' := [(3, .int (-1)), (0, .ref (ad (60, 0, 0))), (1, .int x), (2, .int y)]) hx hb dX6_hopNode_18 rfl hl (by decide) rfl (fun ls hl => ?_)
  refine lv_aload_n hx hb dX6_hopNode_19 rfl (lv_at hl 1 rfl) ?_
  refine lv_iload_n hx hb dX6_hopNode_20 rfl (lv_at hl 0 rfl) ?_
  refine lv_if_lt (tgt := 28) hx hb dX6_hopNode_21 (by decide) (fun _ => ?_) (fun c => absurd (by decide) c)
  refine lv_iconst (v := nI 0) hx hb dX6_hopNode_28 (by decide) ?_
  refine lv_iconst (v := nI 1) hx hb dX6_hopNode_29 (by decide) ?_
  refine lv_iconst (v := nI 1) hx hb dX6_hopNode_30 (by decide) ?_
  refine va_calli (va_runV (As := [.int (nI 0), .int (nI 1), .int (nI 1)]) (rest := []) ⟨hx, hb, hml, hown, hts⟩ (m_goes1 l ) (cwV 3 hts gX6_hopNode_X6_goes rfl rfl rfl (by decide +kernel) ⟨Nat.le_of_ble_eq_true rfl, Nat.le_of_ble_eq_true rfl⟩) (m_preV hF hK2 hCA hG hS (mo_obj) rfl) rfl rfl hl.1 rfl (lv_room (Nat.le_of_ble_eq_true rfl)) dX6_hopNode_31 ⟨Nat.le_of_ble_eq_true rfl, Nat.le_of_ble_eq_true rfl⟩) hS (fun q _ h => h) (fun q h => h) (fun r_3 g_5 t9 H locs ht9 _ h_4 hB1 _ _ hS => ?_)
  have hG : g_P D (mo E C g_5 ad vw) ad B H := by rw [← ht9]; exact hB1
  obtain ⟨erg_5, eg_5⟩ := h_4
  refine lv_to (y := nI 0) (erg_5) ?_
  have f_6 : g_5 (60, 0, 0) 5 = nI 0 := by rw [eg_5, g2_self, upd_ne _ _ (by decide)]; exact hn
  have f_7 : g_5 (60, 0, 0) 14 = nI 0 := by rw [eg_5, g2_self, upd_ne _ _ (by decide)]; exact hm
  have f_8 : g_5 (60, 0, 0) 18 = nI 1 := by rw [eg_5, g2_self, upd_self]
  refine lv_if_eq (tgt := 44) hx hb dX6_hopNode_34 (by decide) (fun _ => ?_) (fun c => absurd (by decide) c)
  refine lv_iconst (v := nI 0) hx hb dX6_hopNode_44 (by decide) ?_
  exact W.iret (v := nI 0) hx hb hr (fun t9 ht9 hW9 => ⟨⟨_, g_5, rfl, f_8, by show g_P D _ _ B t9.heap; rw [ht9]; exact hG⟩, hS.F ht9⟩) hS.2.2 dX6_hopNode_45

set_option maxHeartbeats 4000000 in
set_option maxRecDepth 100000 in
theorem m_hopMinute (l : Launch) {D : va_G} {C : g_C} {E : m_C} {h : g_k → Nat → Int32} {ad : g_k → Nat} {vw : g_k → Option va_E} {B : Nat} (hn : h (60, 0, 0) 5 = nI 0) (hm : h (60, 0, 0) 14 = nI 0) {x y : Int32} : Met l yX6_hopMinute wsX6_hopMinute ({ frames := 1, cells := 0, slots := 0, locals := 23 } : Room) (va_Pc [.ref (ad (60, 0, 0)), .int x, .int y] (m_S D C E (mo E C h ad vw) ad B)) (va_Qi (fun (r : Int32) (h1 : g_k → Nat → Int32) => h1 (60, 0, 0) 18 = nI 1) (fun h1 t => g_P D (mo E C h1 ad vw) ad B t.heap) (g_A B)) 0 0 (g_A B) := by
  refine Met.ofW (cc := cX6_hopMinute) (maxL := 4) (ret := (some .int)) (by decide) rfl ?_
  intro p e s m args below meth c s₁ B₀ hml hv
  obtain ⟨rfl, ⟨hG, hF⟩, hK2, hCA⟩ := hv
  have hK := hF.1
  have hN := hF.2.1
  have hB := hF.2.2.2
  have hx := B₀.exec
  have hb := B₀.bytes
  have hr := B₀.returns
  have hts := atoms_spec (ws := wsX6_hopMinute) B₀.pre
  have hown : s.vm.findClass RX6 = some m.cls := findClass_of_methodNamed B₀.named
  have hlocks := B₀.notSynchronized
  have hS : va_S (g_A B) s.heap s.heap [] := va_S.rf
  have hl := lv_entry [.ref (ad (60, 0, 0)), .int x, .int y] (n := 4) (Nat.le_of_ble_eq_true rfl)
  rw [lg_entry_eq]
  generalize (lg_sl [.ref (ad (60, 0, 0)), .int x, .int y] ++ List.replicate (4 - (lg_sl [.ref (ad (60, 0, 0)), .int x, .int y]).length) Slot.unset).toArray = ls at hl ⊢
  have hl : lv_has ls 4 [(0, .ref (ad (60, 0, 0))), (1, .int x), (2, .int y)] := hl
  refine lv_aload_n hx hb dX6_hopMinute_0 rfl (lv_at hl 0 rfl) ?_
  refine lv_iload_n hx hb dX6_hopMinute_1 rfl (lv_at hl 1 rfl) ?_
  refine vp_callSi (W.runV (As := [.int x]) (rest := []) ⟨hx, hb, hml, hown, hts⟩ (m_isMessage l hm) (cwV 1 hts gX6_hopMinute_X6_isMessage rfl rfl rfl (by decide +kernel) ⟨Nat.le_of_ble_eq_true rfl, Nat.le_of_ble_eq_true rfl⟩) (m_preV hF hK2 hCA hG hS (mo_obj) rfl) rfl rfl hl.1 rfl (lv_room (Nat.le_of_ble_eq_true rfl)) dX6_hopMinute_2 ⟨Nat.le_of_ble_eq_true rfl, Nat.le_of_ble_eq_true rfl⟩) (fun r_1 h_2 => ?_)
  refine lv_to (y := nI 0) (h_2) ?_
  refine lv_if_eq (tgt := 17) hx hb dX6_hopMinute_5 (by decide) (fun _ => ?_) (fun c => absurd (by decide) c)
  refine lv_iconst (v := (-1)) hx hb dX6_hopMinute_17 (by decide) ?_
  refine lv_istore_n (lv' := [(3, .int (-1)), (0, .ref (ad (60, 0, 0))), (1, .int x), (2, .int y)]) hx hb dX6_hopMinute_18 rfl hl (by decide) rfl (fun ls hl => ?_)
  refine lv_aload_n hx hb dX6_hopMinute_19 rfl (lv_at hl 1 rfl) ?_
  refine lv_iload_n hx hb dX6_hopMinute_20 rfl (lv_at hl 0 rfl) ?_
  refine lv_if_lt (tgt := 28) hx hb dX6_hopMinute_21 (by decide) (fun _ => ?_) (fun c => absurd (by decide) c)
  refine lv_iconst (v := nI 0) hx hb dX6_hopMinute_28 (by decide) ?_
  refine lv_iconst (v := nI 1) hx hb dX6_hopMinute_29 (by decide) ?_
  refine lv_iconst (v := nI 1) hx hb dX6_hopMinute_30 (by decide) ?_
  refine va_calli (va_runV (As := [.int (nI 0), .int (nI 1), .int (nI 1)]) (rest := []) ⟨hx, hb, hml, hown, hts⟩ (m_goes1 l ) (cwV 3 hts gX6_hopMinute_X6_goes rfl rfl rfl (by decide +kernel) ⟨Nat.le_of_ble_eq_true rfl, Nat.le_of_ble_eq_true rfl⟩) (m_preV hF hK2 hCA hG hS (mo_obj) rfl) rfl rfl hl.1 rfl (lv_room (Nat.le_of_ble_eq_true rfl)) dX6_hopMinute_31 ⟨Nat.le_of_ble_eq_true rfl, Nat.le_of_ble_eq_true rfl⟩) hS (fun q _ h => h) (fun q h => h) (fun r_3 g_5 t9 H locs ht9 _ h_4 hB1 _ _ hS => ?_)
  have hG : g_P D (mo E C g_5 ad vw) ad B H := by rw [← ht9]; exact hB1
  obtain ⟨erg_5, eg_5⟩ := h_4
  refine lv_to (y := nI 0) (erg_5) ?_
  have f_6 : g_5 (60, 0, 0) 5 = nI 0 := by rw [eg_5, g2_self, upd_ne _ _ (by decide)]; exact hn
  have f_7 : g_5 (60, 0, 0) 14 = nI 0 := by rw [eg_5, g2_self, upd_ne _ _ (by decide)]; exact hm
  have f_8 : g_5 (60, 0, 0) 18 = nI 1 := by rw [eg_5, g2_self, upd_self]
  refine lv_if_eq (tgt := 45) hx hb dX6_hopMinute_34 (by decide) (fun _ => ?_) (fun c => absurd (by decide) c)
  refine lv_iconst (v := nI 0) hx hb dX6_hopMinute_45 (by decide) ?_
  exact W.iret (v := nI 0) hx hb hr (fun t9 ht9 hW9 => ⟨⟨_, g_5, rfl, f_8, by show g_P D _ _ B t9.heap; rw [ht9]; exact hG⟩, hS.F ht9⟩) hS.2.2 dX6_hopMinute_46

set_option maxHeartbeats 4000000 in
set_option maxRecDepth 100000 in
theorem m_load (l : Launch) {D : va_G} {C : g_C} {E : m_C} {h : g_k → Nat → Int32} {ad : g_k → Nat} {vw : g_k → Option va_E} {B : Nat} (hn : h (60, 0, 0) 5 = nI 0) (hm : h (60, 0, 0) 14 = nI 0) {x : Int32} : Met l yX6_load wsX6_load ({ frames := 1, cells := 0, slots := 0, locals := 23 } : Room) (va_Pc [.ref (ad (60, 0, 0)), .int x] (m_S D C E (mo E C h ad vw) ad B)) (va_Qi (fun (r : Int32) (h1 : g_k → Nat → Int32) => h1 (60, 0, 0) 18 = nI 1) (fun h1 t => g_P D (mo E C h1 ad vw) ad B t.heap) (g_A B)) 0 0 (g_A B) := by
  refine Met.ofW (cc := cX6_load) (maxL := 2) (ret := (some .int)) (by decide) rfl ?_
  intro p e s m args below meth c s₁ B₀ hml hv
  obtain ⟨rfl, ⟨hG, hF⟩, hK2, hCA⟩ := hv
  have hK := hF.1
  have hN := hF.2.1
  have hB := hF.2.2.2
  have hx := B₀.exec
  have hb := B₀.bytes
  have hr := B₀.returns
  have hts := atoms_spec (ws := wsX6_load) B₀.pre
  have hown : s.vm.findClass RX6 = some m.cls := findClass_of_methodNamed B₀.named
  have hlocks := B₀.notSynchronized
  have hS : va_S (g_A B) s.heap s.heap [] := va_S.rf
  have hl := lv_entry [.ref (ad (60, 0, 0)), .int x] (n := 2) (Nat.le_of_ble_eq_true rfl)
  rw [lg_entry_eq]
  generalize (lg_sl [.ref (ad (60, 0, 0)), .int x] ++ List.replicate (2 - (lg_sl [.ref (ad (60, 0, 0)), .int x]).length) Slot.unset).toArray = ls at hl ⊢
  have hl : lv_has ls 2 [(0, .ref (ad (60, 0, 0))), (1, .int x)] := hl
  refine lv_aload_n hx hb dX6_load_0 rfl (lv_at hl 0 rfl) ?_
  refine lv_aload_n hx hb dX6_load_1 rfl (lv_at hl 0 rfl) ?_
  refine lv_iload_n hx hb dX6_load_2 rfl (lv_at hl 1 rfl) ?_
  refine vp_callSi (W.runV (As := [.int x]) (rest := [.ref (ad (60, 0, 0))]) ⟨hx, hb, hml, hown, hts⟩ (m_isNode l hn) (cwV 1 hts gX6_load_X6_isNode rfl rfl rfl (by decide +kernel) ⟨Nat.le_of_ble_eq_true rfl, Nat.le_of_ble_eq_true rfl⟩) (m_preV hF hK2 hCA hG hS (mo_obj) rfl) rfl rfl hl.1 rfl (lv_room (Nat.le_of_ble_eq_true rfl)) dX6_load_3 ⟨Nat.le_of_ble_eq_true rfl, Nat.le_of_ble_eq_true rfl⟩) (fun r_1 h_2 => ?_)
  refine lv_to (y := nI 0) (h_2) ?_
  refine lv_iconst (v := nI 1) hx hb dX6_load_6 (by decide) ?_
  refine lv_iconst (v := nI 1) hx hb dX6_load_7 (by decide) ?_
  refine va_calli (va_runV (As := [.int (nI 0), .int (nI 1), .int (nI 1)]) (rest := []) ⟨hx, hb, hml, hown, hts⟩ (m_goes1 l ) (cwV 3 hts gX6_load_X6_goes rfl rfl rfl (by decide +kernel) ⟨Nat.le_of_ble_eq_true rfl, Nat.le_of_ble_eq_true rfl⟩) (m_preV hF hK2 hCA hG hS (mo_obj) rfl) rfl rfl hl.1 rfl (lv_room (Nat.le_of_ble_eq_true rfl)) dX6_load_8 ⟨Nat.le_of_ble_eq_true rfl, Nat.le_of_ble_eq_true rfl⟩) hS (fun q _ h => h) (fun q h => h) (fun r_3 g_5 t9 H locs ht9 _ h_4 hB1 _ _ hS => ?_)
  have hG : g_P D (mo E C g_5 ad vw) ad B H := by rw [← ht9]; exact hB1
  obtain ⟨erg_5, eg_5⟩ := h_4
  refine lv_to (y := nI 0) (erg_5) ?_
  have f_6 : g_5 (60, 0, 0) 5 = nI 0 := by rw [eg_5, g2_self, upd_ne _ _ (by decide)]; exact hn
  have f_7 : g_5 (60, 0, 0) 14 = nI 0 := by rw [eg_5, g2_self, upd_ne _ _ (by decide)]; exact hm
  have f_8 : g_5 (60, 0, 0) 18 = nI 1 := by rw [eg_5, g2_self, upd_self]
  refine lv_if_eq (tgt := 22) hx hb dX6_load_11 (by decide) (fun _ => ?_) (fun c => absurd (by decide) c)
  refine lv_iconst (v := nI 0) hx hb dX6_load_22 (by decide) ?_
  exact W.iret (v := nI 0) hx hb hr (fun t9 ht9 hW9 => ⟨⟨_, g_5, rfl, f_8, by show g_P D _ _ B t9.heap; rw [ht9]; exact hG⟩, hS.F ht9⟩) hS.2.2 dX6_load_23

set_option maxHeartbeats 4000000 in
set_option maxRecDepth 100000 in
theorem m_relayOf (l : Launch) {D : va_G} {C : g_C} {E : m_C} {h : g_k → Nat → Int32} {ad : g_k → Nat} {vw : g_k → Option va_E} {B : Nat} (hn : h (60, 0, 0) 5 = nI 0) (hm : h (60, 0, 0) 14 = nI 0) {x : Int32} : Met l yX6_relayOf wsX6_relayOf ({ frames := 2, cells := 0, slots := 0, locals := 42 } : Room) (va_Pc [.ref (ad (60, 0, 0)), .int x] (m_S D C E (mo E C h ad vw) ad B)) (va_Qi (fun (r : Int32) (h1 : g_k → Nat → Int32) => h1 (60, 0, 0) 18 = nI 1) (fun h1 t => g_P D (mo E C h1 ad vw) ad B t.heap) (g_A B)) 0 0 (g_A B) := by
  refine Met.ofW (cc := cX6_relayOf) (maxL := 2) (ret := (some .int)) (by decide) rfl ?_
  intro p e s m args below meth c s₁ B₀ hml hv
  obtain ⟨rfl, ⟨hG, hF⟩, hK2, hCA⟩ := hv
  have hK := hF.1
  have hN := hF.2.1
  have hB := hF.2.2.2
  have hx := B₀.exec
  have hb := B₀.bytes
  have hr := B₀.returns
  have hts := atoms_spec (ws := wsX6_relayOf) B₀.pre
  have hown : s.vm.findClass RX6 = some m.cls := findClass_of_methodNamed B₀.named
  have hlocks := B₀.notSynchronized
  have hS : va_S (g_A B) s.heap s.heap [] := va_S.rf
  have hl := lv_entry [.ref (ad (60, 0, 0)), .int x] (n := 2) (Nat.le_of_ble_eq_true rfl)
  rw [lg_entry_eq]
  generalize (lg_sl [.ref (ad (60, 0, 0)), .int x] ++ List.replicate (2 - (lg_sl [.ref (ad (60, 0, 0)), .int x]).length) Slot.unset).toArray = ls at hl ⊢
  have hl : lv_has ls 2 [(0, .ref (ad (60, 0, 0))), (1, .int x)] := hl
  refine lv_aload_n hx hb dX6_relayOf_0 rfl (lv_at hl 0 rfl) ?_
  refine lv_aload_n hx hb dX6_relayOf_1 rfl (lv_at hl 0 rfl) ?_
  refine lv_iload_n hx hb dX6_relayOf_2 rfl (lv_at hl 1 rfl) ?_
  refine vp_callSi (W.runV (As := [.int x]) (rest := [.ref (ad (60, 0, 0))]) ⟨hx, hb, hml, hown, hts⟩ (m_isStation l hn) (cwV 1 hts gX6_relayOf_X6_isStation rfl rfl rfl (by decide +kernel) ⟨Nat.le_of_ble_eq_true rfl, Nat.le_of_ble_eq_true rfl⟩) (m_preV hF hK2 hCA hG hS (mo_obj) rfl) rfl rfl hl.1 rfl (lv_room (Nat.le_of_ble_eq_true rfl)) dX6_relayOf_3 ⟨Nat.le_of_ble_eq_true rfl, Nat.le_of_ble_eq_true rfl⟩) (fun r_1 h_2 => ?_)
  refine lv_to (y := nI 0) (h_2) ?_
  refine lv_iconst (v := nI 1) hx hb dX6_relayOf_6 (by decide) ?_
  refine lv_iconst (v := nI 1) hx hb dX6_relayOf_7 (by decide) ?_
  refine va_calli (va_runV (As := [.int (nI 0), .int (nI 1), .int (nI 1)]) (rest := []) ⟨hx, hb, hml, hown, hts⟩ (m_goes1 l ) (cwV 3 hts gX6_relayOf_X6_goes rfl rfl rfl (by decide +kernel) ⟨Nat.le_of_ble_eq_true rfl, Nat.le_of_ble_eq_true rfl⟩) (m_preV hF hK2 hCA hG hS (mo_obj) rfl) rfl rfl hl.1 rfl (lv_room (Nat.le_of_ble_eq_true rfl)) dX6_relayOf_8 ⟨Nat.le_of_ble_eq_true rfl, Nat.le_of_ble_eq_true rfl⟩) hS (fun q _ h => h) (fun q h => h) (fun r_3 g_5 t9 H locs ht9 _ h_4 hB1 _ _ hS => ?_)
  have hG : g_P D (mo E C g_5 ad vw) ad B H := by rw [← ht9]; exact hB1
  obtain ⟨erg_5, eg_5⟩ := h_4
  refine lv_to (y := nI 0) (erg_5) ?_
  have f_6 : g_5 (60, 0, 0) 5 = nI 0 := by rw [eg_5, g2_self, upd_ne _ _ (by decide)]; exact hn
  have f_7 : g_5 (60, 0, 0) 14 = nI 0 := by rw [eg_5, g2_self, upd_ne _ _ (by decide)]; exact hm
  have f_8 : g_5 (60, 0, 0) 18 = nI 1 := by rw [eg_5, g2_self, upd_self]
  refine lv_if_eq (tgt := 23) hx hb dX6_relayOf_11 (by decide) (fun _ => ?_) (fun c => absurd (by decide) c)
  refine lv_iconst (v := nI 0) hx hb dX6_relayOf_23 (by decide) ?_
  exact W.iret (v := nI 0) hx hb hr (fun t9 ht9 hW9 => ⟨⟨_, g_5, rfl, f_8, by show g_P D _ _ B t9.heap; rw [ht9]; exact hG⟩, hS.F ht9⟩) hS.2.2 dX6_relayOf_24

set_option maxHeartbeats 4000000 in
set_option maxRecDepth 100000 in
theorem m_handovers (l : Launch) {D : va_G} {C : g_C} {E : m_C} {h : g_k → Nat → Int32} {ad : g_k → Nat} {vw : g_k → Option va_E} {B : Nat} (hn : h (60, 0, 0) 5 = nI 0) (hm : h (60, 0, 0) 14 = nI 0) {x : Int32} : Met l yX6_handovers wsX6_handovers ({ frames := 2, cells := 0, slots := 0, locals := 42 } : Room) (va_Pc [.ref (ad (60, 0, 0)), .int x] (m_S D C E (mo E C h ad vw) ad B)) (va_Qi (fun (r : Int32) (h1 : g_k → Nat → Int32) => h1 (60, 0, 0) 18 = nI 1) (fun h1 t => g_P D (mo E C h1 ad vw) ad B t.heap) (g_A B)) 0 0 (g_A B) := by
  refine Met.ofW (cc := cX6_handovers) (maxL := 2) (ret := (some .int)) (by decide) rfl ?_
  intro p e s m args below meth c s₁ B₀ hml hv
  obtain ⟨rfl, ⟨hG, hF⟩, hK2, hCA⟩ := hv
  have hK := hF.1
  have hN := hF.2.1
  have hB := hF.2.2.2
  have hx := B₀.exec
  have hb := B₀.bytes
  have hr := B₀.returns
  have hts := atoms_spec (ws := wsX6_handovers) B₀.pre
  have hown : s.vm.findClass RX6 = some m.cls := findClass_of_methodNamed B₀.named
  have hlocks := B₀.notSynchronized
  have hS : va_S (g_A B) s.heap s.heap [] := va_S.rf
  have hl := lv_entry [.ref (ad (60, 0, 0)), .int x] (n := 2) (Nat.le_of_ble_eq_true rfl)
  rw [lg_entry_eq]
  generalize (lg_sl [.ref (ad (60, 0, 0)), .int x] ++ List.replicate (2 - (lg_sl [.ref (ad (60, 0, 0)), .int x]).length) Slot.unset).toArray = ls at hl ⊢
  have hl : lv_has ls 2 [(0, .ref (ad (60, 0, 0))), (1, .int x)] := hl
  refine lv_aload_n hx hb dX6_handovers_0 rfl (lv_at hl 0 rfl) ?_
  refine lv_aload_n hx hb dX6_handovers_1 rfl (lv_at hl 0 rfl) ?_
  refine lv_iload_n hx hb dX6_handovers_2 rfl (lv_at hl 1 rfl) ?_
  refine vp_callSi (W.runV (As := [.int x]) (rest := [.ref (ad (60, 0, 0))]) ⟨hx, hb, hml, hown, hts⟩ (m_isStation l hn) (cwV 1 hts gX6_handovers_X6_isStation rfl rfl rfl (by decide +kernel) ⟨Nat.le_of_ble_eq_true rfl, Nat.le_of_ble_eq_true rfl⟩) (m_preV hF hK2 hCA hG hS (mo_obj) rfl) rfl rfl hl.1 rfl (lv_room (Nat.le_of_ble_eq_true rfl)) dX6_handovers_3 ⟨Nat.le_of_ble_eq_true rfl, Nat.le_of_ble_eq_true rfl⟩) (fun r_1 h_2 => ?_)
  refine lv_to (y := nI 0) (h_2) ?_
  refine lv_iconst (v := nI 1) hx hb dX6_handovers_6 (by decide) ?_
  refine lv_iconst (v := nI 1) hx hb dX6_handovers_7 (by decide) ?_
  refine va_calli (va_runV (As := [.int (nI 0), .int (nI 1), .int (nI 1)]) (rest := []) ⟨hx, hb, hml, hown, hts⟩ (m_goes1 l ) (cwV 3 hts gX6_handovers_X6_goes rfl rfl rfl (by decide +kernel) ⟨Nat.le_of_ble_eq_true rfl, Nat.le_of_ble_eq_true rfl⟩) (m_preV hF hK2 hCA hG hS (mo_obj) rfl) rfl rfl hl.1 rfl (lv_room (Nat.le_of_ble_eq_true rfl)) dX6_handovers_8 ⟨Nat.le_of_ble_eq_true rfl, Nat.le_of_ble_eq_true rfl⟩) hS (fun q _ h => h) (fun q h => h) (fun r_3 g_5 t9 H locs ht9 _ h_4 hB1 _ _ hS => ?_)
  have hG : g_P D (mo E C g_5 ad vw) ad B H := by rw [← ht9]; exact hB1
  obtain ⟨erg_5, eg_5⟩ := h_4
  refine lv_to (y := nI 0) (erg_5) ?_
  have f_6 : g_5 (60, 0, 0) 5 = nI 0 := by rw [eg_5, g2_self, upd_ne _ _ (by decide)]; exact hn
  have f_7 : g_5 (60, 0, 0) 14 = nI 0 := by rw [eg_5, g2_self, upd_ne _ _ (by decide)]; exact hm
  have f_8 : g_5 (60, 0, 0) 18 = nI 1 := by rw [eg_5, g2_self, upd_self]
  refine lv_if_eq (tgt := 23) hx hb dX6_handovers_11 (by decide) (fun _ => ?_) (fun c => absurd (by decide) c)
  refine lv_iconst (v := nI 0) hx hb dX6_handovers_23 (by decide) ?_
  exact W.iret (v := nI 0) hx hb hr (fun t9 ht9 hW9 => ⟨⟨_, g_5, rfl, f_8, by show g_P D _ _ B t9.heap; rw [ht9]; exact hG⟩, hS.F ht9⟩) hS.2.2 dX6_handovers_24

set_option maxHeartbeats 4000000 in
set_option maxRecDepth 100000 in
theorem m_nodeOf (l : Launch) {D : va_G} {C : g_C} {E : m_C} {h : g_k → Nat → Int32} {ad : g_k → Nat} {vw : g_k → Option va_E} {B : Nat} (hn : h (60, 0, 0) 5 = nI 0) (hm : h (60, 0, 0) 14 = nI 0) {x : Int32} : Met l yX6_nodeOf wsX6_nodeOf ({ frames := 1, cells := 0, slots := 0, locals := 23 } : Room) (va_Pc [.ref (ad (60, 0, 0)), .int x] (m_S D C E (mo E C h ad vw) ad B)) (va_Qi (fun (r : Int32) (h1 : g_k → Nat → Int32) => h1 (60, 0, 0) 18 = nI 1) (fun h1 t => g_P D (mo E C h1 ad vw) ad B t.heap) (g_A B)) 0 0 (g_A B) := by
  refine Met.ofW (cc := cX6_nodeOf) (maxL := 2) (ret := (some .int)) (by decide) rfl ?_
  intro p e s m args below meth c s₁ B₀ hml hv
  obtain ⟨rfl, ⟨hG, hF⟩, hK2, hCA⟩ := hv
  have hK := hF.1
  have hN := hF.2.1
  have hB := hF.2.2.2
  have hx := B₀.exec
  have hb := B₀.bytes
  have hr := B₀.returns
  have hts := atoms_spec (ws := wsX6_nodeOf) B₀.pre
  have hown : s.vm.findClass RX6 = some m.cls := findClass_of_methodNamed B₀.named
  have hlocks := B₀.notSynchronized
  have hS : va_S (g_A B) s.heap s.heap [] := va_S.rf
  have hl := lv_entry [.ref (ad (60, 0, 0)), .int x] (n := 2) (Nat.le_of_ble_eq_true rfl)
  rw [lg_entry_eq]
  generalize (lg_sl [.ref (ad (60, 0, 0)), .int x] ++ List.replicate (2 - (lg_sl [.ref (ad (60, 0, 0)), .int x]).length) Slot.unset).toArray = ls at hl ⊢
  have hl : lv_has ls 2 [(0, .ref (ad (60, 0, 0))), (1, .int x)] := hl
  refine lv_aload_n hx hb dX6_nodeOf_0 rfl (lv_at hl 0 rfl) ?_
  refine lv_aload_n hx hb dX6_nodeOf_1 rfl (lv_at hl 0 rfl) ?_
  refine lv_iload_n hx hb dX6_nodeOf_2 rfl (lv_at hl 1 rfl) ?_
  refine vp_callSi (W.runV (As := [.int x]) (rest := [.ref (ad (60, 0, 0))]) ⟨hx, hb, hml, hown, hts⟩ (m_isMessage l hm) (cwV 1 hts gX6_nodeOf_X6_isMessage rfl rfl rfl (by decide +kernel) ⟨Nat.le_of_ble_eq_true rfl, Nat.le_of_ble_eq_true rfl⟩) (m_preV hF hK2 hCA hG hS (mo_obj) rfl) rfl rfl hl.1 rfl (lv_room (Nat.le_of_ble_eq_true rfl)) dX6_nodeOf_3 ⟨Nat.le_of_ble_eq_true rfl, Nat.le_of_ble_eq_true rfl⟩) (fun r_1 h_2 => ?_)
  refine lv_to (y := nI 0) (h_2) ?_
  refine lv_iconst (v := nI 1) hx hb dX6_nodeOf_6 (by decide) ?_
  refine lv_iconst (v := nI 1) hx hb dX6_nodeOf_7 (by decide) ?_
  refine va_calli (va_runV (As := [.int (nI 0), .int (nI 1), .int (nI 1)]) (rest := []) ⟨hx, hb, hml, hown, hts⟩ (m_goes1 l ) (cwV 3 hts gX6_nodeOf_X6_goes rfl rfl rfl (by decide +kernel) ⟨Nat.le_of_ble_eq_true rfl, Nat.le_of_ble_eq_true rfl⟩) (m_preV hF hK2 hCA hG hS (mo_obj) rfl) rfl rfl hl.1 rfl (lv_room (Nat.le_of_ble_eq_true rfl)) dX6_nodeOf_8 ⟨Nat.le_of_ble_eq_true rfl, Nat.le_of_ble_eq_true rfl⟩) hS (fun q _ h => h) (fun q h => h) (fun r_3 g_5 t9 H locs ht9 _ h_4 hB1 _ _ hS => ?_)
  have hG : g_P D (mo E C g_5 ad vw) ad B H := by rw [← ht9]; exact hB1
  obtain ⟨erg_5, eg_5⟩ := h_4
  refine lv_to (y := nI 0) (erg_5) ?_
  have f_6 : g_5 (60, 0, 0) 5 = nI 0 := by rw [eg_5, g2_self, upd_ne _ _ (by decide)]; exact hn
  have f_7 : g_5 (60, 0, 0) 14 = nI 0 := by rw [eg_5, g2_self, upd_ne _ _ (by decide)]; exact hm
  have f_8 : g_5 (60, 0, 0) 18 = nI 1 := by rw [eg_5, g2_self, upd_self]
  refine lv_if_eq (tgt := 23) hx hb dX6_nodeOf_11 (by decide) (fun _ => ?_) (fun c => absurd (by decide) c)
  refine lv_iconst (v := nI 0) hx hb dX6_nodeOf_23 (by decide) ?_
  exact W.iret (v := nI 0) hx hb hr (fun t9 ht9 hW9 => ⟨⟨_, g_5, rfl, f_8, by show g_P D _ _ B t9.heap; rw [ht9]; exact hG⟩, hS.F ht9⟩) hS.2.2 dX6_nodeOf_24

set_option maxHeartbeats 4000000 in
set_option maxRecDepth 100000 in
theorem m_arrivedAt (l : Launch) {D : va_G} {C : g_C} {E : m_C} {h : g_k → Nat → Int32} {ad : g_k → Nat} {vw : g_k → Option va_E} {B : Nat} (hn : h (60, 0, 0) 5 = nI 0) (hm : h (60, 0, 0) 14 = nI 0) {x : Int32} : Met l yX6_arrivedAt wsX6_arrivedAt ({ frames := 1, cells := 0, slots := 0, locals := 23 } : Room) (va_Pc [.ref (ad (60, 0, 0)), .int x] (m_S D C E (mo E C h ad vw) ad B)) (va_Qi (fun (r : Int32) (h1 : g_k → Nat → Int32) => h1 (60, 0, 0) 18 = nI 1) (fun h1 t => g_P D (mo E C h1 ad vw) ad B t.heap) (g_A B)) 0 0 (g_A B) := by
  refine Met.ofW (cc := cX6_arrivedAt) (maxL := 3) (ret := (some .int)) (by decide) rfl ?_
  intro p e s m args below meth c s₁ B₀ hml hv
  obtain ⟨rfl, ⟨hG, hF⟩, hK2, hCA⟩ := hv
  have hK := hF.1
  have hN := hF.2.1
  have hB := hF.2.2.2
  have hx := B₀.exec
  have hb := B₀.bytes
  have hr := B₀.returns
  have hts := atoms_spec (ws := wsX6_arrivedAt) B₀.pre
  have hown : s.vm.findClass RX6 = some m.cls := findClass_of_methodNamed B₀.named
  have hlocks := B₀.notSynchronized
  have hS : va_S (g_A B) s.heap s.heap [] := va_S.rf
  have hl := lv_entry [.ref (ad (60, 0, 0)), .int x] (n := 3) (Nat.le_of_ble_eq_true rfl)
  rw [lg_entry_eq]
  generalize (lg_sl [.ref (ad (60, 0, 0)), .int x] ++ List.replicate (3 - (lg_sl [.ref (ad (60, 0, 0)), .int x]).length) Slot.unset).toArray = ls at hl ⊢
  have hl : lv_has ls 3 [(0, .ref (ad (60, 0, 0))), (1, .int x)] := hl
  refine lv_aload_n hx hb dX6_arrivedAt_0 rfl (lv_at hl 0 rfl) ?_
  refine lv_iload_n hx hb dX6_arrivedAt_1 rfl (lv_at hl 1 rfl) ?_
  refine vp_callSi (W.runV (As := [.int x]) (rest := []) ⟨hx, hb, hml, hown, hts⟩ (m_isMessage l hm) (cwV 1 hts gX6_arrivedAt_X6_isMessage rfl rfl rfl (by decide +kernel) ⟨Nat.le_of_ble_eq_true rfl, Nat.le_of_ble_eq_true rfl⟩) (m_preV hF hK2 hCA hG hS (mo_obj) rfl) rfl rfl hl.1 rfl (lv_room (Nat.le_of_ble_eq_true rfl)) dX6_arrivedAt_2 ⟨Nat.le_of_ble_eq_true rfl, Nat.le_of_ble_eq_true rfl⟩) (fun r_1 h_2 => ?_)
  refine lv_to (y := nI 0) (h_2) ?_
  refine lv_istore_n (lv' := [(2, .int (nI 0)), (0, .ref (ad (60, 0, 0))), (1, .int x)]) hx hb dX6_arrivedAt_5 rfl hl (by decide) rfl (fun ls hl => ?_)
  refine lv_aload_n hx hb dX6_arrivedAt_6 rfl (lv_at hl 1 rfl) ?_
  refine lv_iload_n hx hb dX6_arrivedAt_7 rfl (lv_at hl 0 rfl) ?_
  refine lv_iload_n hx hb dX6_arrivedAt_8 rfl (lv_at hl 0 rfl) ?_
  refine lv_if_eq (tgt := 25) hx hb dX6_arrivedAt_9 (by decide) (fun _ => ?_) (fun c => absurd (by decide) c)
  refine lv_iconst (v := nI 0) hx hb dX6_arrivedAt_25 (by decide) ?_
  refine lv_iconst (v := nI 1) hx hb dX6_arrivedAt_26 (by decide) ?_
  refine va_calli (va_runV (As := [.int (nI 0), .int (nI 0), .int (nI 1)]) (rest := []) ⟨hx, hb, hml, hown, hts⟩ (m_goes1 l ) (cwV 3 hts gX6_arrivedAt_X6_goes rfl rfl rfl (by decide +kernel) ⟨Nat.le_of_ble_eq_true rfl, Nat.le_of_ble_eq_true rfl⟩) (m_preV hF hK2 hCA hG hS (mo_obj) rfl) rfl rfl hl.1 rfl (lv_room (Nat.le_of_ble_eq_true rfl)) dX6_arrivedAt_27 ⟨Nat.le_of_ble_eq_true rfl, Nat.le_of_ble_eq_true rfl⟩) hS (fun q _ h => h) (fun q h => h) (fun r_3 g_5 t9 H locs ht9 _ h_4 hB1 _ _ hS => ?_)
  have hG : g_P D (mo E C g_5 ad vw) ad B H := by rw [← ht9]; exact hB1
  obtain ⟨erg_5, eg_5⟩ := h_4
  refine lv_to (y := nI 0) (erg_5) ?_
  have f_6 : g_5 (60, 0, 0) 5 = nI 0 := by rw [eg_5, g2_self, upd_ne _ _ (by decide)]; exact hn
  have f_7 : g_5 (60, 0, 0) 14 = nI 0 := by rw [eg_5, g2_self, upd_ne _ _ (by decide)]; exact hm
  have f_8 : g_5 (60, 0, 0) 18 = nI 1 := by rw [eg_5, g2_self, upd_self]
  refine lv_if_eq (tgt := 42) hx hb dX6_arrivedAt_30 (by decide) (fun _ => ?_) (fun c => absurd (by decide) c)
  refine lv_iconst (v := nI 0) hx hb dX6_arrivedAt_42 (by decide) ?_
  exact W.iret (v := nI 0) hx hb hr (fun t9 ht9 hW9 => ⟨⟨_, g_5, rfl, f_8, by show g_P D _ _ B t9.heap; rw [ht9]; exact hG⟩, hS.F ht9⟩) hS.2.2 dX6_arrivedAt_43

set_option maxHeartbeats 4000000 in
set_option maxRecDepth 100000 in
theorem m_hops (l : Launch) {D : va_G} {C : g_C} {E : m_C} {h : g_k → Nat → Int32} {ad : g_k → Nat} {vw : g_k → Option va_E} {B : Nat} (hn : h (60, 0, 0) 5 = nI 0) (hm : h (60, 0, 0) 14 = nI 0) {x : Int32} : Met l yX6_hops wsX6_hops ({ frames := 1, cells := 0, slots := 0, locals := 23 } : Room) (va_Pc [.ref (ad (60, 0, 0)), .int x] (m_S D C E (mo E C h ad vw) ad B)) (va_Qi (fun (r : Int32) (h1 : g_k → Nat → Int32) => h1 (60, 0, 0) 18 = nI 1) (fun h1 t => g_P D (mo E C h1 ad vw) ad B t.heap) (g_A B)) 0 0 (g_A B) := by
  refine Met.ofW (cc := cX6_hops) (maxL := 4) (ret := (some .int)) (by decide) rfl ?_
  intro p e s m args below meth c s₁ B₀ hml hv
  obtain ⟨rfl, ⟨hG, hF⟩, hK2, hCA⟩ := hv
  have hK := hF.1
  have hN := hF.2.1
  have hB := hF.2.2.2
  have hx := B₀.exec
  have hb := B₀.bytes
  have hr := B₀.returns
  have hts := atoms_spec (ws := wsX6_hops) B₀.pre
  have hown : s.vm.findClass RX6 = some m.cls := findClass_of_methodNamed B₀.named
  have hlocks := B₀.notSynchronized
  have hS : va_S (g_A B) s.heap s.heap [] := va_S.rf
  have hl := lv_entry [.ref (ad (60, 0, 0)), .int x] (n := 4) (Nat.le_of_ble_eq_true rfl)
  rw [lg_entry_eq]
  generalize (lg_sl [.ref (ad (60, 0, 0)), .int x] ++ List.replicate (4 - (lg_sl [.ref (ad (60, 0, 0)), .int x]).length) Slot.unset).toArray = ls at hl ⊢
  have hl : lv_has ls 4 [(0, .ref (ad (60, 0, 0))), (1, .int x)] := hl
  refine lv_aload_n hx hb dX6_hops_0 rfl (lv_at hl 0 rfl) ?_
  refine lv_aload_n hx hb dX6_hops_1 rfl (lv_at hl 0 rfl) ?_
  refine lv_iload_n hx hb dX6_hops_2 rfl (lv_at hl 1 rfl) ?_
  refine vp_callSi (W.runV (As := [.int x]) (rest := [.ref (ad (60, 0, 0))]) ⟨hx, hb, hml, hown, hts⟩ (m_isMessage l hm) (cwV 1 hts gX6_hops_X6_isMessage rfl rfl rfl (by decide +kernel) ⟨Nat.le_of_ble_eq_true rfl, Nat.le_of_ble_eq_true rfl⟩) (m_preV hF hK2 hCA hG hS (mo_obj) rfl) rfl rfl hl.1 rfl (lv_room (Nat.le_of_ble_eq_true rfl)) dX6_hops_3 ⟨Nat.le_of_ble_eq_true rfl, Nat.le_of_ble_eq_true rfl⟩) (fun r_1 h_2 => ?_)
  refine lv_to (y := nI 0) (h_2) ?_
  refine lv_iconst (v := nI 1) hx hb dX6_hops_6 (by decide) ?_
  refine lv_iconst (v := nI 1) hx hb dX6_hops_7 (by decide) ?_
  refine va_calli (va_runV (As := [.int (nI 0), .int (nI 1), .int (nI 1)]) (rest := []) ⟨hx, hb, hml, hown, hts⟩ (m_goes1 l ) (cwV 3 hts gX6_hops_X6_goes rfl rfl rfl (by decide +kernel) ⟨Nat.le_of_ble_eq_true rfl, Nat.le_of_ble_eq_true rfl⟩) (m_preV hF hK2 hCA hG hS (mo_obj) rfl) rfl rfl hl.1 rfl (lv_room (Nat.le_of_ble_eq_true rfl)) dX6_hops_8 ⟨Nat.le_of_ble_eq_true rfl, Nat.le_of_ble_eq_true rfl⟩) hS (fun q _ h => h) (fun q h => h) (fun r_3 g_5 t9 H locs ht9 _ h_4 hB1 _ _ hS => ?_)
  have hG : g_P D (mo E C g_5 ad vw) ad B H := by rw [← ht9]; exact hB1
  obtain ⟨erg_5, eg_5⟩ := h_4
  refine lv_to (y := nI 0) (erg_5) ?_
  have f_6 : g_5 (60, 0, 0) 5 = nI 0 := by rw [eg_5, g2_self, upd_ne _ _ (by decide)]; exact hn
  have f_7 : g_5 (60, 0, 0) 14 = nI 0 := by rw [eg_5, g2_self, upd_ne _ _ (by decide)]; exact hm
  have f_8 : g_5 (60, 0, 0) 18 = nI 1 := by rw [eg_5, g2_self, upd_self]
  refine lv_if_ne (tgt := 16) hx hb dX6_hops_11 (by decide) (fun c => absurd (by decide) c) (fun _ => ?_)
  refine lv_iconst (v := nI 0) hx hb dX6_hops_14 (by decide) ?_
  exact W.iret (v := nI 0) hx hb hr (fun t9 ht9 hW9 => ⟨⟨_, g_5, rfl, f_8, by show g_P D _ _ B t9.heap; rw [ht9]; exact hG⟩, hS.F ht9⟩) hS.2.2 dX6_hops_15

set_option maxHeartbeats 4000000 in
set_option maxRecDepth 100000 in
theorem m_blocked (l : Launch) {D : va_G} {C : g_C} {E : m_C} {h : g_k → Nat → Int32} {ad : g_k → Nat} {vw : g_k → Option va_E} {B : Nat} (hn : h (60, 0, 0) 5 = nI 0) (hm : h (60, 0, 0) 14 = nI 0) {x : Int32} : Met l yX6_blocked wsX6_blocked ({ frames := 1, cells := 0, slots := 0, locals := 23 } : Room) (va_Pc [.ref (ad (60, 0, 0)), .int x] (m_S D C E (mo E C h ad vw) ad B)) (va_Qi (fun (r : Int32) (h1 : g_k → Nat → Int32) => h1 (60, 0, 0) 18 = nI 1) (fun h1 t => g_P D (mo E C h1 ad vw) ad B t.heap) (g_A B)) 0 0 (g_A B) := by
  refine Met.ofW (cc := cX6_blocked) (maxL := 2) (ret := (some .int)) (by decide) rfl ?_
  intro p e s m args below meth c s₁ B₀ hml hv
  obtain ⟨rfl, ⟨hG, hF⟩, hK2, hCA⟩ := hv
  have hK := hF.1
  have hN := hF.2.1
  have hB := hF.2.2.2
  have hx := B₀.exec
  have hb := B₀.bytes
  have hr := B₀.returns
  have hts := atoms_spec (ws := wsX6_blocked) B₀.pre
  have hown : s.vm.findClass RX6 = some m.cls := findClass_of_methodNamed B₀.named
  have hlocks := B₀.notSynchronized
  have hS : va_S (g_A B) s.heap s.heap [] := va_S.rf
  have hl := lv_entry [.ref (ad (60, 0, 0)), .int x] (n := 2) (Nat.le_of_ble_eq_true rfl)
  rw [lg_entry_eq]
  generalize (lg_sl [.ref (ad (60, 0, 0)), .int x] ++ List.replicate (2 - (lg_sl [.ref (ad (60, 0, 0)), .int x]).length) Slot.unset).toArray = ls at hl ⊢
  have hl : lv_has ls 2 [(0, .ref (ad (60, 0, 0))), (1, .int x)] := hl
  refine lv_aload_n hx hb dX6_blocked_0 rfl (lv_at hl 0 rfl) ?_
  refine lv_aload_n hx hb dX6_blocked_1 rfl (lv_at hl 0 rfl) ?_
  refine lv_iload_n hx hb dX6_blocked_2 rfl (lv_at hl 1 rfl) ?_
  refine vp_callSi (W.runV (As := [.int x]) (rest := [.ref (ad (60, 0, 0))]) ⟨hx, hb, hml, hown, hts⟩ (m_isMessage l hm) (cwV 1 hts gX6_blocked_X6_isMessage rfl rfl rfl (by decide +kernel) ⟨Nat.le_of_ble_eq_true rfl, Nat.le_of_ble_eq_true rfl⟩) (m_preV hF hK2 hCA hG hS (mo_obj) rfl) rfl rfl hl.1 rfl (lv_room (Nat.le_of_ble_eq_true rfl)) dX6_blocked_3 ⟨Nat.le_of_ble_eq_true rfl, Nat.le_of_ble_eq_true rfl⟩) (fun r_1 h_2 => ?_)
  refine lv_to (y := nI 0) (h_2) ?_
  refine lv_iconst (v := nI 1) hx hb dX6_blocked_6 (by decide) ?_
  refine lv_iconst (v := nI 1) hx hb dX6_blocked_7 (by decide) ?_
  refine va_calli (va_runV (As := [.int (nI 0), .int (nI 1), .int (nI 1)]) (rest := []) ⟨hx, hb, hml, hown, hts⟩ (m_goes1 l ) (cwV 3 hts gX6_blocked_X6_goes rfl rfl rfl (by decide +kernel) ⟨Nat.le_of_ble_eq_true rfl, Nat.le_of_ble_eq_true rfl⟩) (m_preV hF hK2 hCA hG hS (mo_obj) rfl) rfl rfl hl.1 rfl (lv_room (Nat.le_of_ble_eq_true rfl)) dX6_blocked_8 ⟨Nat.le_of_ble_eq_true rfl, Nat.le_of_ble_eq_true rfl⟩) hS (fun q _ h => h) (fun q h => h) (fun r_3 g_5 t9 H locs ht9 _ h_4 hB1 _ _ hS => ?_)
  have hG : g_P D (mo E C g_5 ad vw) ad B H := by rw [← ht9]; exact hB1
  obtain ⟨erg_5, eg_5⟩ := h_4
  refine lv_to (y := nI 0) (erg_5) ?_
  have f_6 : g_5 (60, 0, 0) 5 = nI 0 := by rw [eg_5, g2_self, upd_ne _ _ (by decide)]; exact hn
  have f_7 : g_5 (60, 0, 0) 14 = nI 0 := by rw [eg_5, g2_self, upd_ne _ _ (by decide)]; exact hm
  have f_8 : g_5 (60, 0, 0) 18 = nI 1 := by rw [eg_5, g2_self, upd_self]
  refine lv_if_eq (tgt := 23) hx hb dX6_blocked_11 (by decide) (fun _ => ?_) (fun c => absurd (by decide) c)
  refine lv_iconst (v := nI 0) hx hb dX6_blocked_23 (by decide) ?_
  exact W.iret (v := nI 0) hx hb hr (fun t9 ht9 hW9 => ⟨⟨_, g_5, rfl, f_8, by show g_P D _ _ B t9.heap; rw [ht9]; exact hG⟩, hS.F ht9⟩) hS.2.2 dX6_blocked_24

set_option maxHeartbeats 4000000 in
set_option maxRecDepth 100000 in
theorem m_nodes (l : Launch) {D : va_G} {C : g_C} {E : m_C} {h : g_k → Nat → Int32} {ad : g_k → Nat} {vw : g_k → Option va_E} {B : Nat} {v : Int32} (hv9 : h (60, 0, 0) 5 = v) : Met l yX6_nodes wsX6_nodes ({ frames := 0, cells := 0, slots := 0, locals := 0 } : Room) (va_Pc [.ref (ad (60, 0, 0))] (m_S D C E (mo E C h ad vw) ad B)) (va_Qi (fun (r : Int32) (h1 : g_k → Nat → Int32) => r = v) (fun h1 t => g_P D (mo E C h1 ad vw) ad B t.heap) (g_A B)) 0 0 (g_A B) := by
  refine Met.ofW (cc := cX6_nodes) (maxL := 1) (ret := (some .int)) (by decide) rfl ?_
  intro p e s m args below meth c s₁ B₀ hml hv
  obtain ⟨rfl, ⟨hG, hF⟩, hK2, hCA⟩ := hv
  have hK := hF.1
  have hN := hF.2.1
  have hB := hF.2.2.2
  have hx := B₀.exec
  have hb := B₀.bytes
  have hr := B₀.returns
  have hts := atoms_spec (ws := wsX6_nodes) B₀.pre
  have hown : s.vm.findClass RX6 = some m.cls := findClass_of_methodNamed B₀.named
  have hlocks := B₀.notSynchronized
  have hS : va_S (g_A B) s.heap s.heap [] := va_S.rf
  have hi6 : ∀ w ∈ wsX60, w ∈ wsX6_nodes := by decide +kernel
  have hl := lv_entry [.ref (ad (60, 0, 0))] (n := 1) (Nat.le_of_ble_eq_true rfl)
  rw [lg_entry_eq]
  generalize (lg_sl [.ref (ad (60, 0, 0))] ++ List.replicate (1 - (lg_sl [.ref (ad (60, 0, 0))]).length) Slot.unset).toArray = ls at hl ⊢
  have hl : lv_has ls 1 [(0, .ref (ad (60, 0, 0)))] := hl
  refine lv_aload_n hx hb dX6_nodes_0 rfl (lv_at hl 0 rfl) ?_
  refine lv_iconst (v := nI 0) hx hb dX6_nodes_1 (by decide) ?_
  refine q_put hx hb hts hi6 hown hK hG hS 18 (by decide) rfl rfl (hts (.fieldLink RX6 51 "SatelliteringModel" "thrown" "I") (by decide +kernel)) (by simp [upd]) dX6_nodes_2 (fun H locs hG hS => ?_)
  obtain ⟨h_1, eh_1⟩ : ∃ z9, z9 = g2 h (60, 0, 0) 18 (nI 0) := ⟨_, rfl⟩
  rw [← eh_1] at hG
  have f_2 : h_1 (60, 0, 0) 5 = v := by rw [eh_1, g2_self, upd_ne _ _ (by decide)]; exact hv9
  refine lv_aload_n hx hb dX6_nodes_5 rfl (lv_at hl 0 rfl) ?_
  refine g_get hx hb hts hi6 hown hK hG (mo_obj) rfl 5 (by decide) (hts (.fieldLink RX6 55 "SatelliteringModel" "nodes" "I") (by decide +kernel)) rfl dX6_nodes_6 ?_
  refine lv_to (y := v) (f_2) ?_
  exact W.iret (v := v) hx hb hr (fun t9 ht9 hW9 => ⟨⟨_, h_1, rfl, rfl, by show g_P D _ _ B t9.heap; rw [ht9]; exact hG⟩, hS.F ht9⟩) hS.2.2 dX6_nodes_9

set_option maxHeartbeats 4000000 in
set_option maxRecDepth 100000 in
theorem m_now (l : Launch) {D : va_G} {C : g_C} {E : m_C} {h : g_k → Nat → Int32} {ad : g_k → Nat} {vw : g_k → Option va_E} {B : Nat} {v : Int32} (hv9 : h (60, 0, 0) 17 = v) : Met l yX6_now wsX6_now ({ frames := 0, cells := 0, slots := 0, locals := 0 } : Room) (va_Pc [.ref (ad (60, 0, 0))] (m_S D C E (mo E C h ad vw) ad B)) (va_Qi (fun (r : Int32) (h1 : g_k → Nat → Int32) => r = v) (fun h1 t => g_P D (mo E C h1 ad vw) ad B t.heap) (g_A B)) 0 0 (g_A B) := by
  refine Met.ofW (cc := cX6_now) (maxL := 1) (ret := (some .int)) (by decide) rfl ?_
  intro p e s m args below meth c s₁ B₀ hml hv
  obtain ⟨rfl, ⟨hG, hF⟩, hK2, hCA⟩ := hv
  have hK := hF.1
  have hN := hF.2.1
  have hB := hF.2.2.2
  have hx := B₀.exec
  have hb := B₀.bytes
  have hr := B₀.returns
  have hts := atoms_spec (ws := wsX6_now) B₀.pre
  have hown : s.vm.findClass RX6 = some m.cls := findClass_of_methodNamed B₀.named
  have hlocks := B₀.notSynchronized
  have hS : va_S (g_A B) s.heap s.heap [] := va_S.rf
  have hi6 : ∀ w ∈ wsX60, w ∈ wsX6_now := by decide +kernel
  have hl := lv_entry [.ref (ad (60, 0, 0))] (n := 1) (Nat.le_of_ble_eq_true rfl)
  rw [lg_entry_eq]
  generalize (lg_sl [.ref (ad (60, 0, 0))] ++ List.replicate (1 - (lg_sl [.ref (ad (60, 0, 0))]).length) Slot.unset).toArray = ls at hl ⊢
  have hl : lv_has ls 1 [(0, .ref (ad (60, 0, 0)))] := hl
  refine lv_aload_n hx hb dX6_now_0 rfl (lv_at hl 0 rfl) ?_
  refine lv_iconst (v := nI 0) hx hb dX6_now_1 (by decide) ?_
  refine q_put hx hb hts hi6 hown hK hG hS 18 (by decide) rfl rfl (hts (.fieldLink RX6 51 "SatelliteringModel" "thrown" "I") (by decide +kernel)) (by simp [upd]) dX6_now_2 (fun H locs hG hS => ?_)
  obtain ⟨h_1, eh_1⟩ : ∃ z9, z9 = g2 h (60, 0, 0) 18 (nI 0) := ⟨_, rfl⟩
  rw [← eh_1] at hG
  have f_2 : h_1 (60, 0, 0) 17 = v := by rw [eh_1, g2_self, upd_ne _ _ (by decide)]; exact hv9
  refine lv_aload_n hx hb dX6_now_5 rfl (lv_at hl 0 rfl) ?_
  refine g_get hx hb hts hi6 hown hK hG (mo_obj) rfl 17 (by decide) (hts (.fieldLink RX6 118 "SatelliteringModel" "now" "I") (by decide +kernel)) rfl dX6_now_6 ?_
  refine lv_to (y := v) (f_2) ?_
  exact W.iret (v := v) hx hb hr (fun t9 ht9 hW9 => ⟨⟨_, h_1, rfl, rfl, by show g_P D _ _ B t9.heap; rw [ht9]; exact hG⟩, hS.F ht9⟩) hS.2.2 dX6_now_9

set_option maxHeartbeats 4000000 in
set_option maxRecDepth 100000 in
theorem m_messages (l : Launch) {D : va_G} {C : g_C} {E : m_C} {h : g_k → Nat → Int32} {ad : g_k → Nat} {vw : g_k → Option va_E} {B : Nat} {v : Int32} (hv9 : h (60, 0, 0) 14 = v) : Met l yX6_messages wsX6_messages ({ frames := 0, cells := 0, slots := 0, locals := 0 } : Room) (va_Pc [.ref (ad (60, 0, 0))] (m_S D C E (mo E C h ad vw) ad B)) (va_Qi (fun (r : Int32) (h1 : g_k → Nat → Int32) => r = v) (fun h1 t => g_P D (mo E C h1 ad vw) ad B t.heap) (g_A B)) 0 0 (g_A B) := by
  refine Met.ofW (cc := cX6_messages) (maxL := 1) (ret := (some .int)) (by decide) rfl ?_
  intro p e s m args below meth c s₁ B₀ hml hv
  obtain ⟨rfl, ⟨hG, hF⟩, hK2, hCA⟩ := hv
  have hK := hF.1
  have hN := hF.2.1
  have hB := hF.2.2.2
  have hx := B₀.exec
  have hb := B₀.bytes
  have hr := B₀.returns
  have hts := atoms_spec (ws := wsX6_messages) B₀.pre
  have hown : s.vm.findClass RX6 = some m.cls := findClass_of_methodNamed B₀.named
  have hlocks := B₀.notSynchronized
  have hS : va_S (g_A B) s.heap s.heap [] := va_S.rf
  have hi6 : ∀ w ∈ wsX60, w ∈ wsX6_messages := by decide +kernel
  have hl := lv_entry [.ref (ad (60, 0, 0))] (n := 1) (Nat.le_of_ble_eq_true rfl)
  rw [lg_entry_eq]
  generalize (lg_sl [.ref (ad (60, 0, 0))] ++ List.replicate (1 - (lg_sl [.ref (ad (60, 0, 0))]).length) Slot.unset).toArray = ls at hl ⊢
  have hl : lv_has ls 1 [(0, .ref (ad (60, 0, 0)))] := hl
  refine lv_aload_n hx hb dX6_messages_0 rfl (lv_at hl 0 rfl) ?_
  refine lv_iconst (v := nI 0) hx hb dX6_messages_1 (by decide) ?_
  refine q_put hx hb hts hi6 hown hK hG hS 18 (by decide) rfl rfl (hts (.fieldLink RX6 51 "SatelliteringModel" "thrown" "I") (by decide +kernel)) (by simp [upd]) dX6_messages_2 (fun H locs hG hS => ?_)
  obtain ⟨h_1, eh_1⟩ : ∃ z9, z9 = g2 h (60, 0, 0) 18 (nI 0) := ⟨_, rfl⟩
  rw [← eh_1] at hG
  have f_2 : h_1 (60, 0, 0) 14 = v := by rw [eh_1, g2_self, upd_ne _ _ (by decide)]; exact hv9
  refine lv_aload_n hx hb dX6_messages_5 rfl (lv_at hl 0 rfl) ?_
  refine g_get hx hb hts hi6 hown hK hG (mo_obj) rfl 14 (by decide) (hts (.fieldLink RX6 62 "SatelliteringModel" "messages" "I") (by decide +kernel)) rfl dX6_messages_6 ?_
  refine lv_to (y := v) (f_2) ?_
  exact W.iret (v := v) hx hb hr (fun t9 ht9 hW9 => ⟨⟨_, h_1, rfl, rfl, by show g_P D _ _ B t9.heap; rw [ht9]; exact hG⟩, hS.F ht9⟩) hS.2.2 dX6_messages_9
