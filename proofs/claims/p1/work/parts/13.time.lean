/-- what a timetable's reckoning leaves as it was -/
def tf (k : Nat) (g g1 : g_k → Nat → Int32) : Prop := ∀ c : g_k, (c.1 < 31 ∨ 35 < c.1 ∨ c.2.1 ≠ k) → g1 c = g c
theorem tf_rf {k : Nat} {g : g_k → Nat → Int32} : tf k g g := fun _ _ => rfl
theorem tf_tr {k : Nat} {g g1 g3 : g_k → Nat → Int32} (h : tf k g g1) (h2 : tf k g1 g3) : tf k g g3 := fun c hc => (h2 c hc).trans (h c hc)
theorem tf_of {k : Nat} {g g1 : g_k → Nat → Int32} {c0 : g_k} (h0 : 31 ≤ c0.1 ∧ c0.1 ≤ 35 ∧ c0.2.1 = k) (h : ∀ c, c ≠ c0 → g1 c = g c) : tf k g g1 := fun c hc => h c (fun z => by
  rw [z] at hc
  omega)
theorem sc_in (ln : g_k → Nat) (k : Nat) : 31 ≤ (sc ln k).1 ∧ (sc ln k).1 ≤ 35 ∧ (sc ln k).2.1 = k := by
  unfold sc
  split <;> exact ⟨Nat.le_of_ble_eq_true rfl, Nat.le_of_ble_eq_true rfl, rfl⟩
theorem sb_in (ln : g_k → Nat) (k : Nat) : 31 ≤ (sb ln k).1 ∧ (sb ln k).1 ≤ 35 ∧ (sb ln k).2.1 = k := by
  unfold sb
  split <;> exact ⟨Nat.le_of_ble_eq_true rfl, Nat.le_of_ble_eq_true rfl, rfl⟩
def lf (k : Nat) (ln ln1 : g_k → Nat) : Prop := ∀ c : g_k, c ≠ (31, k, 0) → ln1 c = ln c

set_option maxHeartbeats 4000000 in
set_option maxRecDepth 100000 in
theorem c_soonestThrough (l : Launch) {D : va_G} {C : g_C} {g : g_k → Nat → Int32} {ad ln : g_k → Nat} {ex : g_k → Option va_E} {B : Nat} {n k : Nat} (hn : n ≤ 10) (hc : g (1, 0, 0) 4 = nI n) (hk : k < 10) (hlv : ln (30, k, 0) = 1) {i : Nat} (hi9 : i < 10) {x : Int32} : Met l yX4_soonestThrough wsX4_soonestThrough ({ frames := 0, cells := 0, slots := 0, locals := 0 } : Room) (va_Pc [.ref (ad (31, k, 0)), .int (nI i), .int x] (g_S D C (lay C g ad ln ex) ad B)) (vp_Si (fun r => True)) 0 0 (fun _ => False) := by
  refine Met.ofW (cc := cX4_soonestThrough) (maxL := 5) (ret := (some .int)) (by decide) rfl ?_
  intro p e s m args below meth c s₁ B₀ hml hv
  obtain ⟨rfl, hG, hF⟩ := hv
  have hK := hF.1
  have hN := hF.2.1
  have hB := hF.2.2.2
  have hx := B₀.exec
  have hb := B₀.bytes
  have hr := B₀.returns
  have hts := atoms_spec (ws := wsX4_soonestThrough) B₀.pre
  have hown : s.vm.findClass RX4 = some m.cls := findClass_of_methodNamed B₀.named
  have hlocks := B₀.notSynchronized
  have hS : va_S (g_A B) s.heap s.heap [] := va_S.rf
  have hi2 : ∀ w ∈ wsX20, w ∈ wsX4_soonestThrough := by decide +kernel
  have hi4 : ∀ w ∈ wsX40, w ∈ wsX4_soonestThrough := by decide +kernel
  have hl := lv_entry [.ref (ad (31, k, 0)), .int (nI i), .int x] (n := 5) (Nat.le_of_ble_eq_true rfl)
  rw [lg_entry_eq]
  generalize (lg_sl [.ref (ad (31, k, 0)), .int (nI i), .int x] ++ List.replicate (5 - (lg_sl [.ref (ad (31, k, 0)), .int (nI i), .int x]).length) Slot.unset).toArray = ls at hl ⊢
  have hl : lv_has ls 5 [(0, .ref (ad (31, k, 0))), (1, .int (nI i)), (2, .int x)] := hl
  refine lv_aload_n hx hb dX4_soonestThrough_0 rfl (lv_at hl 0 rfl) ?_
  refine g_get hx hb hts hi4 hown hK hG (lay_time hk hlv) rfl 3 (by decide) (hts (.fieldLink RX4 16 "Satellitering$Timetable" "soonest" "[I") (by decide +kernel)) rfl dX4_soonestThrough_1 ?_
  refine lv_iload_n hx hb dX4_soonestThrough_4 rfl (lv_at hl 1 rfl) ?_
  refine g_iald hx hb hK hG (lay_sc hk hlv) (hi9) (by first | decide | omega) dX4_soonestThrough_5 ?_
  refine lv_istore_n (lv' := [(3, .int (g (sc ln k) i)), (0, .ref (ad (31, k, 0))), (1, .int (nI i)), (2, .int x)]) hx hb dX4_soonestThrough_6 rfl hl (by decide) rfl (fun ls hl => ?_)
  refine lv_iconst (v := nI 0) hx hb dX4_soonestThrough_7 (by decide) ?_
  refine lv_istore (lv' := [(4, .int (nI 0)), (3, .int (g (sc ln k) i)), (0, .ref (ad (31, k, 0))), (1, .int (nI i)), (2, .int x)]) hx hb dX4_soonestThrough_8 hl (by decide) rfl (fun ls hl => ?_)
  have loop : ∀ (q j : Nat) (z : Int32), j ≤ n → n < j + q → ∀ ls, lv_has ls 5 [(4, .int (nI j)), (3, .int z), (0, .ref (ad (31, k, 0))), (1, .int (nI i)), (2, .int x)] → W p l e (headSpec wsX4_soonestThrough ({ frames := 0, cells := 0, slots := 0, locals := 0 } : Room)).room s m ([.ref (ad (31, k, 0)), .int (nI i), .int x]).toArray below meth c s.heap [] 0 0 (MQ below (vp_Si (fun r => True)) ([.ref (ad (31, k, 0)), .int (nI i), .int x]).toArray s 0 0 (fun _ => False)) (F0 m 10 ls []) := by
    intro q
    induction q with
    | zero => intro j z h1 h2; exact absurd h2 (by omega)
    | succ q ih =>
      intro j z h1 h2 ls hl
      refine lv_iload hx hb dX4_soonestThrough_10 (lv_at hl 0 rfl) ?_
      refine lv_aload_n hx hb dX4_soonestThrough_12 rfl (lv_at hl 2 rfl) ?_
      refine g_get hx hb hts hi4 hown hK hG (lay_time hk hlv) rfl 0 (by decide) (hts (.fieldLink RX4 27 "Satellitering$Timetable" "sky" "LSatellitering$Sky;") (by decide +kernel)) rfl dX4_soonestThrough_13 ?_
      refine g_getN hx hb hts hi2 hown hK hG (lay_sky) rfl 4 (by decide) (va_Nw.use rfl hN.2.2.2.2.2.2.2.2.2.2.2.2.1) rfl dX4_soonestThrough_16 ?_
      refine lv_to (y := nI n) (hc) ?_
      refine lv_icmp_ge (tgt := 56) hx hb dX4_soonestThrough_19 (by decide) (fun c_1 => ?_) (fun c_1 => ?_)
      · refine lv_iload_n hx hb dX4_soonestThrough_56 rfl (lv_at hl 1 rfl) ?_
        exact W.iret (v := z) hx hb hr (fun t9 ht9 hW9 => ⟨_, rfl, trivial, ht9⟩) (fun q h => nomatch h) dX4_soonestThrough_57
      · have hi : j < n := Nat.lt_of_not_le (fun h9 => c_1 ((nI_leI (by omega) (by omega)).mpr h9))
        refine lv_iload_n hx hb dX4_soonestThrough_22 rfl (lv_at hl 4 rfl) ?_
        refine lv_iload hx hb dX4_soonestThrough_23 (lv_at hl 0 rfl) ?_
        refine lv_ishr hx hb dX4_soonestThrough_25 ?_
        refine lv_iconst (v := nI 1) hx hb dX4_soonestThrough_26 (by decide) ?_
        refine lv_iand hx hb dX4_soonestThrough_27 ?_
        refine lv_if_eq (tgt := 50) hx hb dX4_soonestThrough_28 (by decide) (fun c_2 => ?_) (fun c_2 => ?_)
        · refine lv_iinc (v := nI (j + 1)) (lv' := [(4, .int (nI (j + 1))), (3, .int z), (0, .ref (ad (31, k, 0))), (1, .int (nI i)), (2, .int x)]) hx hb dX4_soonestThrough_50 hl (k := 0) rfl (nI_add j 1) (by decide) rfl (fun ls hl => ?_)
          refine lv_goto (tgt := 10) hx hb dX4_soonestThrough_53 (by decide) ?_
          exact ih (j + 1) _ (by omega) (by omega) ls (lv_sub hl [0, 1, 2, 3, 4] rfl)
        · refine lv_aload_n hx hb dX4_soonestThrough_31 rfl (lv_at hl 2 rfl) ?_
          refine g_get hx hb hts hi4 hown hK hG (lay_time hk hlv) rfl 3 (by decide) (hts (.fieldLink RX4 16 "Satellitering$Timetable" "soonest" "[I") (by decide +kernel)) rfl dX4_soonestThrough_32 ?_
          refine lv_iload hx hb dX4_soonestThrough_35 (lv_at hl 0 rfl) ?_
          refine g_iald hx hb hK hG (lay_sc hk hlv) (by omega) (by first | decide | omega) dX4_soonestThrough_37 ?_
          refine lv_iload_n hx hb dX4_soonestThrough_38 rfl (lv_at hl 1 rfl) ?_
          refine lv_icmp_ge (tgt := 50) hx hb dX4_soonestThrough_39 (by decide) (fun c_3 => ?_) (fun c_3 => ?_)
          · refine lv_iinc (v := nI (j + 1)) (lv' := [(4, .int (nI (j + 1))), (3, .int z), (0, .ref (ad (31, k, 0))), (1, .int (nI i)), (2, .int x)]) hx hb dX4_soonestThrough_50 hl (k := 0) rfl (nI_add j 1) (by decide) rfl (fun ls hl => ?_)
            refine lv_goto (tgt := 10) hx hb dX4_soonestThrough_53 (by decide) ?_
            exact ih (j + 1) _ (by omega) (by omega) ls (lv_sub hl [0, 1, 2, 3, 4] rfl)
          · refine lv_aload_n hx hb dX4_soonestThrough_42 rfl (lv_at hl 2 rfl) ?_
            refine g_get hx hb hts hi4 hown hK hG (lay_time hk hlv) rfl 3 (by decide) (hts (.fieldLink RX4 16 "Satellitering$Timetable" "soonest" "[I") (by decide +kernel)) rfl dX4_soonestThrough_43 ?_
            refine lv_iload hx hb dX4_soonestThrough_46 (lv_at hl 0 rfl) ?_
            refine g_iald hx hb hK hG (lay_sc hk hlv) (by omega) (by first | decide | omega) dX4_soonestThrough_48 ?_
            refine lv_istore_n (lv' := [(3, .int (g (sc ln k) j)), (4, .int (nI j)), (0, .ref (ad (31, k, 0))), (1, .int (nI i)), (2, .int x)]) hx hb dX4_soonestThrough_49 rfl hl (by decide) rfl (fun ls hl => ?_)
            refine lv_iinc (v := nI (j + 1)) (lv' := [(4, .int (nI (j + 1))), (3, .int (g (sc ln k) j)), (0, .ref (ad (31, k, 0))), (1, .int (nI i)), (2, .int x)]) hx hb dX4_soonestThrough_50 hl (k := 1) rfl (nI_add j 1) (by decide) rfl (fun ls hl => ?_)
            refine lv_goto (tgt := 10) hx hb dX4_soonestThrough_53 (by decide) ?_
            exact ih (j + 1) _ (by omega) (by omega) ls (lv_sub hl [0, 1, 2, 3, 4] rfl)
  exact loop (n + 1) 0 _ (Nat.zero_le n) (by omega) ls (lv_sub hl [0, 1, 2, 3, 4] rfl)

set_option maxHeartbeats 4000000 in
set_option maxRecDepth 100000 in
theorem c_writeDown (l : Launch) {D : va_G} {C : g_C} {g : g_k → Nat → Int32} {ad ln : g_k → Nat} {ex : g_k → Option va_E} {B : Nat} {n k : Nat} (hn : n ≤ 10) (hc : g (1, 0, 0) 4 = nI n) (hk : k < 10) (hlv : ln (30, k, 0) = 1) {t : Nat} (ht : t < 360) : Met l yX4_writeDown wsX4_writeDown ({ frames := 0, cells := 0, slots := 0, locals := 0 } : Room) (va_Pc [.ref (ad (31, k, 0)), .int (nI t)] (g_S D C (lay C g ad ln ex) ad B)) (va_Qv (fun (g1 : g_k → Nat → Int32) => tf k g g1) (fun g1 t => g_P D (lay C g1 ad ln ex) ad B t.heap) (g_A B)) 0 0 (g_A B) := by
  refine Met.ofW (cc := cX4_writeDown) (maxL := 4) (ret := none) (by decide) rfl ?_
  intro p e s m args below meth c s₁ B₀ hml hv
  obtain ⟨rfl, hG, hF⟩ := hv
  have hK := hF.1
  have hN := hF.2.1
  have hB := hF.2.2.2
  have hx := B₀.exec
  have hb := B₀.bytes
  have hr := B₀.returns
  have hts := atoms_spec (ws := wsX4_writeDown) B₀.pre
  have hown : s.vm.findClass RX4 = some m.cls := findClass_of_methodNamed B₀.named
  have hlocks := B₀.notSynchronized
  have hS : va_S (g_A B) s.heap s.heap [] := va_S.rf
  have hi2 : ∀ w ∈ wsX20, w ∈ wsX4_writeDown := by decide +kernel
  have hi4 : ∀ w ∈ wsX40, w ∈ wsX4_writeDown := by decide +kernel
  have hl := lv_entry [.ref (ad (31, k, 0)), .int (nI t)] (n := 4) (Nat.le_of_ble_eq_true rfl)
  rw [lg_entry_eq]
  generalize (lg_sl [.ref (ad (31, k, 0)), .int (nI t)] ++ List.replicate (4 - (lg_sl [.ref (ad (31, k, 0)), .int (nI t)]).length) Slot.unset).toArray = ls at hl ⊢
  have hl : lv_has ls 4 [(0, .ref (ad (31, k, 0))), (1, .int (nI t))] := hl
  refine lv_iconst (v := nI 0) hx hb dX4_writeDown_0 (by decide) ?_
  refine lv_istore_n (lv' := [(2, .int (nI 0)), (0, .ref (ad (31, k, 0))), (1, .int (nI t))]) hx hb dX4_writeDown_1 rfl hl (by decide) rfl (fun ls hl => ?_)
  have loop : ∀ (q j : Nat) (g1 : g_k → Nat → Int32) (H : Heap) (locs : List Loc), j ≤ n → n < j + q → tf k g g1 → g_P D (lay C g1 ad ln ex) ad B H → va_S (g_A B) s.heap H locs → ∀ ls, lv_has ls 4 [(2, .int (nI j)), (0, .ref (ad (31, k, 0))), (1, .int (nI t))] → W p l e (headSpec wsX4_writeDown ({ frames := 0, cells := 0, slots := 0, locals := 0 } : Room)).room s m ([.ref (ad (31, k, 0)), .int (nI t)]).toArray below meth c H locs 0 0 (MQ below (va_Qv (fun (g1 : g_k → Nat → Int32) => tf k g g1) (fun g1 t => g_P D (lay C g1 ad ln ex) ad B t.heap) (g_A B)) ([.ref (ad (31, k, 0)), .int (nI t)]).toArray s 0 0 (g_A B)) (F0 m 2 ls []) := by
    intro q
    induction q with
    | zero => intro j g1 H locs h1 h2; exact absurd h2 (by omega)
    | succ q ih =>
      intro j g1 H locs h1 h2 h3 hG hS ls hl
      refine lv_iload_n hx hb dX4_writeDown_2 rfl (lv_at hl 0 rfl) ?_
      refine lv_aload_n hx hb dX4_writeDown_3 rfl (lv_at hl 1 rfl) ?_
      refine g_get hx hb hts hi4 hown hK hG (lay_time hk hlv) rfl 0 (by decide) (hts (.fieldLink RX4 27 "Satellitering$Timetable" "sky" "LSatellitering$Sky;") (by decide +kernel)) rfl dX4_writeDown_4 ?_
      refine g_getN hx hb hts hi2 hown hK hG (lay_sky) rfl 4 (by decide) (va_Nw.use rfl hN.2.2.2.2.2.2.2.2.2.2.2.2.1) rfl dX4_writeDown_7 ?_
      refine lv_to (y := nI n) (by rw [h3 _ (Or.inl (by decide))]; exact hc) ?_
      refine lv_icmp_ge (tgt := 48) hx hb dX4_writeDown_10 (by decide) (fun c_1 => ?_) (fun c_1 => ?_)
      · exact W.vret hx hb hr (fun t9 ht9 hW9 => ⟨⟨_, rfl, h3, by show g_P _ _ _ _ t9.heap; rw [ht9]; exact hG⟩, hS.F ht9⟩) hS.2.2 dX4_writeDown_48
      · have hi : j < n := Nat.lt_of_not_le (fun h9 => c_1 ((nI_leI (by omega) (by omega)).mpr h9))
        refine lv_aload_n hx hb dX4_writeDown_13 rfl (lv_at hl 1 rfl) ?_
        refine g_get hx hb hts hi4 hown hK hG (lay_time hk hlv) rfl 3 (by decide) (hts (.fieldLink RX4 16 "Satellitering$Timetable" "soonest" "[I") (by decide +kernel)) rfl dX4_writeDown_14 ?_
        refine lv_iload_n hx hb dX4_writeDown_17 rfl (lv_at hl 0 rfl) ?_
        refine g_iald hx hb hK hG (lay_sc hk hlv) (by omega) (by first | decide | omega) dX4_writeDown_18 ?_
        refine lv_iload_n hx hb dX4_writeDown_19 rfl (lv_at hl 2 rfl) ?_
        refine lv_isub hx hb dX4_writeDown_20 ?_
        refine lv_istore_n (lv' := [(3, .int ((g1 (sc ln k) j) - (nI t))), (2, .int (nI j)), (0, .ref (ad (31, k, 0))), (1, .int (nI t))]) hx hb dX4_writeDown_21 rfl hl (by decide) rfl (fun ls hl => ?_)
        refine lv_aload_n hx hb dX4_writeDown_22 rfl (lv_at hl 2 rfl) ?_
        refine g_get hx hb hts hi4 hown hK hG (lay_time hk hlv) rfl 2 (by decide) (hts (.fieldLink RX4 11 "Satellitering$Timetable" "left" "[[I") (by decide +kernel)) rfl dX4_writeDown_23 ?_
        refine lv_iload_n hx hb dX4_writeDown_26 rfl (lv_at hl 1 rfl) ?_
        refine o_left hx hb hK hG hk hlv (by omega) dX4_writeDown_27 ?_
        refine lv_iload_n hx hb dX4_writeDown_28 rfl (lv_at hl 3 rfl) ?_
        refine lv_iload_n hx hb dX4_writeDown_29 rfl (lv_at hl 0 rfl) ?_
        refine lv_sipush (v := nI 400) hx hb dX4_writeDown_30 (by decide) ?_
        refine lv_icmp_gt (tgt := 40) hx hb dX4_writeDown_33 (by decide) (fun c_2 => ?_) (fun c_2 => ?_)
        · refine lv_iconst (v := (-1)) hx hb dX4_writeDown_40 (by decide) ?_
          refine o_iast hx hb hK hG hS (cd := (35, k, j)) (fun _ => lay_leftrow hk (by omega) hlv) (ht) (by first | decide | omega) dX4_writeDown_41 (fun H locs hG hS => ?_)
          refine lv_iinc (v := nI (j + 1)) (lv' := [(2, .int (nI (j + 1))), (3, .int ((g1 (sc ln k) j) - (nI t))), (0, .ref (ad (31, k, 0))), (1, .int (nI t))]) hx hb dX4_writeDown_42 hl (k := 1) rfl (nI_add j 1) (by decide) rfl (fun ls hl => ?_)
          refine lv_goto (tgt := 2) hx hb dX4_writeDown_45 (by decide) ?_
          exact ih (j + 1) _ _ _ (by omega) (by omega) (tf_tr h3 (tf_of (c0 := (35, k, j)) ⟨Nat.le_of_ble_eq_true rfl, Nat.le_of_ble_eq_true rfl, rfl⟩ (fun c hc9 => g2_ne _ _ _ hc9))) hG hS ls (lv_sub hl [0, 2, 3] rfl)
        · refine lv_iload_n hx hb dX4_writeDown_36 rfl (lv_at hl 0 rfl) ?_
          refine lv_goto (tgt := 41) hx hb dX4_writeDown_37 (by decide) ?_
          refine o_iast hx hb hK hG hS (cd := (35, k, j)) (fun _ => lay_leftrow hk (by omega) hlv) (ht) (by first | decide | omega) dX4_writeDown_41 (fun H locs hG hS => ?_)
          refine lv_iinc (v := nI (j + 1)) (lv' := [(2, .int (nI (j + 1))), (3, .int ((g1 (sc ln k) j) - (nI t))), (0, .ref (ad (31, k, 0))), (1, .int (nI t))]) hx hb dX4_writeDown_42 hl (k := 1) rfl (nI_add j 1) (by decide) rfl (fun ls hl => ?_)
          refine lv_goto (tgt := 2) hx hb dX4_writeDown_45 (by decide) ?_
          exact ih (j + 1) _ _ _ (by omega) (by omega) (tf_tr h3 (tf_of (c0 := (35, k, j)) ⟨Nat.le_of_ble_eq_true rfl, Nat.le_of_ble_eq_true rfl, rfl⟩ (fun c hc9 => g2_ne _ _ _ hc9))) hG hS ls (lv_sub hl [0, 2, 3] rfl)
  exact loop (n + 1) 0 g s.heap [] (Nat.zero_le n) (by omega) tf_rf hG hS ls (lv_sub hl [0, 1, 2] rfl)

set_option maxHeartbeats 4000000 in
set_option maxRecDepth 100000 in
theorem c_stepBack (l : Launch) {D : va_G} {C : g_C} {g : g_k → Nat → Int32} {ad ln : g_k → Nat} {ex : g_k → Option va_E} {B : Nat} {n k : Nat} (hn : n ≤ 10) (hc : g (1, 0, 0) 4 = nI n) (hk : k < 10) (hlv : ln (30, k, 0) = 1) {t : Nat} (ht : t < 2 ^ 31) : Met l yX4_stepBack wsX4_stepBack ({ frames := 1, cells := 0, slots := 0, locals := 24 } : Room) (va_Pc [.ref (ad (31, k, 0)), .int (nI t)] (g_S D C (lay C g ad ln ex) ad B)) (va_Qv (fun (u : (g_k → Nat → Int32) × (g_k → Nat)) => tf k g u.1 ∧ lf k ln u.2) (fun u t => g_P D (lay C u.1 ad u.2 ex) ad B t.heap) (g_A B)) 0 0 (g_A B) := by
  refine Met.ofW (cc := cX4_stepBack) (maxL := 4) (ret := none) (by decide) rfl ?_
  intro p e s m args below meth c s₁ B₀ hml hv
  obtain ⟨rfl, hG, hF⟩ := hv
  have hK := hF.1
  have hN := hF.2.1
  have hB := hF.2.2.2
  have hx := B₀.exec
  have hb := B₀.bytes
  have hr := B₀.returns
  have hts := atoms_spec (ws := wsX4_stepBack) B₀.pre
  have hown : s.vm.findClass RX4 = some m.cls := findClass_of_methodNamed B₀.named
  have hlocks := B₀.notSynchronized
  have hS : va_S (g_A B) s.heap s.heap [] := va_S.rf
  have hi2 : ∀ w ∈ wsX20, w ∈ wsX4_stepBack := by decide +kernel
  have hi4 : ∀ w ∈ wsX40, w ∈ wsX4_stepBack := by decide +kernel
  have hl := lv_entry [.ref (ad (31, k, 0)), .int (nI t)] (n := 4) (Nat.le_of_ble_eq_true rfl)
  rw [lg_entry_eq]
  generalize (lg_sl [.ref (ad (31, k, 0)), .int (nI t)] ++ List.replicate (4 - (lg_sl [.ref (ad (31, k, 0)), .int (nI t)]).length) Slot.unset).toArray = ls at hl ⊢
  have hl : lv_has ls 4 [(0, .ref (ad (31, k, 0))), (1, .int (nI t))] := hl
  refine lv_iconst (v := nI 0) hx hb dX4_stepBack_0 (by decide) ?_
  refine lv_istore_n (lv' := [(2, .int (nI 0)), (0, .ref (ad (31, k, 0))), (1, .int (nI t))]) hx hb dX4_stepBack_1 rfl hl (by decide) rfl (fun ls hl => ?_)
  have loop : ∀ (q j : Nat) (g1 : g_k → Nat → Int32) (H : Heap) (locs : List Loc), j ≤ n → n < j + q → tf k g g1 → g_P D (lay C g1 ad ln ex) ad B H → va_S (g_A B) s.heap H locs → ∀ ls, lv_has ls 4 [(2, .int (nI j)), (0, .ref (ad (31, k, 0))), (1, .int (nI t))] → W p l e (headSpec wsX4_stepBack ({ frames := 1, cells := 0, slots := 0, locals := 24 } : Room)).room s m ([.ref (ad (31, k, 0)), .int (nI t)]).toArray below meth c H locs 0 0 (MQ below (va_Qv (fun (u : (g_k → Nat → Int32) × (g_k → Nat)) => tf k g u.1 ∧ lf k ln u.2) (fun u t => g_P D (lay C u.1 ad u.2 ex) ad B t.heap) (g_A B)) ([.ref (ad (31, k, 0)), .int (nI t)]).toArray s 0 0 (g_A B)) (F0 m 2 ls []) := by
    intro q
    induction q with
    | zero => intro j g1 H locs h1 h2; exact absurd h2 (by omega)
    | succ q ih =>
      intro j g1 H locs h1 h2 h3 hG hS ls hl
      refine lv_iload_n hx hb dX4_stepBack_2 rfl (lv_at hl 0 rfl) ?_
      refine lv_aload_n hx hb dX4_stepBack_3 rfl (lv_at hl 1 rfl) ?_
      refine g_get hx hb hts hi4 hown hK hG (lay_time hk hlv) rfl 0 (by decide) (hts (.fieldLink RX4 27 "Satellitering$Timetable" "sky" "LSatellitering$Sky;") (by decide +kernel)) rfl dX4_stepBack_4 ?_
      refine g_getN hx hb hts hi2 hown hK hG (lay_sky) rfl 4 (by decide) (va_Nw.use rfl hN.2.2.2.2.2.2.2.2.2.2.2.2.1) rfl dX4_stepBack_7 ?_
      refine lv_to (y := nI n) (by rw [h3 _ (Or.inl (by decide))]; exact hc) ?_
      refine lv_icmp_ge (tgt := 53) hx hb dX4_stepBack_10 (by decide) (fun c_1 => ?_) (fun c_1 => ?_)
      · refine lv_aload_n hx hb dX4_stepBack_53 rfl (lv_at hl 1 rfl) ?_
        refine g_get hx hb hts hi4 hown hK hG (lay_time hk hlv) rfl 3 (by decide) (hts (.fieldLink RX4 16 "Satellitering$Timetable" "soonest" "[I") (by decide +kernel)) rfl dX4_stepBack_54 ?_
        refine lv_astore_n (lv' := [(2, .ref (ad (sc ln k))), (0, .ref (ad (31, k, 0))), (1, .int (nI t))]) hx hb dX4_stepBack_57 rfl hl (by decide) rfl (fun ls hl => ?_)
        refine lv_aload_n hx hb dX4_stepBack_58 rfl (lv_at hl 1 rfl) ?_
        refine lv_aload_n hx hb dX4_stepBack_59 rfl (lv_at hl 1 rfl) ?_
        refine g_get hx hb hts hi4 hown hK hG (lay_time hk hlv) rfl 4 (by decide) (hts (.fieldLink RX4 20 "Satellitering$Timetable" "soonestBefore" "[I") (by decide +kernel)) rfl dX4_stepBack_60 ?_
        refine g_put hx hb hts hi4 tyX4 tyX4_ok nmX4 hown hK hG hS (cd := (31, k, 0)) (lay_time hk hlv) rfl 3 (by decide) (hts (.fieldLink RX4 16 "Satellitering$Timetable" "soonest" "[I") (by decide +kernel)) rfl rfl rfl (by simp) dX4_stepBack_63 (fun H locs hG hS => ?_)
        refine lv_aload_n hx hb dX4_stepBack_66 rfl (lv_at hl 1 rfl) ?_
        refine lv_aload_n hx hb dX4_stepBack_67 rfl (lv_at hl 0 rfl) ?_
        refine g_put hx hb hts hi4 tyX4 tyX4_ok nmX4 hown hK hG hS (cd := (31, k, 0)) (k_up_self _ _ _) rfl 4 (by decide) (hts (.fieldLink RX4 20 "Satellitering$Timetable" "soonestBefore" "[I") (by decide +kernel)) rfl rfl rfl (by simp) dX4_stepBack_68 (fun H locs hG hS => ?_)
        have hG : g_P D (lay C g1 ad (sw ln k) ex) ad B H := hG.to (lay_sw hk hlv) rfl
        exact W.vret hx hb hr (fun t9 ht9 hW9 => ⟨⟨(g1, (sw ln k)), rfl, ⟨h3, fun c hc9 => sw_ne _ hc9⟩, by show g_P D (lay C g1 ad (sw ln k) ex) ad B t9.heap; rw [ht9]; exact hG⟩, hS.F ht9⟩) hS.2.2 dX4_stepBack_71
      · have hi : j < n := Nat.lt_of_not_le (fun h9 => c_1 ((nI_leI (by omega) (by omega)).mpr h9))
        have hc1 : g1 (1, 0, 0) 4 = nI n := by rw [h3 _ (Or.inl (by decide))]; exact hc
        refine lv_aload_n hx hb dX4_stepBack_13 rfl (lv_at hl 1 rfl) ?_
        refine g_get hx hb hts hi4 hown hK hG (lay_time hk hlv) rfl 0 (by decide) (hts (.fieldLink RX4 27 "Satellitering$Timetable" "sky" "LSatellitering$Sky;") (by decide +kernel)) rfl dX4_stepBack_14 ?_
        refine lv_iload_n hx hb dX4_stepBack_17 rfl (lv_at hl 0 rfl) ?_
        refine lv_iload_n hx hb dX4_stepBack_18 rfl (lv_at hl 2 rfl) ?_
        refine vp_callSi (W.runV (As := [.int (nI j), .int (nI t)]) (rest := []) ⟨hx, hb, hml, hown, hts⟩ (c_seenFrom l (show j < 10 by omega) ht) (cwV 2 hts gX4_stepBack_X2_seenFrom rfl rfl rfl (by decide +kernel) ⟨Nat.le_of_ble_eq_true rfl, Nat.le_of_ble_eq_true rfl⟩) (g_preV hF hG hS (lay_sky) rfl) rfl rfl hl.1 rfl (lv_room (Nat.le_of_ble_eq_true rfl)) dX4_stepBack_19 ⟨Nat.le_of_ble_eq_true rfl, Nat.le_of_ble_eq_true rfl⟩) (fun r_2 h_3 => ?_)
        refine lv_istore_n (lv' := [(3, .int r_2), (2, .int (nI j)), (0, .ref (ad (31, k, 0))), (1, .int (nI t))]) hx hb dX4_stepBack_22 rfl hl (by decide) rfl (fun ls hl => ?_)
        refine lv_aload_n hx hb dX4_stepBack_23 rfl (lv_at hl 2 rfl) ?_
        refine g_get hx hb hts hi4 hown hK hG (lay_time hk hlv) rfl 4 (by decide) (hts (.fieldLink RX4 20 "Satellitering$Timetable" "soonestBefore" "[I") (by decide +kernel)) rfl dX4_stepBack_24 ?_
        refine lv_iload_n hx hb dX4_stepBack_27 rfl (lv_at hl 1 rfl) ?_
        refine lv_iload_n hx hb dX4_stepBack_28 rfl (lv_at hl 1 rfl) ?_
        refine lv_aload_n hx hb dX4_stepBack_29 rfl (lv_at hl 2 rfl) ?_
        refine g_get hx hb hts hi4 hown hK hG (lay_time hk hlv) rfl 1 (by decide) (hts (.fieldLink RX4 31 "Satellitering$Timetable" "goal" "I") (by decide +kernel)) rfl dX4_stepBack_30 ?_
        refine lv_icmp_ne (tgt := 40) hx hb dX4_stepBack_33 (by decide) (fun c_4 => ?_) (fun c_4 => ?_)
        · refine lv_aload_n hx hb dX4_stepBack_40 rfl (lv_at hl 2 rfl) ?_
          refine lv_iload_n hx hb dX4_stepBack_41 rfl (lv_at hl 1 rfl) ?_
          refine lv_iload_n hx hb dX4_stepBack_42 rfl (lv_at hl 0 rfl) ?_
          refine vp_callSi (W.runV (As := [.int (nI j), .int r_2]) (rest := [.int (nI j), .ref (ad (sb ln k))]) ⟨hx, hb, hml, hown, hts⟩ (c_soonestThrough l hn hc1 hk hlv (show j < 10 by omega)) (cwV 2 hts gX4_stepBack_X4_soonestThrough rfl rfl rfl (by decide +kernel) ⟨Nat.le_of_ble_eq_true rfl, Nat.le_of_ble_eq_true rfl⟩) (g_preV hF hG hS (lay_time hk hlv) rfl) rfl rfl hl.1 rfl (lv_room (Nat.le_of_ble_eq_true rfl)) dX4_stepBack_43 ⟨Nat.le_of_ble_eq_true rfl, Nat.le_of_ble_eq_true rfl⟩) (fun r_5 h_6 => ?_)
          refine o_iast hx hb hK hG hS (cd := (sb ln k)) (fun _ => lay_sb hk hlv) (by omega) (by first | decide | omega) dX4_stepBack_46 (fun H locs hG hS => ?_)
          refine lv_iinc (v := nI (j + 1)) (lv' := [(2, .int (nI (j + 1))), (3, .int r_2), (0, .ref (ad (31, k, 0))), (1, .int (nI t))]) hx hb dX4_stepBack_47 hl (k := 1) rfl (nI_add j 1) (by decide) rfl (fun ls hl => ?_)
          refine lv_goto (tgt := 2) hx hb dX4_stepBack_50 (by decide) ?_
          exact ih (j + 1) _ _ _ (by omega) (by omega) (tf_tr h3 (tf_of (sb_in ln k) (fun c hc9 => g2_ne _ _ _ hc9))) hG hS ls (lv_sub hl [0, 2, 3] rfl)
        · refine lv_iload_n hx hb dX4_stepBack_36 rfl (lv_at hl 3 rfl) ?_
          refine lv_goto (tgt := 46) hx hb dX4_stepBack_37 (by decide) ?_
          refine o_iast hx hb hK hG hS (cd := (sb ln k)) (fun _ => lay_sb hk hlv) (by omega) (by first | decide | omega) dX4_stepBack_46 (fun H locs hG hS => ?_)
          refine lv_iinc (v := nI (j + 1)) (lv' := [(2, .int (nI (j + 1))), (3, .int r_2), (0, .ref (ad (31, k, 0))), (1, .int (nI t))]) hx hb dX4_stepBack_47 hl (k := 1) rfl (nI_add j 1) (by decide) rfl (fun ls hl => ?_)
          refine lv_goto (tgt := 2) hx hb dX4_stepBack_50 (by decide) ?_
          exact ih (j + 1) _ _ _ (by omega) (by omega) (tf_tr h3 (tf_of (sb_in ln k) (fun c hc9 => g2_ne _ _ _ hc9))) hG hS ls (lv_sub hl [0, 2, 3] rfl)
  exact loop (n + 1) 0 g s.heap [] (Nat.zero_le n) (by omega) tf_rf hG hS ls (lv_sub hl [0, 1, 2] rfl)

set_option maxHeartbeats 4000000 in
set_option maxRecDepth 100000 in
theorem c_reckon (l : Launch) {D : va_G} {C : g_C} {g : g_k → Nat → Int32} {ad ln : g_k → Nat} {ex : g_k → Option va_E} {B : Nat} {n k : Nat} (hn : n ≤ 10) (hc : g (1, 0, 0) 4 = nI n) (hk : k < 10) (hlv : ln (30, k, 0) = 1) : Met l yX4_reckon wsX4_reckon ({ frames := 2, cells := 0, slots := 0, locals := 47 } : Room) (va_Pc [.ref (ad (31, k, 0))] (g_S D C (lay C g ad ln ex) ad B)) (va_Qv (fun (u : (g_k → Nat → Int32) × (g_k → Nat)) => tf k g u.1 ∧ lf k ln u.2) (fun u t => g_P D (lay C u.1 ad u.2 ex) ad B t.heap) (g_A B)) 0 0 (g_A B) := by
  refine Met.ofW (cc := cX4_reckon) (maxL := 3) (ret := none) (by decide) rfl ?_
  intro p e s m args below meth c s₁ B₀ hml hv
  obtain ⟨rfl, hG, hF⟩ := hv
  have hK := hF.1
  have hN := hF.2.1
  have hB := hF.2.2.2
  have hx := B₀.exec
  have hb := B₀.bytes
  have hr := B₀.returns
  have hts := atoms_spec (ws := wsX4_reckon) B₀.pre
  have hown : s.vm.findClass RX4 = some m.cls := findClass_of_methodNamed B₀.named
  have hlocks := B₀.notSynchronized
  have hS : va_S (g_A B) s.heap s.heap [] := va_S.rf
  have hi2 : ∀ w ∈ wsX20, w ∈ wsX4_reckon := by decide +kernel
  have hi4 : ∀ w ∈ wsX40, w ∈ wsX4_reckon := by decide +kernel
  have hl := lv_entry [.ref (ad (31, k, 0))] (n := 3) (Nat.le_of_ble_eq_true rfl)
  rw [lg_entry_eq]
  generalize (lg_sl [.ref (ad (31, k, 0))] ++ List.replicate (3 - (lg_sl [.ref (ad (31, k, 0))]).length) Slot.unset).toArray = ls at hl ⊢
  have hl : lv_has ls 3 [(0, .ref (ad (31, k, 0)))] := hl
  refine lv_sipush (v := nI 760) hx hb dX4_reckon_0 (by decide) ?_
  refine lv_istore_n (lv' := [(1, .int (nI 760)), (0, .ref (ad (31, k, 0)))]) hx hb dX4_reckon_3 rfl hl (by decide) rfl (fun ls hl => ?_)
  refine lv_aload_n hx hb dX4_reckon_4 rfl (lv_at hl 1 rfl) ?_
  refine g_get hx hb hts hi4 hown hK hG (lay_time hk hlv) rfl 3 (by decide) (hts (.fieldLink RX4 16 "Satellitering$Timetable" "soonest" "[I") (by decide +kernel)) rfl dX4_reckon_5 ?_
  refine lv_iload_n hx hb dX4_reckon_8 rfl (lv_at hl 0 rfl) ?_
  refine va_callv (va_runS (As := [.ref (ad (sc ln k)), .int (nI 760)]) (rest := []) ⟨hx, hb, hml, hown, hts⟩ (c_fill l (cd := sc ln k) (n := 10) (fun _ => lay_sc hk hlv) (by decide)) (va_cwS 2 hts gX4_reckon_J7_fill_53178 rfl rfl rfl (by decide +kernel) ⟨Nat.le_of_ble_eq_true rfl, Nat.le_of_ble_eq_true rfl⟩) (g_preS hF hG hS) rfl rfl hl.1 rfl (lv_room (Nat.le_of_ble_eq_true rfl)) dX4_reckon_9 ⟨Nat.le_of_ble_eq_true rfl, Nat.le_of_ble_eq_true rfl⟩) hS (fun q _ h => h) (fun q h => h) (fun g_3 t9 H locs ht9 _ h_2 hB1 _ _ hS => ?_)
  have hG : g_P D (lay C g_3 ad ln ex) ad B H := by rw [← ht9]; exact hB1
  refine lv_iload_n hx hb dX4_reckon_12 rfl (lv_at hl 0 rfl) ?_
  refine lv_iconst (v := nI 1) hx hb dX4_reckon_13 (by decide) ?_
  refine lv_isub hx hb dX4_reckon_14 ?_
  refine lv_to (y := nI 759) (pk_sub (by decide)) ?_
  refine lv_istore_n (lv' := [(2, .int (nI 759)), (1, .int (nI 760)), (0, .ref (ad (31, k, 0)))]) hx hb dX4_reckon_15 rfl hl (by decide) rfl (fun ls hl => ?_)
  have loop : ∀ (q : Nat) (z : Int32) (g1 : g_k → Nat → Int32) (ln1 : g_k → Nat) (H : Heap) (locs : List Loc), q ≤ 760 → (q = 0 → z = (-1)) → (∀ j, q = j + 1 → z = nI j) → tf k g g1 → lf k ln ln1 → g_P D (lay C g1 ad ln1 ex) ad B H → va_S (g_A B) s.heap H locs → ∀ ls, lv_has ls 3 [(2, .int z), (0, .ref (ad (31, k, 0))), (1, .int (nI 760))] → W p l e (headSpec wsX4_reckon ({ frames := 2, cells := 0, slots := 0, locals := 47 } : Room)).room s m ([.ref (ad (31, k, 0))]).toArray below meth c H locs 0 0 (MQ below (va_Qv (fun (u : (g_k → Nat → Int32) × (g_k → Nat)) => tf k g u.1 ∧ lf k ln u.2) (fun u t => g_P D (lay C u.1 ad u.2 ex) ad B t.heap) (g_A B)) ([.ref (ad (31, k, 0))]).toArray s 0 0 (g_A B)) (F0 m 16 ls []) := by
    intro q
    induction q with
    | zero =>
      intro z g1 ln1 H locs h2 h3 h4 h5 h6 hG hS ls hl
      refine lv_iload_n hx hb dX4_reckon_16 rfl (lv_at hl 0 rfl) ?_
      refine lv_if_lt (tgt := 43) hx hb dX4_reckon_17 (by decide) (fun c_4 => ?_) (fun c_4 => ?_)
      · refine lv_aload_n hx hb dX4_reckon_43 rfl (lv_at hl 1 rfl) ?_
        refine lv_aload_n hx hb dX4_reckon_44 rfl (lv_at hl 1 rfl) ?_
        refine g_get hx hb hts hi4 hown hK hG (lay_time hk (by rw [h6 _ (by intro h9; cases h9)]; exact hlv)) rfl 0 (by decide) (hts (.fieldLink RX4 27 "Satellitering$Timetable" "sky" "LSatellitering$Sky;") (by decide +kernel)) rfl dX4_reckon_45 ?_
        refine g_getN hx hb hts hi2 hown hK hG (lay_sky) rfl 4 (by decide) (va_Nw.use rfl hN.2.2.2.2.2.2.2.2.2.2.2.2.1) rfl dX4_reckon_48 ?_
        refine lv_to (y := nI n) (by rw [h5 _ (Or.inl (by decide))]; exact hc) ?_
        refine o_put hx hb hts hi4 tyX4 tyX4_ok nmX4 hown hK hG hS (cd := (31, k, 0)) (F_time ad ln1 k) (fun _ => lay_time hk (by rw [h6 _ (by intro h9; cases h9)]; exact hlv)) rfl 5 (by decide) (hts (.fieldLink RX4 23 "Satellitering$Timetable" "nodesKnown" "I") (by decide +kernel)) rfl rfl (by simp [upd]) (by simp) dX4_reckon_51 (fun H locs hG hS => ?_)
        exact W.vret hx hb hr (fun t9 ht9 hW9 => ⟨⟨((g2 g1 (31, k, 0) 5 (nI n)), ln1), rfl, ⟨tf_tr h5 (tf_of (c0 := (31, k, 0)) ⟨Nat.le_of_ble_eq_true rfl, Nat.le_of_ble_eq_true rfl, rfl⟩ (fun c hc9 => g2_ne _ _ _ hc9)), h6⟩, by show g_P D (lay C (g2 g1 (31, k, 0) 5 (nI n)) ad ln1 ex) ad B t9.heap; rw [ht9]; exact hG⟩, hS.F ht9⟩) hS.2.2 dX4_reckon_54
      · exact absurd (show z < 0 by rw [h3 rfl]; decide) c_4
    | succ j ih =>
      intro z g1 ln1 H locs h2 h3 h4 h5 h6 hG hS ls hl
      have hz : z = nI j := h4 j rfl
      subst hz
      have hc1 : g1 (1, 0, 0) 4 = nI n := by rw [h5 _ (Or.inl (by decide))]; exact hc
      have hlv1 : ln1 (30, k, 0) = 1 := by rw [h6 _ (by intro h9; cases h9)]; exact hlv
      refine lv_iload_n hx hb dX4_reckon_16 rfl (lv_at hl 0 rfl) ?_
      refine lv_if_lt (tgt := 43) hx hb dX4_reckon_17 (by decide) (fun c_5 => ?_) (fun c_5 => ?_)
      · exact absurd c_5 (nI_pos (by omega))
      · refine lv_aload_n hx hb dX4_reckon_20 rfl (lv_at hl 1 rfl) ?_
        refine lv_iload_n hx hb dX4_reckon_21 rfl (lv_at hl 0 rfl) ?_
        refine va_callv (va_runV (As := [.int (nI j)]) (rest := []) ⟨hx, hb, hml, hown, hts⟩ (c_stepBack l hn hc1 hk hlv1 (show j < 2 ^ 31 by omega)) (cwV 1 hts gX4_reckon_X4_stepBack rfl rfl rfl (by decide +kernel) ⟨Nat.le_of_ble_eq_true rfl, Nat.le_of_ble_eq_true rfl⟩) (g_preV hF hG hS (lay_time hk hlv1) rfl) rfl rfl hl.1 rfl (lv_room (Nat.le_of_ble_eq_true rfl)) dX4_reckon_22 ⟨Nat.le_of_ble_eq_true rfl, Nat.le_of_ble_eq_true rfl⟩) hS (fun q _ h => h) (fun q h => h) (fun u9 t9 H locs ht9 _ h_7 hB1 _ _ hS => ?_)
        obtain ⟨g_8, ln_9⟩ := u9
        dsimp only at h_7
        have hG : g_P D (lay C g_8 ad ln_9 ex) ad B H := by rw [← ht9]; exact hB1
        have h5 := tf_tr h5 h_7.1
        have h6 : lf k ln ln_9 := fun c hc9 => by rw [h_7.2 c hc9]; exact h6 c hc9
        refine lv_iload_n hx hb dX4_reckon_25 rfl (lv_at hl 0 rfl) ?_
        refine lv_sipush (v := nI 360) hx hb dX4_reckon_26 (by decide) ?_
        refine lv_icmp_ge (tgt := 37) hx hb dX4_reckon_29 (by decide) (fun c_11 => ?_) (fun c_11 => ?_)
        · refine lv_iinc (v := (nI j) + (-1)) (lv' := [(2, .int ((nI j) + (-1))), (0, .ref (ad (31, k, 0))), (1, .int (nI 760))]) hx hb dX4_reckon_37 hl (k := 0) rfl (by first | rfl | decide) (by decide) rfl (fun ls hl => ?_)
          refine lv_goto (tgt := 16) hx hb dX4_reckon_40 (by decide) ?_
          exact ih _ _ _ _ _ (by omega) (fun h9 => by subst h9; decide) (fun i h9 => by subst h9; exact pk_m1 i) h5 h6 hG hS ls (lv_sub hl [0, 1, 2] rfl)
        · have hj : j < 360 := Nat.lt_of_not_le (fun h9 => c_11 ((nI_leI (by omega) (by omega)).mpr h9))
          have hc1 : g_8 (1, 0, 0) 4 = nI n := by rw [h5 _ (Or.inl (by decide))]; exact hc
          have hlv1 : ln_9 (30, k, 0) = 1 := by rw [h6 _ (by intro h9; cases h9)]; exact hlv
          refine lv_aload_n hx hb dX4_reckon_32 rfl (lv_at hl 1 rfl) ?_
          refine lv_iload_n hx hb dX4_reckon_33 rfl (lv_at hl 0 rfl) ?_
          refine va_callv (va_runV (As := [.int (nI j)]) (rest := []) ⟨hx, hb, hml, hown, hts⟩ (c_writeDown l (ln := ln_9) hn hc1 hk hlv1 hj) (cwV 1 hts gX4_reckon_X4_writeDown rfl rfl rfl (by decide +kernel) ⟨Nat.le_of_ble_eq_true rfl, Nat.le_of_ble_eq_true rfl⟩) (g_preV hF hG hS (lay_time hk hlv1) rfl) rfl rfl hl.1 rfl (lv_room (Nat.le_of_ble_eq_true rfl)) dX4_reckon_34 ⟨Nat.le_of_ble_eq_true rfl, Nat.le_of_ble_eq_true rfl⟩) hS (fun q _ h => h) (fun q h => h) (fun g_14 t9 H locs ht9 _ h_13 hB1 _ _ hS => ?_)
          have hG : g_P D (lay C g_14 ad ln_9 ex) ad B H := by rw [← ht9]; exact hB1
          refine lv_iinc (v := (nI j) + (-1)) (lv' := [(2, .int ((nI j) + (-1))), (0, .ref (ad (31, k, 0))), (1, .int (nI 760))]) hx hb dX4_reckon_37 hl (k := 0) rfl (by first | rfl | decide) (by decide) rfl (fun ls hl => ?_)
          refine lv_goto (tgt := 16) hx hb dX4_reckon_40 (by decide) ?_
          exact ih _ _ _ _ _ (by omega) (fun h9 => by subst h9; decide) (fun i h9 => by subst h9; exact pk_m1 i) (tf_tr h5 h_13) h6 hG hS ls (lv_sub hl [0, 1, 2] rfl)
  exact loop 760 _ _ _ _ _ (Nat.le_refl _) (fun h9 => absurd h9 (by decide)) (fun j h9 => by rw [show j = 759 by omega]) (tf_of (sc_in ln k) h_2.1) (fun _ _ => rfl) hG hS ls (lv_sub hl [0, 2, 1] rfl)
