set_option maxHeartbeats 4000000 in
set_option maxRecDepth 100000 in
theorem c_nextNode (l : Launch) {D : va_G} {C : g_C} {g : g_k → Nat → Int32} {ad ln : g_k → Nat} {ex : g_k → Option va_E} {B : Nat} {n k : Nat} (hn : n ≤ 10) (hc : g (1, 0, 0) 4 = nI n) (hk : k < 10) (hlv : ln (30, k, 0) = 1) {i t : Nat} (hi9 : i < 10) (ht : t < 2 ^ 30) : Met l yX4_nextNode wsX4_nextNode ({ frames := 3, cells := 0, slots := 0, locals := 69 } : Room) (va_Pc [.ref (ad (31, k, 0)), .int (nI i), .int (nI t)] (g_S D C (lay C g ad ln ex) ad B)) (va_Qi (fun (r : Int32) (u : (g_k → Nat → Int32) × (g_k → Nat)) => (r = (-1) ∨ ∃ o, o < n ∧ r = nI o ∧ see g i o t = true) ∧ tf k g u.1 ∧ lf k ln u.2) (fun u t => g_P D (lay C u.1 ad u.2 ex) ad B t.heap) (g_A B)) 0 0 (g_A B) := by
  refine Met.ofW (cc := cX4_nextNode) (maxL := 6) (ret := (some .int)) (by decide) rfl ?_
  intro p e s m args below meth c s₁ B₀ hml hv
  obtain ⟨rfl, hG, hF⟩ := hv
  have hK := hF.1
  have hN := hF.2.1
  have hB := hF.2.2.2
  have hx := B₀.exec
  have hb := B₀.bytes
  have hr := B₀.returns
  have hts := atoms_spec (ws := wsX4_nextNode) B₀.pre
  have hown : s.vm.findClass RX4 = some m.cls := findClass_of_methodNamed B₀.named
  have hlocks := B₀.notSynchronized
  have hS : va_S (g_A B) s.heap s.heap [] := va_S.rf
  have hi2 : ∀ w ∈ wsX20, w ∈ wsX4_nextNode := by decide +kernel
  have hi4 : ∀ w ∈ wsX40, w ∈ wsX4_nextNode := by decide +kernel
  have hl := lv_entry [.ref (ad (31, k, 0)), .int (nI i), .int (nI t)] (n := 6) (Nat.le_of_ble_eq_true rfl)
  rw [lg_entry_eq]
  generalize (lg_sl [.ref (ad (31, k, 0)), .int (nI i), .int (nI t)] ++ List.replicate (6 - (lg_sl [.ref (ad (31, k, 0)), .int (nI i), .int (nI t)]).length) Slot.unset).toArray = ls at hl ⊢
  have hl : lv_has ls 6 [(0, .ref (ad (31, k, 0))), (1, .int (nI i)), (2, .int (nI t))] := hl
  have rest : ∀ (g1 : g_k → Nat → Int32) (ln1 : g_k → Nat) (H : Heap) (locs : List Loc), tf k g g1 → lf k ln ln1 → g_P D (lay C g1 ad ln1 ex) ad B H → va_S (g_A B) s.heap H locs → ∀ ls, lv_has ls 6 [(0, .ref (ad (31, k, 0))), (1, .int (nI i)), (2, .int (nI t))] → W p l e (headSpec wsX4_nextNode ({ frames := 3, cells := 0, slots := 0, locals := 69 } : Room)).room s m ([.ref (ad (31, k, 0)), .int (nI i), .int (nI t)]).toArray below meth c H locs 0 0 (MQ below (va_Qi (fun (r : Int32) (u : (g_k → Nat → Int32) × (g_k → Nat)) => (r = (-1) ∨ ∃ o, o < n ∧ r = nI o ∧ see g i o t = true) ∧ tf k g u.1 ∧ lf k ln u.2) (fun u t => g_P D (lay C u.1 ad u.2 ex) ad B t.heap) (g_A B)) ([.ref (ad (31, k, 0)), .int (nI i), .int (nI t)]).toArray s 0 0 (g_A B)) (F0 m 18 ls []) := by
    intro g1 ln1 H locs h5 h6 hG hS ls hl
    have hc1 : g1 (1, 0, 0) 4 = nI n := by rw [h5 _ (Or.inl (by decide))]; exact hc
    have hlv1 : ln1 (30, k, 0) = 1 := by rw [h6 _ (by intro h9; cases h9)]; exact hlv
    have hse : ∀ a b t, see g1 a b t = see g a b t := fun a b t => by unfold see; rw [h5 _ (Or.inl (show (20 : Nat) < 31 by decide))]
    refine lv_aload_n hx hb dX4_nextNode_18 rfl (lv_at hl 0 rfl) ?_
    refine g_get hx hb hts hi4 hown hK hG (lay_time hk hlv1) rfl 2 (by decide) (hts (.fieldLink RX4 11 "Satellitering$Timetable" "left" "[[I") (by decide +kernel)) rfl dX4_nextNode_19 ?_
    refine lv_iload_n hx hb dX4_nextNode_22 rfl (lv_at hl 1 rfl) ?_
    refine o_left hx hb hK hG hk hlv1 (hi9) dX4_nextNode_23 ?_
    refine lv_iload_n hx hb dX4_nextNode_24 rfl (lv_at hl 2 rfl) ?_
    refine lv_sipush (v := nI 360) hx hb dX4_nextNode_25 (by decide) ?_
    refine lv_irem hx hb dX4_nextNode_28 (by decide) ?_
    refine lv_to (y := nI (t % 360)) (pk_rem (by omega) (by decide) (by decide)) ?_
    refine g_iald hx hb hK hG (lay_leftrow hk (hi9) hlv1) (Nat.mod_lt _ (by decide)) (by first | decide | omega) dX4_nextNode_29 ?_
    refine lv_istore_n (lv' := [(3, .int (g1 (35, k, i) (t % 360))), (0, .ref (ad (31, k, 0))), (1, .int (nI i)), (2, .int (nI t))]) hx hb dX4_nextNode_30 rfl hl (by decide) rfl (fun ls hl => ?_)
    refine lv_iload_n hx hb dX4_nextNode_31 rfl (lv_at hl 3 rfl) ?_
    refine lv_iconst (v := nI 1) hx hb dX4_nextNode_32 (by decide) ?_
    refine lv_iadd hx hb dX4_nextNode_33 ?_
    refine lv_to (y := nI (t + 1)) (nI_add t 1) ?_
    refine lv_sipush (v := nI 360) hx hb dX4_nextNode_34 (by decide) ?_
    refine lv_irem hx hb dX4_nextNode_37 (by decide) ?_
    refine lv_to (y := nI ((t + 1) % 360)) (pk_rem (by omega) (by decide) (by decide)) ?_
    refine lv_istore (lv' := [(4, .int (nI ((t + 1) % 360))), (3, .int (g1 (35, k, i) (t % 360))), (0, .ref (ad (31, k, 0))), (1, .int (nI i)), (2, .int (nI t))]) hx hb dX4_nextNode_38 hl (by decide) rfl (fun ls hl => ?_)
    refine lv_iload_n hx hb dX4_nextNode_40 rfl (lv_at hl 1 rfl) ?_
    refine lv_iconst (v := nI 1) hx hb dX4_nextNode_41 (by decide) ?_
    refine lv_icmp_lt (tgt := 60) hx hb dX4_nextNode_42 (by decide) (fun c_1 => ?_) (fun c_1 => ?_)
    · refine lv_iconst (v := (-1)) hx hb dX4_nextNode_60 (by decide) ?_
      exact W.iret (v := (-1)) hx hb hr (fun t9 ht9 hW9 => ⟨⟨_, (g1, ln1), rfl, ⟨Or.inl rfl, h5, h6⟩, by show g_P D (lay C g1 ad ln1 ex) ad B t9.heap; rw [ht9]; exact hG⟩, hS.F ht9⟩) hS.2.2 dX4_nextNode_61
    · refine lv_aload_n hx hb dX4_nextNode_45 rfl (lv_at hl 2 rfl) ?_
      refine g_get hx hb hts hi4 hown hK hG (lay_time hk hlv1) rfl 2 (by decide) (hts (.fieldLink RX4 11 "Satellitering$Timetable" "left" "[[I") (by decide +kernel)) rfl dX4_nextNode_46 ?_
      refine lv_iload_n hx hb dX4_nextNode_49 rfl (lv_at hl 3 rfl) ?_
      refine o_left hx hb hK hG hk hlv1 (hi9) dX4_nextNode_50 ?_
      refine lv_iload hx hb dX4_nextNode_51 (lv_at hl 0 rfl) ?_
      refine g_iald hx hb hK hG (lay_leftrow hk (hi9) hlv1) (Nat.mod_lt _ (by decide)) (by first | decide | omega) dX4_nextNode_53 ?_
      refine lv_iload_n hx hb dX4_nextNode_54 rfl (lv_at hl 1 rfl) ?_
      refine lv_iconst (v := nI 1) hx hb dX4_nextNode_55 (by decide) ?_
      refine lv_isub hx hb dX4_nextNode_56 ?_
      refine lv_icmp_ne (tgt := 62) hx hb dX4_nextNode_57 (by decide) (fun c_2 => ?_) (fun c_2 => ?_)
      · refine lv_iconst (v := nI 0) hx hb dX4_nextNode_62 (by decide) ?_
        refine lv_istore (lv' := [(5, .int (nI 0)), (4, .int (nI ((t + 1) % 360))), (3, .int (g1 (35, k, i) (t % 360))), (0, .ref (ad (31, k, 0))), (1, .int (nI i)), (2, .int (nI t))]) hx hb dX4_nextNode_63 hl (by decide) rfl (fun ls hl => ?_)
        have loop : ∀ (q j : Nat), j ≤ n → n < j + q → ∀ ls, lv_has ls 6 [(5, .int (nI j)), (4, .int (nI ((t + 1) % 360))), (3, .int (g1 (35, k, i) (t % 360))), (0, .ref (ad (31, k, 0))), (1, .int (nI i)), (2, .int (nI t))] → W p l e (headSpec wsX4_nextNode ({ frames := 3, cells := 0, slots := 0, locals := 69 } : Room)).room s m ([.ref (ad (31, k, 0)), .int (nI i), .int (nI t)]).toArray below meth c H locs 0 0 (MQ below (va_Qi (fun (r : Int32) (u : (g_k → Nat → Int32) × (g_k → Nat)) => (r = (-1) ∨ ∃ o, o < n ∧ r = nI o ∧ see g i o t = true) ∧ tf k g u.1 ∧ lf k ln u.2) (fun u t => g_P D (lay C u.1 ad u.2 ex) ad B t.heap) (g_A B)) ([.ref (ad (31, k, 0)), .int (nI i), .int (nI t)]).toArray s 0 0 (g_A B)) (F0 m 65 ls []) := by
          intro q
          induction q with
          | zero => intro j h1 h2; exact absurd h2 (by omega)
          | succ q ih =>
            intro j h1 h2 ls hl
            refine lv_iload hx hb dX4_nextNode_65 (lv_at hl 0 rfl) ?_
            refine lv_aload_n hx hb dX4_nextNode_67 rfl (lv_at hl 3 rfl) ?_
            refine g_get hx hb hts hi4 hown hK hG (lay_time hk hlv1) rfl 0 (by decide) (hts (.fieldLink RX4 27 "Satellitering$Timetable" "sky" "LSatellitering$Sky;") (by decide +kernel)) rfl dX4_nextNode_68 ?_
            refine g_getN hx hb hts hi2 hown hK hG (lay_sky) rfl 4 (by decide) (va_Nw.use rfl hN.2.2.2.2.2.2.2.2.2.2.2.2.1) rfl dX4_nextNode_71 ?_
            refine lv_to (y := nI n) (hc1) ?_
            refine lv_icmp_ge (tgt := 116) hx hb dX4_nextNode_74 (by decide) (fun c_3 => ?_) (fun c_3 => ?_)
            · refine lv_iconst (v := (-1)) hx hb dX4_nextNode_116 (by decide) ?_
              exact W.iret (v := (-1)) hx hb hr (fun t9 ht9 hW9 => ⟨⟨_, (g1, ln1), rfl, ⟨Or.inl rfl, h5, h6⟩, by show g_P D (lay C g1 ad ln1 ex) ad B t9.heap; rw [ht9]; exact hG⟩, hS.F ht9⟩) hS.2.2 dX4_nextNode_117
            · have hi : j < n := Nat.lt_of_not_le (fun h9 => c_3 ((nI_leI (by omega) (by omega)).mpr h9))
              refine lv_aload_n hx hb dX4_nextNode_77 rfl (lv_at hl 3 rfl) ?_
              refine g_get hx hb hts hi4 hown hK hG (lay_time hk hlv1) rfl 0 (by decide) (hts (.fieldLink RX4 27 "Satellitering$Timetable" "sky" "LSatellitering$Sky;") (by decide +kernel)) rfl dX4_nextNode_78 ?_
              refine lv_iload_n hx hb dX4_nextNode_81 rfl (lv_at hl 4 rfl) ?_
              refine lv_iload hx hb dX4_nextNode_82 (lv_at hl 0 rfl) ?_
              refine lv_iload_n hx hb dX4_nextNode_84 rfl (lv_at hl 5 rfl) ?_
              refine vp_callSi (W.runV (As := [.int (nI i), .int (nI j), .int (nI t)]) (rest := []) ⟨hx, hb, hml, hown, hts⟩ (c_inContact l (show i < 10 by omega) (show j < 32 by omega) (show t < 2 ^ 31 by omega)) (cwV 3 hts gX4_nextNode_X2_inContact rfl rfl rfl (by decide +kernel) ⟨Nat.le_of_ble_eq_true rfl, Nat.le_of_ble_eq_true rfl⟩) (g_preV hF hG hS (lay_sky) rfl) rfl rfl hl.1 rfl (lv_room (Nat.le_of_ble_eq_true rfl)) dX4_nextNode_85 ⟨Nat.le_of_ble_eq_true rfl, Nat.le_of_ble_eq_true rfl⟩) (fun r_4 h_5 => ?_)
              subst h_5
              refine lv_if_eq (tgt := 110) hx hb dX4_nextNode_88 (by decide) (fun c_6 => ?_) (fun c_6 => ?_)
              · refine lv_iinc (v := nI (j + 1)) (lv' := [(5, .int (nI (j + 1))), (4, .int (nI ((t + 1) % 360))), (3, .int (g1 (35, k, i) (t % 360))), (0, .ref (ad (31, k, 0))), (1, .int (nI i)), (2, .int (nI t))]) hx hb dX4_nextNode_110 hl (k := 0) rfl (nI_add j 1) (by decide) rfl (fun ls hl => ?_)
                refine lv_goto (tgt := 65) hx hb dX4_nextNode_113 (by decide) ?_
                exact ih (j + 1) (by omega) (by omega) ls (lv_sub hl [0, 1, 2, 3, 4, 5] rfl)
              · have hs : see g i j t = true := by
                  rw [← hse]; by_cases h9 : see g1 i j t = true
                  · exact h9
                  · exact absurd (by rw [if_neg h9]; exact nI_0) c_6
                refine lv_aload_n hx hb dX4_nextNode_91 rfl (lv_at hl 3 rfl) ?_
                refine g_get hx hb hts hi4 hown hK hG (lay_time hk hlv1) rfl 2 (by decide) (hts (.fieldLink RX4 11 "Satellitering$Timetable" "left" "[[I") (by decide +kernel)) rfl dX4_nextNode_92 ?_
                refine lv_iload hx hb dX4_nextNode_95 (lv_at hl 0 rfl) ?_
                refine o_left hx hb hK hG hk hlv1 (by omega) dX4_nextNode_97 ?_
                refine lv_iload hx hb dX4_nextNode_98 (lv_at hl 1 rfl) ?_
                refine g_iald hx hb hK hG (lay_leftrow hk (by omega) hlv1) (Nat.mod_lt _ (by decide)) (by first | decide | omega) dX4_nextNode_100 ?_
                refine lv_iload_n hx hb dX4_nextNode_101 rfl (lv_at hl 2 rfl) ?_
                refine lv_iconst (v := nI 1) hx hb dX4_nextNode_102 (by decide) ?_
                refine lv_isub hx hb dX4_nextNode_103 ?_
                refine lv_icmp_ne (tgt := 110) hx hb dX4_nextNode_104 (by decide) (fun c_7 => ?_) (fun c_7 => ?_)
                · refine lv_iinc (v := nI (j + 1)) (lv' := [(5, .int (nI (j + 1))), (4, .int (nI ((t + 1) % 360))), (3, .int (g1 (35, k, i) (t % 360))), (0, .ref (ad (31, k, 0))), (1, .int (nI i)), (2, .int (nI t))]) hx hb dX4_nextNode_110 hl (k := 0) rfl (nI_add j 1) (by decide) rfl (fun ls hl => ?_)
                  refine lv_goto (tgt := 65) hx hb dX4_nextNode_113 (by decide) ?_
                  exact ih (j + 1) (by omega) (by omega) ls (lv_sub hl [0, 1, 2, 3, 4, 5] rfl)
                · refine lv_iload hx hb dX4_nextNode_107 (lv_at hl 0 rfl) ?_
                  exact W.iret (v := nI j) hx hb hr (fun t9 ht9 hW9 => ⟨⟨_, (g1, ln1), rfl, ⟨Or.inr ⟨j, hi, rfl, hs⟩, h5, h6⟩, by show g_P D (lay C g1 ad ln1 ex) ad B t9.heap; rw [ht9]; exact hG⟩, hS.F ht9⟩) hS.2.2 dX4_nextNode_109
        exact loop (n + 1) 0 (Nat.zero_le n) (by omega) ls (lv_sub hl [0, 1, 2, 3, 4, 5] rfl)
      · refine lv_iconst (v := (-1)) hx hb dX4_nextNode_60 (by decide) ?_
        exact W.iret (v := (-1)) hx hb hr (fun t9 ht9 hW9 => ⟨⟨_, (g1, ln1), rfl, ⟨Or.inl rfl, h5, h6⟩, by show g_P D (lay C g1 ad ln1 ex) ad B t9.heap; rw [ht9]; exact hG⟩, hS.F ht9⟩) hS.2.2 dX4_nextNode_61
  refine lv_aload_n hx hb dX4_nextNode_0 rfl (lv_at hl 0 rfl) ?_
  refine g_get hx hb hts hi4 hown hK hG (lay_time hk hlv) rfl 5 (by decide) (hts (.fieldLink RX4 23 "Satellitering$Timetable" "nodesKnown" "I") (by decide +kernel)) rfl dX4_nextNode_1 ?_
  refine lv_aload_n hx hb dX4_nextNode_4 rfl (lv_at hl 0 rfl) ?_
  refine g_get hx hb hts hi4 hown hK hG (lay_time hk hlv) rfl 0 (by decide) (hts (.fieldLink RX4 27 "Satellitering$Timetable" "sky" "LSatellitering$Sky;") (by decide +kernel)) rfl dX4_nextNode_5 ?_
  refine g_getN hx hb hts hi2 hown hK hG (lay_sky) rfl 4 (by decide) (va_Nw.use rfl hN.2.2.2.2.2.2.2.2.2.2.2.2.1) rfl dX4_nextNode_8 ?_
  refine lv_to (y := nI n) (hc) ?_
  refine lv_icmp_eq (tgt := 18) hx hb dX4_nextNode_11 (by decide) (fun c_8 => ?_) (fun c_8 => ?_)
  · exact rest g ln s.heap [] tf_rf (fun _ _ => rfl) hG hS ls (lv_sub hl [0, 1, 2] rfl)
  · refine lv_aload_n hx hb dX4_nextNode_14 rfl (lv_at hl 0 rfl) ?_
    refine va_callv (va_runV (As := []) (rest := []) ⟨hx, hb, hml, hown, hts⟩ (c_reckon l hn hc hk hlv) (cwV 0 hts gX4_nextNode_X4_reckon rfl rfl rfl (by decide +kernel) ⟨Nat.le_of_ble_eq_true rfl, Nat.le_of_ble_eq_true rfl⟩) (g_preV hF hG hS (lay_time hk hlv) rfl) rfl rfl hl.1 rfl (lv_room (Nat.le_of_ble_eq_true rfl)) dX4_nextNode_15 ⟨Nat.le_of_ble_eq_true rfl, Nat.le_of_ble_eq_true rfl⟩) hS (fun q _ h => h) (fun q h => h) (fun u9 t9 H locs ht9 _ h_10 hB1 _ _ hS => ?_)
    obtain ⟨g_11, ln_12⟩ := u9
    dsimp only at h_10
    have hG : g_P D (lay C g_11 ad ln_12 ex) ad B H := by rw [← ht9]; exact hB1
    exact rest _ _ _ _ h_10.1 h_10.2 hG hS ls (lv_sub hl [0, 1, 2] rfl)
