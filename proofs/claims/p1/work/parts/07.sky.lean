/-! The sky: who sees whom. -/
def bt (x : Int32) (i : Nat) : Bool := x.toBitVec.getLsbD i
theorem b_ext {x y : Int32} (h : ∀ i, i < 32 → bt x i = bt y i) : x = y := Int32.toBitVec_inj.mp (BitVec.eq_of_getLsbD_eq (fun i hi => h i hi))
theorem b_or (x y : Int32) (i : Nat) : bt (x ||| y) i = (bt x i || bt y i) := by unfold bt; rw [Int32.toBitVec_or, BitVec.getLsbD_or]
theorem b_and (x y : Int32) (i : Nat) : bt (x &&& y) i = (bt x i && bt y i) := by unfold bt; rw [Int32.toBitVec_and, BitVec.getLsbD_and]
theorem b_big {x : Int32} {i : Nat} (h : 32 ≤ i) : bt x i = false := BitVec.getLsbD_of_ge _ _ h
theorem b_0 (i : Nat) : bt 0 i = false := BitVec.getLsbD_zero
theorem b_sl : ∀ n, n < 32 → ((nI n &&& 31).toBitVec.smod 32).toNat = n := by decide +kernel
theorem b_shl (n : Nat) (hn : n < 32) (x : Int32) {i : Nat} (hi : i < 32) : bt (x <<< (nI n &&& 31)) i = (decide (n ≤ i) && bt x (i - n)) := by
  unfold bt
  rw [Int32.toBitVec_shiftLeft]
  show (x.toBitVec <<< ((nI n &&& 31).toBitVec.smod 32).toNat).getLsbD i = _
  rw [b_sl n hn, BitVec.getLsbD_shiftLeft]
  rcases Nat.lt_or_ge i n with h | h
  · simp [h, Nat.not_le.mpr h]
  · simp [hi, h, Nat.not_lt.mpr h]
theorem b_sshr (n : Nat) (hn : n < 32) (x : Int32) {i : Nat} (hi : i < 32) : bt (x >>> (nI n &&& 31)) i = if n + i < 32 then bt x (n + i) else bt x 31 := by
  unfold bt
  rw [Int32.toBitVec_shiftRight]
  show (x.toBitVec.sshiftRight ((nI n &&& 31).toBitVec.smod 32).toNat).getLsbD i = _
  rw [b_sl n hn, BitVec.getLsbD_sshiftRight, BitVec.msb_eq_getLsbD_last]
  simp [hi]
theorem b_one : ∀ i, i < 32 → bt (nI 1) i = decide (i = 0) := by decide +kernel
/-- x >> b & 1 -/
theorem b_test (x : Int32) {b : Nat} (hb : b < 32) : ((x >>> (nI b &&& 31)) &&& nI 1 = 0) ↔ bt x b = false := by
  have e : ∀ i, i < 32 → bt ((x >>> (nI b &&& 31)) &&& nI 1) i = (decide (i = 0) && bt x b) := fun i hi => by
    rw [b_and, b_one i hi, b_sshr b hb x hi]
    by_cases h : i = 0
    · subst h
      simp [hb]
    · simp [h]
  constructor
  · intro h
    have := e 0 (by omega)
    rw [h, b_0] at this
    simpa using this.symm
  · intro h
    refine b_ext (fun i hi => ?_)
    rw [e i hi, h, b_0]
    simp
/-- 1 << n -/
theorem b_bit {n i : Nat} (hn : n < 32) (hi : i < 32) : bt (nI 1 <<< (nI n &&& 31)) i = decide (i = n) := by
  rw [b_shl n hn _ hi]
  by_cases h : n ≤ i
  · rw [b_one (i - n) (by omega)]
    by_cases h2 : i = n
    · subst h2
      simp
    · simp [h, h2, show ¬ i - n = 0 by omega]
  · simp [h, show ¬ i = n by omega]
/-- a sees b at minute t -/
def see (g : g_k → Nat → Int32) (a b t : Nat) : Bool := bt (g (20, a, 0) (t % 360)) b
theorem see_360 (g : g_k → Nat → Int32) (a b t : Nat) : see g a b (t + 360) = see g a b t := by unfold see; rw [Nat.add_mod_right]

set_option maxHeartbeats 4000000 in
set_option maxRecDepth 100000 in
theorem c_seenFrom (l : Launch) {D : va_G} {C : g_C} {g : g_k → Nat → Int32} {ad ln : g_k → Nat} {ex : g_k → Option va_E} {B : Nat} {a t : Nat} (ha : a < 10) (ht : t < 2 ^ 31) : Met l yX2_seenFrom wsX2_seenFrom ({ frames := 0, cells := 0, slots := 0, locals := 0 } : Room) (va_Pc [.ref (ad (1, 0, 0)), .int (nI a), .int (nI t)] (g_S D C (lay C g ad ln ex) ad B)) (vp_Si (fun r => r = g (20, a, 0) (t % 360))) 0 0 (fun _ => False) := by
  refine Met.ofW (cc := cX2_seenFrom) (maxL := 3) (ret := (some .int)) (by decide) rfl ?_
  intro p e s m args below meth c s₁ B₀ hml hv
  obtain ⟨rfl, hG, hF⟩ := hv
  have hK := hF.1
  have hN := hF.2.1
  have hB := hF.2.2.2
  have hx := B₀.exec
  have hb := B₀.bytes
  have hr := B₀.returns
  have hts := atoms_spec (ws := wsX2_seenFrom) B₀.pre
  have hown : s.vm.findClass RX2 = some m.cls := findClass_of_methodNamed B₀.named
  have hlocks := B₀.notSynchronized
  have hS : va_S (g_A B) s.heap s.heap [] := va_S.rf
  have hi2 : ∀ w ∈ wsX20, w ∈ wsX2_seenFrom := by decide +kernel
  have hl := lv_entry [.ref (ad (1, 0, 0)), .int (nI a), .int (nI t)] (n := 3) (Nat.le_of_ble_eq_true rfl)
  rw [lg_entry_eq]
  generalize (lg_sl [.ref (ad (1, 0, 0)), .int (nI a), .int (nI t)] ++ List.replicate (3 - (lg_sl [.ref (ad (1, 0, 0)), .int (nI a), .int (nI t)]).length) Slot.unset).toArray = ls at hl ⊢
  have hl : lv_has ls 3 [(0, .ref (ad (1, 0, 0))), (1, .int (nI a)), (2, .int (nI t))] := hl
  refine lv_aload_n hx hb dX2_seenFrom_0 rfl (lv_at hl 0 rfl) ?_
  refine g_get hx hb hts hi2 hown hK hG (lay_sky) rfl 3 (by decide) (hts (.fieldLink RX2 23 "Satellitering$Sky" "seen" "[[I") (by decide +kernel)) rfl dX2_seenFrom_1 ?_
  refine lv_iload_n hx hb dX2_seenFrom_4 rfl (lv_at hl 1 rfl) ?_
  refine o_seen hx hb hK hG (ha) dX2_seenFrom_5 ?_
  refine lv_iload_n hx hb dX2_seenFrom_6 rfl (lv_at hl 2 rfl) ?_
  refine lv_sipush (v := nI 360) hx hb dX2_seenFrom_7 (by decide) ?_
  refine lv_irem hx hb dX2_seenFrom_10 (by decide) ?_
  refine lv_to (y := nI (t % 360)) (pk_rem (by omega) (by decide) (by decide)) ?_
  refine g_iald hx hb hK hG (lay_row (ha)) (Nat.mod_lt _ (by decide)) (by first | decide | omega) dX2_seenFrom_11 ?_
  exact W.iret (v := g (20, a, 0) (t % 360)) hx hb hr (fun t9 ht9 hW9 => ⟨_, rfl, rfl, ht9⟩) (fun q h => nomatch h) dX2_seenFrom_12

set_option maxHeartbeats 4000000 in
set_option maxRecDepth 100000 in
theorem c_inContact (l : Launch) {D : va_G} {C : g_C} {g : g_k → Nat → Int32} {ad ln : g_k → Nat} {ex : g_k → Option va_E} {B : Nat} {a b t : Nat} (ha : a < 10) (hb32 : b < 32) (ht : t < 2 ^ 31) : Met l yX2_inContact wsX2_inContact ({ frames := 1, cells := 0, slots := 0, locals := 22 } : Room) (va_Pc [.ref (ad (1, 0, 0)), .int (nI a), .int (nI b), .int (nI t)] (g_S D C (lay C g ad ln ex) ad B)) (vp_Si (fun r => r = if see g a b t = true then nI 1 else nI 0)) 0 0 (fun _ => False) := by
  refine Met.ofW (cc := cX2_inContact) (maxL := 4) (ret := (some .boolean)) (by decide) rfl ?_
  intro p e s m args below meth c s₁ B₀ hml hv
  obtain ⟨rfl, hG, hF⟩ := hv
  have hK := hF.1
  have hN := hF.2.1
  have hB := hF.2.2.2
  have hx := B₀.exec
  have hb := B₀.bytes
  have hr := B₀.returns
  have hts := atoms_spec (ws := wsX2_inContact) B₀.pre
  have hown : s.vm.findClass RX2 = some m.cls := findClass_of_methodNamed B₀.named
  have hlocks := B₀.notSynchronized
  have hS : va_S (g_A B) s.heap s.heap [] := va_S.rf
  have hl := lv_entry [.ref (ad (1, 0, 0)), .int (nI a), .int (nI b), .int (nI t)] (n := 4) (Nat.le_of_ble_eq_true rfl)
  rw [lg_entry_eq]
  generalize (lg_sl [.ref (ad (1, 0, 0)), .int (nI a), .int (nI b), .int (nI t)] ++ List.replicate (4 - (lg_sl [.ref (ad (1, 0, 0)), .int (nI a), .int (nI b), .int (nI t)]).length) Slot.unset).toArray = ls at hl ⊢
  have hl : lv_has ls 4 [(0, .ref (ad (1, 0, 0))), (1, .int (nI a)), (2, .int (nI b)), (3, .int (nI t))] := hl
  refine lv_aload_n hx hb dX2_inContact_0 rfl (lv_at hl 0 rfl) ?_
  refine lv_iload_n hx hb dX2_inContact_1 rfl (lv_at hl 1 rfl) ?_
  refine lv_iload_n hx hb dX2_inContact_2 rfl (lv_at hl 3 rfl) ?_
  refine vp_callSi (W.runV (As := [.int (nI a), .int (nI t)]) (rest := []) ⟨hx, hb, hml, hown, hts⟩ (c_seenFrom l ha ht) (cwV 2 hts gX2_inContact_X2_seenFrom rfl rfl rfl (by decide +kernel) ⟨Nat.le_of_ble_eq_true rfl, Nat.le_of_ble_eq_true rfl⟩) (g_preV hF hG hS (lay_sky) rfl) rfl rfl hl.1 rfl (lv_room (Nat.le_of_ble_eq_true rfl)) dX2_inContact_3 ⟨Nat.le_of_ble_eq_true rfl, Nat.le_of_ble_eq_true rfl⟩) (fun r_1 h_2 => ?_)
  subst h_2
  refine lv_iload_n hx hb dX2_inContact_6 rfl (lv_at hl 2 rfl) ?_
  refine lv_ishr hx hb dX2_inContact_7 ?_
  refine lv_iconst (v := nI 1) hx hb dX2_inContact_8 (by decide) ?_
  refine lv_iand hx hb dX2_inContact_9 ?_
  refine lv_if_eq (tgt := 17) hx hb dX2_inContact_10 (by decide) (fun c_3 => ?_) (fun c_3 => ?_)
  · refine lv_iconst (v := nI 0) hx hb dX2_inContact_17 (by decide) ?_
    exact W.zret (v := nI 0) hx hb hr rfl (fun t9 ht9 hW9 => ⟨_, rfl, (if_neg (fun h9 => by unfold see at h9; rw [(b_test _ hb32).mp c_3] at h9; cases h9)).symm, ht9⟩) (fun q h => nomatch h) dX2_inContact_18
  · refine lv_iconst (v := nI 1) hx hb dX2_inContact_13 (by decide) ?_
    refine lv_goto (tgt := 18) hx hb dX2_inContact_14 (by decide) ?_
    exact W.zret (v := nI 1) hx hb hr rfl (fun t9 ht9 hW9 => ⟨_, rfl, (if_pos (eq_true_of_ne_false (fun h9 => c_3 ((b_test _ hb32).mpr h9)))).symm, ht9⟩) (fun q h => nomatch h) dX2_inContact_18

set_option maxHeartbeats 4000000 in
set_option maxRecDepth 100000 in
theorem c_firstContact (l : Launch) {D : va_G} {C : g_C} {g : g_k → Nat → Int32} {ad ln : g_k → Nat} {ex : g_k → Option va_E} {B : Nat} {a b t : Nat} (ha : a < 10) (hb32 : b < 32) (ht : t + 360 < 2 ^ 31) : Met l yX2_firstContact wsX2_firstContact ({ frames := 2, cells := 0, slots := 0, locals := 45 } : Room) (va_Pc [.ref (ad (1, 0, 0)), .int (nI a), .int (nI b), .int (nI t)] (g_S D C (lay C g ad ln ex) ad B)) (vp_Si (fun r => (∃ k, k < 360 ∧ see g a b (t + k) = true ∧ (∀ j, j < k → see g a b (t + j) = false) ∧ r = nI (t + k)) ∨ ((∀ j, j < 360 → see g a b (t + j) = false) ∧ r = (-1)))) 0 0 (fun _ => False) := by
  refine Met.ofW (cc := cX2_firstContact) (maxL := 5) (ret := (some .int)) (by decide) rfl ?_
  intro p e s m args below meth c s₁ B₀ hml hv
  obtain ⟨rfl, hG, hF⟩ := hv
  have hK := hF.1
  have hN := hF.2.1
  have hB := hF.2.2.2
  have hx := B₀.exec
  have hb := B₀.bytes
  have hr := B₀.returns
  have hts := atoms_spec (ws := wsX2_firstContact) B₀.pre
  have hown : s.vm.findClass RX2 = some m.cls := findClass_of_methodNamed B₀.named
  have hlocks := B₀.notSynchronized
  have hS : va_S (g_A B) s.heap s.heap [] := va_S.rf
  have hl := lv_entry [.ref (ad (1, 0, 0)), .int (nI a), .int (nI b), .int (nI t)] (n := 5) (Nat.le_of_ble_eq_true rfl)
  rw [lg_entry_eq]
  generalize (lg_sl [.ref (ad (1, 0, 0)), .int (nI a), .int (nI b), .int (nI t)] ++ List.replicate (5 - (lg_sl [.ref (ad (1, 0, 0)), .int (nI a), .int (nI b), .int (nI t)]).length) Slot.unset).toArray = ls at hl ⊢
  have hl : lv_has ls 5 [(0, .ref (ad (1, 0, 0))), (1, .int (nI a)), (2, .int (nI b)), (3, .int (nI t))] := hl
  refine lv_iconst (v := nI 0) hx hb dX2_firstContact_0 (by decide) ?_
  refine lv_istore (lv' := [(4, .int (nI 0)), (0, .ref (ad (1, 0, 0))), (1, .int (nI a)), (2, .int (nI b)), (3, .int (nI t))]) hx hb dX2_firstContact_1 hl (by decide) rfl (fun ls hl => ?_)
  have loop : ∀ (n i : Nat), i ≤ 360 → 360 < i + n → (∀ j, j < i → see g a b (t + j) = false) → ∀ ls, lv_has ls 5 [(4, .int (nI i)), (0, .ref (ad (1, 0, 0))), (1, .int (nI a)), (2, .int (nI b)), (3, .int (nI t))] → W p l e (headSpec wsX2_firstContact ({ frames := 2, cells := 0, slots := 0, locals := 45 } : Room)).room s m ([.ref (ad (1, 0, 0)), .int (nI a), .int (nI b), .int (nI t)]).toArray below meth c s.heap [] 0 0 (MQ below (vp_Si (fun r => (∃ k, k < 360 ∧ see g a b (t + k) = true ∧ (∀ j, j < k → see g a b (t + j) = false) ∧ r = nI (t + k)) ∨ ((∀ j, j < 360 → see g a b (t + j) = false) ∧ r = (-1)))) ([.ref (ad (1, 0, 0)), .int (nI a), .int (nI b), .int (nI t)]).toArray s 0 0 (fun _ => False)) (F0 m 3 ls []) := by
    intro n
    induction n with
    | zero => intro i h1 h2; exact absurd h2 (by omega)
    | succ n ih =>
      intro i h1 h2 h3 ls hl
      refine lv_iload hx hb dX2_firstContact_3 (lv_at hl 0 rfl) ?_
      refine lv_sipush (v := nI 360) hx hb dX2_firstContact_5 (by decide) ?_
      refine lv_icmp_ge (tgt := 35) hx hb dX2_firstContact_8 (by decide) (fun c_1 => ?_) (fun c_1 => ?_)
      · have hi : i = 360 := by have := (nI_leI (by decide) (by omega)).mp c_1; omega
        subst hi
        refine lv_iconst (v := (-1)) hx hb dX2_firstContact_35 (by decide) ?_
        exact W.iret (v := (-1)) hx hb hr (fun t9 ht9 hW9 => ⟨_, rfl, Or.inr ⟨h3, rfl⟩, ht9⟩) (fun q h => nomatch h) dX2_firstContact_36
      · have hi : i < 360 := Nat.lt_of_not_le (fun h9 => c_1 ((nI_leI (by decide) (by omega)).mpr h9))
        refine lv_aload_n hx hb dX2_firstContact_11 rfl (lv_at hl 1 rfl) ?_
        refine lv_iload_n hx hb dX2_firstContact_12 rfl (lv_at hl 2 rfl) ?_
        refine lv_iload_n hx hb dX2_firstContact_13 rfl (lv_at hl 3 rfl) ?_
        refine lv_iload_n hx hb dX2_firstContact_14 rfl (lv_at hl 4 rfl) ?_
        refine lv_iload hx hb dX2_firstContact_15 (lv_at hl 0 rfl) ?_
        refine lv_iadd hx hb dX2_firstContact_17 ?_
        refine lv_to (y := nI (t + i)) (nI_add t i) ?_
        refine vp_callSi (W.runV (As := [.int (nI a), .int (nI b), .int (nI (t + i))]) (rest := []) ⟨hx, hb, hml, hown, hts⟩ (c_inContact l ha hb32 (show t + i < 2 ^ 31 by omega)) (cwV 3 hts gX2_firstContact_X2_inContact rfl rfl rfl (by decide +kernel) ⟨Nat.le_of_ble_eq_true rfl, Nat.le_of_ble_eq_true rfl⟩) (g_preV hF hG hS (lay_sky) rfl) rfl rfl hl.1 rfl (lv_room (Nat.le_of_ble_eq_true rfl)) dX2_firstContact_18 ⟨Nat.le_of_ble_eq_true rfl, Nat.le_of_ble_eq_true rfl⟩) (fun r_2 h_3 => ?_)
        subst h_3
        refine lv_if_eq (tgt := 29) hx hb dX2_firstContact_21 (by decide) (fun c_4 => ?_) (fun c_4 => ?_)
        · have hs : see g a b (t + i) = false := by
            by_cases h9 : see g a b (t + i) = true
            · rw [if_pos h9] at c_4; exact absurd c_4 (by decide)
            · exact eq_false_of_ne_true h9
          refine lv_iinc (v := nI (i + 1)) (lv' := [(4, .int (nI (i + 1))), (0, .ref (ad (1, 0, 0))), (1, .int (nI a)), (2, .int (nI b)), (3, .int (nI t))]) hx hb dX2_firstContact_29 hl (k := 0) rfl (nI_add i 1) (by decide) rfl (fun ls hl => ?_)
          refine lv_goto (tgt := 3) hx hb dX2_firstContact_32 (by decide) ?_
          exact ih (i + 1) (by omega) (by omega) (fun j hj => by rcases Nat.lt_or_eq_of_le (Nat.le_of_lt_succ hj) with h9 | h9; exact h3 j h9; rw [h9]; exact hs) ls (lv_sub hl [0, 1, 2, 3, 4] rfl)
        · have hs : see g a b (t + i) = true := by
            by_cases h9 : see g a b (t + i) = true
            · exact h9
            · exact absurd (by rw [if_neg h9]; exact nI_0) c_4
          refine lv_iload_n hx hb dX2_firstContact_24 rfl (lv_at hl 4 rfl) ?_
          refine lv_iload hx hb dX2_firstContact_25 (lv_at hl 0 rfl) ?_
          refine lv_iadd hx hb dX2_firstContact_27 ?_
          refine lv_to (y := nI (t + i)) (nI_add t i) ?_
          exact W.iret (v := nI (t + i)) hx hb hr (fun t9 ht9 hW9 => ⟨_, rfl, Or.inl ⟨i, hi, hs, h3, rfl⟩, ht9⟩) (fun q h => nomatch h) dX2_firstContact_28
  exact loop 361 0 (by decide) (by decide) (fun j hj => absurd hj (Nat.not_lt_zero j)) ls (lv_sub hl [0, 1, 2, 3, 4] rfl)

set_option maxHeartbeats 4000000 in
set_option maxRecDepth 100000 in
theorem c_contactLength (l : Launch) {D : va_G} {C : g_C} {g : g_k → Nat → Int32} {ad ln : g_k → Nat} {ex : g_k → Option va_E} {B : Nat} {a b t : Nat} (ha : a < 10) (hb32 : b < 32) (ht : t + 360 < 2 ^ 31) : Met l yX2_contactLength wsX2_contactLength ({ frames := 2, cells := 0, slots := 0, locals := 45 } : Room) (va_Pc [.ref (ad (1, 0, 0)), .int (nI a), .int (nI b), .int (nI t)] (g_S D C (lay C g ad ln ex) ad B)) (vp_Si (fun r => ∃ k, k ≤ 360 ∧ (∀ j, j < k → see g a b (t + j) = true) ∧ (k < 360 → see g a b (t + k) = false) ∧ r = nI k)) 0 0 (fun _ => False) := by
  refine Met.ofW (cc := cX2_contactLength) (maxL := 5) (ret := (some .int)) (by decide) rfl ?_
  intro p e s m args below meth c s₁ B₀ hml hv
  obtain ⟨rfl, hG, hF⟩ := hv
  have hK := hF.1
  have hN := hF.2.1
  have hB := hF.2.2.2
  have hx := B₀.exec
  have hb := B₀.bytes
  have hr := B₀.returns
  have hts := atoms_spec (ws := wsX2_contactLength) B₀.pre
  have hown : s.vm.findClass RX2 = some m.cls := findClass_of_methodNamed B₀.named
  have hlocks := B₀.notSynchronized
  have hS : va_S (g_A B) s.heap s.heap [] := va_S.rf
  have hl := lv_entry [.ref (ad (1, 0, 0)), .int (nI a), .int (nI b), .int (nI t)] (n := 5) (Nat.le_of_ble_eq_true rfl)
  rw [lg_entry_eq]
  generalize (lg_sl [.ref (ad (1, 0, 0)), .int (nI a), .int (nI b), .int (nI t)] ++ List.replicate (5 - (lg_sl [.ref (ad (1, 0, 0)), .int (nI a), .int (nI b), .int (nI t)]).length) Slot.unset).toArray = ls at hl ⊢
  have hl : lv_has ls 5 [(0, .ref (ad (1, 0, 0))), (1, .int (nI a)), (2, .int (nI b)), (3, .int (nI t))] := hl
  refine lv_iconst (v := nI 0) hx hb dX2_contactLength_0 (by decide) ?_
  refine lv_istore (lv' := [(4, .int (nI 0)), (0, .ref (ad (1, 0, 0))), (1, .int (nI a)), (2, .int (nI b)), (3, .int (nI t))]) hx hb dX2_contactLength_1 hl (by decide) rfl (fun ls hl => ?_)
  have loop : ∀ (n i : Nat), i ≤ 360 → 360 < i + n → (∀ j, j < i → see g a b (t + j) = true) → ∀ ls, lv_has ls 5 [(4, .int (nI i)), (0, .ref (ad (1, 0, 0))), (1, .int (nI a)), (2, .int (nI b)), (3, .int (nI t))] → W p l e (headSpec wsX2_contactLength ({ frames := 2, cells := 0, slots := 0, locals := 45 } : Room)).room s m ([.ref (ad (1, 0, 0)), .int (nI a), .int (nI b), .int (nI t)]).toArray below meth c s.heap [] 0 0 (MQ below (vp_Si (fun r => ∃ k, k ≤ 360 ∧ (∀ j, j < k → see g a b (t + j) = true) ∧ (k < 360 → see g a b (t + k) = false) ∧ r = nI k)) ([.ref (ad (1, 0, 0)), .int (nI a), .int (nI b), .int (nI t)]).toArray s 0 0 (fun _ => False)) (F0 m 3 ls []) := by
    intro n
    induction n with
    | zero => intro i h1 h2; exact absurd h2 (by omega)
    | succ n ih =>
      intro i h1 h2 h3 ls hl
      refine lv_iload hx hb dX2_contactLength_3 (lv_at hl 0 rfl) ?_
      refine lv_sipush (v := nI 360) hx hb dX2_contactLength_5 (by decide) ?_
      refine lv_icmp_ge (tgt := 33) hx hb dX2_contactLength_8 (by decide) (fun c_1 => ?_) (fun c_1 => ?_)
      · have hi : i = 360 := by have := (nI_leI (by decide) (by omega)).mp c_1; omega
        subst hi
        refine lv_sipush (v := nI 360) hx hb dX2_contactLength_33 (by decide) ?_
        exact W.iret (v := nI 360) hx hb hr (fun t9 ht9 hW9 => ⟨_, rfl, ⟨360, Nat.le_refl _, h3, fun h9 => absurd h9 (by decide), rfl⟩, ht9⟩) (fun q h => nomatch h) dX2_contactLength_36
      · have hi : i < 360 := Nat.lt_of_not_le (fun h9 => c_1 ((nI_leI (by decide) (by omega)).mpr h9))
        refine lv_aload_n hx hb dX2_contactLength_11 rfl (lv_at hl 1 rfl) ?_
        refine lv_iload_n hx hb dX2_contactLength_12 rfl (lv_at hl 2 rfl) ?_
        refine lv_iload_n hx hb dX2_contactLength_13 rfl (lv_at hl 3 rfl) ?_
        refine lv_iload_n hx hb dX2_contactLength_14 rfl (lv_at hl 4 rfl) ?_
        refine lv_iload hx hb dX2_contactLength_15 (lv_at hl 0 rfl) ?_
        refine lv_iadd hx hb dX2_contactLength_17 ?_
        refine lv_to (y := nI (t + i)) (nI_add t i) ?_
        refine vp_callSi (W.runV (As := [.int (nI a), .int (nI b), .int (nI (t + i))]) (rest := []) ⟨hx, hb, hml, hown, hts⟩ (c_inContact l ha hb32 (show t + i < 2 ^ 31 by omega)) (cwV 3 hts gX2_contactLength_X2_inContact rfl rfl rfl (by decide +kernel) ⟨Nat.le_of_ble_eq_true rfl, Nat.le_of_ble_eq_true rfl⟩) (g_preV hF hG hS (lay_sky) rfl) rfl rfl hl.1 rfl (lv_room (Nat.le_of_ble_eq_true rfl)) dX2_contactLength_18 ⟨Nat.le_of_ble_eq_true rfl, Nat.le_of_ble_eq_true rfl⟩) (fun r_2 h_3 => ?_)
        subst h_3
        refine lv_if_ne (tgt := 27) hx hb dX2_contactLength_21 (by decide) (fun c_4 => ?_) (fun c_4 => ?_)
        · have hs : see g a b (t + i) = true := by
            by_cases h9 : see g a b (t + i) = true
            · exact h9
            · exact absurd (by rw [if_neg h9]; exact nI_0) c_4
          refine lv_iinc (v := nI (i + 1)) (lv' := [(4, .int (nI (i + 1))), (0, .ref (ad (1, 0, 0))), (1, .int (nI a)), (2, .int (nI b)), (3, .int (nI t))]) hx hb dX2_contactLength_27 hl (k := 0) rfl (nI_add i 1) (by decide) rfl (fun ls hl => ?_)
          refine lv_goto (tgt := 3) hx hb dX2_contactLength_30 (by decide) ?_
          exact ih (i + 1) (by omega) (by omega) (fun j hj => by rcases Nat.lt_or_eq_of_le (Nat.le_of_lt_succ hj) with h9 | h9; exact h3 j h9; rw [h9]; exact hs) ls (lv_sub hl [0, 1, 2, 3, 4] rfl)
        · have hs : see g a b (t + i) = false := by
            by_cases h9 : see g a b (t + i) = true
            · rw [if_pos h9] at c_4; exact absurd c_4 (by decide)
            · exact eq_false_of_ne_true h9
          refine lv_iload hx hb dX2_contactLength_24 (lv_at hl 0 rfl) ?_
          exact W.iret (v := nI i) hx hb hr (fun t9 ht9 hW9 => ⟨_, rfl, ⟨i, Nat.le_of_lt hi, h3, fun _ => hs, rfl⟩, ht9⟩) (fun q h => nomatch h) dX2_contactLength_26
  exact loop 361 0 (by decide) (by decide) (fun j hj => absurd hj (Nat.not_lt_zero j)) ls (lv_sub hl [0, 1, 2, 3, 4] rfl)
