set_option maxHeartbeats 4000000 in
set_option maxRecDepth 100000 in
theorem c_floodedNext (l : Launch) {D : va_G} {C : g_C} {g : g_k → Nat → Int32} {ad ln : g_k → Nat} {ex : g_k → Option va_E} {B : Nat} {n : Nat} (hn : n ≤ 10) (hc : g (1, 0, 0) 4 = nI n) {x : Int32} {t : Nat} (ht : t < 2 ^ 31) : Met l yX1_floodedNext wsX1_floodedNext ({ frames := 1, cells := 0, slots := 0, locals := 22 } : Room) (va_Pc [.ref (ad (2, 0, 0)), .int x, .int (nI t)] (g_S D C (lay C g ad ln ex) ad B)) (vp_Si (fun r => r = flN g t x n)) 0 0 (fun _ => False) := by
  refine Met.ofW (cc := cX1_floodedNext) (maxL := 5) (ret := (some .int)) (by decide) rfl ?_
  intro p e s m args below meth c s₁ B₀ hml hv
  obtain ⟨rfl, hG, hF⟩ := hv
  have hK := hF.1
  have hN := hF.2.1
  have hB := hF.2.2.2
  have hx := B₀.exec
  have hb := B₀.bytes
  have hr := B₀.returns
  have hts := atoms_spec (ws := wsX1_floodedNext) B₀.pre
  have hown : s.vm.findClass RX1 = some m.cls := findClass_of_methodNamed B₀.named
  have hlocks := B₀.notSynchronized
  have hS : va_S (g_A B) s.heap s.heap [] := va_S.rf
  have hi1 : ∀ w ∈ wsX10, w ∈ wsX1_floodedNext := by decide +kernel
  have hi2 : ∀ w ∈ wsX20, w ∈ wsX1_floodedNext := by decide +kernel
  have hl := lv_entry [.ref (ad (2, 0, 0)), .int x, .int (nI t)] (n := 5) (Nat.le_of_ble_eq_true rfl)
  rw [lg_entry_eq]
  generalize (lg_sl [.ref (ad (2, 0, 0)), .int x, .int (nI t)] ++ List.replicate (5 - (lg_sl [.ref (ad (2, 0, 0)), .int x, .int (nI t)]).length) Slot.unset).toArray = ls at hl ⊢
  have hl : lv_has ls 5 [(0, .ref (ad (2, 0, 0))), (1, .int x), (2, .int (nI t))] := hl
  refine lv_iload_n hx hb dX1_floodedNext_0 rfl (lv_at hl 1 rfl) ?_
  refine lv_istore_n (lv' := [(3, .int x), (0, .ref (ad (2, 0, 0))), (1, .int x), (2, .int (nI t))]) hx hb dX1_floodedNext_1 rfl hl (by decide) rfl (fun ls hl => ?_)
  refine lv_iconst (v := nI 0) hx hb dX1_floodedNext_2 (by decide) ?_
  refine lv_istore (lv' := [(4, .int (nI 0)), (3, .int x), (0, .ref (ad (2, 0, 0))), (1, .int x), (2, .int (nI t))]) hx hb dX1_floodedNext_3 hl (by decide) rfl (fun ls hl => ?_)
  have loop : ∀ (k i : Nat) (z : Int32), i ≤ n → n < i + k → z = flN g t x i → ∀ ls, lv_has ls 5 [(4, .int (nI i)), (3, .int z), (0, .ref (ad (2, 0, 0))), (1, .int x), (2, .int (nI t))] → W p l e (headSpec wsX1_floodedNext ({ frames := 1, cells := 0, slots := 0, locals := 22 } : Room)).room s m ([.ref (ad (2, 0, 0)), .int x, .int (nI t)]).toArray below meth c s.heap [] 0 0 (MQ below (vp_Si (fun r => r = flN g t x n)) ([.ref (ad (2, 0, 0)), .int x, .int (nI t)]).toArray s 0 0 (fun _ => False)) (F0 m 5 ls []) := by
    intro k
    induction k with
    | zero => intro i z h1 h2; exact absurd h2 (by omega)
    | succ k ih =>
      intro i z h1 h2 h3 ls hl
      refine lv_iload hx hb dX1_floodedNext_5 (lv_at hl 0 rfl) ?_
      refine lv_aload_n hx hb dX1_floodedNext_7 rfl (lv_at hl 2 rfl) ?_
      refine g_get hx hb hts hi1 hown hK hG (lay_search) rfl 0 (by decide) (hts (.fieldLink RX1 15 "Satellitering$Search" "sky" "LSatellitering$Sky;") (by decide +kernel)) rfl dX1_floodedNext_8 ?_
      refine g_getN hx hb hts hi2 hown hK hG (lay_sky) rfl 4 (by decide) (va_Nw.use rfl hN.2.2.2.2.2.2.2.2.2.2.2.1) rfl dX1_floodedNext_11 ?_
      refine lv_to (y := nI n) (hc) ?_
      refine lv_icmp_ge (tgt := 45) hx hb dX1_floodedNext_14 (by decide) (fun c_1 => ?_) (fun c_1 => ?_)
      · have hi : i = n := by have := (nI_leI (by omega) (by omega)).mp c_1; omega
        subst hi
        refine lv_iload_n hx hb dX1_floodedNext_45 rfl (lv_at hl 1 rfl) ?_
        exact W.iret (v := z) hx hb hr (fun t9 ht9 hW9 => ⟨_, rfl, h3, ht9⟩) (fun q h => nomatch h) dX1_floodedNext_46
      · have hi : i < n := Nat.lt_of_not_le (fun h9 => c_1 ((nI_leI (by omega) (by omega)).mpr h9))
        refine lv_iload_n hx hb dX1_floodedNext_17 rfl (lv_at hl 3 rfl) ?_
        refine lv_iload hx hb dX1_floodedNext_18 (lv_at hl 0 rfl) ?_
        refine lv_ishr hx hb dX1_floodedNext_20 ?_
        refine lv_iconst (v := nI 1) hx hb dX1_floodedNext_21 (by decide) ?_
        refine lv_iand hx hb dX1_floodedNext_22 ?_
        refine lv_if_eq (tgt := 39) hx hb dX1_floodedNext_23 (by decide) (fun c_2 => ?_) (fun c_2 => ?_)
        · have hbit : ¬ bt x i = true := fun h9 => by rw [(b_test _ (by omega)).mp c_2] at h9; cases h9
          refine lv_iinc (v := nI (i + 1)) (lv' := [(4, .int (nI (i + 1))), (3, .int z), (0, .ref (ad (2, 0, 0))), (1, .int x), (2, .int (nI t))]) hx hb dX1_floodedNext_39 hl (k := 0) rfl (nI_add i 1) (by decide) rfl (fun ls hl => ?_)
          refine lv_goto (tgt := 5) hx hb dX1_floodedNext_42 (by decide) ?_
          exact ih (i + 1) z (by omega) (by omega) (by rw [flN, if_neg hbit]; exact h3) ls (lv_sub hl [0, 1, 2, 3, 4] rfl)
        · have hbit : bt x i = true := eq_true_of_ne_false (fun h9 => c_2 ((b_test _ (by omega)).mpr h9))
          refine lv_iload_n hx hb dX1_floodedNext_26 rfl (lv_at hl 1 rfl) ?_
          refine lv_aload_n hx hb dX1_floodedNext_27 rfl (lv_at hl 2 rfl) ?_
          refine g_get hx hb hts hi1 hown hK hG (lay_search) rfl 0 (by decide) (hts (.fieldLink RX1 15 "Satellitering$Search" "sky" "LSatellitering$Sky;") (by decide +kernel)) rfl dX1_floodedNext_28 ?_
          refine lv_iload hx hb dX1_floodedNext_31 (lv_at hl 0 rfl) ?_
          refine lv_iload_n hx hb dX1_floodedNext_33 rfl (lv_at hl 4 rfl) ?_
          refine vp_callSi (W.runV (As := [.int (nI i), .int (nI t)]) (rest := [.int z]) ⟨hx, hb, hml, hown, hts⟩ (c_seenFrom l (show i < 10 by omega) ht) (cwV 2 hts gX1_floodedNext_X2_seenFrom rfl rfl rfl (by decide +kernel) ⟨Nat.le_of_ble_eq_true rfl, Nat.le_of_ble_eq_true rfl⟩) (g_preV hF hG hS (lay_sky) rfl) rfl rfl hl.1 rfl (lv_room (Nat.le_of_ble_eq_true rfl)) dX1_floodedNext_34 ⟨Nat.le_of_ble_eq_true rfl, Nat.le_of_ble_eq_true rfl⟩) (fun r_3 h_4 => ?_)
          subst h_4
          refine lv_ior hx hb dX1_floodedNext_37 ?_
          refine lv_istore_n (lv' := [(3, .int (z ||| (g (20, i, 0) (t % 360)))), (4, .int (nI i)), (0, .ref (ad (2, 0, 0))), (1, .int x), (2, .int (nI t))]) hx hb dX1_floodedNext_38 rfl hl (by decide) rfl (fun ls hl => ?_)
          refine lv_iinc (v := nI (i + 1)) (lv' := [(4, .int (nI (i + 1))), (3, .int (z ||| (g (20, i, 0) (t % 360)))), (0, .ref (ad (2, 0, 0))), (1, .int x), (2, .int (nI t))]) hx hb dX1_floodedNext_39 hl (k := 1) rfl (nI_add i 1) (by decide) rfl (fun ls hl => ?_)
          refine lv_goto (tgt := 5) hx hb dX1_floodedNext_42 (by decide) ?_
          exact ih (i + 1) _ (by omega) (by omega) (by rw [flN, if_pos hbit, h3]) ls (lv_sub hl [0, 1, 2, 3, 4] rfl)
  exact loop (n + 1) 0 x (Nat.zero_le n) (by omega) rfl ls (lv_sub hl [0, 1, 2, 3, 4] rfl)

set_option maxHeartbeats 4000000 in
set_option maxRecDepth 100000 in
theorem c_flooded (l : Launch) {D : va_G} {C : g_C} {g : g_k → Nat → Int32} {ad ln : g_k → Nat} {ex : g_k → Option va_E} {B : Nat} {n : Nat} (hn : n ≤ 10) (hc : g (1, 0, 0) 4 = nI n) {a t k : Nat} (ha : a < 32) (hk : k < 2 ^ 30) (ht : t < 2 ^ 30) : Met l yX1_flooded wsX1_flooded ({ frames := 2, cells := 0, slots := 0, locals := 46 } : Room) (va_Pc [.ref (ad (2, 0, 0)), .int (nI a), .int (nI t), .int (nI k)] (g_S D C (lay C g ad ln ex) ad B)) (vp_Si (fun r => r = flI g n a t k)) 0 0 (fun _ => False) := by
  refine Met.ofW (cc := cX1_flooded) (maxL := 6) (ret := (some .int)) (by decide) rfl ?_
  intro p e s m args below meth c s₁ B₀ hml hv
  obtain ⟨rfl, hG, hF⟩ := hv
  have hK := hF.1
  have hN := hF.2.1
  have hB := hF.2.2.2
  have hx := B₀.exec
  have hb := B₀.bytes
  have hr := B₀.returns
  have hts := atoms_spec (ws := wsX1_flooded) B₀.pre
  have hown : s.vm.findClass RX1 = some m.cls := findClass_of_methodNamed B₀.named
  have hlocks := B₀.notSynchronized
  have hS : va_S (g_A B) s.heap s.heap [] := va_S.rf
  have hl := lv_entry [.ref (ad (2, 0, 0)), .int (nI a), .int (nI t), .int (nI k)] (n := 6) (Nat.le_of_ble_eq_true rfl)
  rw [lg_entry_eq]
  generalize (lg_sl [.ref (ad (2, 0, 0)), .int (nI a), .int (nI t), .int (nI k)] ++ List.replicate (6 - (lg_sl [.ref (ad (2, 0, 0)), .int (nI a), .int (nI t), .int (nI k)]).length) Slot.unset).toArray = ls at hl ⊢
  have hl : lv_has ls 6 [(0, .ref (ad (2, 0, 0))), (1, .int (nI a)), (2, .int (nI t)), (3, .int (nI k))] := hl
  refine lv_iconst (v := nI 1) hx hb dX1_flooded_0 (by decide) ?_
  refine lv_iload_n hx hb dX1_flooded_1 rfl (lv_at hl 1 rfl) ?_
  refine lv_ishl hx hb dX1_flooded_2 ?_
  refine lv_istore (lv' := [(4, .int ((nI 1) <<< ((nI a) &&& 31))), (0, .ref (ad (2, 0, 0))), (1, .int (nI a)), (2, .int (nI t)), (3, .int (nI k))]) hx hb dX1_flooded_3 hl (by decide) rfl (fun ls hl => ?_)
  refine lv_iconst (v := nI 0) hx hb dX1_flooded_5 (by decide) ?_
  refine lv_istore (lv' := [(5, .int (nI 0)), (4, .int ((nI 1) <<< ((nI a) &&& 31))), (0, .ref (ad (2, 0, 0))), (1, .int (nI a)), (2, .int (nI t)), (3, .int (nI k))]) hx hb dX1_flooded_6 hl (by decide) rfl (fun ls hl => ?_)
  have loop : ∀ (j i : Nat) (z : Int32), i ≤ k → k < i + j → z = flI g n a t i → ∀ ls, lv_has ls 6 [(5, .int (nI i)), (4, .int z), (0, .ref (ad (2, 0, 0))), (1, .int (nI a)), (2, .int (nI t)), (3, .int (nI k))] → W p l e (headSpec wsX1_flooded ({ frames := 2, cells := 0, slots := 0, locals := 46 } : Room)).room s m ([.ref (ad (2, 0, 0)), .int (nI a), .int (nI t), .int (nI k)]).toArray below meth c s.heap [] 0 0 (MQ below (vp_Si (fun r => r = flI g n a t k)) ([.ref (ad (2, 0, 0)), .int (nI a), .int (nI t), .int (nI k)]).toArray s 0 0 (fun _ => False)) (F0 m 8 ls []) := by
    intro j
    induction j with
    | zero => intro i z h1 h2; exact absurd h2 (by omega)
    | succ j ih =>
      intro i z h1 h2 h3 ls hl
      refine lv_iload hx hb dX1_flooded_8 (lv_at hl 0 rfl) ?_
      refine lv_iload_n hx hb dX1_flooded_10 rfl (lv_at hl 5 rfl) ?_
      refine lv_icmp_ge (tgt := 32) hx hb dX1_flooded_11 (by decide) (fun c_1 => ?_) (fun c_1 => ?_)
      · have hi : i = k := by have := (nI_leI (by omega) (by omega)).mp c_1; omega
        subst hi
        refine lv_iload hx hb dX1_flooded_32 (lv_at hl 1 rfl) ?_
        exact W.iret (v := z) hx hb hr (fun t9 ht9 hW9 => ⟨_, rfl, h3, ht9⟩) (fun q h => nomatch h) dX1_flooded_34
      · have hi : i < k := Nat.lt_of_not_le (fun h9 => c_1 ((nI_leI (by omega) (by omega)).mpr h9))
        refine lv_aload_n hx hb dX1_flooded_14 rfl (lv_at hl 2 rfl) ?_
        refine lv_iload hx hb dX1_flooded_15 (lv_at hl 1 rfl) ?_
        refine lv_iload_n hx hb dX1_flooded_17 rfl (lv_at hl 4 rfl) ?_
        refine lv_iload hx hb dX1_flooded_18 (lv_at hl 0 rfl) ?_
        refine lv_iadd hx hb dX1_flooded_20 ?_
        refine lv_to (y := nI (t + i)) (nI_add t i) ?_
        refine vp_callSi (W.runV (As := [.int z, .int (nI (t + i))]) (rest := []) ⟨hx, hb, hml, hown, hts⟩ (c_floodedNext l hn hc (show t + i < 2 ^ 31 by omega)) (cwV 2 hts gX1_flooded_X1_floodedNext rfl rfl rfl (by decide +kernel) ⟨Nat.le_of_ble_eq_true rfl, Nat.le_of_ble_eq_true rfl⟩) (g_preV hF hG hS (lay_search) rfl) rfl rfl hl.1 rfl (lv_room (Nat.le_of_ble_eq_true rfl)) dX1_flooded_21 ⟨Nat.le_of_ble_eq_true rfl, Nat.le_of_ble_eq_true rfl⟩) (fun r_2 h_3 => ?_)
        refine lv_istore (lv' := [(4, .int r_2), (5, .int (nI i)), (0, .ref (ad (2, 0, 0))), (1, .int (nI a)), (2, .int (nI t)), (3, .int (nI k))]) hx hb dX1_flooded_24 hl (by decide) rfl (fun ls hl => ?_)
        refine lv_iinc (v := nI (i + 1)) (lv' := [(5, .int (nI (i + 1))), (4, .int r_2), (0, .ref (ad (2, 0, 0))), (1, .int (nI a)), (2, .int (nI t)), (3, .int (nI k))]) hx hb dX1_flooded_26 hl (k := 1) rfl (nI_add i 1) (by decide) rfl (fun ls hl => ?_)
        refine lv_goto (tgt := 8) hx hb dX1_flooded_29 (by decide) ?_
        exact ih (i + 1) _ (by omega) (by omega) (by rw [h_3, h3]; rfl) ls (lv_sub hl [0, 1, 2, 3, 4, 5] rfl)
  exact loop (k + 1) 0 _ (Nat.zero_le k) (by omega) rfl ls (lv_sub hl [0, 1, 2, 3, 4, 5] rfl)

set_option maxHeartbeats 4000000 in
set_option maxRecDepth 100000 in
theorem c_byFlooding (l : Launch) {D : va_G} {C : g_C} {g : g_k → Nat → Int32} {ad ln : g_k → Nat} {ex : g_k → Option va_E} {B : Nat} {n : Nat} (hn : n ≤ 10) (hc : g (1, 0, 0) 4 = nI n) {a b t : Nat} (ha : a < 32) (hb32 : b < 32) (ht : t < 2 ^ 30) : Met l yX1_byFlooding wsX1_byFlooding ({ frames := 2, cells := 0, slots := 0, locals := 46 } : Room) (va_Pc [.ref (ad (2, 0, 0)), .int (nI a), .int (nI b), .int (nI t)] (g_S D C (lay C g ad ln ex) ad B)) (vp_Si (fun r => arr_P g n a t b r)) 0 0 (fun _ => False) := by
  refine Met.ofW (cc := cX1_byFlooding) (maxL := 6) (ret := (some .int)) (by decide) rfl ?_
  intro p e s m args below meth c s₁ B₀ hml hv
  obtain ⟨rfl, hG, hF⟩ := hv
  have hK := hF.1
  have hN := hF.2.1
  have hB := hF.2.2.2
  have hx := B₀.exec
  have hb := B₀.bytes
  have hr := B₀.returns
  have hts := atoms_spec (ws := wsX1_byFlooding) B₀.pre
  have hown : s.vm.findClass RX1 = some m.cls := findClass_of_methodNamed B₀.named
  have hlocks := B₀.notSynchronized
  have hS : va_S (g_A B) s.heap s.heap [] := va_S.rf
  have hl := lv_entry [.ref (ad (2, 0, 0)), .int (nI a), .int (nI b), .int (nI t)] (n := 6) (Nat.le_of_ble_eq_true rfl)
  rw [lg_entry_eq]
  generalize (lg_sl [.ref (ad (2, 0, 0)), .int (nI a), .int (nI b), .int (nI t)] ++ List.replicate (6 - (lg_sl [.ref (ad (2, 0, 0)), .int (nI a), .int (nI b), .int (nI t)]).length) Slot.unset).toArray = ls at hl ⊢
  have hl : lv_has ls 6 [(0, .ref (ad (2, 0, 0))), (1, .int (nI a)), (2, .int (nI b)), (3, .int (nI t))] := hl
  refine lv_iconst (v := nI 1) hx hb dX1_byFlooding_0 (by decide) ?_
  refine lv_iload_n hx hb dX1_byFlooding_1 rfl (lv_at hl 1 rfl) ?_
  refine lv_ishl hx hb dX1_byFlooding_2 ?_
  refine lv_istore (lv' := [(4, .int ((nI 1) <<< ((nI a) &&& 31))), (0, .ref (ad (2, 0, 0))), (1, .int (nI a)), (2, .int (nI b)), (3, .int (nI t))]) hx hb dX1_byFlooding_3 hl (by decide) rfl (fun ls hl => ?_)
  refine lv_iconst (v := nI 0) hx hb dX1_byFlooding_5 (by decide) ?_
  refine lv_istore (lv' := [(5, .int (nI 0)), (4, .int ((nI 1) <<< ((nI a) &&& 31))), (0, .ref (ad (2, 0, 0))), (1, .int (nI a)), (2, .int (nI b)), (3, .int (nI t))]) hx hb dX1_byFlooding_6 hl (by decide) rfl (fun ls hl => ?_)
  have loop : ∀ (j i : Nat) (z : Int32), i ≤ 401 → 401 < i + j → z = flI g n a t i → (∀ j, j < i → ¬ fl g n a t j b) → ∀ ls, lv_has ls 6 [(5, .int (nI i)), (4, .int z), (0, .ref (ad (2, 0, 0))), (1, .int (nI a)), (2, .int (nI b)), (3, .int (nI t))] → W p l e (headSpec wsX1_byFlooding ({ frames := 2, cells := 0, slots := 0, locals := 46 } : Room)).room s m ([.ref (ad (2, 0, 0)), .int (nI a), .int (nI b), .int (nI t)]).toArray below meth c s.heap [] 0 0 (MQ below (vp_Si (fun r => arr_P g n a t b r)) ([.ref (ad (2, 0, 0)), .int (nI a), .int (nI b), .int (nI t)]).toArray s 0 0 (fun _ => False)) (F0 m 8 ls []) := by
    intro j
    induction j with
    | zero => intro i z h1 h2; exact absurd h2 (by omega)
    | succ j ih =>
      intro i z h1 h2 h3 h4 ls hl
      refine lv_iload hx hb dX1_byFlooding_8 (lv_at hl 0 rfl) ?_
      refine lv_sipush (v := nI 400) hx hb dX1_byFlooding_10 (by decide) ?_
      refine lv_icmp_gt (tgt := 48) hx hb dX1_byFlooding_13 (by decide) (fun c_1 => ?_) (fun c_1 => ?_)
      · have hi : i = 401 := by have := (nI_ltI (by omega) (by omega)).mp c_1; omega
        subst hi
        refine lv_iconst (v := (-1)) hx hb dX1_byFlooding_48 (by decide) ?_
        exact W.iret (v := (-1)) hx hb hr (fun t9 ht9 hW9 => ⟨_, rfl, Or.inr ⟨fun j hj => h4 j (by omega), rfl⟩, ht9⟩) (fun q h => nomatch h) dX1_byFlooding_49
      · have hi : i ≤ 400 := Nat.le_of_not_lt (fun h9 => c_1 ((nI_ltI (by omega) (by omega)).mpr h9))
        refine lv_iload hx hb dX1_byFlooding_16 (lv_at hl 1 rfl) ?_
        refine lv_iload_n hx hb dX1_byFlooding_18 rfl (lv_at hl 4 rfl) ?_
        refine lv_ishr hx hb dX1_byFlooding_19 ?_
        refine lv_iconst (v := nI 1) hx hb dX1_byFlooding_20 (by decide) ?_
        refine lv_iand hx hb dX1_byFlooding_21 ?_
        refine lv_if_eq (tgt := 30) hx hb dX1_byFlooding_22 (by decide) (fun c_2 => ?_) (fun c_2 => ?_)
        · have hbit : ¬ fl g n a t i b := fun h9 => by unfold fl at h9; rw [← h3, (b_test _ hb32).mp c_2] at h9; cases h9
          refine lv_aload_n hx hb dX1_byFlooding_30 rfl (lv_at hl 2 rfl) ?_
          refine lv_iload hx hb dX1_byFlooding_31 (lv_at hl 1 rfl) ?_
          refine lv_iload_n hx hb dX1_byFlooding_33 rfl (lv_at hl 5 rfl) ?_
          refine lv_iload hx hb dX1_byFlooding_34 (lv_at hl 0 rfl) ?_
          refine lv_iadd hx hb dX1_byFlooding_36 ?_
          refine lv_to (y := nI (t + i)) (nI_add t i) ?_
          refine vp_callSi (W.runV (As := [.int z, .int (nI (t + i))]) (rest := []) ⟨hx, hb, hml, hown, hts⟩ (c_floodedNext l hn hc (show t + i < 2 ^ 31 by omega)) (cwV 2 hts gX1_byFlooding_X1_floodedNext rfl rfl rfl (by decide +kernel) ⟨Nat.le_of_ble_eq_true rfl, Nat.le_of_ble_eq_true rfl⟩) (g_preV hF hG hS (lay_search) rfl) rfl rfl hl.1 rfl (lv_room (Nat.le_of_ble_eq_true rfl)) dX1_byFlooding_37 ⟨Nat.le_of_ble_eq_true rfl, Nat.le_of_ble_eq_true rfl⟩) (fun r_3 h_4 => ?_)
          refine lv_istore (lv' := [(4, .int r_3), (5, .int (nI i)), (0, .ref (ad (2, 0, 0))), (1, .int (nI a)), (2, .int (nI b)), (3, .int (nI t))]) hx hb dX1_byFlooding_40 hl (by decide) rfl (fun ls hl => ?_)
          refine lv_iinc (v := nI (i + 1)) (lv' := [(5, .int (nI (i + 1))), (4, .int r_3), (0, .ref (ad (2, 0, 0))), (1, .int (nI a)), (2, .int (nI b)), (3, .int (nI t))]) hx hb dX1_byFlooding_42 hl (k := 1) rfl (nI_add i 1) (by decide) rfl (fun ls hl => ?_)
          refine lv_goto (tgt := 8) hx hb dX1_byFlooding_45 (by decide) ?_
          exact ih (i + 1) _ (by omega) (by omega) (by rw [h_4, h3]; rfl) (fun j hj => by rcases Nat.lt_or_eq_of_le (Nat.le_of_lt_succ hj) with h9 | h9; exact h4 j h9; rw [h9]; exact hbit) ls (lv_sub hl [0, 1, 2, 3, 4, 5] rfl)
        · have hbit : fl g n a t i b := by unfold fl; rw [← h3]; exact eq_true_of_ne_false (fun h9 => c_2 ((b_test _ hb32).mpr h9))
          refine lv_iload_n hx hb dX1_byFlooding_25 rfl (lv_at hl 5 rfl) ?_
          refine lv_iload hx hb dX1_byFlooding_26 (lv_at hl 0 rfl) ?_
          refine lv_iadd hx hb dX1_byFlooding_28 ?_
          refine lv_to (y := nI (t + i)) (nI_add t i) ?_
          exact W.iret (v := nI (t + i)) hx hb hr (fun t9 ht9 hW9 => ⟨_, rfl, Or.inl ⟨i, hi, hbit, h4, rfl⟩, ht9⟩) (fun q h => nomatch h) dX1_byFlooding_29
  exact loop 402 0 _ (Nat.zero_le _) (by omega) rfl (fun j hj => absurd hj (Nat.not_lt_zero j)) ls (lv_sub hl [0, 1, 2, 3, 4, 5] rfl)

set_option maxHeartbeats 4000000 in
set_option maxRecDepth 100000 in
theorem c_earliestReached (l : Launch) {D : va_G} {C : g_C} {g : g_k → Nat → Int32} {ad ln : g_k → Nat} {ex : g_k → Option va_E} {B : Nat} {n : Nat} (hn : n ≤ 10) (hc : g (1, 0, 0) 4 = nI n) {x : Int32} {R : Nat → Nat} {T : Nat} (hR : ∀ i, i < 10 → g (10, 0, 0) i = nI (R i) ∧ R i ≤ T) (hT : T < 2 ^ 30) : Met l yX1_earliestReached wsX1_earliestReached ({ frames := 0, cells := 0, slots := 0, locals := 0 } : Room) (va_Pc [.ref (ad (2, 0, 0)), .int x, .int (nI T)] (g_S D C (lay C g ad ln ex) ad B)) (vp_Si (fun r => (r = (-1) ∧ ∀ j, j < n → bt x j = false → T ≤ R j) ∨ ∃ q, q < n ∧ r = nI q ∧ bt x q = false ∧ R q < T ∧ ∀ j, j < n → bt x j = false → R q ≤ R j)) 0 0 (fun _ => False) := by
  refine Met.ofW (cc := cX1_earliestReached) (maxL := 6) (ret := (some .int)) (by decide) rfl ?_
  intro p e s m args below meth c s₁ B₀ hml hv
  obtain ⟨rfl, hG, hF⟩ := hv
  have hK := hF.1
  have hN := hF.2.1
  have hB := hF.2.2.2
  have hx := B₀.exec
  have hb := B₀.bytes
  have hr := B₀.returns
  have hts := atoms_spec (ws := wsX1_earliestReached) B₀.pre
  have hown : s.vm.findClass RX1 = some m.cls := findClass_of_methodNamed B₀.named
  have hlocks := B₀.notSynchronized
  have hS : va_S (g_A B) s.heap s.heap [] := va_S.rf
  have hi1 : ∀ w ∈ wsX10, w ∈ wsX1_earliestReached := by decide +kernel
  have hi2 : ∀ w ∈ wsX20, w ∈ wsX1_earliestReached := by decide +kernel
  have hl := lv_entry [.ref (ad (2, 0, 0)), .int x, .int (nI T)] (n := 6) (Nat.le_of_ble_eq_true rfl)
  rw [lg_entry_eq]
  generalize (lg_sl [.ref (ad (2, 0, 0)), .int x, .int (nI T)] ++ List.replicate (6 - (lg_sl [.ref (ad (2, 0, 0)), .int x, .int (nI T)]).length) Slot.unset).toArray = ls at hl ⊢
  have hl : lv_has ls 6 [(0, .ref (ad (2, 0, 0))), (1, .int x), (2, .int (nI T))] := hl
  refine lv_iconst (v := (-1)) hx hb dX1_earliestReached_0 (by decide) ?_
  refine lv_istore_n (lv' := [(3, .int (-1)), (0, .ref (ad (2, 0, 0))), (1, .int x), (2, .int (nI T))]) hx hb dX1_earliestReached_1 rfl hl (by decide) rfl (fun ls hl => ?_)
  refine lv_iload_n hx hb dX1_earliestReached_2 rfl (lv_at hl 3 rfl) ?_
  refine lv_istore (lv' := [(4, .int (nI T)), (3, .int (-1)), (0, .ref (ad (2, 0, 0))), (1, .int x), (2, .int (nI T))]) hx hb dX1_earliestReached_3 hl (by decide) rfl (fun ls hl => ?_)
  refine lv_iconst (v := nI 0) hx hb dX1_earliestReached_5 (by decide) ?_
  refine lv_istore (lv' := [(5, .int (nI 0)), (4, .int (nI T)), (3, .int (-1)), (0, .ref (ad (2, 0, 0))), (1, .int x), (2, .int (nI T))]) hx hb dX1_earliestReached_6 hl (by decide) rfl (fun ls hl => ?_)
  have loop : ∀ (k i y : Nat) (z : Int32), i ≤ n → n < i + k → ((z = (-1) ∧ y = T ∧ ∀ j, j < i → bt x j = false → T ≤ R j) ∨ ∃ q, q < i ∧ z = nI q ∧ bt x q = false ∧ R q < T ∧ y = R q ∧ ∀ j, j < i → bt x j = false → R q ≤ R j) → ∀ ls, lv_has ls 6 [(5, .int (nI i)), (4, .int (nI y)), (3, .int z), (0, .ref (ad (2, 0, 0))), (1, .int x), (2, .int (nI T))] → W p l e (headSpec wsX1_earliestReached ({ frames := 0, cells := 0, slots := 0, locals := 0 } : Room)).room s m ([.ref (ad (2, 0, 0)), .int x, .int (nI T)]).toArray below meth c s.heap [] 0 0 (MQ below (vp_Si (fun r => (r = (-1) ∧ ∀ j, j < n → bt x j = false → T ≤ R j) ∨ ∃ q, q < n ∧ r = nI q ∧ bt x q = false ∧ R q < T ∧ ∀ j, j < n → bt x j = false → R q ≤ R j)) ([.ref (ad (2, 0, 0)), .int x, .int (nI T)]).toArray s 0 0 (fun _ => False)) (F0 m 8 ls []) := by
    intro k
    induction k with
    | zero => intro i y z h1 h2; exact absurd h2 (by omega)
    | succ k ih =>
      intro i y z h1 h2 h3 ls hl
      refine lv_iload hx hb dX1_earliestReached_8 (lv_at hl 0 rfl) ?_
      refine lv_aload_n hx hb dX1_earliestReached_10 rfl (lv_at hl 3 rfl) ?_
      refine g_get hx hb hts hi1 hown hK hG (lay_search) rfl 0 (by decide) (hts (.fieldLink RX1 15 "Satellitering$Search" "sky" "LSatellitering$Sky;") (by decide +kernel)) rfl dX1_earliestReached_11 ?_
      refine g_getN hx hb hts hi2 hown hK hG (lay_sky) rfl 4 (by decide) (va_Nw.use rfl hN.2.2.2.2.2.2.2.2.2.2.2.1) rfl dX1_earliestReached_14 ?_
      refine lv_to (y := nI n) (hc) ?_
      refine lv_icmp_ge (tgt := 59) hx hb dX1_earliestReached_17 (by decide) (fun c_1 => ?_) (fun c_1 => ?_)
      · have hi : i = n := by have := (nI_leI (by omega) (by omega)).mp c_1; omega
        subst hi
        refine lv_iload_n hx hb dX1_earliestReached_59 rfl (lv_at hl 2 rfl) ?_
        exact W.iret (v := z) hx hb hr (fun t9 ht9 hW9 => ⟨_, rfl, by rcases h3 with ⟨a1, -, a3⟩ | ⟨q, a1, a2, a3, a4, -, a6⟩; exact Or.inl ⟨a1, a3⟩; exact Or.inr ⟨q, a1, a2, a3, a4, a6⟩, ht9⟩) (fun q h => nomatch h) dX1_earliestReached_60
      · have hi : i < n := Nat.lt_of_not_le (fun h9 => c_1 ((nI_leI (by omega) (by omega)).mpr h9))
        have hRi := (hR i (by omega)).2
        have hy : y ≤ T := by rcases h3 with ⟨-, a2, -⟩ | ⟨q, -, -, -, a4, a5, -⟩ <;> omega
        refine lv_iload_n hx hb dX1_earliestReached_20 rfl (lv_at hl 4 rfl) ?_
        refine lv_iload hx hb dX1_earliestReached_21 (lv_at hl 0 rfl) ?_
        refine lv_ishr hx hb dX1_earliestReached_23 ?_
        refine lv_iconst (v := nI 1) hx hb dX1_earliestReached_24 (by decide) ?_
        refine lv_iand hx hb dX1_earliestReached_25 ?_
        refine lv_if_ne (tgt := 53) hx hb dX1_earliestReached_26 (by decide) (fun c_2 => ?_) (fun c_2 => ?_)
        · have hbit : bt x i = true := eq_true_of_ne_false (fun h9 => c_2 ((b_test _ (by omega)).mpr h9))
          refine lv_iinc (v := nI (i + 1)) (lv' := [(5, .int (nI (i + 1))), (4, .int (nI y)), (3, .int z), (0, .ref (ad (2, 0, 0))), (1, .int x), (2, .int (nI T))]) hx hb dX1_earliestReached_53 hl (k := 0) rfl (nI_add i 1) (by decide) rfl (fun ls hl => ?_)
          refine lv_goto (tgt := 8) hx hb dX1_earliestReached_56 (by decide) ?_
          exact ih (i + 1) y z (by omega) (by omega) (by rcases h3 with ⟨a1, a2, a3⟩ | ⟨q, a1, a2, a3, a4, a5, a6⟩; exact Or.inl ⟨a1, a2, fun j hj hx9 => by rcases Nat.lt_or_eq_of_le (Nat.le_of_lt_succ hj) with h9 | h9; exact a3 j h9 hx9; exact absurd hx9 (by rw [h9, hbit]; decide)⟩; exact Or.inr ⟨q, by omega, a2, a3, a4, a5, fun j hj hx9 => by rcases Nat.lt_or_eq_of_le (Nat.le_of_lt_succ hj) with h9 | h9; exact a6 j h9 hx9; exact absurd hx9 (by rw [h9, hbit]; decide)⟩) ls (lv_sub hl [0, 1, 2, 3, 4, 5] rfl)
        · have hbit : bt x i = false := (b_test _ (by omega)).mp c_2
          refine lv_aload_n hx hb dX1_earliestReached_29 rfl (lv_at hl 3 rfl) ?_
          refine g_get hx hb hts hi1 hown hK hG (lay_search) rfl 1 (by decide) (hts (.fieldLink RX1 9 "Satellitering$Search" "reached" "[I") (by decide +kernel)) rfl dX1_earliestReached_30 ?_
          refine lv_iload hx hb dX1_earliestReached_33 (lv_at hl 0 rfl) ?_
          refine g_iald hx hb hK hG (lay_reached) (by omega) (by first | decide | omega) dX1_earliestReached_35 ?_
          refine lv_to (y := nI (R i)) ((hR i (by omega)).1) ?_
          refine lv_iload hx hb dX1_earliestReached_36 (lv_at hl 1 rfl) ?_
          refine lv_icmp_ge (tgt := 53) hx hb dX1_earliestReached_38 (by decide) (fun c_3 => ?_) (fun c_3 => ?_)
          · have hyi : y ≤ R i := (nI_leI (by omega) (by omega)).mp c_3
            refine lv_iinc (v := nI (i + 1)) (lv' := [(5, .int (nI (i + 1))), (4, .int (nI y)), (3, .int z), (0, .ref (ad (2, 0, 0))), (1, .int x), (2, .int (nI T))]) hx hb dX1_earliestReached_53 hl (k := 0) rfl (nI_add i 1) (by decide) rfl (fun ls hl => ?_)
            refine lv_goto (tgt := 8) hx hb dX1_earliestReached_56 (by decide) ?_
            exact ih (i + 1) y z (by omega) (by omega) (by rcases h3 with ⟨a1, a2, a3⟩ | ⟨q, a1, a2, a3, a4, a5, a6⟩; exact Or.inl ⟨a1, a2, fun j hj hx9 => by rcases Nat.lt_or_eq_of_le (Nat.le_of_lt_succ hj) with h9 | h9; exact a3 j h9 hx9; rw [h9]; omega⟩; exact Or.inr ⟨q, by omega, a2, a3, a4, a5, fun j hj hx9 => by rcases Nat.lt_or_eq_of_le (Nat.le_of_lt_succ hj) with h9 | h9; exact a6 j h9 hx9; rw [h9]; omega⟩) ls (lv_sub hl [0, 1, 2, 3, 4, 5] rfl)
          · have hyi : R i < y := Nat.lt_of_not_le (fun h9 => c_3 ((nI_leI (by omega) (by omega)).mpr h9))
            refine lv_aload_n hx hb dX1_earliestReached_41 rfl (lv_at hl 3 rfl) ?_
            refine g_get hx hb hts hi1 hown hK hG (lay_search) rfl 1 (by decide) (hts (.fieldLink RX1 9 "Satellitering$Search" "reached" "[I") (by decide +kernel)) rfl dX1_earliestReached_42 ?_
            refine lv_iload hx hb dX1_earliestReached_45 (lv_at hl 0 rfl) ?_
            refine g_iald hx hb hK hG (lay_reached) (by omega) (by first | decide | omega) dX1_earliestReached_47 ?_
            refine lv_to (y := nI (R i)) ((hR i (by omega)).1) ?_
            refine lv_istore (lv' := [(4, .int (nI (R i))), (5, .int (nI i)), (3, .int z), (0, .ref (ad (2, 0, 0))), (1, .int x), (2, .int (nI T))]) hx hb dX1_earliestReached_48 hl (by decide) rfl (fun ls hl => ?_)
            refine lv_iload hx hb dX1_earliestReached_50 (lv_at hl 1 rfl) ?_
            refine lv_istore_n (lv' := [(3, .int (nI i)), (4, .int (nI (R i))), (5, .int (nI i)), (0, .ref (ad (2, 0, 0))), (1, .int x), (2, .int (nI T))]) hx hb dX1_earliestReached_52 rfl hl (by decide) rfl (fun ls hl => ?_)
            refine lv_iinc (v := nI (i + 1)) (lv' := [(5, .int (nI (i + 1))), (3, .int (nI i)), (4, .int (nI (R i))), (0, .ref (ad (2, 0, 0))), (1, .int x), (2, .int (nI T))]) hx hb dX1_earliestReached_53 hl (k := 2) rfl (nI_add i 1) (by decide) rfl (fun ls hl => ?_)
            refine lv_goto (tgt := 8) hx hb dX1_earliestReached_56 (by decide) ?_
            exact ih (i + 1) (R i) (nI i) (by omega) (by omega) (Or.inr ⟨i, by omega, rfl, hbit, by omega, rfl, fun j hj hx9 => by rcases Nat.lt_or_eq_of_le (Nat.le_of_lt_succ hj) with h9 | h9; (rcases h3 with ⟨-, a2, a3⟩ | ⟨q, a1, a2, a3, a4, a5, a6⟩; have := a3 j h9 hx9; omega; have := a6 j h9 hx9; omega); rw [h9]; exact Nat.le_refl _⟩) ls (lv_sub hl [0, 2, 1, 3, 4, 5] rfl)
  exact loop (n + 1) 0 T (-1) (Nat.zero_le n) (by omega) (Or.inl ⟨rfl, rfl, fun j hj => absurd hj (Nat.not_lt_zero j)⟩) ls (lv_sub hl [0, 1, 2, 3, 4, 5] rfl)
