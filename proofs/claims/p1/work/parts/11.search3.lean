theorem go_ext {g g1 : g_k → Nat → Int32} (h : ∀ c, c ≠ (10, 0, 0) → g1 c = g c) {f i r : Nat} {R : Nat → Nat} (hp : go_P g1 f R i r) : go_P g f R i r := by
  obtain ⟨a1, a2, a3⟩ := hp
  refine ⟨a1, fun k hk hs => a2 k hk (by rw [see_ext h]; exact hs), a3.imp id ?_⟩
  rintro ⟨k, k1, k2, k3⟩
  exact ⟨k, k1, by rw [← see_ext h]; exact k2, k3⟩
theorem b_set {x : Int32} {q i : Nat} (hq : q < 32) (hi : i < 32) : bt (x ||| nI 1 <<< (nI q &&& 31)) i = (bt x i || decide (i = q)) := by rw [b_or, b_bit hq hi]

set_option maxHeartbeats 4000000 in
set_option maxRecDepth 100000 in
theorem c_byContacts (l : Launch) {D : va_G} {C : g_C} {g : g_k → Nat → Int32} {ad ln : g_k → Nat} {ex : g_k → Option va_E} {B : Nat} {n : Nat} (hn : n ≤ 10) (hc : g (1, 0, 0) 4 = nI n) {a b t : Nat} (ha : a < n) (hb9 : b < n) (ht : t < 2 ^ 29) : Met l yX1_byContacts wsX1_byContacts ({ frames := 4, cells := 0, slots := 0, locals := 93 } : Room) (va_Pc [.ref (ad (2, 0, 0)), .int (nI a), .int (nI b), .int (nI t)] (g_S D C (lay C g ad ln ex) ad B)) (va_Qi (fun (r : Int32) (g1 : g_k → Nat → Int32) => arr_P g n a t b r ∧ ∀ c, c ≠ (10, 0, 0) → g1 c = g c) (fun g1 t => g_P D (lay C g1 ad ln ex) ad B t.heap) (g_A B)) 0 0 (g_A B) := by
  refine Met.ofW (cc := cX1_byContacts) (maxL := 8) (ret := (some .int)) (by decide) rfl ?_
  intro p e s m args below meth c s₁ B₀ hml hv
  obtain ⟨rfl, hG, hF⟩ := hv
  have hK := hF.1
  have hN := hF.2.1
  have hB := hF.2.2.2
  have hx := B₀.exec
  have hb := B₀.bytes
  have hr := B₀.returns
  have hts := atoms_spec (ws := wsX1_byContacts) B₀.pre
  have hown : s.vm.findClass RX1 = some m.cls := findClass_of_methodNamed B₀.named
  have hlocks := B₀.notSynchronized
  have hS : va_S (g_A B) s.heap s.heap [] := va_S.rf
  have hi1 : ∀ w ∈ wsX10, w ∈ wsX1_byContacts := by decide +kernel
  have hi2 : ∀ w ∈ wsX20, w ∈ wsX1_byContacts := by decide +kernel
  have hl := lv_entry [.ref (ad (2, 0, 0)), .int (nI a), .int (nI b), .int (nI t)] (n := 8) (Nat.le_of_ble_eq_true rfl)
  rw [lg_entry_eq]
  generalize (lg_sl [.ref (ad (2, 0, 0)), .int (nI a), .int (nI b), .int (nI t)] ++ List.replicate (8 - (lg_sl [.ref (ad (2, 0, 0)), .int (nI a), .int (nI b), .int (nI t)]).length) Slot.unset).toArray = ls at hl ⊢
  have hl : lv_has ls 8 [(0, .ref (ad (2, 0, 0))), (1, .int (nI a)), (2, .int (nI b)), (3, .int (nI t))] := hl
  refine lv_iload_n hx hb dX1_byContacts_0 rfl (lv_at hl 3 rfl) ?_
  refine lv_sipush (v := nI 400) hx hb dX1_byContacts_1 (by decide) ?_
  refine lv_iadd hx hb dX1_byContacts_4 ?_
  refine lv_to (y := nI (t + 400)) (nI_add t 400) ?_
  refine lv_iconst (v := nI 1) hx hb dX1_byContacts_5 (by decide) ?_
  refine lv_iadd hx hb dX1_byContacts_6 ?_
  refine lv_to (y := nI ((t + 400) + 1)) (nI_add (t + 400) 1) ?_
  refine lv_to (y := nI (t + 401)) (rfl) ?_
  refine lv_istore (lv' := [(4, .int (nI (t + 401))), (0, .ref (ad (2, 0, 0))), (1, .int (nI a)), (2, .int (nI b)), (3, .int (nI t))]) hx hb dX1_byContacts_7 hl (by decide) rfl (fun ls hl => ?_)
  refine lv_aload_n hx hb dX1_byContacts_9 rfl (lv_at hl 1 rfl) ?_
  refine g_get hx hb hts hi1 hown hK hG (lay_search) rfl 1 (by decide) (hts (.fieldLink RX1 9 "Satellitering$Search" "reached" "[I") (by decide +kernel)) rfl dX1_byContacts_10 ?_
  refine lv_iload hx hb dX1_byContacts_13 (lv_at hl 0 rfl) ?_
  refine va_callv (va_runS (As := [.ref (ad (10, 0, 0)), .int (nI (t + 401))]) (rest := []) ⟨hx, hb, hml, hown, hts⟩ (c_fill l (cd := (10, 0, 0)) (n := 10) (fun _ => lay_reached) (by decide)) (va_cwS 2 hts gX1_byContacts_J7_fill_53178 rfl rfl rfl (by decide +kernel) ⟨Nat.le_of_ble_eq_true rfl, Nat.le_of_ble_eq_true rfl⟩) (g_preS hF hG hS) rfl rfl hl.1 rfl (lv_room (Nat.le_of_ble_eq_true rfl)) dX1_byContacts_15 ⟨Nat.le_of_ble_eq_true rfl, Nat.le_of_ble_eq_true rfl⟩) hS (fun q _ h => h) (fun q h => h) (fun g_3 t9 H locs ht9 _ h_2 hB1 _ _ hS => ?_)
  have hG : g_P D (lay C g_3 ad ln ex) ad B H := by rw [← ht9]; exact hB1
  refine lv_aload_n hx hb dX1_byContacts_18 rfl (lv_at hl 1 rfl) ?_
  refine g_get hx hb hts hi1 hown hK hG (lay_search) rfl 1 (by decide) (hts (.fieldLink RX1 9 "Satellitering$Search" "reached" "[I") (by decide +kernel)) rfl dX1_byContacts_19 ?_
  refine lv_iload_n hx hb dX1_byContacts_22 rfl (lv_at hl 2 rfl) ?_
  refine lv_iload_n hx hb dX1_byContacts_23 rfl (lv_at hl 4 rfl) ?_
  refine o_iast hx hb hK hG hS (cd := (10, 0, 0)) (fun _ => lay_reached) (by omega) (by first | decide | omega) dX1_byContacts_24 (fun H locs hG hS => ?_)
  refine lv_iconst (v := nI 0) hx hb dX1_byContacts_25 (by decide) ?_
  refine lv_istore (lv' := [(5, .int (nI 0)), (4, .int (nI (t + 401))), (0, .ref (ad (2, 0, 0))), (1, .int (nI a)), (2, .int (nI b)), (3, .int (nI t))]) hx hb dX1_byContacts_26 hl (by decide) rfl (fun ls hl => ?_)
  refine lv_iconst (v := nI 0) hx hb dX1_byContacts_28 (by decide) ?_
  refine lv_istore (lv' := [(6, .int (nI 0)), (5, .int (nI 0)), (4, .int (nI (t + 401))), (0, .ref (ad (2, 0, 0))), (1, .int (nI a)), (2, .int (nI b)), (3, .int (nI t))]) hx hb dX1_byContacts_29 hl (by decide) rfl (fun ls hl => ?_)
  have fin : ∀ (g1 : g_k → Nat → Int32) (H : Heap) (locs : List Loc) (x : Int32) (R : Nat → Nat), (∀ j, j < 10 → g1 (10, 0, 0) j = nI (R j) ∧ R j ≤ t + 401) → (∀ c, c ≠ (10, 0, 0) → g1 c = g c) → dj g n a t x R → (bt x b = true ∨ ∀ k, k ≤ 400 → fl g n a t k b → R b ≤ t + k) → g_P D (lay C g1 ad ln ex) ad B H → va_S (g_A B) s.heap H locs → ∀ ls, lv_has ls 8 [(4, .int (nI (t + 401))), (0, .ref (ad (2, 0, 0))), (2, .int (nI b))] → W p l e (headSpec wsX1_byContacts ({ frames := 4, cells := 0, slots := 0, locals := 93 } : Room)).room s m ([.ref (ad (2, 0, 0)), .int (nI a), .int (nI b), .int (nI t)]).toArray below meth c H locs 0 0 (MQ below (va_Qi (fun (r : Int32) (g1 : g_k → Nat → Int32) => arr_P g n a t b r ∧ ∀ c, c ≠ (10, 0, 0) → g1 c = g c) (fun g1 t => g_P D (lay C g1 ad ln ex) ad B t.heap) (g_A B)) ([.ref (ad (2, 0, 0)), .int (nI a), .int (nI b), .int (nI t)]).toArray s 0 0 (g_A B)) (F0 m 91 ls []) := by
    intro g1 H locs x R h1 h2 h3 h4 hG hS ls hl
    have hRb := (h1 b (by omega)).2
    have hend := dj_end (by omega) ha hb9 h3 h4
    refine lv_aload_n hx hb dX1_byContacts_91 rfl (lv_at hl 1 rfl) ?_
    refine g_get hx hb hts hi1 hown hK hG (lay_search) rfl 1 (by decide) (hts (.fieldLink RX1 9 "Satellitering$Search" "reached" "[I") (by decide +kernel)) rfl dX1_byContacts_92 ?_
    refine lv_iload_n hx hb dX1_byContacts_95 rfl (lv_at hl 2 rfl) ?_
    refine g_iald hx hb hK hG (lay_reached) (by omega) (by first | decide | omega) dX1_byContacts_96 ?_
    refine lv_to (y := nI (R b)) ((h1 b (by omega)).1) ?_
    refine lv_iload hx hb dX1_byContacts_97 (lv_at hl 0 rfl) ?_
    refine lv_icmp_ge (tgt := 111) hx hb dX1_byContacts_99 (by decide) (fun c_4 => ?_) (fun c_4 => ?_)
    · have hle : t + 401 ≤ R b := (nI_leI (by omega) (by omega)).mp c_4
      refine lv_iconst (v := (-1)) hx hb dX1_byContacts_111 (by decide) ?_
      exact W.iret (v := (-1)) hx hb hr (fun t9 ht9 hW9 => ⟨⟨_, _, rfl, ⟨by rcases hend with ⟨z, -⟩ | ⟨-, z⟩; omega; exact Or.inr ⟨z, rfl⟩, h2⟩, by show g_P _ _ _ _ t9.heap; rw [ht9]; exact hG⟩, hS.F ht9⟩) hS.2.2 dX1_byContacts_112
    · have hlt : R b < t + 401 := Nat.lt_of_not_le (fun h9 => c_4 ((nI_leI (by omega) (by omega)).mpr h9))
      refine lv_aload_n hx hb dX1_byContacts_102 rfl (lv_at hl 1 rfl) ?_
      refine g_get hx hb hts hi1 hown hK hG (lay_search) rfl 1 (by decide) (hts (.fieldLink RX1 9 "Satellitering$Search" "reached" "[I") (by decide +kernel)) rfl dX1_byContacts_103 ?_
      refine lv_iload_n hx hb dX1_byContacts_106 rfl (lv_at hl 2 rfl) ?_
      refine g_iald hx hb hK hG (lay_reached) (by omega) (by first | decide | omega) dX1_byContacts_107 ?_
      refine lv_to (y := nI (R b)) ((h1 b (by omega)).1) ?_
      refine lv_goto (tgt := 112) hx hb dX1_byContacts_108 (by decide) ?_
      exact W.iret (v := nI (R b)) hx hb hr (fun t9 ht9 hW9 => ⟨⟨_, _, rfl, ⟨by rcases hend with ⟨-, k, k1, k2, k3, k4⟩ | ⟨z, -⟩; exact Or.inl ⟨k, k1, k2, k3, by rw [k4]⟩; omega, h2⟩, by show g_P _ _ _ _ t9.heap; rw [ht9]; exact hG⟩, hS.F ht9⟩) hS.2.2 dX1_byContacts_112
  have loop : ∀ (k i : Nat) (g1 : g_k → Nat → Int32) (H : Heap) (locs : List Loc) (x : Int32) (R : Nat → Nat), i ≤ n → n < i + k → (∀ j, j < 10 → g1 (10, 0, 0) j = nI (R j) ∧ R j ≤ t + 401) → (∀ c, c ≠ (10, 0, 0) → g1 c = g c) → dj g n a t x R → b_cnt x n = i → g_P D (lay C g1 ad ln ex) ad B H → va_S (g_A B) s.heap H locs → ∀ ls, lv_has ls 8 [(6, .int (nI i)), (5, .int x), (4, .int (nI (t + 401))), (0, .ref (ad (2, 0, 0))), (1, .int (nI a)), (2, .int (nI b)), (3, .int (nI t))] → W p l e (headSpec wsX1_byContacts ({ frames := 4, cells := 0, slots := 0, locals := 93 } : Room)).room s m ([.ref (ad (2, 0, 0)), .int (nI a), .int (nI b), .int (nI t)]).toArray below meth c H locs 0 0 (MQ below (va_Qi (fun (r : Int32) (g1 : g_k → Nat → Int32) => arr_P g n a t b r ∧ ∀ c, c ≠ (10, 0, 0) → g1 c = g c) (fun g1 t => g_P D (lay C g1 ad ln ex) ad B t.heap) (g_A B)) ([.ref (ad (2, 0, 0)), .int (nI a), .int (nI b), .int (nI t)]).toArray s 0 0 (g_A B)) (F0 m 31 ls []) := by
    intro k
    induction k with
    | zero => intro i g1 H locs x R h1 h2; exact absurd h2 (by omega)
    | succ k ih =>
      intro i g1 H locs x R h1 h2 h3 h4 h5 h6 hG hS ls hl
      refine lv_iload hx hb dX1_byContacts_31 (lv_at hl 0 rfl) ?_
      refine lv_aload_n hx hb dX1_byContacts_33 rfl (lv_at hl 3 rfl) ?_
      refine g_get hx hb hts hi1 hown hK hG (lay_search) rfl 0 (by decide) (hts (.fieldLink RX1 15 "Satellitering$Search" "sky" "LSatellitering$Sky;") (by decide +kernel)) rfl dX1_byContacts_34 ?_
      refine g_getN hx hb hts hi2 hown hK hG (lay_sky) rfl 4 (by decide) (va_Nw.use rfl hN.2.2.2.2.2.2.2.2.2.2.2.1) rfl dX1_byContacts_37 ?_
      refine lv_to (y := nI n) (by rw [h4 _ (by decide)]; exact hc) ?_
      refine lv_icmp_ge (tgt := 91) hx hb dX1_byContacts_40 (by decide) (fun c_5 => ?_) (fun c_5 => ?_)
      · have hi : i = n := by have := (nI_leI (by omega) (by omega)).mp c_5; omega
        exact fin g1 H locs x R h3 h4 h5 (Or.inl (b_cnt_all x n (by rw [h6, hi]) b hb9)) hG hS ls (lv_sub hl [2, 3, 5] rfl)
      · have hi : i < n := Nat.lt_of_not_le (fun h9 => c_5 ((nI_leI (by omega) (by omega)).mpr h9))
        refine lv_aload_n hx hb dX1_byContacts_43 rfl (lv_at hl 3 rfl) ?_
        refine lv_iload hx hb dX1_byContacts_44 (lv_at hl 1 rfl) ?_
        refine lv_iload hx hb dX1_byContacts_46 (lv_at hl 2 rfl) ?_
        have hc1 : g1 (1, 0, 0) 4 = nI n := by rw [h4 _ (by decide)]; exact hc
        refine vp_callSi (W.runV (As := [.int x, .int (nI (t + 401))]) (rest := []) ⟨hx, hb, hml, hown, hts⟩ (c_earliestReached l hn hc1 (x := x) (R := R) (T := t + 401) h3 (by omega)) (cwV 2 hts gX1_byContacts_X1_earliestReached rfl rfl rfl (by decide +kernel) ⟨Nat.le_of_ble_eq_true rfl, Nat.le_of_ble_eq_true rfl⟩) (g_preV hF hG hS (lay_search) rfl) rfl rfl hl.1 rfl (lv_room (Nat.le_of_ble_eq_true rfl)) dX1_byContacts_48 ⟨Nat.le_of_ble_eq_true rfl, Nat.le_of_ble_eq_true rfl⟩) (fun r_6 h_7 => ?_)
        refine lv_istore (lv' := [(7, .int r_6), (6, .int (nI i)), (5, .int x), (4, .int (nI (t + 401))), (0, .ref (ad (2, 0, 0))), (1, .int (nI a)), (2, .int (nI b)), (3, .int (nI t))]) hx hb dX1_byContacts_51 hl (by decide) rfl (fun ls hl => ?_)
        refine lv_iload hx hb dX1_byContacts_53 (lv_at hl 0 rfl) ?_
        refine lv_iconst (v := (-1)) hx hb dX1_byContacts_55 (by decide) ?_
        refine lv_icmp_eq (tgt := 91) hx hb dX1_byContacts_56 (by decide) (fun c_8 => ?_) (fun c_8 => ?_)
        · have hall : ∀ j, j < n → bt x j = false → t + 401 ≤ R j := by
            rcases h_7 with ⟨-, z⟩ | ⟨q, z1, z2, -⟩
            · exact z
            · rw [z2] at c_8; exact absurd c_8 (nI_m1 (by omega))
          exact fin g1 H locs x R h3 h4 h5 (by by_cases hxb : bt x b = true; exact Or.inl hxb; exact Or.inr (fun k hk hf => absurd hf (dj_key (by omega) ha h5 (Nat.le_refl _) hall k (by omega) b hb9 (eq_false_of_ne_true hxb)))) hG hS ls (lv_sub hl [3, 4, 6] rfl)
        · obtain ⟨q, q1, q2, q3, q4, q5⟩ : ∃ q, q < n ∧ r_6 = nI q ∧ bt x q = false ∧ R q < t + 401 ∧ ∀ j, j < n → bt x j = false → R q ≤ R j := by
            rcases h_7 with ⟨z, -⟩ | z
            · exact absurd z c_8
            · exact z
          subst q2
          refine lv_iload hx hb dX1_byContacts_59 (lv_at hl 0 rfl) ?_
          refine lv_iload_n hx hb dX1_byContacts_61 rfl (lv_at hl 6 rfl) ?_
          refine lv_icmp_ne (tgt := 68) hx hb dX1_byContacts_62 (by decide) (fun c_9 => ?_) (fun c_9 => ?_)
          · refine lv_iload hx hb dX1_byContacts_68 (lv_at hl 2 rfl) ?_
            refine lv_iconst (v := nI 1) hx hb dX1_byContacts_70 (by decide) ?_
            refine lv_iload hx hb dX1_byContacts_71 (lv_at hl 0 rfl) ?_
            refine lv_ishl hx hb dX1_byContacts_73 ?_
            refine lv_ior hx hb dX1_byContacts_74 ?_
            refine lv_istore (lv' := [(5, .int (x ||| ((nI 1) <<< ((nI q) &&& 31)))), (7, .int (nI q)), (6, .int (nI i)), (4, .int (nI (t + 401))), (0, .ref (ad (2, 0, 0))), (1, .int (nI a)), (2, .int (nI b)), (3, .int (nI t))]) hx hb dX1_byContacts_75 hl (by decide) rfl (fun ls hl => ?_)
            refine lv_aload_n hx hb dX1_byContacts_77 rfl (lv_at hl 4 rfl) ?_
            refine lv_iload hx hb dX1_byContacts_78 (lv_at hl 1 rfl) ?_
            refine lv_iload hx hb dX1_byContacts_80 (lv_at hl 0 rfl) ?_
            have hyb : ∀ v, v < n → bt (x ||| ((nI 1) <<< ((nI q) &&& 31))) v = (bt x v || decide (v = q)) := fun v hv => b_set (by omega) (by omega)
            refine va_callv (va_runV (As := [.int (nI q), .int (x ||| ((nI 1) <<< ((nI q) &&& 31)))]) (rest := []) ⟨hx, hb, hml, hown, hts⟩ (c_goOnFrom l hn hc1 q1 (x := x ||| ((nI 1) <<< ((nI q) &&& 31))) (by rw [hyb q q1]; simp) (R := R) (T := t + 401) h3 (by omega)) (cwV 2 hts gX1_byContacts_X1_goOnFrom rfl rfl rfl (by decide +kernel) ⟨Nat.le_of_ble_eq_true rfl, Nat.le_of_ble_eq_true rfl⟩) (g_preV hF hG hS (lay_search) rfl) rfl rfl hl.1 rfl (lv_room (Nat.le_of_ble_eq_true rfl)) dX1_byContacts_82 ⟨Nat.le_of_ble_eq_true rfl, Nat.le_of_ble_eq_true rfl⟩) hS (fun q _ h => h) (fun q h => h) (fun g_12 t9 H locs ht9 _ h_11 hB1 _ _ hS => ?_)
            have hG : g_P D (lay C g_12 ad ln ex) ad B H := by rw [← ht9]; exact hB1
            obtain ⟨R1, a1, a2, a3, a4⟩ := h_11
            refine lv_iinc (v := nI (i + 1)) (lv' := [(6, .int (nI (i + 1))), (5, .int (x ||| ((nI 1) <<< ((nI q) &&& 31)))), (7, .int (nI q)), (4, .int (nI (t + 401))), (0, .ref (ad (2, 0, 0))), (1, .int (nI a)), (2, .int (nI b)), (3, .int (nI t))]) hx hb dX1_byContacts_85 hl (k := 2) rfl (nI_add i 1) (by decide) rfl (fun ls hl => ?_)
            refine lv_goto (tgt := 31) hx hb dX1_byContacts_88 (by decide) ?_
            exact ih (i + 1) g_12 H locs (x ||| ((nI 1) <<< ((nI q) &&& 31))) R1 (by omega) (by omega) a1 (fun c hc9 => by rw [a2 c hc9]; exact h4 c hc9) (dj_go (by omega) ha h5 q1 q3 (by omega) q5 hyb (fun v hv hv9 => a3 v (by omega) (Or.inl hv9)) (fun v hv hv9 => go_ext h4 (a4 v hv hv9))) (by rw [b_cnt_add q3 n (fun v hv => hyb v hv), h6, if_pos q1]) hG hS ls (lv_sub hl [0, 1, 3, 4, 5, 6, 7] rfl)
          · have hqb : q = b := (nI_eq (by omega) (by omega)).mp c_9
            subst hqb
            refine lv_goto (tgt := 91) hx hb dX1_byContacts_65 (by decide) ?_
            exact fin g1 H locs x R h3 h4 h5 (Or.inr (fun k hk hf => by rcases Nat.lt_or_ge (t + k) (R q) with z | z; exact absurd hf (dj_key (by omega) ha h5 (m := R q) (by omega) q5 k z q q1 q3); exact z)) hG hS ls (lv_sub hl [3, 4, 6] rfl)
  refine loop (n + 1) 0 _ _ _ (nI 0) (fun i => if i = a then t else t + 401) (Nat.zero_le n) (by omega) (fun j hj => ?_) (fun c hc9 => by rw [g2_ne _ _ _ hc9]; exact h_2.1 c hc9) (dj_0 (by omega) ha (fun v _ => rfl)) ?_ hG hS ls (lv_sub hl [0, 1, 2, 3, 4, 5, 6] rfl)
  · rw [g2_self]
    by_cases e9 : j = a
    · rw [if_pos e9, e9, upd_self]; exact ⟨rfl, by omega⟩
    · rw [if_neg e9, upd_ne _ _ e9]; exact ⟨h_2.2 j hj, Nat.le_refl _⟩
  · have hz : ∀ m, b_cnt (nI 0) m = 0 := fun m => by
      induction m with
      | zero => rfl
      | succ m ih => rw [b_cnt, ih, nI_0, b_0]; rfl
    exact hz n
