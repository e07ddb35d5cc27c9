/-- the room, whatever its numbers are: so much of it is used -/
theorem r1c {a : Nat} (h : a ≤ 40000) : a ≤ room_1.cells := Nat.le_trans h (Nat.le_of_ble_eq_true rfl)
theorem r1s {a : Nat} (h : a ≤ 5450000) : a ≤ room_1.slots := Nat.le_trans h (Nat.le_of_ble_eq_true rfl)
theorem rlw_n {g : g_k → Nat → Int32} {n n' t i : Nat} (h : rlw_P g n t i) (hn : n ≤ n') : rlw_P g n' t i := ⟨h.1.imp id (fun ⟨r, r1, r2⟩ => ⟨r, by omega, r2⟩), h.2⟩
/-- k nodes are there, the first S of them stations -/
def ia_P (g : g_k → Nat → Int32) (ln : g_k → Nat) (S k : Nat) : Prop := g (1, 0, 0) 4 = nI k ∧ sk1 g k ∧ g (0, 0, 0) 5 = nI (min k S) ∧ g (0, 0, 0) 6 = nI (k - S) ∧ g (0, 0, 0) 7 = nI 0 ∧ g (0, 0, 0) 8 = nI 0 ∧ ln (5, 0, 0) = 0 ∧ (∀ i, i < 10 → (ln (30, i, 0) = 1 ↔ i < k ∧ i < S)) ∧ (k ≤ S → ∀ i, i < k → g (8, 0, 0) i = -1) ∧ (∀ i, i < k → i < S → rlw_P g k 0 i) ∧ (∀ a b t, a < k → b < k → a < S → b < S → see g a b t = false) ∧ ∀ i, S ≤ i → i < k → ∃ c, 1 ≤ c ∧ c ≤ 9 ∧ g (4, 0, 0) i = nI c
theorem ia_st {g g1 : g_k → Nat → Int32} {ad ln ad1 ln1 : g_k → Nat} {S k x : Nat} (h : ia_P g ln S k) (hk : k < S) (hS : S ≤ 4) (h1 : ads_P g ad ln k (min k S) x 0 g1 ad1 ln1) : ia_P g1 ln1 S (k + 1) := by
  obtain ⟨a1, a2, a3, a4, a5, a6, a7, a8, a9, a10, a11, a12⟩ := h
  obtain ⟨b1, b2, b3, b4, b5, b6, b7, b8, b9, b10, b11, b12, -⟩ := h1
  have e30 : ∀ i, i ≠ k → g1 (30, i, 0) = g (30, i, 0) := fun i hi => b1 _ (k3 (Or.inl (by decide))) (k3 (Or.inl (by decide))) (k3 (Or.inl (by decide))) (k3 (Or.inl (by decide))) (k3 (Or.inl (by decide))) (show (30 : Nat) ≠ 20 by decide) (Or.inr (Or.inr hi))
  refine ⟨b2, b4, ?_, ?_, ?_, ?_, ?_, fun i hi => ?_, fun hS9 i hi => ?_, fun i hi hiS => ?_, fun a b t ha hb haS hbS => ?_, fun i hSi hi => absurd hi (by omega)⟩
  · rw [b3, upd_self]
    exact congrArg nI (by omega)
  · rw [b3, upd_ne _ _ (by decide), a4]
    exact congrArg nI (by omega)
  · rw [b3, upd_ne _ _ (by decide), a5]
  · rw [b3, upd_ne _ _ (by decide), a6]
  · rw [b11 _ (Or.inl (by decide)), a7]
  · by_cases q : i = k
    · subst q
      rw [b12]
      exact ⟨fun _ => ⟨by omega, hk⟩, fun _ => rfl⟩
    · rw [b11 _ (Or.inr (Or.inr q)), a8 i hi]
      omega
  · rw [b7]
    by_cases q : i = k
    · rw [q, upd_self]
    · rw [upd_ne _ _ q]
      exact a9 (by omega) i (by omega)
  · by_cases q : i = k
    · subst q
      exact b9.2
    · exact rlw_cong (rlw_n (a10 i (by omega) hiS) (Nat.le_succ k)) (e30 i q)
  · by_cases qa : a = k
    · by_cases qb : b = k
      · rw [qa, qb]
        cases e : see g1 k k t with
        | false => rfl
        | true => exact absurd rfl (b4 k k t (by omega) (by omega) e).2.2.1
      · rw [qa]
        exact b8 b t (by omega) (a9 (by omega) b (by omega))
    · by_cases qb : b = k
      · rw [qb, sk1_sym b4 (by omega) (by omega)]
        exact b8 a t (by omega) (a9 (by omega) a (by omega))
      · rw [b5 a b t (by omega) (by omega)]
        exact a11 a b t (by omega) (by omega) haS hbS
theorem ia_rl {g g1 : g_k → Nat → Int32} {ln : g_k → Nat} {S k cp : Nat} (h : ia_P g ln S k) (hk : S ≤ k) (hk10 : k < 10) (h1 : add_P g k g1) (h0 : g1 (0, 0, 0) = upd (g (0, 0, 0)) 6 (nI (k - S + 1))) (h4 : g1 (4, 0, 0) = upd (g (4, 0, 0)) k (nI cp)) (hc1 : 1 ≤ cp) (hc9 : cp ≤ 9) : ia_P g1 ln S (k + 1) := by
  obtain ⟨a1, a2, a3, a4, a5, a6, a7, a8, a9, a10, a11, a12⟩ := h
  obtain ⟨b1, b2, b3, b4⟩ := h1
  have e30 : ∀ i, g1 (30, i, 0) = g (30, i, 0) := fun i => b1 _ (k3 (Or.inl (by decide))) (k3 (Or.inl (by decide))) (k3 (Or.inl (by decide))) (k3 (Or.inl (by decide))) (k3 (Or.inl (by decide))) (k3 (Or.inl (by decide))) (show (30 : Nat) ≠ 20 by decide)
  refine ⟨b2, b3, ?_, ?_, ?_, ?_, a7, fun i hi => ?_, fun hS9 i hi => absurd hS9 (by omega), fun i hi hiS => rlw_cong (rlw_n (a10 i (by omega) hiS) (Nat.le_succ k)) (e30 i), fun a b t ha hb haS hbS => ?_, fun i hSi hi => ?_⟩
  · rw [h0, upd_ne _ _ (by decide), a3]
    exact congrArg nI (by omega)
  · rw [h0, upd_self]
    exact congrArg nI (by omega)
  · rw [h0, upd_ne _ _ (by decide), a5]
  · rw [h0, upd_ne _ _ (by decide), a6]
  · rw [a8 i hi]
    omega
  · rw [b4 a b t (by omega) (by omega)]
    exact a11 a b t (by omega) (by omega) haS hbS
  · rw [h4]
    by_cases q : i = k
    · rw [q, upd_self]
      exact ⟨cp, hc1, hc9, rfl⟩
    · rw [upd_ne _ _ q]
      exact a12 i hSi (by omega)
theorem g_preX {b L : Nat} {xs : Nat → Int32} {s : State} {H : Heap} {locs : List Loc} {av : List Value} (hX : va_X b L xs s s.heap) (hbl : b < s.heap.size) (hS : va_S (g_A s.heap.size) s.heap H locs) : PreS s H (va_Pc av (fun U => va_X b L xs U U.heap)) av := ⟨fun a U g mk q => ⟨q.1, va_X.moved (u := U) (U := U.calling g mk a) (Vm.Alike.refl U.vm) q.2⟩, fun U hU hW => ⟨rfl, by
  show va_X b L xs U U.heap
  rw [hU]
  exact va_X.moved hW.alike (hX.kept (hS.2.1 b hbl (Nat.not_le.mpr hbl)))⟩⟩

set_option maxHeartbeats 4000000 in
set_option maxRecDepth 100000 in
theorem lawA {p : Program} {e : Env} {s : State} {m : MethodId} {below : List Frame} {meth : Method} {c : Code} {Q : State → Prop} (l : Launch) (hst : l.stackTraces = false) {D : va_G} {C : g_C} {b L : Nat} {xs : Nat → Int32} (hL : L ≤ 260) (hx : p.tables.exec = Jvm.exec) (hb : c.code = cL_law) (hml : c.maxLocals = 21) (hown : s.vm.findClass RL = some m.cls) (hts : ∀ w ∈ wsL_law, w.before #[Value.ref b] s = true) (hX : va_X b L xs s s.heap) (hbl : b < s.heap.size) (hF : g_F D C s.heap.size s) {ad0 : g_k → Nat} {ex : g_k → Option va_E} {S N : Nat} (hS2 : 2 ≤ S) (hS3 : S ≤ 3) (hN1 : S + 1 ≤ N) (hN4 : N ≤ S + 4)
    (cont : ∀ (g : g_k → Nat → Int32) (ad ln : g_k → Nat) (H : Heap) (locs : List Loc), ia_P g ln S N → (∀ c : g_k, 50 ≤ c.1 → ad c = ad0 c) → g_P D (lay C g ad ln ex) ad s.heap.size H → va_S (g_A s.heap.size) s.heap H locs → ∀ ls, lv_has ls 21 [(4, .int (nI N)), (3, .int (nI S)), (2, .int (nI 1)), (1, .ref (ad (0, 0, 0))), (0, .ref b)] → W p l e room_1 s m #[Value.ref b] below meth c H locs (21 + 15 * N) (3706 + 3639 * N) Q (F0 m 168 ls [])) :
    ∀ (q k : Nat) (g : g_k → Nat → Int32) (ad ln : g_k → Nat) (H : Heap) (locs : List Loc), k ≤ N → N < k + q → ia_P g ln S k → (∀ c : g_k, 50 ≤ c.1 → ad c = ad0 c) → g_P D (lay C g ad ln ex) ad s.heap.size H → va_S (g_A s.heap.size) s.heap H locs → ∀ ls, lv_has ls 21 [(5, .int (nI k)), (4, .int (nI N)), (3, .int (nI S)), (2, .int (nI 1)), (1, .ref (ad (0, 0, 0))), (0, .ref b)] → W p l e room_1 s m #[Value.ref b] below meth c H locs (21 + 15 * k) (3706 + 3639 * k) Q (F0 m 54 ls []) := by
  have hK := hF.1
  have hB : s.heap.size ≤ s.heap.size := Nat.le_refl _
  intro q
  induction q with
  | zero => intro k g ad ln H locs h1 h2; exact absurd h2 (by omega)
  | succ q ih =>
    intro k g ad ln H locs h1 h2 hI had hG hS ls hl
    refine lv_iload hx hb dL_law_54 (lv_at hl 0 rfl) ?_
    refine lv_iload hx hb dL_law_56 (lv_at hl 1 rfl) ?_
    refine lv_icmp_ge (tgt := 168) hx hb dL_law_58 (by decide) (fun c_1 => ?_) (fun c_1 => ?_)
    · have hk : k = N := by have := (nI_leI (by omega) (by omega)).mp c_1; omega
      subst hk
      exact cont g ad ln H locs hI had hG hS ls (lv_sub hl [1, 2, 3, 4, 5] rfl)
    · have hk : k < N := Nat.lt_of_not_le (fun h9 => c_1 ((nI_leI (by omega) (by omega)).mpr h9))
      obtain ⟨a1, a2, a3, a4, a5, a6, a7, a8, a9, a10, a11, a12⟩ := id hI
      refine lv_iload_n hx hb dL_law_61 rfl (lv_at hl 3 rfl) ?_
      refine lv_if_eq (tgt := 168) hx hb dL_law_62 (by decide) (fun c => absurd c (by decide)) (fun _ => ?_)
      refine lv_aload_n hx hb dL_law_65 rfl (lv_at hl 5 rfl) ?_
      refine lv_iconst (v := nI 2) hx hb dL_law_66 (by decide) ?_
      refine lv_iload hx hb dL_law_67 (lv_at hl 0 rfl) ?_
      refine lv_iadd hx hb dL_law_69 ?_
      refine lv_to (y := nI (2 + k)) (nI_add 2 k) ?_
      refine vp_callSi (W.runS (As := [.ref b, .int (nI (2 + k))]) (rest := []) ⟨hx, hb, hml, hown, hts⟩ (l_cell l hL (show 2 + k < 2 ^ 20 by omega)) (va_cwS 2 hts gL_law_L_cell rfl rfl rfl (by decide +kernel) ⟨Nat.le_of_ble_eq_true rfl, Nat.le_of_ble_eq_true rfl⟩) (g_preX hX hbl hS) rfl rfl hl.1 rfl (lv_room (Nat.le_of_ble_eq_true rfl)) dL_law_70 ⟨(r1c (show 21 + 15 * k + 0 ≤ 40000 by omega)), (r1s (show 3706 + 3639 * k + 0 ≤ 5450000 by omega))⟩) (fun r_2 hr_2 => ?_)
      obtain ⟨y, hy, ey⟩ := hr_2
      subst ey
      refine lv_istore (lv' := [(6, .int (nI y)), (5, .int (nI k)), (4, .int (nI N)), (3, .int (nI S)), (2, .int (nI 1)), (1, .ref (ad (0, 0, 0))), (0, .ref b)]) hx hb dL_law_73 hl (by decide) rfl (fun ls hl => ?_)
      refine lv_iload hx hb dL_law_75 (lv_at hl 1 rfl) ?_
      refine lv_iload_n hx hb dL_law_77 rfl (lv_at hl 3 rfl) ?_
      refine lv_icmp_ge (tgt := 94) hx hb dL_law_78 (by decide) (fun c_3 => ?_) (fun c_3 => ?_)
      · have hkS : S ≤ k := (nI_leI (by omega) (by omega)).mp c_3
        refine lv_aload_n hx hb dL_law_94 rfl (lv_at hl 5 rfl) ?_
        refine lv_iload hx hb dL_law_95 (lv_at hl 0 rfl) ?_
        refine lv_sipush (v := nI 360) hx hb dL_law_97 (by decide) ?_
        refine lv_irem hx hb dL_law_100 (by decide) ?_
        refine lv_to (y := nI (y % 360)) (pk_rem (by omega) (by decide) (by decide)) ?_
        refine lv_iload hx hb dL_law_101 (lv_at hl 0 rfl) ?_
        refine lv_sipush (v := nI 360) hx hb dL_law_103 (by decide) ?_
        refine lv_idiv hx hb dL_law_106 (by decide) ?_
        refine lv_to (y := nI (y / 360)) (pk_div (by omega) (by decide) (by decide)) ?_
        refine lv_bipush (v := nI 61) hx hb dL_law_107 (by decide) ?_
        refine lv_irem hx hb dL_law_109 (by decide) ?_
        refine lv_to (y := nI ((y / 360) % 61)) (pk_rem (by omega) (by decide) (by decide)) ?_
        refine lv_bipush (v := nI 30) hx hb dL_law_110 (by decide) ?_
        refine lv_isub hx hb dL_law_112 ?_
        refine lv_iload hx hb dL_law_113 (lv_at hl 0 rfl) ?_
        refine lv_sipush (v := nI 22000) hx hb dL_law_115 (by decide) ?_
        refine lv_idiv hx hb dL_law_118 (by decide) ?_
        refine lv_to (y := nI (y / 22000)) (pk_div (by omega) (by decide) (by decide)) ?_
        refine lv_bipush (v := nI 100) hx hb dL_law_119 (by decide) ?_
        refine lv_irem hx hb dL_law_121 (by decide) ?_
        refine lv_to (y := nI ((y / 22000) % 100)) (pk_rem (by omega) (by decide) (by decide)) ?_
        refine lv_iconst (v := nI 1) hx hb dL_law_122 (by decide) ?_
        refine lv_iload hx hb dL_law_123 (lv_at hl 0 rfl) ?_
        refine lv_ldc (v := 2200000) hx hb hown (hts (.constant RL 135 (2200000)) (by decide +kernel)) dL_law_125 ?_
        refine lv_to (y := nI 2200000) (by decide) ?_
        refine lv_idiv hx hb dL_law_127 (by decide) ?_
        refine lv_to (y := nI (y / 2200000)) (pk_div (by omega) (by decide) (by decide)) ?_
        refine lv_bipush (v := nI 9) hx hb dL_law_128 (by decide) ?_
        refine lv_irem hx hb dL_law_130 (by decide) ?_
        refine lv_to (y := nI ((y / 2200000) % 9)) (pk_rem (by omega) (by decide) (by decide)) ?_
        refine lv_iadd hx hb dL_law_131 ?_
        refine lv_to (y := nI (1 + ((y / 2200000) % 9))) (nI_add 1 ((y / 2200000) % 9)) ?_
        refine va_calli (vx_runSW (As := [.ref (ad (0, 0, 0)), .int (nI (y % 360)), .int ((nI ((y / 360) % 61)) - (nI 30)), .int (nI ((y / 22000) % 100)), .int (nI (1 + ((y / 2200000) % 9)))]) (rest := []) ⟨hx, hb, hml, hown, hts⟩ (l_addRelay l (show k < 10 by omega) a1 a2 (x := y % 360) (z := y / 22000 % 100) (k := 1 + y / 2200000 % 9) (rc := k - S) (Nat.mod_lt _ (by decide)) (n_speed (Nat.mod_lt _ (by decide))).1 (n_speed (Nat.mod_lt _ (by decide))).2 (by omega) (by omega) (by omega) a4 (by omega)) (vx_cwSW 5 hts gL_law_L_addRelay rfl rfl rfl (by decide +kernel) ⟨Nat.le_of_ble_eq_true rfl, Nat.le_of_ble_eq_true rfl⟩) (g_preS hF hG hS) rfl rfl hl.1 rfl (lv_room (Nat.le_of_ble_eq_true rfl)) dL_law_132 ⟨(r1c (show 21 + 15 * k + 0 ≤ 40000 by omega)), (r1s (show 3706 + 3639 * k + 0 ≤ 5450000 by omega))⟩) hS (fun q _ h => h) (fun q h => h) (fun r_4 g_6 t9 H locs ht9 _ h_5 hB1 _ _ hS => ?_)
        have hG : g_P D (lay C g_6 ad ln ex) ad s.heap.size H := by rw [← ht9]; exact hB1
        obtain ⟨er, f1, f2, f3, f4⟩ := h_5
        refine lv_to (y := nI k) (er) ?_
        have hp6 : g_6 (6, 0, 0) k = nI (y % 360) := by rw [f4, upd_self]
        refine lv_iload hx hb dL_law_135 (lv_at hl 1 rfl) ?_
        refine lv_icmp_ne (tgt := 160) hx hb dL_law_137 (by decide) (fun c => absurd (rfl) c) (fun _ => ?_)
        refine lv_aload_n hx hb dL_law_140 rfl (lv_at hl 5 rfl) ?_
        refine lv_iload hx hb dL_law_141 (lv_at hl 1 rfl) ?_
        refine lv_iconst (v := nI 0) hx hb dL_law_143 (by decide) ?_
        have hI1 := (ia_rl hI hkS (by omega) f1 f2 f3 (by omega) (by omega))
        refine g_callSi (vx_runSW (As := [.ref (ad (0, 0, 0)), .int (nI k), .int (nI 0)]) (rest := []) ⟨hx, hb, hml, hown, hts⟩ (l_placeAt l (show k + 1 ≤ 10 by omega) hI1.1 (show k < k + 1 by omega) (show 0 ≤ 1000000 by decide)) (vx_cwSW 3 hts gL_law_L_placeAt rfl rfl rfl (by decide +kernel) ⟨Nat.le_of_ble_eq_true rfl, Nat.le_of_ble_eq_true rfl⟩) (g_preS hF hG hS) rfl rfl hl.1 rfl (lv_room (Nat.le_of_ble_eq_true rfl)) dL_law_144 ⟨(r1c (show 21 + 15 * k + 0 ≤ 40000 by omega)), (r1s (show 3706 + 3639 * k + 0 ≤ 5450000 by omega))⟩) (fun r_7 h_8 => ?_)
        refine lv_to (y := nI (y % 360)) (h_8.2 _ (Nat.mod_lt _ (by decide)) hp6 rfl) ?_
        refine lv_iload hx hb dL_law_147 (lv_at hl 0 rfl) ?_
        refine lv_sipush (v := nI 360) hx hb dL_law_149 (by decide) ?_
        refine lv_irem hx hb dL_law_152 (by decide) ?_
        refine lv_to (y := nI (y % 360)) (pk_rem (by omega) (by decide) (by decide)) ?_
        refine lv_icmp_ne (tgt := 160) hx hb dL_law_153 (by decide) (fun c => absurd (rfl) c) (fun _ => ?_)
        refine lv_iconst (v := nI 1) hx hb dL_law_156 (by decide) ?_
        refine lv_goto (tgt := 161) hx hb dL_law_157 (by decide) ?_
        refine lv_istore_n (lv' := [(2, .int (nI 1)), (6, .int (nI y)), (5, .int (nI k)), (4, .int (nI N)), (3, .int (nI S)), (1, .ref (ad (0, 0, 0))), (0, .ref b)]) hx hb dL_law_161 rfl hl (by decide) rfl (fun ls hl => ?_)
        refine lv_iinc (v := nI (k + 1)) (lv' := [(5, .int (nI (k + 1))), (2, .int (nI 1)), (6, .int (nI y)), (4, .int (nI N)), (3, .int (nI S)), (1, .ref (ad (0, 0, 0))), (0, .ref b)]) hx hb dL_law_162 hl (k := 2) rfl (nI_add k 1) (by decide) rfl (fun ls hl => ?_)
        refine lv_goto (tgt := 54) hx hb dL_law_165 (by decide) ?_
        refine W.widen (k := 21 + 15 * (k + 1)) (n := 3706 + 3639 * (k + 1)) (by omega) (by omega) ?_
        exact ih (k + 1) g_6 ad ln _ _ (by omega) (by omega) hI1 had hG hS ls (lv_sub hl [0, 3, 4, 1, 5, 6] rfl)
      · have hkS : k < S := Nat.lt_of_not_le (fun h9 => c_3 ((nI_leI (by omega) (by omega)).mpr h9))
        refine lv_aload_n hx hb dL_law_81 rfl (lv_at hl 5 rfl) ?_
        refine lv_iload hx hb dL_law_82 (lv_at hl 0 rfl) ?_
        refine lv_sipush (v := nI 360) hx hb dL_law_84 (by decide) ?_
        refine lv_irem hx hb dL_law_87 (by decide) ?_
        refine lv_to (y := nI (y % 360)) (pk_rem (by omega) (by decide) (by decide)) ?_
        refine va_calli (vx_runSW (As := [.ref (ad (0, 0, 0)), .int (nI (y % 360))]) (rest := []) ⟨hx, hb, hml, hown, hts⟩ (l_addStation l (show k < 10 by omega) a1 a2 (x := y % 360) (sta := min k S) (t := 0) (Nat.mod_lt _ (by decide)) a3 (by omega) (fun z => by have := (a8 k (by omega)).mp z; omega) a7 a6 (by decide)) (vx_cwSW 2 hts gL_law_L_addStation rfl rfl rfl (by decide +kernel) ⟨Nat.le_of_ble_eq_true rfl, Nat.le_of_ble_eq_true rfl⟩) (g_preS hF hG hS) rfl rfl hl.1 rfl (lv_room (Nat.le_of_ble_eq_true rfl)) dL_law_88 ⟨(r1c (show 21 + 15 * k + 15 ≤ 40000 by omega)), (r1s (show 3706 + 3639 * k + 3639 ≤ 5450000 by omega))⟩) hS (fun q _ h => h) (fun q h => h) (fun r_9 u9 t9 H locs ht9 _ h_10 hB1 _ _ hS => ?_)
        obtain ⟨g_11, ad_13, ln_12⟩ := u9
        dsimp only at h_10
        have hG : g_P D (lay C g_11 ad_13 ln_12 ex) ad_13 s.heap.size H := by rw [← ht9]; exact hB1
        obtain ⟨er, f1⟩ := h_10
        refine lv_to (y := nI k) (er) ?_
        have fad := f1.2.2.2.2.2.2.2.2.2.1
        have ea0 : ad_13 (0, 0, 0) = ad (0, 0, 0) := fad _ (Or.inl (by decide))
        have hl : lv_has ls 21 [(6, .int (nI y)), (5, .int (nI k)), (4, .int (nI N)), (3, .int (nI S)), (2, .int (nI 1)), (1, .ref (ad_13 (0, 0, 0))), (0, .ref b)] := by rw [ea0]; exact hl
        have hp6 : g_11 (6, 0, 0) k = nI (y % 360) := by rw [f1.2.2.2.2.2.1, upd_self]
        refine lv_goto (tgt := 135) hx hb dL_law_91 (by decide) ?_
        refine lv_iload hx hb dL_law_135 (lv_at hl 1 rfl) ?_
        refine lv_icmp_ne (tgt := 160) hx hb dL_law_137 (by decide) (fun c => absurd (rfl) c) (fun _ => ?_)
        refine lv_aload_n hx hb dL_law_140 rfl (lv_at hl 5 rfl) ?_
        refine lv_iload hx hb dL_law_141 (lv_at hl 1 rfl) ?_
        refine lv_iconst (v := nI 0) hx hb dL_law_143 (by decide) ?_
        have hI1 := (ia_st hI hkS (by omega) f1)
        refine g_callSi (vx_runSW (As := [.ref (ad_13 (0, 0, 0)), .int (nI k), .int (nI 0)]) (rest := []) ⟨hx, hb, hml, hown, hts⟩ (l_placeAt l (show k + 1 ≤ 10 by omega) hI1.1 (show k < k + 1 by omega) (show 0 ≤ 1000000 by decide)) (vx_cwSW 3 hts gL_law_L_placeAt rfl rfl rfl (by decide +kernel) ⟨Nat.le_of_ble_eq_true rfl, Nat.le_of_ble_eq_true rfl⟩) (g_preS hF hG hS) rfl rfl hl.1 rfl (lv_room (Nat.le_of_ble_eq_true rfl)) dL_law_144 ⟨(r1c (show 21 + 15 * k + 15 + 0 ≤ 40000 by omega)), (r1s (show 3706 + 3639 * k + 3639 + 0 ≤ 5450000 by omega))⟩) (fun r_14 h_15 => ?_)
        refine lv_to (y := nI (y % 360)) (h_15.2 _ (Nat.mod_lt _ (by decide)) hp6 rfl) ?_
        refine lv_iload hx hb dL_law_147 (lv_at hl 0 rfl) ?_
        refine lv_sipush (v := nI 360) hx hb dL_law_149 (by decide) ?_
        refine lv_irem hx hb dL_law_152 (by decide) ?_
        refine lv_to (y := nI (y % 360)) (pk_rem (by omega) (by decide) (by decide)) ?_
        refine lv_icmp_ne (tgt := 160) hx hb dL_law_153 (by decide) (fun c => absurd (rfl) c) (fun _ => ?_)
        refine lv_iconst (v := nI 1) hx hb dL_law_156 (by decide) ?_
        refine lv_goto (tgt := 161) hx hb dL_law_157 (by decide) ?_
        refine lv_istore_n (lv' := [(2, .int (nI 1)), (6, .int (nI y)), (5, .int (nI k)), (4, .int (nI N)), (3, .int (nI S)), (1, .ref (ad_13 (0, 0, 0))), (0, .ref b)]) hx hb dL_law_161 rfl hl (by decide) rfl (fun ls hl => ?_)
        refine lv_iinc (v := nI (k + 1)) (lv' := [(5, .int (nI (k + 1))), (2, .int (nI 1)), (6, .int (nI y)), (4, .int (nI N)), (3, .int (nI S)), (1, .ref (ad_13 (0, 0, 0))), (0, .ref b)]) hx hb dL_law_162 hl (k := 2) rfl (nI_add k 1) (by decide) rfl (fun ls hl => ?_)
        refine lv_goto (tgt := 54) hx hb dL_law_165 (by decide) ?_
        refine W.widen (k := 21 + 15 * (k + 1)) (n := 3706 + 3639 * (k + 1)) (by omega) (by omega) ?_
        exact ih (k + 1) g_11 ad_13 ln_12 _ _ (by omega) (by omega) hI1 (fun c hc9 => (fad c (by omega)).trans (had c hc9)) hG hS ls (lv_sub hl [0, 3, 4, 1, 5, 6] rfl)
