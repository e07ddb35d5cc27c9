theorem n_speed {p : Nat} (hp : p < 61) : (-30) ≤ nI p - nI 30 ∧ nI p - nI 30 ≤ nI 30 := by
  have h1 := pk_sub_toInt (a := p) (b := 30) (by omega) (by decide)
  constructor
  · rw [Int32.le_iff_toInt_le, h1, show (-30 : Int32).toInt = -30 by decide]
    omega
  · rw [Int32.le_iff_toInt_le, h1, show (nI 30).toInt = 30 by decide]
    omega
theorem lay_ad {C : g_C} {g : g_k → Nat → Int32} {ad ad' ln : g_k → Nat} {ex : g_k → Option va_E} (h : ∀ c : g_k, c.1 < 50 → ad' c = ad c) : lay C g ad' ln ex = lay C g ad ln ex := by
  have e : ∀ (a i j : Nat), a < 50 → ad' (a, i, j) = ad (a, i, j) := fun a i j ha => h _ ha
  have esc : ∀ i, ad' (sc ln i) = ad (sc ln i) := fun i => h _ (by have := (sc_in ln i).2.1; omega)
  have esb : ∀ i, ad' (sb ln i) = ad (sb ln i) := fun i => h _ (by have := (sb_in ln i).2.1; omega)
  funext d
  refine lay_cg d rfl (fun k hk => e k 0 0 (by omega)) (fun i => e 20 i 0 (by decide)) (fun _ => ?_) (fun _ => ?_) (fun _ _ => ⟨rfl, ?_, ?_, ?_⟩) (fun _ _ _ => Iff.rfl) (fun _ _ => ?_) (fun _ _ => rfl) (fun _ _ => rfl)
  · funext j
    simp only [A_stations]
    rw [e 30 j 0 (by decide)]
  · funext j
    simp only [A_sent]
    rw [e 40 j 0 (by decide)]
  · rw [F_station, F_station, e 31 _ 0 (by decide)]
  · rw [F_time, F_time, e 1 0 0 (by decide), e 32 _ 0 (by decide), esc, esb]
  · funext j
    simp only [A_left]
    rw [e 35 _ j (by decide)]
  · rw [F_msg, F_msg, e 31 _ 0 (by decide), e 41 _ 0 (by decide), e 42 _ 0 (by decide)]
theorem lay_exup {C : g_C} {g : g_k → Nat → Int32} {ad ln : g_k → Nat} {ex : g_k → Option va_E} {a i j : Nat} (ha : 50 ≤ a) {e : Option va_E} : k_up (lay C g ad ln ex) (a, i, j) e = lay C g ad ln (k_up ex (a, i, j) e) := by
  funext d
  by_cases hd : d = (a, i, j)
  · subst hd
    rw [k_up_self, lay_ex ha, k_up_self]
  · rw [k_up_ne _ _ hd]
    unfold lay
    rw [k_up_ne _ _ hd]
theorem us_add (t : Nat) : ∀ k, us 0 (t + k) = us 0 t + us t k
  | 0 => rfl
  | k + 1 => by
    show us 0 (t + k) + wd (0 + (t + k)) * 20 = us 0 t + (us t k + wd (t + k) * 20)
    rw [us_add t k, Nat.zero_add]
    omega
theorem us_432 : us 0 432 ≤ 5350400 := by decide +kernel

set_option maxHeartbeats 4000000 in
set_option maxRecDepth 100000 in
theorem l_cell (l : Launch) {b L : Nat} {xs : Nat → Int32} (hL : L ≤ 260) {k : Nat} (hk : k < 2 ^ 20) : Met l yL_cell wsL_cell ({ frames := 0, cells := 0, slots := 0, locals := 0 } : Room) (va_Pc [.ref b, .int (nI k)] (fun U => va_X b L xs U U.heap)) (vp_Si (fun r => ∃ j : Nat, j < 2 ^ 31 ∧ r = nI j)) 0 0 (fun _ => False) := by
  refine Met.ofW (cc := cL_cell) (maxL := 2) (ret := (some .int)) (by decide) rfl ?_
  intro p e s m args below meth c s₁ B₀ hml hv
  obtain ⟨rfl, hX⟩ := hv
  have hx := B₀.exec
  have hb := B₀.bytes
  have hr := B₀.returns
  have hts := atoms_spec (ws := wsL_cell) B₀.pre
  have hown : s.vm.findClass RL = some m.cls := findClass_of_methodNamed B₀.named
  have hlocks := B₀.notSynchronized
  have hS : va_S (fun _ => False) s.heap s.heap [] := va_S.rf
  have hbl : b < s.heap.size := by obtain ⟨scr, h1, -⟩ := hX; exact (Array.getElem?_eq_some_iff.mp h1).1
  have hl := lv_entry [.ref b, .int (nI k)] (n := 2) (Nat.le_of_ble_eq_true rfl)
  rw [lg_entry_eq]
  generalize (lg_sl [.ref b, .int (nI k)] ++ List.replicate (2 - (lg_sl [.ref b, .int (nI k)]).length) Slot.unset).toArray = ls at hl ⊢
  have hl : lv_has ls 2 [(0, .ref b), (1, .int (nI k))] := hl
  have rest : ∀ x : Int32, W p l e (headSpec wsL_cell ({ frames := 0, cells := 0, slots := 0, locals := 0 } : Room)).room s m ([.ref b, .int (nI k)] : List Value).toArray below meth c s.heap [] 0 0 (MQ below (vp_Si (fun r => ∃ j : Nat, j < 2 ^ 31 ∧ r = nI j)) ([.ref b, .int (nI k)] : List Value).toArray s 0 0 (fun _ => False)) (F0 m 24 ls [.int x]) := fun x => by
    refine lv_ldc (v := 2147483647) hx hb hown (hts (.constant RL 8 (2147483647)) (by decide +kernel)) dL_cell_24 ?_
    refine lv_iand hx hb dL_cell_26 ?_
    exact W.iret (v := x &&& 2147483647) hx hb hr (fun t9 ht9 hW9 => ⟨_, rfl, pk_andE x 31 (by decide), ht9⟩) (fun q h => nomatch h) dL_cell_27
  refine lv_iload_n hx hb dL_cell_0 rfl (lv_at hl 1 rfl) ?_
  refine lv_aload_n hx hb dL_cell_1 rfl (lv_at hl 0 rfl) ?_
  refine va_slen hx hb hX hbl (fun h => h) hS dL_cell_2 ?_
  refine lv_icmp_ge (tgt := 12) hx hb dL_cell_3 (by decide) (fun c1 => ?_) (fun c1 => ?_)
  · refine lv_ldc (v := 59021) hx hb hown (hts (.constant RL 7 (59021)) (by decide +kernel)) dL_cell_12 ?_
    refine lv_to (y := nI 59021) (by decide) ?_
    refine lv_iload_n hx hb dL_cell_14 rfl (lv_at hl 1 rfl) ?_
    refine lv_sipush (v := nI 7919) hx hb dL_cell_15 (by decide) ?_
    refine lv_irem hx hb dL_cell_18 (by decide) ?_
    refine lv_to (y := nI (k % 7919)) (pk_rem (by omega) (by decide) (by decide)) ?_
    refine lv_imul hx hb dL_cell_19 ?_
    refine lv_to (y := nI (59021 * (k % 7919))) (pk_mul 59021 (k % 7919)) ?_
    refine lv_sipush (v := nI 4241) hx hb dL_cell_20 (by decide) ?_
    refine lv_iadd hx hb dL_cell_23 ?_
    refine lv_to (y := nI ((59021 * (k % 7919)) + 4241)) (nI_add (59021 * (k % 7919)) 4241) ?_
    exact rest _
  · have hkL : k < L := Nat.lt_of_not_le (fun h9 => c1 ((nI_leI (show L < 2 ^ 31 by omega) (by omega)).mpr h9))
    refine lv_aload_n hx hb dL_cell_6 rfl (lv_at hl 0 rfl) ?_
    refine lv_iload_n hx hb dL_cell_7 rfl (lv_at hl 1 rfl) ?_
    refine va_sld hx hb hX hbl (fun h => h) hS (vp_in_nI hkL (by omega)) dL_cell_8 ?_
    refine lv_goto (tgt := 24) hx hb dL_cell_9 (by decide) ?_
    exact rest _
