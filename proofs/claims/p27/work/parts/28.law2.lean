theorem sk1_sym {g : g_k → Nat → Int32} {n a b t : Nat} (h : sk1 g n) (ha : a < 10) (hb : b < 10) : see g a b t = see g b a t := by
  cases e : see g a b t with
  | true => exact (h a b t ha (by omega) e).2.2.2.symm
  | false =>
    cases e2 : see g b a t with
    | false => rfl
    | true => exact e.symm.trans (h b a t hb (by omega) e2).2.2.2
theorem view_one {f f' : Nat → Bool} {k k' : Nat} (hf : ∀ j, f j = f' j) (h0 : k ≤ 360) (h1 : ∀ j, j < k → f j = true) (h2 : k < 360 → f k = false) (h0' : k' ≤ 360) (h1' : ∀ j, j < k' → f' j = true) (h2' : k' < 360 → f' k' = false) : k = k' := by
  rcases Nat.lt_trichotomy k k' with q | q | q
  · have a1 := h1' k q
    rw [← hf, h2 (by omega)] at a1
    cases a1
  · exact q
  · have a1 := h1 k' q
    rw [hf, h2' (by omega)] at a1
    cases a1
theorem flN_20 {g g1 : g_k → Nat → Int32} (h : ∀ i, g1 (20, i, 0) = g (20, i, 0)) (t : Nat) (x : Int32) : ∀ n, flN g1 t x n = flN g t x n
  | 0 => rfl
  | n + 1 => by rw [flN, flN, flN_20 h t x n, h]
theorem flI_20 {g g1 : g_k → Nat → Int32} (h : ∀ i, g1 (20, i, 0) = g (20, i, 0)) (n a t : Nat) : ∀ k, flI g1 n a t k = flI g n a t k
  | 0 => rfl
  | k + 1 => by rw [flI, flI, flI_20 h n a t k, flN_20 h]
theorem arr_20 {g g1 : g_k → Nat → Int32} (h : ∀ i, g1 (20, i, 0) = g (20, i, 0)) {n a t b : Nat} {r : Int32} (hp : arr_P g1 n a t b r) : arr_P g n a t b r := by
  have e : ∀ k, fl g1 n a t k b = fl g n a t k b := fun k => by unfold fl; rw [flI_20 h]
  unfold arr_P at hp ⊢
  simp only [e] at hp
  exact hp
/-- what is seen is come to a minute later -/
theorem fl_see {g : g_k → Nat → Int32} {n a t b k : Nat} (ha : a < n) (hn : n ≤ 10) (h : see g a b (t + k) = true) : fl g n a t (k + 1) b := fl_s.mpr (Or.inr ⟨a, ha, fl_le k (Nat.zero_le k) ((fl_0 (by omega) (by omega)).mpr rfl), h⟩)

theorem contact_self {g : g_k → Nat → Int32} {a b t : Nat} {r : Int32} (h : see g a b t = true) (hc : (∃ k, k < 360 ∧ see g a b (t + k) = true ∧ (∀ j, j < k → see g a b (t + j) = false) ∧ r = nI (t + k)) ∨ ((∀ j, j < 360 → see g a b (t + j) = false) ∧ r = (-1))) : r = nI t := by
  rcases hc with ⟨k, k1, k2, k3, k4⟩ | ⟨k1, -⟩
  · by_cases q : k = 0
    · rw [k4, q]
      rfl
    · exact absurd (h.symm.trans (k3 0 (by omega))) (by decide)
  · exact absurd (h.symm.trans (k1 0 (by decide))) (by decide)

set_option maxHeartbeats 4000000 in
set_option maxRecDepth 100000 in
theorem l_meets (l : Launch) {D : va_G} {C : g_C} {g : g_k → Nat → Int32} {ad ln : g_k → Nat} {ex : g_k → Option va_E} {B : Nat} {n : Nat} (hn : n ≤ 10) (hc : g (1, 0, 0) 4 = nI n) (hsk : sk1 g n) {a b t : Nat} (ha : a < n) (hb9 : b < n) (ht : t ≤ 100000) : Met l yL_meets wsL_meets ({ frames := 7, cells := 0, slots := 0, locals := 167 } : Room) (va_Pc [.ref (ad (0, 0, 0)), .int (nI a), .int (nI b), .int (nI t)] (g_S D C (lay C g ad ln ex) ad B)) (va_Qi (fun (r : Int32) (g1 : g_k → Nat → Int32) => r = nI 1 ∧ ∀ c : g_k, c ≠ (10, 0, 0) → g1 c = g c) (fun g1 t => g_P D (lay C g1 ad ln ex) ad B t.heap) (g_A B)) 0 0 (g_A B) := by
  refine Met.ofW (cc := cL_meets) (maxL := 9) (ret := (some .boolean)) (by decide) rfl ?_
  intro p e s m args below meth c s₁ B₀ hml hv
  obtain ⟨rfl, hG, hF⟩ := hv
  have hK := hF.1
  have hN := hF.2.1
  have hB := hF.2.2.2
  have hx := B₀.exec
  have hb := B₀.bytes
  have hr := B₀.returns
  have hts := atoms_spec (ws := wsL_meets) B₀.pre
  have hown : s.vm.findClass RL = some m.cls := findClass_of_methodNamed B₀.named
  have hlocks := B₀.notSynchronized
  have hS : va_S (g_A B) s.heap s.heap [] := va_S.rf
  have hl := lv_entry [.ref (ad (0, 0, 0)), .int (nI a), .int (nI b), .int (nI t)] (n := 9) (Nat.le_of_ble_eq_true rfl)
  rw [lg_entry_eq]
  generalize (lg_sl [.ref (ad (0, 0, 0)), .int (nI a), .int (nI b), .int (nI t)] ++ List.replicate (9 - (lg_sl [.ref (ad (0, 0, 0)), .int (nI a), .int (nI b), .int (nI t)]).length) Slot.unset).toArray = ls at hl ⊢
  have hl : lv_has ls 9 [(0, .ref (ad (0, 0, 0))), (1, .int (nI a)), (2, .int (nI b)), (3, .int (nI t))] := hl
  have hs9 : ∀ t, see g a b t = see g b a t := fun t => sk1_sym hsk (by omega) (by omega)
  have h360 : see g a b (t + 360) = see g a b t := see_360 g a b t
  have seg4 : ∀ (x7 : Int32) (g1 : g_k → Nat → Int32) (H : Heap) (locs : List Loc), arr_P g n a t b x7 → (∀ c : g_k, c ≠ (10, 0, 0) → g1 c = g c) → g_P D (lay C g1 ad ln ex) ad B H → va_S (g_A B) s.heap H locs → ∀ ls, lv_has ls 9 [(7, .int x7), (6, .int (nI 1)), (0, .ref (ad (0, 0, 0))), (1, .int (nI a)), (2, .int (nI b)), (3, .int (nI t))] → W p l e (headSpec wsL_meets ({ frames := 7, cells := 0, slots := 0, locals := 167 } : Room)).room s m ([.ref (ad (0, 0, 0)), .int (nI a), .int (nI b), .int (nI t)]).toArray below meth c H locs 0 0 (MQ below (va_Qi (fun (r : Int32) (g1 : g_k → Nat → Int32) => r = nI 1 ∧ ∀ c : g_k, c ≠ (10, 0, 0) → g1 c = g c) (fun g1 t => g_P D (lay C g1 ad ln ex) ad B t.heap) (g_A B)) ([.ref (ad (0, 0, 0)), .int (nI a), .int (nI b), .int (nI t)]).toArray s 0 0 (g_A B)) (F0 m 383 ls []) := by
    intro x7 g1 H locs hA7 hfr hG hS ls hl
    have hc1 : g1 (1, 0, 0) 4 = nI n := by rw [hfr _ (by decide)]; exact hc
    have h20 : ∀ i, g1 (20, i, 0) = g (20, i, 0) := fun i => hfr _ (by intro h9; cases h9)
    refine lv_aload_n hx hb dL_meets_383 rfl (lv_at hl 2 rfl) ?_
    refine lv_iload_n hx hb dL_meets_384 rfl (lv_at hl 3 rfl) ?_
    refine lv_iload_n hx hb dL_meets_385 rfl (lv_at hl 4 rfl) ?_
    refine lv_iload_n hx hb dL_meets_386 rfl (lv_at hl 5 rfl) ?_
    refine lv_iconst (v := nI 1) hx hb dL_meets_387 (by decide) ?_
    refine lv_iadd hx hb dL_meets_388 ?_
    refine lv_to (y := nI (t + 1)) (nI_add t 1) ?_
    refine va_calli (vx_runSW (As := [.ref (ad (0, 0, 0)), .int (nI a), .int (nI b), .int (nI (t + 1))]) (rest := []) ⟨hx, hb, hml, hown, hts⟩ (l_arrival l hn hc1 ha hb9 (show t + 1 ≤ 1000000 by omega)) (vx_cwSW 4 hts gL_meets_L_arrival rfl rfl rfl (by decide +kernel) ⟨Nat.le_of_ble_eq_true rfl, Nat.le_of_ble_eq_true rfl⟩) (g_preS hF hG hS) rfl rfl hl.1 rfl (lv_room (Nat.le_of_ble_eq_true rfl)) dL_meets_389 ⟨Nat.le_of_ble_eq_true rfl, Nat.le_of_ble_eq_true rfl⟩) hS (fun q _ h => h) (fun q h => h) (fun r_1 g_3 t9 H locs ht9 _ h_2 hB1 _ _ hS => ?_)
    have hG : g_P D (lay C g_3 ad ln ex) ad B H := by rw [← ht9]; exact hB1
    have hfr2 : ∀ c : g_k, c ≠ (10, 0, 0) → g_3 c = g c := fun c hc9 => (h_2.2 c hc9).trans (hfr c hc9)
    have hA8 := arr_20 h20 h_2.1
    refine lv_istore (lv' := [(8, .int r_1), (7, .int x7), (6, .int (nI 1)), (0, .ref (ad (0, 0, 0))), (1, .int (nI a)), (2, .int (nI b)), (3, .int (nI t))]) hx hb dL_meets_392 hl (by decide) rfl (fun ls hl => ?_)
    refine lv_iload hx hb dL_meets_394 (lv_at hl 2 rfl) ?_
    rcases Classical.em (a = b) with c_4 | c_4
    · refine lv_if_eq (tgt := 450) hx hb dL_meets_396 (by decide) (fun c => absurd c (by decide)) (fun _ => ?_)
      refine lv_iload_n hx hb dL_meets_399 rfl (lv_at hl 4 rfl) ?_
      refine lv_iload_n hx hb dL_meets_400 rfl (lv_at hl 5 rfl) ?_
      refine lv_icmp_eq (tgt := 421) hx hb dL_meets_401 (by decide) (fun _ => ?_) (fun c => absurd (by rw [c_4]) c)
      refine lv_iload_n hx hb dL_meets_421 rfl (lv_at hl 4 rfl) ?_
      refine lv_iload_n hx hb dL_meets_422 rfl (lv_at hl 5 rfl) ?_
      refine lv_icmp_eq (tgt := 446) hx hb dL_meets_423 (by decide) (fun _ => ?_) (fun c => absurd (by rw [c_4]) c)
      refine lv_iconst (v := nI 1) hx hb dL_meets_446 (by decide) ?_
      refine lv_goto (tgt := 451) hx hb dL_meets_447 (by decide) ?_
      exact W.zret (v := nI 1) hx hb hr rfl (fun t9 ht9 hW9 => ⟨⟨_, g_3, rfl, ⟨rfl, hfr2⟩, by show g_P _ _ _ _ t9.heap; rw [ht9]; exact hG⟩, hS.F ht9⟩) hS.2.2 dL_meets_451
    · rcases hA7 with ⟨k7, p1, p2, p3, rfl⟩ | ⟨p1, rfl⟩
      · rcases hA8 with ⟨k8, q1, q2, q3, rfl⟩ | ⟨q1, rfl⟩
        · have q4 : fl g n a t (k8 + 1) b := fl_later (by omega) k8 (by omega) (by omega) q2
          refine lv_if_eq (tgt := 450) hx hb dL_meets_396 (by decide) (fun c => absurd c (by decide)) (fun _ => ?_)
          refine lv_iload_n hx hb dL_meets_399 rfl (lv_at hl 4 rfl) ?_
          refine lv_iload_n hx hb dL_meets_400 rfl (lv_at hl 5 rfl) ?_
          refine lv_icmp_eq (tgt := 421) hx hb dL_meets_401 (by decide) (fun c => absurd c (by rw [nI_eq (by omega) (by omega)]; exact c_4)) (fun _ => ?_)
          refine lv_iload hx hb dL_meets_404 (lv_at hl 1 rfl) ?_
          refine lv_if_lt (tgt := 421) hx hb dL_meets_406 (by decide) (fun c => absurd c (nI_pos (by omega))) (fun _ => ?_)
          refine lv_iload hx hb dL_meets_409 (lv_at hl 0 rfl) ?_
          refine lv_if_lt (tgt := 421) hx hb dL_meets_411 (by decide) (fun c => absurd c (nI_pos (by omega))) (fun _ => ?_)
          refine lv_iload hx hb dL_meets_414 (lv_at hl 0 rfl) ?_
          refine lv_iload hx hb dL_meets_416 (lv_at hl 1 rfl) ?_
          refine lv_icmp_lt (tgt := 450) hx hb dL_meets_418 (by decide) (fun c => absurd c (by rw [nI_ltI (by omega) (by omega)]; have : ¬ k8 + 1 < k7 := fun z => p3 _ z q4; omega)) (fun _ => ?_)
          refine lv_iload_n hx hb dL_meets_421 rfl (lv_at hl 4 rfl) ?_
          refine lv_iload_n hx hb dL_meets_422 rfl (lv_at hl 5 rfl) ?_
          refine lv_icmp_eq (tgt := 446) hx hb dL_meets_423 (by decide) (fun c => absurd c (by rw [nI_eq (by omega) (by omega)]; exact c_4)) (fun _ => ?_)
          refine lv_iload hx hb dL_meets_426 (lv_at hl 0 rfl) ?_
          refine lv_if_lt (tgt := 446) hx hb dL_meets_428 (by decide) (fun c => absurd c (nI_pos (by omega))) (fun _ => ?_)
          refine lv_iload hx hb dL_meets_431 (lv_at hl 1 rfl) ?_
          refine lv_if_ge (tgt := 446) hx hb dL_meets_433 (by decide) (fun _ => ?_) (fun c => absurd (nI_pos' (by omega)) c)
          refine lv_iconst (v := nI 1) hx hb dL_meets_446 (by decide) ?_
          refine lv_goto (tgt := 451) hx hb dL_meets_447 (by decide) ?_
          exact W.zret (v := nI 1) hx hb hr rfl (fun t9 ht9 hW9 => ⟨⟨_, g_3, rfl, ⟨rfl, hfr2⟩, by show g_P _ _ _ _ t9.heap; rw [ht9]; exact hG⟩, hS.F ht9⟩) hS.2.2 dL_meets_451
        · refine lv_if_eq (tgt := 450) hx hb dL_meets_396 (by decide) (fun c => absurd c (by decide)) (fun _ => ?_)
          refine lv_iload_n hx hb dL_meets_399 rfl (lv_at hl 4 rfl) ?_
          refine lv_iload_n hx hb dL_meets_400 rfl (lv_at hl 5 rfl) ?_
          refine lv_icmp_eq (tgt := 421) hx hb dL_meets_401 (by decide) (fun c => absurd c (by rw [nI_eq (by omega) (by omega)]; exact c_4)) (fun _ => ?_)
          refine lv_iload hx hb dL_meets_404 (lv_at hl 1 rfl) ?_
          refine lv_if_lt (tgt := 421) hx hb dL_meets_406 (by decide) (fun c => absurd c (nI_pos (by omega))) (fun _ => ?_)
          refine lv_iload hx hb dL_meets_409 (lv_at hl 0 rfl) ?_
          refine lv_if_lt (tgt := 421) hx hb dL_meets_411 (by decide) (fun _ => ?_) (fun c => absurd (by decide) c)
          refine lv_iload_n hx hb dL_meets_421 rfl (lv_at hl 4 rfl) ?_
          refine lv_iload_n hx hb dL_meets_422 rfl (lv_at hl 5 rfl) ?_
          refine lv_icmp_eq (tgt := 446) hx hb dL_meets_423 (by decide) (fun c => absurd c (by rw [nI_eq (by omega) (by omega)]; exact c_4)) (fun _ => ?_)
          refine lv_iload hx hb dL_meets_426 (lv_at hl 0 rfl) ?_
          refine lv_if_lt (tgt := 446) hx hb dL_meets_428 (by decide) (fun _ => ?_) (fun c => absurd (by decide) c)
          refine lv_iconst (v := nI 1) hx hb dL_meets_446 (by decide) ?_
          refine lv_goto (tgt := 451) hx hb dL_meets_447 (by decide) ?_
          exact W.zret (v := nI 1) hx hb hr rfl (fun t9 ht9 hW9 => ⟨⟨_, g_3, rfl, ⟨rfl, hfr2⟩, by show g_P _ _ _ _ t9.heap; rw [ht9]; exact hG⟩, hS.F ht9⟩) hS.2.2 dL_meets_451
      · rcases hA8 with ⟨k8, q1, q2, q3, rfl⟩ | ⟨q1, rfl⟩
        · have q4 : fl g n a t (k8 + 1) b := fl_later (by omega) k8 (by omega) (by omega) q2
          have q5 : k8 = 400 := by
            have : ¬ k8 + 1 ≤ 400 := fun z => p1 _ z q4
            omega
          refine lv_if_eq (tgt := 450) hx hb dL_meets_396 (by decide) (fun c => absurd c (by decide)) (fun _ => ?_)
          refine lv_iload_n hx hb dL_meets_399 rfl (lv_at hl 4 rfl) ?_
          refine lv_iload_n hx hb dL_meets_400 rfl (lv_at hl 5 rfl) ?_
          refine lv_icmp_eq (tgt := 421) hx hb dL_meets_401 (by decide) (fun c => absurd c (by rw [nI_eq (by omega) (by omega)]; exact c_4)) (fun _ => ?_)
          refine lv_iload hx hb dL_meets_404 (lv_at hl 1 rfl) ?_
          refine lv_if_lt (tgt := 421) hx hb dL_meets_406 (by decide) (fun _ => ?_) (fun c => absurd (by decide) c)
          refine lv_iload_n hx hb dL_meets_421 rfl (lv_at hl 4 rfl) ?_
          refine lv_iload_n hx hb dL_meets_422 rfl (lv_at hl 5 rfl) ?_
          refine lv_icmp_eq (tgt := 446) hx hb dL_meets_423 (by decide) (fun c => absurd c (by rw [nI_eq (by omega) (by omega)]; exact c_4)) (fun _ => ?_)
          refine lv_iload hx hb dL_meets_426 (lv_at hl 0 rfl) ?_
          refine lv_if_lt (tgt := 446) hx hb dL_meets_428 (by decide) (fun c => absurd c (nI_pos (by omega))) (fun _ => ?_)
          refine lv_iload hx hb dL_meets_431 (lv_at hl 1 rfl) ?_
          refine lv_if_ge (tgt := 446) hx hb dL_meets_433 (by decide) (fun c => absurd c (by decide)) (fun _ => ?_)
          refine lv_iload hx hb dL_meets_436 (lv_at hl 0 rfl) ?_
          refine lv_iload_n hx hb dL_meets_438 rfl (lv_at hl 6 rfl) ?_
          refine lv_sipush (v := nI 401) hx hb dL_meets_439 (by decide) ?_
          refine lv_iadd hx hb dL_meets_442 ?_
          refine lv_to (y := nI (t + 401)) (nI_add t 401) ?_
          refine lv_icmp_ne (tgt := 450) hx hb dL_meets_443 (by decide) (fun c => absurd (by rw [nI_eq (by omega) (by omega)]; omega) c) (fun _ => ?_)
          refine lv_iconst (v := nI 1) hx hb dL_meets_446 (by decide) ?_
          refine lv_goto (tgt := 451) hx hb dL_meets_447 (by decide) ?_
          exact W.zret (v := nI 1) hx hb hr rfl (fun t9 ht9 hW9 => ⟨⟨_, g_3, rfl, ⟨rfl, hfr2⟩, by show g_P _ _ _ _ t9.heap; rw [ht9]; exact hG⟩, hS.F ht9⟩) hS.2.2 dL_meets_451
        · refine lv_if_eq (tgt := 450) hx hb dL_meets_396 (by decide) (fun c => absurd c (by decide)) (fun _ => ?_)
          refine lv_iload_n hx hb dL_meets_399 rfl (lv_at hl 4 rfl) ?_
          refine lv_iload_n hx hb dL_meets_400 rfl (lv_at hl 5 rfl) ?_
          refine lv_icmp_eq (tgt := 421) hx hb dL_meets_401 (by decide) (fun c => absurd c (by rw [nI_eq (by omega) (by omega)]; exact c_4)) (fun _ => ?_)
          refine lv_iload hx hb dL_meets_404 (lv_at hl 1 rfl) ?_
          refine lv_if_lt (tgt := 421) hx hb dL_meets_406 (by decide) (fun _ => ?_) (fun c => absurd (by decide) c)
          refine lv_iload_n hx hb dL_meets_421 rfl (lv_at hl 4 rfl) ?_
          refine lv_iload_n hx hb dL_meets_422 rfl (lv_at hl 5 rfl) ?_
          refine lv_icmp_eq (tgt := 446) hx hb dL_meets_423 (by decide) (fun c => absurd c (by rw [nI_eq (by omega) (by omega)]; exact c_4)) (fun _ => ?_)
          refine lv_iload hx hb dL_meets_426 (lv_at hl 0 rfl) ?_
          refine lv_if_lt (tgt := 446) hx hb dL_meets_428 (by decide) (fun _ => ?_) (fun c => absurd (by decide) c)
          refine lv_iconst (v := nI 1) hx hb dL_meets_446 (by decide) ?_
          refine lv_goto (tgt := 451) hx hb dL_meets_447 (by decide) ?_
          exact W.zret (v := nI 1) hx hb hr rfl (fun t9 ht9 hW9 => ⟨⟨_, g_3, rfl, ⟨rfl, hfr2⟩, by show g_P _ _ _ _ t9.heap; rw [ht9]; exact hG⟩, hS.F ht9⟩) hS.2.2 dL_meets_451
  have seg3 : ∀ (x5 : Int32), (x5 = (-1) ∨ ∃ k5, k5 < 360 ∧ see g a b (t + k5) = true ∧ x5 = nI (t + k5)) → ∀ ls, lv_has ls 9 [(6, .int (nI 1)), (5, .int x5), (0, .ref (ad (0, 0, 0))), (1, .int (nI a)), (2, .int (nI b)), (3, .int (nI t))] → W p l e (headSpec wsL_meets ({ frames := 7, cells := 0, slots := 0, locals := 167 } : Room)).room s m ([.ref (ad (0, 0, 0)), .int (nI a), .int (nI b), .int (nI t)]).toArray below meth c s.heap [] 0 0 (MQ below (va_Qi (fun (r : Int32) (g1 : g_k → Nat → Int32) => r = nI 1 ∧ ∀ c : g_k, c ≠ (10, 0, 0) → g1 c = g c) (fun g1 t => g_P D (lay C g1 ad ln ex) ad B t.heap) (g_A B)) ([.ref (ad (0, 0, 0)), .int (nI a), .int (nI b), .int (nI t)]).toArray s 0 0 (g_A B)) (F0 m 275 ls []) := by
    intro x5 hx5 ls hl
    refine lv_aload_n hx hb dL_meets_275 rfl (lv_at hl 2 rfl) ?_
    refine lv_iload_n hx hb dL_meets_276 rfl (lv_at hl 3 rfl) ?_
    refine lv_iload_n hx hb dL_meets_277 rfl (lv_at hl 4 rfl) ?_
    refine lv_iload_n hx hb dL_meets_278 rfl (lv_at hl 5 rfl) ?_
    refine va_calli (vx_runSW (As := [.ref (ad (0, 0, 0)), .int (nI a), .int (nI b), .int (nI t)]) (rest := []) ⟨hx, hb, hml, hown, hts⟩ (l_arrival l hn hc ha hb9 (show t ≤ 1000000 by omega)) (vx_cwSW 4 hts gL_meets_L_arrival rfl rfl rfl (by decide +kernel) ⟨Nat.le_of_ble_eq_true rfl, Nat.le_of_ble_eq_true rfl⟩) (g_preS hF hG hS) rfl rfl hl.1 rfl (lv_room (Nat.le_of_ble_eq_true rfl)) dL_meets_279 ⟨Nat.le_of_ble_eq_true rfl, Nat.le_of_ble_eq_true rfl⟩) hS (fun q _ h => h) (fun q h => h) (fun r_5 g_7 t9 H locs ht9 _ h_6 hB1 _ _ hS => ?_)
    have hG : g_P D (lay C g_7 ad ln ex) ad B H := by rw [← ht9]; exact hB1
    have hfr : ∀ c : g_k, c ≠ (10, 0, 0) → g_7 c = g c := h_6.2
    have hA7 := h_6.1
    have h20 : ∀ i, g_7 (20, i, 0) = g (20, i, 0) := fun i => hfr _ (by intro h9; cases h9)
    have hc1 : g_7 (1, 0, 0) 4 = nI n := by rw [hfr _ (by decide)]; exact hc
    refine lv_istore (lv' := [(7, .int r_5), (6, .int (nI 1)), (5, .int x5), (0, .ref (ad (0, 0, 0))), (1, .int (nI a)), (2, .int (nI b)), (3, .int (nI t))]) hx hb dL_meets_282 hl (by decide) rfl (fun ls hl => ?_)
    refine lv_iload hx hb dL_meets_284 (lv_at hl 1 rfl) ?_
    refine lv_if_eq (tgt := 380) hx hb dL_meets_286 (by decide) (fun c => absurd c (by decide)) (fun _ => ?_)
    refine lv_iload hx hb dL_meets_289 (lv_at hl 0 rfl) ?_
    refine lv_aload_n hx hb dL_meets_291 rfl (lv_at hl 3 rfl) ?_
    refine lv_iload_n hx hb dL_meets_292 rfl (lv_at hl 4 rfl) ?_
    refine lv_iload_n hx hb dL_meets_293 rfl (lv_at hl 5 rfl) ?_
    refine lv_iload_n hx hb dL_meets_294 rfl (lv_at hl 6 rfl) ?_
    refine g_callSi (vx_runSW (As := [.ref (ad (0, 0, 0)), .int (nI a), .int (nI b), .int (nI t)]) (rest := [.int r_5]) ⟨hx, hb, hml, hown, hts⟩ (l_flood l hn hc1 ha hb9 (show t ≤ 1000000 by omega)) (vx_cwSW 4 hts gL_meets_L_flood rfl rfl rfl (by decide +kernel) ⟨Nat.le_of_ble_eq_true rfl, Nat.le_of_ble_eq_true rfl⟩) (g_preS hF hG hS) rfl rfl hl.1 rfl (lv_room (Nat.le_of_ble_eq_true rfl)) dL_meets_295 ⟨Nat.le_of_ble_eq_true rfl, Nat.le_of_ble_eq_true rfl⟩) (fun r_8 h_9 => ?_)
    refine lv_to (y := r_5) (arr_one (arr_20 h20 h_9) hA7) ?_
    refine lv_icmp_ne (tgt := 380) hx hb dL_meets_298 (by decide) (fun c => absurd (rfl) c) (fun _ => ?_)
    have hA7b := hA7
    rcases hA7 with ⟨k7, p1, p2, p3, rfl⟩ | ⟨p1, rfl⟩
    · rcases Classical.em (a = b) with hab | hab
      · have hk7 : k7 = 0 := Nat.le_zero.mp (Nat.le_of_not_lt (fun z => p3 0 z ((fl_0 (by omega) (by omega)).mpr hab.symm)))
        rcases hx5 with rfl | ⟨k5, e1, e2, rfl⟩
        · refine lv_iload_n hx hb dL_meets_301 rfl (lv_at hl 4 rfl) ?_
          refine lv_iload_n hx hb dL_meets_302 rfl (lv_at hl 5 rfl) ?_
          refine lv_icmp_ne (tgt := 310) hx hb dL_meets_303 (by decide) (fun c => absurd (by rw [nI_eq (by omega) (by omega)]; exact hab) c) (fun _ => ?_)
          refine lv_iconst (v := nI 1) hx hb dL_meets_306 (by decide) ?_
          refine lv_goto (tgt := 311) hx hb dL_meets_307 (by decide) ?_
          refine lv_iload hx hb dL_meets_311 (lv_at hl 0 rfl) ?_
          refine lv_iload_n hx hb dL_meets_313 rfl (lv_at hl 6 rfl) ?_
          refine lv_icmp_ne (tgt := 321) hx hb dL_meets_314 (by decide) (fun c => absurd (by rw [nI_eq (by omega) (by omega)]; omega) c) (fun _ => ?_)
          refine lv_iconst (v := nI 1) hx hb dL_meets_317 (by decide) ?_
          refine lv_goto (tgt := 322) hx hb dL_meets_318 (by decide) ?_
          refine lv_icmp_ne (tgt := 380) hx hb dL_meets_322 (by decide) (fun c => absurd (rfl) c) (fun _ => ?_)
          refine lv_iload hx hb dL_meets_325 (lv_at hl 0 rfl) ?_
          refine lv_if_lt (tgt := 340) hx hb dL_meets_327 (by decide) (fun c => absurd c (nI_pos (by omega))) (fun _ => ?_)
          refine lv_iload hx hb dL_meets_330 (lv_at hl 0 rfl) ?_
          refine lv_iload_n hx hb dL_meets_332 rfl (lv_at hl 6 rfl) ?_
          refine lv_sipush (v := nI 400) hx hb dL_meets_333 (by decide) ?_
          refine lv_iadd hx hb dL_meets_336 ?_
          refine lv_to (y := nI (t + 400)) (nI_add t 400) ?_
          refine lv_icmp_gt (tgt := 380) hx hb dL_meets_337 (by decide) (fun c => absurd c (by rw [nI_ltI (by omega) (by omega)]; omega)) (fun _ => ?_)
          refine lv_iload hx hb dL_meets_340 (lv_at hl 2 rfl) ?_
          refine lv_if_lt (tgt := 376) hx hb dL_meets_342 (by decide) (fun _ => ?_) (fun c => absurd (by decide) c)
          refine lv_iconst (v := nI 1) hx hb dL_meets_376 (by decide) ?_
          refine lv_goto (tgt := 381) hx hb dL_meets_377 (by decide) ?_
          refine lv_istore (lv' := [(6, .int (nI 1)), (7, .int (nI (t + k7))), (5, .int (-1)), (0, .ref (ad (0, 0, 0))), (1, .int (nI a)), (2, .int (nI b)), (3, .int (nI t))]) hx hb dL_meets_381 hl (by decide) rfl (fun ls hl => ?_)
          exact seg4 (nI (t + k7)) g_7 _ _ hA7b hfr hG hS ls (lv_sub hl [1, 0, 3, 4, 5, 6] rfl)
        · have hf5 := fl_see ha hn e2
          refine lv_iload_n hx hb dL_meets_301 rfl (lv_at hl 4 rfl) ?_
          refine lv_iload_n hx hb dL_meets_302 rfl (lv_at hl 5 rfl) ?_
          refine lv_icmp_ne (tgt := 310) hx hb dL_meets_303 (by decide) (fun c => absurd (by rw [nI_eq (by omega) (by omega)]; exact hab) c) (fun _ => ?_)
          refine lv_iconst (v := nI 1) hx hb dL_meets_306 (by decide) ?_
          refine lv_goto (tgt := 311) hx hb dL_meets_307 (by decide) ?_
          refine lv_iload hx hb dL_meets_311 (lv_at hl 0 rfl) ?_
          refine lv_iload_n hx hb dL_meets_313 rfl (lv_at hl 6 rfl) ?_
          refine lv_icmp_ne (tgt := 321) hx hb dL_meets_314 (by decide) (fun c => absurd (by rw [nI_eq (by omega) (by omega)]; omega) c) (fun _ => ?_)
          refine lv_iconst (v := nI 1) hx hb dL_meets_317 (by decide) ?_
          refine lv_goto (tgt := 322) hx hb dL_meets_318 (by decide) ?_
          refine lv_icmp_ne (tgt := 380) hx hb dL_meets_322 (by decide) (fun c => absurd (rfl) c) (fun _ => ?_)
          refine lv_iload hx hb dL_meets_325 (lv_at hl 0 rfl) ?_
          refine lv_if_lt (tgt := 340) hx hb dL_meets_327 (by decide) (fun c => absurd c (nI_pos (by omega))) (fun _ => ?_)
          refine lv_iload hx hb dL_meets_330 (lv_at hl 0 rfl) ?_
          refine lv_iload_n hx hb dL_meets_332 rfl (lv_at hl 6 rfl) ?_
          refine lv_sipush (v := nI 400) hx hb dL_meets_333 (by decide) ?_
          refine lv_iadd hx hb dL_meets_336 ?_
          refine lv_to (y := nI (t + 400)) (nI_add t 400) ?_
          refine lv_icmp_gt (tgt := 380) hx hb dL_meets_337 (by decide) (fun c => absurd c (by rw [nI_ltI (by omega) (by omega)]; omega)) (fun _ => ?_)
          refine lv_iload hx hb dL_meets_340 (lv_at hl 2 rfl) ?_
          refine lv_if_lt (tgt := 376) hx hb dL_meets_342 (by decide) (fun c => absurd c (nI_pos (by omega))) (fun _ => ?_)
          refine lv_iload_n hx hb dL_meets_345 rfl (lv_at hl 4 rfl) ?_
          refine lv_iload_n hx hb dL_meets_346 rfl (lv_at hl 5 rfl) ?_
          refine lv_icmp_eq (tgt := 376) hx hb dL_meets_347 (by decide) (fun _ => ?_) (fun c => absurd (by rw [nI_eq (by omega) (by omega)]; exact hab) c)
          refine lv_iconst (v := nI 1) hx hb dL_meets_376 (by decide) ?_
          refine lv_goto (tgt := 381) hx hb dL_meets_377 (by decide) ?_
          refine lv_istore (lv' := [(6, .int (nI 1)), (7, .int (nI (t + k7))), (5, .int (nI (t + k5))), (0, .ref (ad (0, 0, 0))), (1, .int (nI a)), (2, .int (nI b)), (3, .int (nI t))]) hx hb dL_meets_381 hl (by decide) rfl (fun ls hl => ?_)
          exact seg4 (nI (t + k7)) g_7 _ _ hA7b hfr hG hS ls (lv_sub hl [1, 0, 3, 4, 5, 6] rfl)
      · have hk7 : k7 ≠ 0 := fun z => hab (by rw [z] at p2; exact ((fl_0 (by omega) (by omega)).mp p2).symm)
        rcases hx5 with rfl | ⟨k5, e1, e2, rfl⟩
        · refine lv_iload_n hx hb dL_meets_301 rfl (lv_at hl 4 rfl) ?_
          refine lv_iload_n hx hb dL_meets_302 rfl (lv_at hl 5 rfl) ?_
          refine lv_icmp_ne (tgt := 310) hx hb dL_meets_303 (by decide) (fun _ => ?_) (fun c => absurd c (by rw [nI_eq (by omega) (by omega)]; exact hab))
          refine lv_iconst (v := nI 0) hx hb dL_meets_310 (by decide) ?_
          refine lv_iload hx hb dL_meets_311 (lv_at hl 0 rfl) ?_
          refine lv_iload_n hx hb dL_meets_313 rfl (lv_at hl 6 rfl) ?_
          refine lv_icmp_ne (tgt := 321) hx hb dL_meets_314 (by decide) (fun _ => ?_) (fun c => absurd c (by rw [nI_eq (by omega) (by omega)]; omega))
          refine lv_iconst (v := nI 0) hx hb dL_meets_321 (by decide) ?_
          refine lv_icmp_ne (tgt := 380) hx hb dL_meets_322 (by decide) (fun c => absurd (rfl) c) (fun _ => ?_)
          refine lv_iload hx hb dL_meets_325 (lv_at hl 0 rfl) ?_
          refine lv_if_lt (tgt := 340) hx hb dL_meets_327 (by decide) (fun c => absurd c (nI_pos (by omega))) (fun _ => ?_)
          refine lv_iload hx hb dL_meets_330 (lv_at hl 0 rfl) ?_
          refine lv_iload_n hx hb dL_meets_332 rfl (lv_at hl 6 rfl) ?_
          refine lv_sipush (v := nI 400) hx hb dL_meets_333 (by decide) ?_
          refine lv_iadd hx hb dL_meets_336 ?_
          refine lv_to (y := nI (t + 400)) (nI_add t 400) ?_
          refine lv_icmp_gt (tgt := 380) hx hb dL_meets_337 (by decide) (fun c => absurd c (by rw [nI_ltI (by omega) (by omega)]; omega)) (fun _ => ?_)
          refine lv_iload hx hb dL_meets_340 (lv_at hl 2 rfl) ?_
          refine lv_if_lt (tgt := 376) hx hb dL_meets_342 (by decide) (fun _ => ?_) (fun c => absurd (by decide) c)
          refine lv_iconst (v := nI 1) hx hb dL_meets_376 (by decide) ?_
          refine lv_goto (tgt := 381) hx hb dL_meets_377 (by decide) ?_
          refine lv_istore (lv' := [(6, .int (nI 1)), (7, .int (nI (t + k7))), (5, .int (-1)), (0, .ref (ad (0, 0, 0))), (1, .int (nI a)), (2, .int (nI b)), (3, .int (nI t))]) hx hb dL_meets_381 hl (by decide) rfl (fun ls hl => ?_)
          exact seg4 (nI (t + k7)) g_7 _ _ hA7b hfr hG hS ls (lv_sub hl [1, 0, 3, 4, 5, 6] rfl)
        · have hf5 := fl_see ha hn e2
          have hk9 : k7 ≤ k5 + 1 := Nat.le_of_not_lt (fun z => p3 _ z hf5)
          refine lv_iload_n hx hb dL_meets_301 rfl (lv_at hl 4 rfl) ?_
          refine lv_iload_n hx hb dL_meets_302 rfl (lv_at hl 5 rfl) ?_
          refine lv_icmp_ne (tgt := 310) hx hb dL_meets_303 (by decide) (fun _ => ?_) (fun c => absurd c (by rw [nI_eq (by omega) (by omega)]; exact hab))
          refine lv_iconst (v := nI 0) hx hb dL_meets_310 (by decide) ?_
          refine lv_iload hx hb dL_meets_311 (lv_at hl 0 rfl) ?_
          refine lv_iload_n hx hb dL_meets_313 rfl (lv_at hl 6 rfl) ?_
          refine lv_icmp_ne (tgt := 321) hx hb dL_meets_314 (by decide) (fun _ => ?_) (fun c => absurd c (by rw [nI_eq (by omega) (by omega)]; omega))
          refine lv_iconst (v := nI 0) hx hb dL_meets_321 (by decide) ?_
          refine lv_icmp_ne (tgt := 380) hx hb dL_meets_322 (by decide) (fun c => absurd (rfl) c) (fun _ => ?_)
          refine lv_iload hx hb dL_meets_325 (lv_at hl 0 rfl) ?_
          refine lv_if_lt (tgt := 340) hx hb dL_meets_327 (by decide) (fun c => absurd c (nI_pos (by omega))) (fun _ => ?_)
          refine lv_iload hx hb dL_meets_330 (lv_at hl 0 rfl) ?_
          refine lv_iload_n hx hb dL_meets_332 rfl (lv_at hl 6 rfl) ?_
          refine lv_sipush (v := nI 400) hx hb dL_meets_333 (by decide) ?_
          refine lv_iadd hx hb dL_meets_336 ?_
          refine lv_to (y := nI (t + 400)) (nI_add t 400) ?_
          refine lv_icmp_gt (tgt := 380) hx hb dL_meets_337 (by decide) (fun c => absurd c (by rw [nI_ltI (by omega) (by omega)]; omega)) (fun _ => ?_)
          refine lv_iload hx hb dL_meets_340 (lv_at hl 2 rfl) ?_
          refine lv_if_lt (tgt := 376) hx hb dL_meets_342 (by decide) (fun c => absurd c (nI_pos (by omega))) (fun _ => ?_)
          refine lv_iload_n hx hb dL_meets_345 rfl (lv_at hl 4 rfl) ?_
          refine lv_iload_n hx hb dL_meets_346 rfl (lv_at hl 5 rfl) ?_
          refine lv_icmp_eq (tgt := 376) hx hb dL_meets_347 (by decide) (fun c => absurd c (by rw [nI_eq (by omega) (by omega)]; exact hab)) (fun _ => ?_)
          refine lv_iload hx hb dL_meets_350 (lv_at hl 0 rfl) ?_
          refine lv_if_lt (tgt := 364) hx hb dL_meets_352 (by decide) (fun c => absurd c (nI_pos (by omega))) (fun _ => ?_)
          refine lv_iload hx hb dL_meets_355 (lv_at hl 0 rfl) ?_
          refine lv_iload hx hb dL_meets_357 (lv_at hl 2 rfl) ?_
          refine lv_iconst (v := nI 1) hx hb dL_meets_359 (by decide) ?_
          refine lv_iadd hx hb dL_meets_360 ?_
          refine lv_to (y := nI ((t + k5) + 1)) (nI_add (t + k5) 1) ?_
          refine lv_icmp_le (tgt := 376) hx hb dL_meets_361 (by decide) (fun _ => ?_) (fun c => absurd (by rw [nI_leI (by omega) (by omega)]; omega) c)
          refine lv_iconst (v := nI 1) hx hb dL_meets_376 (by decide) ?_
          refine lv_goto (tgt := 381) hx hb dL_meets_377 (by decide) ?_
          refine lv_istore (lv' := [(6, .int (nI 1)), (7, .int (nI (t + k7))), (5, .int (nI (t + k5))), (0, .ref (ad (0, 0, 0))), (1, .int (nI a)), (2, .int (nI b)), (3, .int (nI t))]) hx hb dL_meets_381 hl (by decide) rfl (fun ls hl => ?_)
          exact seg4 (nI (t + k7)) g_7 _ _ hA7b hfr hG hS ls (lv_sub hl [1, 0, 3, 4, 5, 6] rfl)
    · rcases Classical.em (a = b) with hab | hab
      · exact absurd ((fl_0 (by omega) (by omega)).mpr hab.symm) (p1 0 (Nat.zero_le _))
      · rcases hx5 with rfl | ⟨k5, e1, e2, rfl⟩
        · refine lv_iload_n hx hb dL_meets_301 rfl (lv_at hl 4 rfl) ?_
          refine lv_iload_n hx hb dL_meets_302 rfl (lv_at hl 5 rfl) ?_
          refine lv_icmp_ne (tgt := 310) hx hb dL_meets_303 (by decide) (fun _ => ?_) (fun c => absurd c (by rw [nI_eq (by omega) (by omega)]; exact hab))
          refine lv_iconst (v := nI 0) hx hb dL_meets_310 (by decide) ?_
          refine lv_iload hx hb dL_meets_311 (lv_at hl 0 rfl) ?_
          refine lv_iload_n hx hb dL_meets_313 rfl (lv_at hl 6 rfl) ?_
          refine lv_icmp_ne (tgt := 321) hx hb dL_meets_314 (by decide) (fun _ => ?_) (fun c => absurd c (fun z => nI_m1 (by omega) z.symm))
          refine lv_iconst (v := nI 0) hx hb dL_meets_321 (by decide) ?_
          refine lv_icmp_ne (tgt := 380) hx hb dL_meets_322 (by decide) (fun c => absurd (rfl) c) (fun _ => ?_)
          refine lv_iload hx hb dL_meets_325 (lv_at hl 0 rfl) ?_
          refine lv_if_lt (tgt := 340) hx hb dL_meets_327 (by decide) (fun _ => ?_) (fun c => absurd (by decide) c)
          refine lv_iload hx hb dL_meets_340 (lv_at hl 2 rfl) ?_
          refine lv_if_lt (tgt := 376) hx hb dL_meets_342 (by decide) (fun _ => ?_) (fun c => absurd (by decide) c)
          refine lv_iconst (v := nI 1) hx hb dL_meets_376 (by decide) ?_
          refine lv_goto (tgt := 381) hx hb dL_meets_377 (by decide) ?_
          refine lv_istore (lv' := [(6, .int (nI 1)), (7, .int (-1)), (5, .int (-1)), (0, .ref (ad (0, 0, 0))), (1, .int (nI a)), (2, .int (nI b)), (3, .int (nI t))]) hx hb dL_meets_381 hl (by decide) rfl (fun ls hl => ?_)
          exact seg4 ((-1)) g_7 _ _ hA7b hfr hG hS ls (lv_sub hl [1, 0, 3, 4, 5, 6] rfl)
        · have hf5 := fl_see ha hn e2
          have hk9 : ¬ k5 + 1 ≤ 400 := fun z => p1 _ z hf5
          refine lv_iload_n hx hb dL_meets_301 rfl (lv_at hl 4 rfl) ?_
          refine lv_iload_n hx hb dL_meets_302 rfl (lv_at hl 5 rfl) ?_
          refine lv_icmp_ne (tgt := 310) hx hb dL_meets_303 (by decide) (fun _ => ?_) (fun c => absurd c (by rw [nI_eq (by omega) (by omega)]; exact hab))
          refine lv_iconst (v := nI 0) hx hb dL_meets_310 (by decide) ?_
          refine lv_iload hx hb dL_meets_311 (lv_at hl 0 rfl) ?_
          refine lv_iload_n hx hb dL_meets_313 rfl (lv_at hl 6 rfl) ?_
          refine lv_icmp_ne (tgt := 321) hx hb dL_meets_314 (by decide) (fun _ => ?_) (fun c => absurd c (fun z => nI_m1 (by omega) z.symm))
          refine lv_iconst (v := nI 0) hx hb dL_meets_321 (by decide) ?_
          refine lv_icmp_ne (tgt := 380) hx hb dL_meets_322 (by decide) (fun c => absurd (rfl) c) (fun _ => ?_)
          refine lv_iload hx hb dL_meets_325 (lv_at hl 0 rfl) ?_
          refine lv_if_lt (tgt := 340) hx hb dL_meets_327 (by decide) (fun _ => ?_) (fun c => absurd (by decide) c)
          refine lv_iload hx hb dL_meets_340 (lv_at hl 2 rfl) ?_
          refine lv_if_lt (tgt := 376) hx hb dL_meets_342 (by decide) (fun c => absurd c (nI_pos (by omega))) (fun _ => ?_)
          refine lv_iload_n hx hb dL_meets_345 rfl (lv_at hl 4 rfl) ?_
          refine lv_iload_n hx hb dL_meets_346 rfl (lv_at hl 5 rfl) ?_
          refine lv_icmp_eq (tgt := 376) hx hb dL_meets_347 (by decide) (fun c => absurd c (by rw [nI_eq (by omega) (by omega)]; exact hab)) (fun _ => ?_)
          refine lv_iload hx hb dL_meets_350 (lv_at hl 0 rfl) ?_
          refine lv_if_lt (tgt := 364) hx hb dL_meets_352 (by decide) (fun _ => ?_) (fun c => absurd (by decide) c)
          refine lv_iload hx hb dL_meets_364 (lv_at hl 2 rfl) ?_
          refine lv_iconst (v := nI 1) hx hb dL_meets_366 (by decide) ?_
          refine lv_iadd hx hb dL_meets_367 ?_
          refine lv_to (y := nI ((t + k5) + 1)) (nI_add (t + k5) 1) ?_
          refine lv_iload_n hx hb dL_meets_368 rfl (lv_at hl 6 rfl) ?_
          refine lv_sipush (v := nI 400) hx hb dL_meets_369 (by decide) ?_
          refine lv_iadd hx hb dL_meets_372 ?_
          refine lv_to (y := nI (t + 400)) (nI_add t 400) ?_
          refine lv_icmp_le (tgt := 380) hx hb dL_meets_373 (by decide) (fun c => absurd c (by rw [nI_leI (by omega) (by omega)]; omega)) (fun _ => ?_)
          refine lv_iconst (v := nI 1) hx hb dL_meets_376 (by decide) ?_
          refine lv_goto (tgt := 381) hx hb dL_meets_377 (by decide) ?_
          refine lv_istore (lv' := [(6, .int (nI 1)), (7, .int (-1)), (5, .int (nI (t + k5))), (0, .ref (ad (0, 0, 0))), (1, .int (nI a)), (2, .int (nI b)), (3, .int (nI t))]) hx hb dL_meets_381 hl (by decide) rfl (fun ls hl => ?_)
          exact seg4 ((-1)) g_7 _ _ hA7b hfr hG hS ls (lv_sub hl [1, 0, 3, 4, 5, 6] rfl)
  refine lv_aload_n hx hb dL_meets_0 rfl (lv_at hl 0 rfl) ?_
  refine lv_iload_n hx hb dL_meets_1 rfl (lv_at hl 1 rfl) ?_
  refine lv_iload_n hx hb dL_meets_2 rfl (lv_at hl 2 rfl) ?_
  refine lv_iload_n hx hb dL_meets_3 rfl (lv_at hl 3 rfl) ?_
  refine g_callSi (vx_runSW (As := [.ref (ad (0, 0, 0)), .int (nI a), .int (nI b), .int (nI t)]) (rest := []) ⟨hx, hb, hml, hown, hts⟩ (l_view l hn hc ha hb9 (show t ≤ 1000000 by omega)) (vx_cwSW 4 hts gL_meets_L_view rfl rfl rfl (by decide +kernel) ⟨Nat.le_of_ble_eq_true rfl, Nat.le_of_ble_eq_true rfl⟩) (g_preS hF hG hS) rfl rfl hl.1 rfl (lv_room (Nat.le_of_ble_eq_true rfl)) dL_meets_4 ⟨Nat.le_of_ble_eq_true rfl, Nat.le_of_ble_eq_true rfl⟩) (fun r_10 h_11 => ?_)
  refine lv_istore (lv' := [(4, .int r_10), (0, .ref (ad (0, 0, 0))), (1, .int (nI a)), (2, .int (nI b)), (3, .int (nI t))]) hx hb dL_meets_7 hl (by decide) rfl (fun ls hl => ?_)
  refine lv_aload_n hx hb dL_meets_9 rfl (lv_at hl 1 rfl) ?_
  refine lv_iload_n hx hb dL_meets_10 rfl (lv_at hl 2 rfl) ?_
  refine lv_iload_n hx hb dL_meets_11 rfl (lv_at hl 3 rfl) ?_
  refine lv_iload_n hx hb dL_meets_12 rfl (lv_at hl 4 rfl) ?_
  refine g_callSi (vx_runSW (As := [.ref (ad (0, 0, 0)), .int (nI a), .int (nI b), .int (nI t)]) (rest := []) ⟨hx, hb, hml, hown, hts⟩ (l_contact l hn hc ha hb9 (show t ≤ 1000000 by omega)) (vx_cwSW 4 hts gL_meets_L_contact rfl rfl rfl (by decide +kernel) ⟨Nat.le_of_ble_eq_true rfl, Nat.le_of_ble_eq_true rfl⟩) (g_preS hF hG hS) rfl rfl hl.1 rfl (lv_room (Nat.le_of_ble_eq_true rfl)) dL_meets_13 ⟨Nat.le_of_ble_eq_true rfl, Nat.le_of_ble_eq_true rfl⟩) (fun r_12 h_13 => ?_)
  refine lv_istore (lv' := [(5, .int r_12), (4, .int r_10), (0, .ref (ad (0, 0, 0))), (1, .int (nI a)), (2, .int (nI b)), (3, .int (nI t))]) hx hb dL_meets_16 hl (by decide) rfl (fun ls hl => ?_)
  refine lv_aload_n hx hb dL_meets_18 rfl (lv_at hl 2 rfl) ?_
  refine lv_iload_n hx hb dL_meets_19 rfl (lv_at hl 3 rfl) ?_
  refine lv_iload_n hx hb dL_meets_20 rfl (lv_at hl 4 rfl) ?_
  refine lv_iload_n hx hb dL_meets_21 rfl (lv_at hl 5 rfl) ?_
  obtain ⟨kv, v0, v1, v2, ev⟩ := h_11
  subst ev
  have hsv : ∀ j, see g a b (t + j) = see g b a (t + j) := fun j => hs9 (t + j)
  rcases h_13 with ⟨k5, e1, e2, e3, rfl⟩ | ⟨e1, rfl⟩
  · rcases Nat.eq_zero_or_pos kv with hkv | hkv
    · subst hkv
      have hsee : see g a b t = false := v2 (by decide)
      have hk5 : k5 ≠ 0 := fun z => by rw [z] at e2; exact absurd (hsee.symm.trans e2) (by decide)
      refine g_callSi (vx_runSW (As := [.ref (ad (0, 0, 0)), .int (nI a), .int (nI b), .int (nI t)]) (rest := []) ⟨hx, hb, hml, hown, hts⟩ (l_see l hn hc ha hb9 (show _ ≤ 1000000 by omega)) (vx_cwSW 4 hts gL_meets_L_see rfl rfl rfl (by decide +kernel) ⟨Nat.le_of_ble_eq_true rfl, Nat.le_of_ble_eq_true rfl⟩) (g_preS hF hG hS) rfl rfl hl.1 rfl (lv_room (Nat.le_of_ble_eq_true rfl)) dL_meets_22 ⟨Nat.le_of_ble_eq_true rfl, Nat.le_of_ble_eq_true rfl⟩) (fun r_14 h_15 => ?_)
      refine lv_to (y := nI 0) (h_15.trans (sI_f (hsee))) ?_
      refine lv_aload_n hx hb dL_meets_25 rfl (lv_at hl 2 rfl) ?_
      refine lv_iload_n hx hb dL_meets_26 rfl (lv_at hl 4 rfl) ?_
      refine lv_iload_n hx hb dL_meets_27 rfl (lv_at hl 3 rfl) ?_
      refine lv_iload_n hx hb dL_meets_28 rfl (lv_at hl 5 rfl) ?_
      refine g_callSi (vx_runSW (As := [.ref (ad (0, 0, 0)), .int (nI b), .int (nI a), .int (nI t)]) (rest := [.int (nI 0)]) ⟨hx, hb, hml, hown, hts⟩ (l_see l hn hc hb9 ha (show _ ≤ 1000000 by omega)) (vx_cwSW 4 hts gL_meets_L_see rfl rfl rfl (by decide +kernel) ⟨Nat.le_of_ble_eq_true rfl, Nat.le_of_ble_eq_true rfl⟩) (g_preS hF hG hS) rfl rfl hl.1 rfl (lv_room (Nat.le_of_ble_eq_true rfl)) dL_meets_29 ⟨Nat.le_of_ble_eq_true rfl, Nat.le_of_ble_eq_true rfl⟩) (fun r_16 h_17 => ?_)
      refine lv_to (y := nI 0) (h_17.trans (sI_f ((hs9 t).symm.trans hsee))) ?_
      refine lv_icmp_ne (tgt := 109) hx hb dL_meets_32 (by decide) (fun c => absurd (rfl) c) (fun _ => ?_)
      refine lv_aload_n hx hb dL_meets_35 rfl (lv_at hl 2 rfl) ?_
      refine lv_iload_n hx hb dL_meets_36 rfl (lv_at hl 3 rfl) ?_
      refine lv_iload_n hx hb dL_meets_37 rfl (lv_at hl 4 rfl) ?_
      refine lv_iload_n hx hb dL_meets_38 rfl (lv_at hl 5 rfl) ?_
      refine g_callSi (vx_runSW (As := [.ref (ad (0, 0, 0)), .int (nI a), .int (nI b), .int (nI t)]) (rest := []) ⟨hx, hb, hml, hown, hts⟩ (l_see l hn hc ha hb9 (show _ ≤ 1000000 by omega)) (vx_cwSW 4 hts gL_meets_L_see rfl rfl rfl (by decide +kernel) ⟨Nat.le_of_ble_eq_true rfl, Nat.le_of_ble_eq_true rfl⟩) (g_preS hF hG hS) rfl rfl hl.1 rfl (lv_room (Nat.le_of_ble_eq_true rfl)) dL_meets_39 ⟨Nat.le_of_ble_eq_true rfl, Nat.le_of_ble_eq_true rfl⟩) (fun r_18 h_19 => ?_)
      refine lv_to (y := nI 0) (h_19.trans (sI_f (hsee))) ?_
      refine lv_aload_n hx hb dL_meets_42 rfl (lv_at hl 2 rfl) ?_
      refine lv_iload_n hx hb dL_meets_43 rfl (lv_at hl 3 rfl) ?_
      refine lv_iload_n hx hb dL_meets_44 rfl (lv_at hl 4 rfl) ?_
      refine lv_iload_n hx hb dL_meets_45 rfl (lv_at hl 5 rfl) ?_
      refine lv_sipush (v := nI 360) hx hb dL_meets_46 (by decide) ?_
      refine lv_iadd hx hb dL_meets_49 ?_
      refine lv_to (y := nI (t + 360)) (nI_add t 360) ?_
      refine g_callSi (vx_runSW (As := [.ref (ad (0, 0, 0)), .int (nI a), .int (nI b), .int (nI (t + 360))]) (rest := [.int (nI 0)]) ⟨hx, hb, hml, hown, hts⟩ (l_see l hn hc ha hb9 (show _ ≤ 1000000 by omega)) (vx_cwSW 4 hts gL_meets_L_see rfl rfl rfl (by decide +kernel) ⟨Nat.le_of_ble_eq_true rfl, Nat.le_of_ble_eq_true rfl⟩) (g_preS hF hG hS) rfl rfl hl.1 rfl (lv_room (Nat.le_of_ble_eq_true rfl)) dL_meets_50 ⟨Nat.le_of_ble_eq_true rfl, Nat.le_of_ble_eq_true rfl⟩) (fun r_20 h_21 => ?_)
      refine lv_to (y := nI 0) (h_21.trans (sI_f (h360.trans hsee))) ?_
      refine lv_icmp_ne (tgt := 109) hx hb dL_meets_53 (by decide) (fun c => absurd (rfl) c) (fun _ => ?_)
      refine lv_aload_n hx hb dL_meets_56 rfl (lv_at hl 2 rfl) ?_
      refine lv_iload_n hx hb dL_meets_57 rfl (lv_at hl 3 rfl) ?_
      refine lv_iload_n hx hb dL_meets_58 rfl (lv_at hl 4 rfl) ?_
      refine lv_iload_n hx hb dL_meets_59 rfl (lv_at hl 5 rfl) ?_
      refine g_callSi (vx_runSW (As := [.ref (ad (0, 0, 0)), .int (nI a), .int (nI b), .int (nI t)]) (rest := []) ⟨hx, hb, hml, hown, hts⟩ (l_see l hn hc ha hb9 (show _ ≤ 1000000 by omega)) (vx_cwSW 4 hts gL_meets_L_see rfl rfl rfl (by decide +kernel) ⟨Nat.le_of_ble_eq_true rfl, Nat.le_of_ble_eq_true rfl⟩) (g_preS hF hG hS) rfl rfl hl.1 rfl (lv_room (Nat.le_of_ble_eq_true rfl)) dL_meets_60 ⟨Nat.le_of_ble_eq_true rfl, Nat.le_of_ble_eq_true rfl⟩) (fun r_22 h_23 => ?_)
      refine lv_to (y := nI 0) (h_23.trans (sI_f (hsee))) ?_
      refine lv_iconst (v := nI 1) hx hb dL_meets_63 (by decide) ?_
      refine lv_icmp_ne (tgt := 71) hx hb dL_meets_64 (by decide) (fun _ => ?_) (fun c => absurd c (by decide))
      refine lv_iconst (v := nI 0) hx hb dL_meets_71 (by decide) ?_
      refine lv_iload hx hb dL_meets_72 (lv_at hl 1 rfl) ?_
      refine lv_if_le (tgt := 81) hx hb dL_meets_74 (by decide) (fun _ => ?_) (fun c => absurd (by decide) c)
      refine lv_iconst (v := nI 0) hx hb dL_meets_81 (by decide) ?_
      refine lv_icmp_ne (tgt := 109) hx hb dL_meets_82 (by decide) (fun c => absurd (rfl) c) (fun _ => ?_)
      refine lv_iload hx hb dL_meets_85 (lv_at hl 1 rfl) ?_
      refine lv_aload_n hx hb dL_meets_87 rfl (lv_at hl 2 rfl) ?_
      refine lv_iload_n hx hb dL_meets_88 rfl (lv_at hl 4 rfl) ?_
      refine lv_iload_n hx hb dL_meets_89 rfl (lv_at hl 3 rfl) ?_
      refine lv_iload_n hx hb dL_meets_90 rfl (lv_at hl 5 rfl) ?_
      refine g_callSi (vx_runSW (As := [.ref (ad (0, 0, 0)), .int (nI b), .int (nI a), .int (nI t)]) (rest := [.int (nI 0)]) ⟨hx, hb, hml, hown, hts⟩ (l_view l hn hc hb9 ha (show t ≤ 1000000 by omega)) (vx_cwSW 4 hts gL_meets_L_view rfl rfl rfl (by decide +kernel) ⟨Nat.le_of_ble_eq_true rfl, Nat.le_of_ble_eq_true rfl⟩) (g_preS hF hG hS) rfl rfl hl.1 rfl (lv_room (Nat.le_of_ble_eq_true rfl)) dL_meets_91 ⟨Nat.le_of_ble_eq_true rfl, Nat.le_of_ble_eq_true rfl⟩) (fun r_24 h_25 => ?_)
      obtain ⟨k_26, w0, w1, w2, w3⟩ := h_25
      refine lv_to (y := nI 0) (w3.trans (congrArg nI (view_one hsv v0 v1 v2 w0 w1 w2).symm)) ?_
      refine lv_icmp_ne (tgt := 109) hx hb dL_meets_94 (by decide) (fun c => absurd (rfl) c) (fun _ => ?_)
      refine lv_iload hx hb dL_meets_97 (lv_at hl 1 rfl) ?_
      refine lv_sipush (v := nI 360) hx hb dL_meets_99 (by decide) ?_
      refine lv_icmp_gt (tgt := 109) hx hb dL_meets_102 (by decide) (fun c => absurd c (by rw [nI_ltI (by omega) (by omega)]; omega)) (fun _ => ?_)
      refine lv_iconst (v := nI 1) hx hb dL_meets_105 (by decide) ?_
      refine lv_goto (tgt := 110) hx hb dL_meets_106 (by decide) ?_
      refine lv_istore (lv' := [(6, .int (nI 1)), (5, .int (nI (t + k5))), (4, .int (nI 0)), (0, .ref (ad (0, 0, 0))), (1, .int (nI a)), (2, .int (nI b)), (3, .int (nI t))]) hx hb dL_meets_110 hl (by decide) rfl (fun ls hl => ?_)
      refine lv_iload hx hb dL_meets_112 (lv_at hl 0 rfl) ?_
      refine lv_if_eq (tgt := 218) hx hb dL_meets_114 (by decide) (fun c => absurd c (by decide)) (fun _ => ?_)
      refine lv_iload hx hb dL_meets_117 (lv_at hl 2 rfl) ?_
      refine lv_if_eq (tgt := 128) hx hb dL_meets_119 (by decide) (fun _ => ?_) (fun c => absurd (by decide) c)
      refine lv_iload hx hb dL_meets_128 (lv_at hl 1 rfl) ?_
      refine lv_if_ge (tgt := 154) hx hb dL_meets_130 (by decide) (fun _ => ?_) (fun c => absurd (nI_pos' (by omega)) c)
      refine lv_iload hx hb dL_meets_154 (lv_at hl 1 rfl) ?_
      refine lv_iload_n hx hb dL_meets_156 rfl (lv_at hl 6 rfl) ?_
      refine lv_icmp_lt (tgt := 218) hx hb dL_meets_157 (by decide) (fun c => absurd c (by rw [nI_ltI (by omega) (by omega)]; omega)) (fun _ => ?_)
      refine lv_iload hx hb dL_meets_160 (lv_at hl 1 rfl) ?_
      refine lv_iload_n hx hb dL_meets_162 rfl (lv_at hl 6 rfl) ?_
      refine lv_sipush (v := nI 360) hx hb dL_meets_163 (by decide) ?_
      refine lv_iadd hx hb dL_meets_166 ?_
      refine lv_to (y := nI (t + 360)) (nI_add t 360) ?_
      refine lv_icmp_ge (tgt := 218) hx hb dL_meets_167 (by decide) (fun c => absurd c (by rw [nI_leI (by omega) (by omega)]; omega)) (fun _ => ?_)
      refine lv_aload_n hx hb dL_meets_170 rfl (lv_at hl 3 rfl) ?_
      refine lv_iload_n hx hb dL_meets_171 rfl (lv_at hl 4 rfl) ?_
      refine lv_iload_n hx hb dL_meets_172 rfl (lv_at hl 5 rfl) ?_
      refine lv_iload hx hb dL_meets_173 (lv_at hl 1 rfl) ?_
      refine g_callSi (vx_runSW (As := [.ref (ad (0, 0, 0)), .int (nI a), .int (nI b), .int (nI (t + k5))]) (rest := []) ⟨hx, hb, hml, hown, hts⟩ (l_see l hn hc ha hb9 (show _ ≤ 1000000 by omega)) (vx_cwSW 4 hts gL_meets_L_see rfl rfl rfl (by decide +kernel) ⟨Nat.le_of_ble_eq_true rfl, Nat.le_of_ble_eq_true rfl⟩) (g_preS hF hG hS) rfl rfl hl.1 rfl (lv_room (Nat.le_of_ble_eq_true rfl)) dL_meets_175 ⟨Nat.le_of_ble_eq_true rfl, Nat.le_of_ble_eq_true rfl⟩) (fun r_27 h_28 => ?_)
      refine lv_to (y := nI 1) (h_28.trans (sI_t (e2))) ?_
      refine lv_iconst (v := nI 1) hx hb dL_meets_178 (by decide) ?_
      refine lv_icmp_ne (tgt := 218) hx hb dL_meets_179 (by decide) (fun c => absurd (rfl) c) (fun _ => ?_)
      refine lv_iload hx hb dL_meets_182 (lv_at hl 1 rfl) ?_
      refine lv_iload_n hx hb dL_meets_184 rfl (lv_at hl 6 rfl) ?_
      refine lv_icmp_eq (tgt := 214) hx hb dL_meets_185 (by decide) (fun c => absurd c (by rw [nI_eq (by omega) (by omega)]; omega)) (fun _ => ?_)
      refine lv_aload_n hx hb dL_meets_188 rfl (lv_at hl 3 rfl) ?_
      refine lv_iload_n hx hb dL_meets_189 rfl (lv_at hl 4 rfl) ?_
      refine lv_iload_n hx hb dL_meets_190 rfl (lv_at hl 5 rfl) ?_
      refine lv_iload hx hb dL_meets_191 (lv_at hl 1 rfl) ?_
      refine lv_iconst (v := nI 1) hx hb dL_meets_193 (by decide) ?_
      refine lv_isub hx hb dL_meets_194 ?_
      refine lv_to (y := nI (t + (k5 - 1))) ((pk_sub (by omega)).trans (congrArg nI (by omega))) ?_
      refine g_callSi (vx_runSW (As := [.ref (ad (0, 0, 0)), .int (nI a), .int (nI b), .int (nI (t + (k5 - 1)))]) (rest := []) ⟨hx, hb, hml, hown, hts⟩ (l_see l hn hc ha hb9 (show _ ≤ 1000000 by omega)) (vx_cwSW 4 hts gL_meets_L_see rfl rfl rfl (by decide +kernel) ⟨Nat.le_of_ble_eq_true rfl, Nat.le_of_ble_eq_true rfl⟩) (g_preS hF hG hS) rfl rfl hl.1 rfl (lv_room (Nat.le_of_ble_eq_true rfl)) dL_meets_195 ⟨Nat.le_of_ble_eq_true rfl, Nat.le_of_ble_eq_true rfl⟩) (fun r_29 h_30 => ?_)
      refine lv_to (y := nI 0) (h_30.trans (sI_f (e3 _ (by omega)))) ?_
      refine lv_if_ne (tgt := 218) hx hb dL_meets_198 (by decide) (fun c => absurd (by decide) c) (fun _ => ?_)
      refine lv_aload_n hx hb dL_meets_201 rfl (lv_at hl 3 rfl) ?_
      refine lv_iload_n hx hb dL_meets_202 rfl (lv_at hl 4 rfl) ?_
      refine lv_iload_n hx hb dL_meets_203 rfl (lv_at hl 5 rfl) ?_
      refine lv_iload hx hb dL_meets_204 (lv_at hl 1 rfl) ?_
      refine g_callSi (vx_runSW (As := [.ref (ad (0, 0, 0)), .int (nI a), .int (nI b), .int (nI (t + k5))]) (rest := []) ⟨hx, hb, hml, hown, hts⟩ (l_contact l hn hc ha hb9 (show t + k5 ≤ 1000000 by omega)) (vx_cwSW 4 hts gL_meets_L_contact rfl rfl rfl (by decide +kernel) ⟨Nat.le_of_ble_eq_true rfl, Nat.le_of_ble_eq_true rfl⟩) (g_preS hF hG hS) rfl rfl hl.1 rfl (lv_room (Nat.le_of_ble_eq_true rfl)) dL_meets_206 ⟨Nat.le_of_ble_eq_true rfl, Nat.le_of_ble_eq_true rfl⟩) (fun r_31 h_32 => ?_)
      refine lv_to (y := nI (t + k5)) (contact_self e2 h_32) ?_
      refine lv_iload hx hb dL_meets_209 (lv_at hl 1 rfl) ?_
      refine lv_icmp_ne (tgt := 218) hx hb dL_meets_211 (by decide) (fun c => absurd (rfl) c) (fun _ => ?_)
      refine lv_iconst (v := nI 1) hx hb dL_meets_214 (by decide) ?_
      refine lv_goto (tgt := 219) hx hb dL_meets_215 (by decide) ?_
      refine lv_istore (lv' := [(6, .int (nI 1)), (5, .int (nI (t + k5))), (4, .int (nI 0)), (0, .ref (ad (0, 0, 0))), (1, .int (nI a)), (2, .int (nI b)), (3, .int (nI t))]) hx hb dL_meets_219 hl (by decide) rfl (fun ls hl => ?_)
      refine lv_iload hx hb dL_meets_221 (lv_at hl 0 rfl) ?_
      refine lv_if_eq (tgt := 272) hx hb dL_meets_223 (by decide) (fun c => absurd c (by decide)) (fun _ => ?_)
      refine lv_iload hx hb dL_meets_226 (lv_at hl 2 rfl) ?_
      refine lv_if_eq (tgt := 268) hx hb dL_meets_228 (by decide) (fun _ => ?_) (fun c => absurd (by decide) c)
      refine lv_iconst (v := nI 1) hx hb dL_meets_268 (by decide) ?_
      refine lv_goto (tgt := 273) hx hb dL_meets_269 (by decide) ?_
      refine lv_istore (lv' := [(6, .int (nI 1)), (5, .int (nI (t + k5))), (4, .int (nI 0)), (0, .ref (ad (0, 0, 0))), (1, .int (nI a)), (2, .int (nI b)), (3, .int (nI t))]) hx hb dL_meets_273 hl (by decide) rfl (fun ls hl => ?_)
      exact seg3 _ (Or.inr ⟨k5, e1, e2, rfl⟩) ls (lv_sub hl [0, 1, 3, 4, 5, 6] rfl)
    · have hsee : see g a b t = true := v1 0 hkv
      have hk5 : k5 = 0 := Nat.le_zero.mp (Nat.le_of_not_lt (fun z => absurd ((e3 0 z).symm.trans hsee) (by decide)))
      rcases Nat.lt_or_ge kv 360 with hkm | hkm
      · refine g_callSi (vx_runSW (As := [.ref (ad (0, 0, 0)), .int (nI a), .int (nI b), .int (nI t)]) (rest := []) ⟨hx, hb, hml, hown, hts⟩ (l_see l hn hc ha hb9 (show _ ≤ 1000000 by omega)) (vx_cwSW 4 hts gL_meets_L_see rfl rfl rfl (by decide +kernel) ⟨Nat.le_of_ble_eq_true rfl, Nat.le_of_ble_eq_true rfl⟩) (g_preS hF hG hS) rfl rfl hl.1 rfl (lv_room (Nat.le_of_ble_eq_true rfl)) dL_meets_22 ⟨Nat.le_of_ble_eq_true rfl, Nat.le_of_ble_eq_true rfl⟩) (fun r_33 h_34 => ?_)
        refine lv_to (y := nI 1) (h_34.trans (sI_t (hsee))) ?_
        refine lv_aload_n hx hb dL_meets_25 rfl (lv_at hl 2 rfl) ?_
        refine lv_iload_n hx hb dL_meets_26 rfl (lv_at hl 4 rfl) ?_
        refine lv_iload_n hx hb dL_meets_27 rfl (lv_at hl 3 rfl) ?_
        refine lv_iload_n hx hb dL_meets_28 rfl (lv_at hl 5 rfl) ?_
        refine g_callSi (vx_runSW (As := [.ref (ad (0, 0, 0)), .int (nI b), .int (nI a), .int (nI t)]) (rest := [.int (nI 1)]) ⟨hx, hb, hml, hown, hts⟩ (l_see l hn hc hb9 ha (show _ ≤ 1000000 by omega)) (vx_cwSW 4 hts gL_meets_L_see rfl rfl rfl (by decide +kernel) ⟨Nat.le_of_ble_eq_true rfl, Nat.le_of_ble_eq_true rfl⟩) (g_preS hF hG hS) rfl rfl hl.1 rfl (lv_room (Nat.le_of_ble_eq_true rfl)) dL_meets_29 ⟨Nat.le_of_ble_eq_true rfl, Nat.le_of_ble_eq_true rfl⟩) (fun r_35 h_36 => ?_)
        refine lv_to (y := nI 1) (h_36.trans (sI_t ((hs9 t).symm.trans hsee))) ?_
        refine lv_icmp_ne (tgt := 109) hx hb dL_meets_32 (by decide) (fun c => absurd (rfl) c) (fun _ => ?_)
        refine lv_aload_n hx hb dL_meets_35 rfl (lv_at hl 2 rfl) ?_
        refine lv_iload_n hx hb dL_meets_36 rfl (lv_at hl 3 rfl) ?_
        refine lv_iload_n hx hb dL_meets_37 rfl (lv_at hl 4 rfl) ?_
        refine lv_iload_n hx hb dL_meets_38 rfl (lv_at hl 5 rfl) ?_
        refine g_callSi (vx_runSW (As := [.ref (ad (0, 0, 0)), .int (nI a), .int (nI b), .int (nI t)]) (rest := []) ⟨hx, hb, hml, hown, hts⟩ (l_see l hn hc ha hb9 (show _ ≤ 1000000 by omega)) (vx_cwSW 4 hts gL_meets_L_see rfl rfl rfl (by decide +kernel) ⟨Nat.le_of_ble_eq_true rfl, Nat.le_of_ble_eq_true rfl⟩) (g_preS hF hG hS) rfl rfl hl.1 rfl (lv_room (Nat.le_of_ble_eq_true rfl)) dL_meets_39 ⟨Nat.le_of_ble_eq_true rfl, Nat.le_of_ble_eq_true rfl⟩) (fun r_37 h_38 => ?_)
        refine lv_to (y := nI 1) (h_38.trans (sI_t (hsee))) ?_
        refine lv_aload_n hx hb dL_meets_42 rfl (lv_at hl 2 rfl) ?_
        refine lv_iload_n hx hb dL_meets_43 rfl (lv_at hl 3 rfl) ?_
        refine lv_iload_n hx hb dL_meets_44 rfl (lv_at hl 4 rfl) ?_
        refine lv_iload_n hx hb dL_meets_45 rfl (lv_at hl 5 rfl) ?_
        refine lv_sipush (v := nI 360) hx hb dL_meets_46 (by decide) ?_
        refine lv_iadd hx hb dL_meets_49 ?_
        refine lv_to (y := nI (t + 360)) (nI_add t 360) ?_
        refine g_callSi (vx_runSW (As := [.ref (ad (0, 0, 0)), .int (nI a), .int (nI b), .int (nI (t + 360))]) (rest := [.int (nI 1)]) ⟨hx, hb, hml, hown, hts⟩ (l_see l hn hc ha hb9 (show _ ≤ 1000000 by omega)) (vx_cwSW 4 hts gL_meets_L_see rfl rfl rfl (by decide +kernel) ⟨Nat.le_of_ble_eq_true rfl, Nat.le_of_ble_eq_true rfl⟩) (g_preS hF hG hS) rfl rfl hl.1 rfl (lv_room (Nat.le_of_ble_eq_true rfl)) dL_meets_50 ⟨Nat.le_of_ble_eq_true rfl, Nat.le_of_ble_eq_true rfl⟩) (fun r_39 h_40 => ?_)
        refine lv_to (y := nI 1) (h_40.trans (sI_t (h360.trans hsee))) ?_
        refine lv_icmp_ne (tgt := 109) hx hb dL_meets_53 (by decide) (fun c => absurd (rfl) c) (fun _ => ?_)
        refine lv_aload_n hx hb dL_meets_56 rfl (lv_at hl 2 rfl) ?_
        refine lv_iload_n hx hb dL_meets_57 rfl (lv_at hl 3 rfl) ?_
        refine lv_iload_n hx hb dL_meets_58 rfl (lv_at hl 4 rfl) ?_
        refine lv_iload_n hx hb dL_meets_59 rfl (lv_at hl 5 rfl) ?_
        refine g_callSi (vx_runSW (As := [.ref (ad (0, 0, 0)), .int (nI a), .int (nI b), .int (nI t)]) (rest := []) ⟨hx, hb, hml, hown, hts⟩ (l_see l hn hc ha hb9 (show _ ≤ 1000000 by omega)) (vx_cwSW 4 hts gL_meets_L_see rfl rfl rfl (by decide +kernel) ⟨Nat.le_of_ble_eq_true rfl, Nat.le_of_ble_eq_true rfl⟩) (g_preS hF hG hS) rfl rfl hl.1 rfl (lv_room (Nat.le_of_ble_eq_true rfl)) dL_meets_60 ⟨Nat.le_of_ble_eq_true rfl, Nat.le_of_ble_eq_true rfl⟩) (fun r_41 h_42 => ?_)
        refine lv_to (y := nI 1) (h_42.trans (sI_t (hsee))) ?_
        refine lv_iconst (v := nI 1) hx hb dL_meets_63 (by decide) ?_
        refine lv_icmp_ne (tgt := 71) hx hb dL_meets_64 (by decide) (fun c => absurd (rfl) c) (fun _ => ?_)
        refine lv_iconst (v := nI 1) hx hb dL_meets_67 (by decide) ?_
        refine lv_goto (tgt := 72) hx hb dL_meets_68 (by decide) ?_
        refine lv_iload hx hb dL_meets_72 (lv_at hl 1 rfl) ?_
        refine lv_if_le (tgt := 81) hx hb dL_meets_74 (by decide) (fun c => absurd c (nI_nle (by omega) (by omega))) (fun _ => ?_)
        refine lv_iconst (v := nI 1) hx hb dL_meets_77 (by decide) ?_
        refine lv_goto (tgt := 82) hx hb dL_meets_78 (by decide) ?_
        refine lv_icmp_ne (tgt := 109) hx hb dL_meets_82 (by decide) (fun c => absurd (rfl) c) (fun _ => ?_)
        refine lv_iload hx hb dL_meets_85 (lv_at hl 1 rfl) ?_
        refine lv_aload_n hx hb dL_meets_87 rfl (lv_at hl 2 rfl) ?_
        refine lv_iload_n hx hb dL_meets_88 rfl (lv_at hl 4 rfl) ?_
        refine lv_iload_n hx hb dL_meets_89 rfl (lv_at hl 3 rfl) ?_
        refine lv_iload_n hx hb dL_meets_90 rfl (lv_at hl 5 rfl) ?_
        refine g_callSi (vx_runSW (As := [.ref (ad (0, 0, 0)), .int (nI b), .int (nI a), .int (nI t)]) (rest := [.int (nI kv)]) ⟨hx, hb, hml, hown, hts⟩ (l_view l hn hc hb9 ha (show t ≤ 1000000 by omega)) (vx_cwSW 4 hts gL_meets_L_view rfl rfl rfl (by decide +kernel) ⟨Nat.le_of_ble_eq_true rfl, Nat.le_of_ble_eq_true rfl⟩) (g_preS hF hG hS) rfl rfl hl.1 rfl (lv_room (Nat.le_of_ble_eq_true rfl)) dL_meets_91 ⟨Nat.le_of_ble_eq_true rfl, Nat.le_of_ble_eq_true rfl⟩) (fun r_43 h_44 => ?_)
        obtain ⟨k_45, w0, w1, w2, w3⟩ := h_44
        refine lv_to (y := nI kv) (w3.trans (congrArg nI (view_one hsv v0 v1 v2 w0 w1 w2).symm)) ?_
        refine lv_icmp_ne (tgt := 109) hx hb dL_meets_94 (by decide) (fun c => absurd (rfl) c) (fun _ => ?_)
        refine lv_iload hx hb dL_meets_97 (lv_at hl 1 rfl) ?_
        refine lv_sipush (v := nI 360) hx hb dL_meets_99 (by decide) ?_
        refine lv_icmp_gt (tgt := 109) hx hb dL_meets_102 (by decide) (fun c => absurd c (by rw [nI_ltI (by omega) (by omega)]; omega)) (fun _ => ?_)
        refine lv_iconst (v := nI 1) hx hb dL_meets_105 (by decide) ?_
        refine lv_goto (tgt := 110) hx hb dL_meets_106 (by decide) ?_
        refine lv_istore (lv' := [(6, .int (nI 1)), (5, .int (nI (t + k5))), (4, .int (nI kv)), (0, .ref (ad (0, 0, 0))), (1, .int (nI a)), (2, .int (nI b)), (3, .int (nI t))]) hx hb dL_meets_110 hl (by decide) rfl (fun ls hl => ?_)
        refine lv_iload hx hb dL_meets_112 (lv_at hl 0 rfl) ?_
        refine lv_if_eq (tgt := 218) hx hb dL_meets_114 (by decide) (fun c => absurd c (by decide)) (fun _ => ?_)
        refine lv_iload hx hb dL_meets_117 (lv_at hl 2 rfl) ?_
        refine lv_if_eq (tgt := 128) hx hb dL_meets_119 (by decide) (fun c => absurd c (nI_ne0 (by omega) (by omega))) (fun _ => ?_)
        refine lv_iload hx hb dL_meets_122 (lv_at hl 1 rfl) ?_
        refine lv_iload_n hx hb dL_meets_124 rfl (lv_at hl 6 rfl) ?_
        refine lv_icmp_ne (tgt := 218) hx hb dL_meets_125 (by decide) (fun c => absurd (by rw [nI_eq (by omega) (by omega)]; omega) c) (fun _ => ?_)
        refine lv_iload hx hb dL_meets_128 (lv_at hl 1 rfl) ?_
        refine lv_if_ge (tgt := 154) hx hb dL_meets_130 (by decide) (fun _ => ?_) (fun c => absurd (nI_pos' (by omega)) c)
        refine lv_iload hx hb dL_meets_154 (lv_at hl 1 rfl) ?_
        refine lv_iload_n hx hb dL_meets_156 rfl (lv_at hl 6 rfl) ?_
        refine lv_icmp_lt (tgt := 218) hx hb dL_meets_157 (by decide) (fun c => absurd c (by rw [nI_ltI (by omega) (by omega)]; omega)) (fun _ => ?_)
        refine lv_iload hx hb dL_meets_160 (lv_at hl 1 rfl) ?_
        refine lv_iload_n hx hb dL_meets_162 rfl (lv_at hl 6 rfl) ?_
        refine lv_sipush (v := nI 360) hx hb dL_meets_163 (by decide) ?_
        refine lv_iadd hx hb dL_meets_166 ?_
        refine lv_to (y := nI (t + 360)) (nI_add t 360) ?_
        refine lv_icmp_ge (tgt := 218) hx hb dL_meets_167 (by decide) (fun c => absurd c (by rw [nI_leI (by omega) (by omega)]; omega)) (fun _ => ?_)
        refine lv_aload_n hx hb dL_meets_170 rfl (lv_at hl 3 rfl) ?_
        refine lv_iload_n hx hb dL_meets_171 rfl (lv_at hl 4 rfl) ?_
        refine lv_iload_n hx hb dL_meets_172 rfl (lv_at hl 5 rfl) ?_
        refine lv_iload hx hb dL_meets_173 (lv_at hl 1 rfl) ?_
        refine g_callSi (vx_runSW (As := [.ref (ad (0, 0, 0)), .int (nI a), .int (nI b), .int (nI (t + k5))]) (rest := []) ⟨hx, hb, hml, hown, hts⟩ (l_see l hn hc ha hb9 (show _ ≤ 1000000 by omega)) (vx_cwSW 4 hts gL_meets_L_see rfl rfl rfl (by decide +kernel) ⟨Nat.le_of_ble_eq_true rfl, Nat.le_of_ble_eq_true rfl⟩) (g_preS hF hG hS) rfl rfl hl.1 rfl (lv_room (Nat.le_of_ble_eq_true rfl)) dL_meets_175 ⟨Nat.le_of_ble_eq_true rfl, Nat.le_of_ble_eq_true rfl⟩) (fun r_46 h_47 => ?_)
        refine lv_to (y := nI 1) (h_47.trans (sI_t (e2))) ?_
        refine lv_iconst (v := nI 1) hx hb dL_meets_178 (by decide) ?_
        refine lv_icmp_ne (tgt := 218) hx hb dL_meets_179 (by decide) (fun c => absurd (rfl) c) (fun _ => ?_)
        refine lv_iload hx hb dL_meets_182 (lv_at hl 1 rfl) ?_
        refine lv_iload_n hx hb dL_meets_184 rfl (lv_at hl 6 rfl) ?_
        refine lv_icmp_eq (tgt := 214) hx hb dL_meets_185 (by decide) (fun _ => ?_) (fun c => absurd (by rw [nI_eq (by omega) (by omega)]; omega) c)
        refine lv_iconst (v := nI 1) hx hb dL_meets_214 (by decide) ?_
        refine lv_goto (tgt := 219) hx hb dL_meets_215 (by decide) ?_
        refine lv_istore (lv' := [(6, .int (nI 1)), (5, .int (nI (t + k5))), (4, .int (nI kv)), (0, .ref (ad (0, 0, 0))), (1, .int (nI a)), (2, .int (nI b)), (3, .int (nI t))]) hx hb dL_meets_219 hl (by decide) rfl (fun ls hl => ?_)
        refine lv_iload hx hb dL_meets_221 (lv_at hl 0 rfl) ?_
        refine lv_if_eq (tgt := 272) hx hb dL_meets_223 (by decide) (fun c => absurd c (by decide)) (fun _ => ?_)
        refine lv_iload hx hb dL_meets_226 (lv_at hl 2 rfl) ?_
        refine lv_if_eq (tgt := 268) hx hb dL_meets_228 (by decide) (fun c => absurd c (nI_ne0 (by omega) (by omega))) (fun _ => ?_)
        refine lv_iload hx hb dL_meets_231 (lv_at hl 2 rfl) ?_
        refine lv_sipush (v := nI 360) hx hb dL_meets_233 (by decide) ?_
        refine lv_icmp_eq (tgt := 268) hx hb dL_meets_236 (by decide) (fun c => absurd c (by rw [nI_eq (by omega) (by omega)]; omega)) (fun _ => ?_)
        refine lv_aload_n hx hb dL_meets_239 rfl (lv_at hl 3 rfl) ?_
        refine lv_iload_n hx hb dL_meets_240 rfl (lv_at hl 4 rfl) ?_
        refine lv_iload_n hx hb dL_meets_241 rfl (lv_at hl 5 rfl) ?_
        refine lv_iload_n hx hb dL_meets_242 rfl (lv_at hl 6 rfl) ?_
        refine lv_iload hx hb dL_meets_243 (lv_at hl 2 rfl) ?_
        refine lv_iadd hx hb dL_meets_245 ?_
        refine lv_to (y := nI (t + kv)) (nI_add t kv) ?_
        refine g_callSi (vx_runSW (As := [.ref (ad (0, 0, 0)), .int (nI a), .int (nI b), .int (nI (t + kv))]) (rest := []) ⟨hx, hb, hml, hown, hts⟩ (l_see l hn hc ha hb9 (show _ ≤ 1000000 by omega)) (vx_cwSW 4 hts gL_meets_L_see rfl rfl rfl (by decide +kernel) ⟨Nat.le_of_ble_eq_true rfl, Nat.le_of_ble_eq_true rfl⟩) (g_preS hF hG hS) rfl rfl hl.1 rfl (lv_room (Nat.le_of_ble_eq_true rfl)) dL_meets_246 ⟨Nat.le_of_ble_eq_true rfl, Nat.le_of_ble_eq_true rfl⟩) (fun r_48 h_49 => ?_)
        refine lv_to (y := nI 0) (h_49.trans (sI_f (v2 (by omega)))) ?_
        refine lv_if_ne (tgt := 272) hx hb dL_meets_249 (by decide) (fun c => absurd (by decide) c) (fun _ => ?_)
        refine lv_aload_n hx hb dL_meets_252 rfl (lv_at hl 3 rfl) ?_
        refine lv_iload_n hx hb dL_meets_253 rfl (lv_at hl 4 rfl) ?_
        refine lv_iload_n hx hb dL_meets_254 rfl (lv_at hl 5 rfl) ?_
        refine lv_iload_n hx hb dL_meets_255 rfl (lv_at hl 6 rfl) ?_
        refine lv_iload hx hb dL_meets_256 (lv_at hl 2 rfl) ?_
        refine lv_iadd hx hb dL_meets_258 ?_
        refine lv_to (y := nI (t + kv)) (nI_add t kv) ?_
        refine lv_iconst (v := nI 1) hx hb dL_meets_259 (by decide) ?_
        refine lv_isub hx hb dL_meets_260 ?_
        refine lv_to (y := nI (t + (kv - 1))) ((pk_sub (by omega)).trans (congrArg nI (by omega))) ?_
        refine g_callSi (vx_runSW (As := [.ref (ad (0, 0, 0)), .int (nI a), .int (nI b), .int (nI (t + (kv - 1)))]) (rest := []) ⟨hx, hb, hml, hown, hts⟩ (l_see l hn hc ha hb9 (show _ ≤ 1000000 by omega)) (vx_cwSW 4 hts gL_meets_L_see rfl rfl rfl (by decide +kernel) ⟨Nat.le_of_ble_eq_true rfl, Nat.le_of_ble_eq_true rfl⟩) (g_preS hF hG hS) rfl rfl hl.1 rfl (lv_room (Nat.le_of_ble_eq_true rfl)) dL_meets_261 ⟨Nat.le_of_ble_eq_true rfl, Nat.le_of_ble_eq_true rfl⟩) (fun r_50 h_51 => ?_)
        refine lv_to (y := nI 1) (h_51.trans (sI_t (v1 _ (by omega)))) ?_
        refine lv_iconst (v := nI 1) hx hb dL_meets_264 (by decide) ?_
        refine lv_icmp_ne (tgt := 272) hx hb dL_meets_265 (by decide) (fun c => absurd (rfl) c) (fun _ => ?_)
        refine lv_iconst (v := nI 1) hx hb dL_meets_268 (by decide) ?_
        refine lv_goto (tgt := 273) hx hb dL_meets_269 (by decide) ?_
        refine lv_istore (lv' := [(6, .int (nI 1)), (5, .int (nI (t + k5))), (4, .int (nI kv)), (0, .ref (ad (0, 0, 0))), (1, .int (nI a)), (2, .int (nI b)), (3, .int (nI t))]) hx hb dL_meets_273 hl (by decide) rfl (fun ls hl => ?_)
        exact seg3 _ (Or.inr ⟨k5, e1, e2, rfl⟩) ls (lv_sub hl [0, 1, 3, 4, 5, 6] rfl)
      · have h3 : kv = 360 := by omega
        subst h3
        refine g_callSi (vx_runSW (As := [.ref (ad (0, 0, 0)), .int (nI a), .int (nI b), .int (nI t)]) (rest := []) ⟨hx, hb, hml, hown, hts⟩ (l_see l hn hc ha hb9 (show _ ≤ 1000000 by omega)) (vx_cwSW 4 hts gL_meets_L_see rfl rfl rfl (by decide +kernel) ⟨Nat.le_of_ble_eq_true rfl, Nat.le_of_ble_eq_true rfl⟩) (g_preS hF hG hS) rfl rfl hl.1 rfl (lv_room (Nat.le_of_ble_eq_true rfl)) dL_meets_22 ⟨Nat.le_of_ble_eq_true rfl, Nat.le_of_ble_eq_true rfl⟩) (fun r_52 h_53 => ?_)
        refine lv_to (y := nI 1) (h_53.trans (sI_t (hsee))) ?_
        refine lv_aload_n hx hb dL_meets_25 rfl (lv_at hl 2 rfl) ?_
        refine lv_iload_n hx hb dL_meets_26 rfl (lv_at hl 4 rfl) ?_
        refine lv_iload_n hx hb dL_meets_27 rfl (lv_at hl 3 rfl) ?_
        refine lv_iload_n hx hb dL_meets_28 rfl (lv_at hl 5 rfl) ?_
        refine g_callSi (vx_runSW (As := [.ref (ad (0, 0, 0)), .int (nI b), .int (nI a), .int (nI t)]) (rest := [.int (nI 1)]) ⟨hx, hb, hml, hown, hts⟩ (l_see l hn hc hb9 ha (show _ ≤ 1000000 by omega)) (vx_cwSW 4 hts gL_meets_L_see rfl rfl rfl (by decide +kernel) ⟨Nat.le_of_ble_eq_true rfl, Nat.le_of_ble_eq_true rfl⟩) (g_preS hF hG hS) rfl rfl hl.1 rfl (lv_room (Nat.le_of_ble_eq_true rfl)) dL_meets_29 ⟨Nat.le_of_ble_eq_true rfl, Nat.le_of_ble_eq_true rfl⟩) (fun r_54 h_55 => ?_)
        refine lv_to (y := nI 1) (h_55.trans (sI_t ((hs9 t).symm.trans hsee))) ?_
        refine lv_icmp_ne (tgt := 109) hx hb dL_meets_32 (by decide) (fun c => absurd (rfl) c) (fun _ => ?_)
        refine lv_aload_n hx hb dL_meets_35 rfl (lv_at hl 2 rfl) ?_
        refine lv_iload_n hx hb dL_meets_36 rfl (lv_at hl 3 rfl) ?_
        refine lv_iload_n hx hb dL_meets_37 rfl (lv_at hl 4 rfl) ?_
        refine lv_iload_n hx hb dL_meets_38 rfl (lv_at hl 5 rfl) ?_
        refine g_callSi (vx_runSW (As := [.ref (ad (0, 0, 0)), .int (nI a), .int (nI b), .int (nI t)]) (rest := []) ⟨hx, hb, hml, hown, hts⟩ (l_see l hn hc ha hb9 (show _ ≤ 1000000 by omega)) (vx_cwSW 4 hts gL_meets_L_see rfl rfl rfl (by decide +kernel) ⟨Nat.le_of_ble_eq_true rfl, Nat.le_of_ble_eq_true rfl⟩) (g_preS hF hG hS) rfl rfl hl.1 rfl (lv_room (Nat.le_of_ble_eq_true rfl)) dL_meets_39 ⟨Nat.le_of_ble_eq_true rfl, Nat.le_of_ble_eq_true rfl⟩) (fun r_56 h_57 => ?_)
        refine lv_to (y := nI 1) (h_57.trans (sI_t (hsee))) ?_
        refine lv_aload_n hx hb dL_meets_42 rfl (lv_at hl 2 rfl) ?_
        refine lv_iload_n hx hb dL_meets_43 rfl (lv_at hl 3 rfl) ?_
        refine lv_iload_n hx hb dL_meets_44 rfl (lv_at hl 4 rfl) ?_
        refine lv_iload_n hx hb dL_meets_45 rfl (lv_at hl 5 rfl) ?_
        refine lv_sipush (v := nI 360) hx hb dL_meets_46 (by decide) ?_
        refine lv_iadd hx hb dL_meets_49 ?_
        refine lv_to (y := nI (t + 360)) (nI_add t 360) ?_
        refine g_callSi (vx_runSW (As := [.ref (ad (0, 0, 0)), .int (nI a), .int (nI b), .int (nI (t + 360))]) (rest := [.int (nI 1)]) ⟨hx, hb, hml, hown, hts⟩ (l_see l hn hc ha hb9 (show _ ≤ 1000000 by omega)) (vx_cwSW 4 hts gL_meets_L_see rfl rfl rfl (by decide +kernel) ⟨Nat.le_of_ble_eq_true rfl, Nat.le_of_ble_eq_true rfl⟩) (g_preS hF hG hS) rfl rfl hl.1 rfl (lv_room (Nat.le_of_ble_eq_true rfl)) dL_meets_50 ⟨Nat.le_of_ble_eq_true rfl, Nat.le_of_ble_eq_true rfl⟩) (fun r_58 h_59 => ?_)
        refine lv_to (y := nI 1) (h_59.trans (sI_t (h360.trans hsee))) ?_
        refine lv_icmp_ne (tgt := 109) hx hb dL_meets_53 (by decide) (fun c => absurd (rfl) c) (fun _ => ?_)
        refine lv_aload_n hx hb dL_meets_56 rfl (lv_at hl 2 rfl) ?_
        refine lv_iload_n hx hb dL_meets_57 rfl (lv_at hl 3 rfl) ?_
        refine lv_iload_n hx hb dL_meets_58 rfl (lv_at hl 4 rfl) ?_
        refine lv_iload_n hx hb dL_meets_59 rfl (lv_at hl 5 rfl) ?_
        refine g_callSi (vx_runSW (As := [.ref (ad (0, 0, 0)), .int (nI a), .int (nI b), .int (nI t)]) (rest := []) ⟨hx, hb, hml, hown, hts⟩ (l_see l hn hc ha hb9 (show _ ≤ 1000000 by omega)) (vx_cwSW 4 hts gL_meets_L_see rfl rfl rfl (by decide +kernel) ⟨Nat.le_of_ble_eq_true rfl, Nat.le_of_ble_eq_true rfl⟩) (g_preS hF hG hS) rfl rfl hl.1 rfl (lv_room (Nat.le_of_ble_eq_true rfl)) dL_meets_60 ⟨Nat.le_of_ble_eq_true rfl, Nat.le_of_ble_eq_true rfl⟩) (fun r_60 h_61 => ?_)
        refine lv_to (y := nI 1) (h_61.trans (sI_t (hsee))) ?_
        refine lv_iconst (v := nI 1) hx hb dL_meets_63 (by decide) ?_
        refine lv_icmp_ne (tgt := 71) hx hb dL_meets_64 (by decide) (fun c => absurd (rfl) c) (fun _ => ?_)
        refine lv_iconst (v := nI 1) hx hb dL_meets_67 (by decide) ?_
        refine lv_goto (tgt := 72) hx hb dL_meets_68 (by decide) ?_
        refine lv_iload hx hb dL_meets_72 (lv_at hl 1 rfl) ?_
        refine lv_if_le (tgt := 81) hx hb dL_meets_74 (by decide) (fun c => absurd c (by decide)) (fun _ => ?_)
        refine lv_iconst (v := nI 1) hx hb dL_meets_77 (by decide) ?_
        refine lv_goto (tgt := 82) hx hb dL_meets_78 (by decide) ?_
        refine lv_icmp_ne (tgt := 109) hx hb dL_meets_82 (by decide) (fun c => absurd (rfl) c) (fun _ => ?_)
        refine lv_iload hx hb dL_meets_85 (lv_at hl 1 rfl) ?_
        refine lv_aload_n hx hb dL_meets_87 rfl (lv_at hl 2 rfl) ?_
        refine lv_iload_n hx hb dL_meets_88 rfl (lv_at hl 4 rfl) ?_
        refine lv_iload_n hx hb dL_meets_89 rfl (lv_at hl 3 rfl) ?_
        refine lv_iload_n hx hb dL_meets_90 rfl (lv_at hl 5 rfl) ?_
        refine g_callSi (vx_runSW (As := [.ref (ad (0, 0, 0)), .int (nI b), .int (nI a), .int (nI t)]) (rest := [.int (nI 360)]) ⟨hx, hb, hml, hown, hts⟩ (l_view l hn hc hb9 ha (show t ≤ 1000000 by omega)) (vx_cwSW 4 hts gL_meets_L_view rfl rfl rfl (by decide +kernel) ⟨Nat.le_of_ble_eq_true rfl, Nat.le_of_ble_eq_true rfl⟩) (g_preS hF hG hS) rfl rfl hl.1 rfl (lv_room (Nat.le_of_ble_eq_true rfl)) dL_meets_91 ⟨Nat.le_of_ble_eq_true rfl, Nat.le_of_ble_eq_true rfl⟩) (fun r_62 h_63 => ?_)
        obtain ⟨k_64, w0, w1, w2, w3⟩ := h_63
        refine lv_to (y := nI 360) (w3.trans (congrArg nI (view_one hsv v0 v1 v2 w0 w1 w2).symm)) ?_
        refine lv_icmp_ne (tgt := 109) hx hb dL_meets_94 (by decide) (fun c => absurd (rfl) c) (fun _ => ?_)
        refine lv_iload hx hb dL_meets_97 (lv_at hl 1 rfl) ?_
        refine lv_sipush (v := nI 360) hx hb dL_meets_99 (by decide) ?_
        refine lv_icmp_gt (tgt := 109) hx hb dL_meets_102 (by decide) (fun c => absurd c (by rw [nI_ltI (by omega) (by omega)]; omega)) (fun _ => ?_)
        refine lv_iconst (v := nI 1) hx hb dL_meets_105 (by decide) ?_
        refine lv_goto (tgt := 110) hx hb dL_meets_106 (by decide) ?_
        refine lv_istore (lv' := [(6, .int (nI 1)), (5, .int (nI (t + k5))), (4, .int (nI 360)), (0, .ref (ad (0, 0, 0))), (1, .int (nI a)), (2, .int (nI b)), (3, .int (nI t))]) hx hb dL_meets_110 hl (by decide) rfl (fun ls hl => ?_)
        refine lv_iload hx hb dL_meets_112 (lv_at hl 0 rfl) ?_
        refine lv_if_eq (tgt := 218) hx hb dL_meets_114 (by decide) (fun c => absurd c (by decide)) (fun _ => ?_)
        refine lv_iload hx hb dL_meets_117 (lv_at hl 2 rfl) ?_
        refine lv_if_eq (tgt := 128) hx hb dL_meets_119 (by decide) (fun c => absurd c (nI_ne0 (by omega) (by omega))) (fun _ => ?_)
        refine lv_iload hx hb dL_meets_122 (lv_at hl 1 rfl) ?_
        refine lv_iload_n hx hb dL_meets_124 rfl (lv_at hl 6 rfl) ?_
        refine lv_icmp_ne (tgt := 218) hx hb dL_meets_125 (by decide) (fun c => absurd (by rw [nI_eq (by omega) (by omega)]; omega) c) (fun _ => ?_)
        refine lv_iload hx hb dL_meets_128 (lv_at hl 1 rfl) ?_
        refine lv_if_ge (tgt := 154) hx hb dL_meets_130 (by decide) (fun _ => ?_) (fun c => absurd (nI_pos' (by omega)) c)
        refine lv_iload hx hb dL_meets_154 (lv_at hl 1 rfl) ?_
        refine lv_iload_n hx hb dL_meets_156 rfl (lv_at hl 6 rfl) ?_
        refine lv_icmp_lt (tgt := 218) hx hb dL_meets_157 (by decide) (fun c => absurd c (by rw [nI_ltI (by omega) (by omega)]; omega)) (fun _ => ?_)
        refine lv_iload hx hb dL_meets_160 (lv_at hl 1 rfl) ?_
        refine lv_iload_n hx hb dL_meets_162 rfl (lv_at hl 6 rfl) ?_
        refine lv_sipush (v := nI 360) hx hb dL_meets_163 (by decide) ?_
        refine lv_iadd hx hb dL_meets_166 ?_
        refine lv_to (y := nI (t + 360)) (nI_add t 360) ?_
        refine lv_icmp_ge (tgt := 218) hx hb dL_meets_167 (by decide) (fun c => absurd c (by rw [nI_leI (by omega) (by omega)]; omega)) (fun _ => ?_)
        refine lv_aload_n hx hb dL_meets_170 rfl (lv_at hl 3 rfl) ?_
        refine lv_iload_n hx hb dL_meets_171 rfl (lv_at hl 4 rfl) ?_
        refine lv_iload_n hx hb dL_meets_172 rfl (lv_at hl 5 rfl) ?_
        refine lv_iload hx hb dL_meets_173 (lv_at hl 1 rfl) ?_
        refine g_callSi (vx_runSW (As := [.ref (ad (0, 0, 0)), .int (nI a), .int (nI b), .int (nI (t + k5))]) (rest := []) ⟨hx, hb, hml, hown, hts⟩ (l_see l hn hc ha hb9 (show _ ≤ 1000000 by omega)) (vx_cwSW 4 hts gL_meets_L_see rfl rfl rfl (by decide +kernel) ⟨Nat.le_of_ble_eq_true rfl, Nat.le_of_ble_eq_true rfl⟩) (g_preS hF hG hS) rfl rfl hl.1 rfl (lv_room (Nat.le_of_ble_eq_true rfl)) dL_meets_175 ⟨Nat.le_of_ble_eq_true rfl, Nat.le_of_ble_eq_true rfl⟩) (fun r_65 h_66 => ?_)
        refine lv_to (y := nI 1) (h_66.trans (sI_t (e2))) ?_
        refine lv_iconst (v := nI 1) hx hb dL_meets_178 (by decide) ?_
        refine lv_icmp_ne (tgt := 218) hx hb dL_meets_179 (by decide) (fun c => absurd (rfl) c) (fun _ => ?_)
        refine lv_iload hx hb dL_meets_182 (lv_at hl 1 rfl) ?_
        refine lv_iload_n hx hb dL_meets_184 rfl (lv_at hl 6 rfl) ?_
        refine lv_icmp_eq (tgt := 214) hx hb dL_meets_185 (by decide) (fun _ => ?_) (fun c => absurd (by rw [nI_eq (by omega) (by omega)]; omega) c)
        refine lv_iconst (v := nI 1) hx hb dL_meets_214 (by decide) ?_
        refine lv_goto (tgt := 219) hx hb dL_meets_215 (by decide) ?_
        refine lv_istore (lv' := [(6, .int (nI 1)), (5, .int (nI (t + k5))), (4, .int (nI 360)), (0, .ref (ad (0, 0, 0))), (1, .int (nI a)), (2, .int (nI b)), (3, .int (nI t))]) hx hb dL_meets_219 hl (by decide) rfl (fun ls hl => ?_)
        refine lv_iload hx hb dL_meets_221 (lv_at hl 0 rfl) ?_
        refine lv_if_eq (tgt := 272) hx hb dL_meets_223 (by decide) (fun c => absurd c (by decide)) (fun _ => ?_)
        refine lv_iload hx hb dL_meets_226 (lv_at hl 2 rfl) ?_
        refine lv_if_eq (tgt := 268) hx hb dL_meets_228 (by decide) (fun c => absurd c (nI_ne0 (by omega) (by omega))) (fun _ => ?_)
        refine lv_iload hx hb dL_meets_231 (lv_at hl 2 rfl) ?_
        refine lv_sipush (v := nI 360) hx hb dL_meets_233 (by decide) ?_
        refine lv_icmp_eq (tgt := 268) hx hb dL_meets_236 (by decide) (fun _ => ?_) (fun c => absurd (rfl) c)
        refine lv_iconst (v := nI 1) hx hb dL_meets_268 (by decide) ?_
        refine lv_goto (tgt := 273) hx hb dL_meets_269 (by decide) ?_
        refine lv_istore (lv' := [(6, .int (nI 1)), (5, .int (nI (t + k5))), (4, .int (nI 360)), (0, .ref (ad (0, 0, 0))), (1, .int (nI a)), (2, .int (nI b)), (3, .int (nI t))]) hx hb dL_meets_273 hl (by decide) rfl (fun ls hl => ?_)
        exact seg3 _ (Or.inr ⟨k5, e1, e2, rfl⟩) ls (lv_sub hl [0, 1, 3, 4, 5, 6] rfl)
  · have hkv : kv = 0 := Nat.le_zero.mp (Nat.le_of_not_lt (fun z => absurd ((e1 0 (by decide)).symm.trans (v1 0 z)) (by decide)))
    subst hkv
    have hsee : see g a b t = false := e1 0 (by decide)
    refine g_callSi (vx_runSW (As := [.ref (ad (0, 0, 0)), .int (nI a), .int (nI b), .int (nI t)]) (rest := []) ⟨hx, hb, hml, hown, hts⟩ (l_see l hn hc ha hb9 (show _ ≤ 1000000 by omega)) (vx_cwSW 4 hts gL_meets_L_see rfl rfl rfl (by decide +kernel) ⟨Nat.le_of_ble_eq_true rfl, Nat.le_of_ble_eq_true rfl⟩) (g_preS hF hG hS) rfl rfl hl.1 rfl (lv_room (Nat.le_of_ble_eq_true rfl)) dL_meets_22 ⟨Nat.le_of_ble_eq_true rfl, Nat.le_of_ble_eq_true rfl⟩) (fun r_67 h_68 => ?_)
    refine lv_to (y := nI 0) (h_68.trans (sI_f (hsee))) ?_
    refine lv_aload_n hx hb dL_meets_25 rfl (lv_at hl 2 rfl) ?_
    refine lv_iload_n hx hb dL_meets_26 rfl (lv_at hl 4 rfl) ?_
    refine lv_iload_n hx hb dL_meets_27 rfl (lv_at hl 3 rfl) ?_
    refine lv_iload_n hx hb dL_meets_28 rfl (lv_at hl 5 rfl) ?_
    refine g_callSi (vx_runSW (As := [.ref (ad (0, 0, 0)), .int (nI b), .int (nI a), .int (nI t)]) (rest := [.int (nI 0)]) ⟨hx, hb, hml, hown, hts⟩ (l_see l hn hc hb9 ha (show _ ≤ 1000000 by omega)) (vx_cwSW 4 hts gL_meets_L_see rfl rfl rfl (by decide +kernel) ⟨Nat.le_of_ble_eq_true rfl, Nat.le_of_ble_eq_true rfl⟩) (g_preS hF hG hS) rfl rfl hl.1 rfl (lv_room (Nat.le_of_ble_eq_true rfl)) dL_meets_29 ⟨Nat.le_of_ble_eq_true rfl, Nat.le_of_ble_eq_true rfl⟩) (fun r_69 h_70 => ?_)
    refine lv_to (y := nI 0) (h_70.trans (sI_f ((hs9 t).symm.trans hsee))) ?_
    refine lv_icmp_ne (tgt := 109) hx hb dL_meets_32 (by decide) (fun c => absurd (rfl) c) (fun _ => ?_)
    refine lv_aload_n hx hb dL_meets_35 rfl (lv_at hl 2 rfl) ?_
    refine lv_iload_n hx hb dL_meets_36 rfl (lv_at hl 3 rfl) ?_
    refine lv_iload_n hx hb dL_meets_37 rfl (lv_at hl 4 rfl) ?_
    refine lv_iload_n hx hb dL_meets_38 rfl (lv_at hl 5 rfl) ?_
    refine g_callSi (vx_runSW (As := [.ref (ad (0, 0, 0)), .int (nI a), .int (nI b), .int (nI t)]) (rest := []) ⟨hx, hb, hml, hown, hts⟩ (l_see l hn hc ha hb9 (show _ ≤ 1000000 by omega)) (vx_cwSW 4 hts gL_meets_L_see rfl rfl rfl (by decide +kernel) ⟨Nat.le_of_ble_eq_true rfl, Nat.le_of_ble_eq_true rfl⟩) (g_preS hF hG hS) rfl rfl hl.1 rfl (lv_room (Nat.le_of_ble_eq_true rfl)) dL_meets_39 ⟨Nat.le_of_ble_eq_true rfl, Nat.le_of_ble_eq_true rfl⟩) (fun r_71 h_72 => ?_)
    refine lv_to (y := nI 0) (h_72.trans (sI_f (hsee))) ?_
    refine lv_aload_n hx hb dL_meets_42 rfl (lv_at hl 2 rfl) ?_
    refine lv_iload_n hx hb dL_meets_43 rfl (lv_at hl 3 rfl) ?_
    refine lv_iload_n hx hb dL_meets_44 rfl (lv_at hl 4 rfl) ?_
    refine lv_iload_n hx hb dL_meets_45 rfl (lv_at hl 5 rfl) ?_
    refine lv_sipush (v := nI 360) hx hb dL_meets_46 (by decide) ?_
    refine lv_iadd hx hb dL_meets_49 ?_
    refine lv_to (y := nI (t + 360)) (nI_add t 360) ?_
    refine g_callSi (vx_runSW (As := [.ref (ad (0, 0, 0)), .int (nI a), .int (nI b), .int (nI (t + 360))]) (rest := [.int (nI 0)]) ⟨hx, hb, hml, hown, hts⟩ (l_see l hn hc ha hb9 (show _ ≤ 1000000 by omega)) (vx_cwSW 4 hts gL_meets_L_see rfl rfl rfl (by decide +kernel) ⟨Nat.le_of_ble_eq_true rfl, Nat.le_of_ble_eq_true rfl⟩) (g_preS hF hG hS) rfl rfl hl.1 rfl (lv_room (Nat.le_of_ble_eq_true rfl)) dL_meets_50 ⟨Nat.le_of_ble_eq_true rfl, Nat.le_of_ble_eq_true rfl⟩) (fun r_73 h_74 => ?_)
    refine lv_to (y := nI 0) (h_74.trans (sI_f (h360.trans hsee))) ?_
    refine lv_icmp_ne (tgt := 109) hx hb dL_meets_53 (by decide) (fun c => absurd (rfl) c) (fun _ => ?_)
    refine lv_aload_n hx hb dL_meets_56 rfl (lv_at hl 2 rfl) ?_
    refine lv_iload_n hx hb dL_meets_57 rfl (lv_at hl 3 rfl) ?_
    refine lv_iload_n hx hb dL_meets_58 rfl (lv_at hl 4 rfl) ?_
    refine lv_iload_n hx hb dL_meets_59 rfl (lv_at hl 5 rfl) ?_
    refine g_callSi (vx_runSW (As := [.ref (ad (0, 0, 0)), .int (nI a), .int (nI b), .int (nI t)]) (rest := []) ⟨hx, hb, hml, hown, hts⟩ (l_see l hn hc ha hb9 (show _ ≤ 1000000 by omega)) (vx_cwSW 4 hts gL_meets_L_see rfl rfl rfl (by decide +kernel) ⟨Nat.le_of_ble_eq_true rfl, Nat.le_of_ble_eq_true rfl⟩) (g_preS hF hG hS) rfl rfl hl.1 rfl (lv_room (Nat.le_of_ble_eq_true rfl)) dL_meets_60 ⟨Nat.le_of_ble_eq_true rfl, Nat.le_of_ble_eq_true rfl⟩) (fun r_75 h_76 => ?_)
    refine lv_to (y := nI 0) (h_76.trans (sI_f (hsee))) ?_
    refine lv_iconst (v := nI 1) hx hb dL_meets_63 (by decide) ?_
    refine lv_icmp_ne (tgt := 71) hx hb dL_meets_64 (by decide) (fun _ => ?_) (fun c => absurd c (by decide))
    refine lv_iconst (v := nI 0) hx hb dL_meets_71 (by decide) ?_
    refine lv_iload hx hb dL_meets_72 (lv_at hl 1 rfl) ?_
    refine lv_if_le (tgt := 81) hx hb dL_meets_74 (by decide) (fun _ => ?_) (fun c => absurd (by decide) c)
    refine lv_iconst (v := nI 0) hx hb dL_meets_81 (by decide) ?_
    refine lv_icmp_ne (tgt := 109) hx hb dL_meets_82 (by decide) (fun c => absurd (rfl) c) (fun _ => ?_)
    refine lv_iload hx hb dL_meets_85 (lv_at hl 1 rfl) ?_
    refine lv_aload_n hx hb dL_meets_87 rfl (lv_at hl 2 rfl) ?_
    refine lv_iload_n hx hb dL_meets_88 rfl (lv_at hl 4 rfl) ?_
    refine lv_iload_n hx hb dL_meets_89 rfl (lv_at hl 3 rfl) ?_
    refine lv_iload_n hx hb dL_meets_90 rfl (lv_at hl 5 rfl) ?_
    refine g_callSi (vx_runSW (As := [.ref (ad (0, 0, 0)), .int (nI b), .int (nI a), .int (nI t)]) (rest := [.int (nI 0)]) ⟨hx, hb, hml, hown, hts⟩ (l_view l hn hc hb9 ha (show t ≤ 1000000 by omega)) (vx_cwSW 4 hts gL_meets_L_view rfl rfl rfl (by decide +kernel) ⟨Nat.le_of_ble_eq_true rfl, Nat.le_of_ble_eq_true rfl⟩) (g_preS hF hG hS) rfl rfl hl.1 rfl (lv_room (Nat.le_of_ble_eq_true rfl)) dL_meets_91 ⟨Nat.le_of_ble_eq_true rfl, Nat.le_of_ble_eq_true rfl⟩) (fun r_77 h_78 => ?_)
    obtain ⟨k_79, w0, w1, w2, w3⟩ := h_78
    refine lv_to (y := nI 0) (w3.trans (congrArg nI (view_one hsv v0 v1 v2 w0 w1 w2).symm)) ?_
    refine lv_icmp_ne (tgt := 109) hx hb dL_meets_94 (by decide) (fun c => absurd (rfl) c) (fun _ => ?_)
    refine lv_iload hx hb dL_meets_97 (lv_at hl 1 rfl) ?_
    refine lv_sipush (v := nI 360) hx hb dL_meets_99 (by decide) ?_
    refine lv_icmp_gt (tgt := 109) hx hb dL_meets_102 (by decide) (fun c => absurd c (by rw [nI_ltI (by omega) (by omega)]; omega)) (fun _ => ?_)
    refine lv_iconst (v := nI 1) hx hb dL_meets_105 (by decide) ?_
    refine lv_goto (tgt := 110) hx hb dL_meets_106 (by decide) ?_
    refine lv_istore (lv' := [(6, .int (nI 1)), (5, .int (-1)), (4, .int (nI 0)), (0, .ref (ad (0, 0, 0))), (1, .int (nI a)), (2, .int (nI b)), (3, .int (nI t))]) hx hb dL_meets_110 hl (by decide) rfl (fun ls hl => ?_)
    refine lv_iload hx hb dL_meets_112 (lv_at hl 0 rfl) ?_
    refine lv_if_eq (tgt := 218) hx hb dL_meets_114 (by decide) (fun c => absurd c (by decide)) (fun _ => ?_)
    refine lv_iload hx hb dL_meets_117 (lv_at hl 2 rfl) ?_
    refine lv_if_eq (tgt := 128) hx hb dL_meets_119 (by decide) (fun _ => ?_) (fun c => absurd (by decide) c)
    refine lv_iload hx hb dL_meets_128 (lv_at hl 1 rfl) ?_
    refine lv_if_ge (tgt := 154) hx hb dL_meets_130 (by decide) (fun c => absurd c (by decide)) (fun _ => ?_)
    refine lv_iload hx hb dL_meets_133 (lv_at hl 2 rfl) ?_
    refine lv_if_ne (tgt := 218) hx hb dL_meets_135 (by decide) (fun c => absurd (by decide) c) (fun _ => ?_)
    refine lv_aload_n hx hb dL_meets_138 rfl (lv_at hl 3 rfl) ?_
    refine lv_iload_n hx hb dL_meets_139 rfl (lv_at hl 4 rfl) ?_
    refine lv_iload_n hx hb dL_meets_140 rfl (lv_at hl 5 rfl) ?_
    refine lv_iload_n hx hb dL_meets_141 rfl (lv_at hl 6 rfl) ?_
    refine lv_bipush (v := nI 77) hx hb dL_meets_142 (by decide) ?_
    refine lv_iadd hx hb dL_meets_144 ?_
    refine lv_to (y := nI (t + 77)) (nI_add t 77) ?_
    refine g_callSi (vx_runSW (As := [.ref (ad (0, 0, 0)), .int (nI a), .int (nI b), .int (nI (t + 77))]) (rest := []) ⟨hx, hb, hml, hown, hts⟩ (l_see l hn hc ha hb9 (show _ ≤ 1000000 by omega)) (vx_cwSW 4 hts gL_meets_L_see rfl rfl rfl (by decide +kernel) ⟨Nat.le_of_ble_eq_true rfl, Nat.le_of_ble_eq_true rfl⟩) (g_preS hF hG hS) rfl rfl hl.1 rfl (lv_room (Nat.le_of_ble_eq_true rfl)) dL_meets_145 ⟨Nat.le_of_ble_eq_true rfl, Nat.le_of_ble_eq_true rfl⟩) (fun r_80 h_81 => ?_)
    refine lv_to (y := nI 0) (h_81.trans (sI_f (e1 77 (by decide)))) ?_
    refine lv_if_ne (tgt := 218) hx hb dL_meets_148 (by decide) (fun c => absurd (by decide) c) (fun _ => ?_)
    refine lv_goto (tgt := 214) hx hb dL_meets_151 (by decide) ?_
    refine lv_iconst (v := nI 1) hx hb dL_meets_214 (by decide) ?_
    refine lv_goto (tgt := 219) hx hb dL_meets_215 (by decide) ?_
    refine lv_istore (lv' := [(6, .int (nI 1)), (5, .int (-1)), (4, .int (nI 0)), (0, .ref (ad (0, 0, 0))), (1, .int (nI a)), (2, .int (nI b)), (3, .int (nI t))]) hx hb dL_meets_219 hl (by decide) rfl (fun ls hl => ?_)
    refine lv_iload hx hb dL_meets_221 (lv_at hl 0 rfl) ?_
    refine lv_if_eq (tgt := 272) hx hb dL_meets_223 (by decide) (fun c => absurd c (by decide)) (fun _ => ?_)
    refine lv_iload hx hb dL_meets_226 (lv_at hl 2 rfl) ?_
    refine lv_if_eq (tgt := 268) hx hb dL_meets_228 (by decide) (fun _ => ?_) (fun c => absurd (by decide) c)
    refine lv_iconst (v := nI 1) hx hb dL_meets_268 (by decide) ?_
    refine lv_goto (tgt := 273) hx hb dL_meets_269 (by decide) ?_
    refine lv_istore (lv' := [(6, .int (nI 1)), (5, .int (-1)), (4, .int (nI 0)), (0, .ref (ad (0, 0, 0))), (1, .int (nI a)), (2, .int (nI b)), (3, .int (nI t))]) hx hb dL_meets_273 hl (by decide) rfl (fun ls hl => ?_)
    exact seg3 _ (Or.inl rfl) ls (lv_sub hl [0, 1, 3, 4, 5, 6] rfl)
