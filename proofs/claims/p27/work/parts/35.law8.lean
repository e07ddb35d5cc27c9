set_option maxHeartbeats 4000000 in
set_option maxRecDepth 100000 in
theorem lawMeets {p : Program} {e : Env} {s : State} {m : MethodId} {below : List Frame} {meth : Method} {c : Code} {Q : State → Prop} (l : Launch) (hst : l.stackTraces = false) {D : va_G} {C : g_C} {b L : Nat} {xs : Nat → Int32} (hL : L ≤ 260) (hx : p.tables.exec = Jvm.exec) (hb : c.code = cL_law) (hml : c.maxLocals = 21) (hown : s.vm.findClass RL = some m.cls) (hts : ∀ w ∈ wsL_law, w.before #[Value.ref b] s = true) (hX : va_X b L xs s s.heap) (hbl : b < s.heap.size) (hF : g_F D C s.heap.size s) {S N i : Nat} (hS2 : 2 ≤ S) (hS3 : S ≤ 3) (hN1 : S + 1 ≤ N) (hN4 : N ≤ S + 4) (hi : i < 36) (cont : ∀ (M t : Nat) (src to : Nat → Nat) (F50 F51 : Nat → Int32) (ex : g_k → Option va_E) (g : g_k → Nat → Int32) (ad ln : g_k → Nat) (H : Heap) (locs : List Loc), M ≤ 20 → t ≤ 12 * (i + 1) → ib_P g ln S N M t src to → ea_P C ex F50 F51 M src to → g_P D (lay C g ad ln ex) ad s.heap.size H → va_S (g_A s.heap.size) s.heap H locs → ∀ ls, lv_has ls 21 [(8, .int (nI i)), (7, .int (nI M)), (6, .ref (ad (51, 0, 0))), (5, .ref (ad (50, 0, 0))), (4, .int (nI N)), (3, .int (nI S)), (2, .int (nI 1)), (1, .ref (ad (0, 0, 0))), (0, .ref b)] → W p l e room_1 s m #[Value.ref b] below meth c H locs (200 + 700 * i + 600) (30000 + 1500 * i + 1000 + us 0 t) Q (F0 m 861 ls [])) :
    ∀ (y z aa bb mi : Nat) (M t : Nat) (src to : Nat → Nat) (F50 F51 : Nat → Int32) (ex : g_k → Option va_E) (g : g_k → Nat → Int32) (ad ln : g_k → Nat) (H : Heap) (locs : List Loc), aa < N → bb < N → mi < 2000 → M ≤ 20 → t ≤ 12 * i → ib_P g ln S N M t src to → ea_P C ex F50 F51 M src to → g_P D (lay C g ad ln ex) ad s.heap.size H → va_S (g_A s.heap.size) s.heap H locs → ∀ ls, lv_has ls 21 [(13, .int (nI mi)), (12, .int (nI bb)), (11, .int (nI aa)), (10, .int (nI z)), (9, .int (nI y)), (8, .int (nI i)), (7, .int (nI M)), (6, .ref (ad (51, 0, 0))), (5, .ref (ad (50, 0, 0))), (4, .int (nI N)), (3, .int (nI S)), (2, .int (nI 1)), (1, .ref (ad (0, 0, 0))), (0, .ref b)] → W p l e room_1 s m #[Value.ref b] below meth c H locs (200 + 700 * i) (30000 + 1500 * i + us 0 t) Q (F0 m 703 ls []) := by
  have hK := hF.1
  have hN := hF.2.1
  have hB : s.heap.size ≤ s.heap.size := Nat.le_refl _
  intro y z aa bb mi M t src to F50 F51 ex g ad ln H locs haa hbb hmi hM20 htt hI hE hG hS ls hl
  obtain ⟨i1, i2, i3, i4, i5, i6, i7, i8, i9, i10⟩ := id hI
  have hU := Nat.le_trans (us_le 0 (show t ≤ 432 by omega)) us_432
  have hN10 : N ≤ 10 := by omega
  refine lv_aload_n hx hb dL_law_703 rfl (lv_at hl 12 rfl) ?_
  refine lv_iload hx hb dL_law_704 (lv_at hl 2 rfl) ?_
  refine lv_iload hx hb dL_law_706 (lv_at hl 1 rfl) ?_
  refine lv_iload hx hb dL_law_708 (lv_at hl 0 rfl) ?_
  refine va_calli (va_runS (As := [.ref (ad (0, 0, 0)), .int (nI aa), .int (nI bb), .int (nI mi)]) (rest := []) ⟨hx, hb, hml, hown, hts⟩ (l_meets l hN10 i1 i2 haa hbb (show mi ≤ 100000 by omega)) (va_cwS 4 hts gL_law_L_meets rfl rfl rfl (by decide +kernel) ⟨Nat.le_of_ble_eq_true rfl, Nat.le_of_ble_eq_true rfl⟩) (g_preS hF hG hS) rfl rfl hl.1 rfl (lv_room (Nat.le_of_ble_eq_true rfl)) dL_law_710 ⟨(r1c (show 200 + 700 * i + 0 ≤ 40000 by omega)), (r1s (show 30000 + 1500 * i + us 0 t + 0 ≤ 5450000 by omega))⟩) hS (fun q _ h => h) (fun q h => h) (fun r_1 g_3 t9 H locs ht9 _ h_2 hB1 _ _ hS => ?_)
  have hG : g_P D (lay C g_3 ad ln ex) ad s.heap.size H := by rw [← ht9]; exact hB1
  refine lv_to (y := nI 1) (h_2.1) ?_
  refine lv_if_eq (tgt := 735) hx hb dL_law_713 (by decide) (fun c => absurd c (by decide)) (fun _ => ?_)
  refine lv_aload_n hx hb dL_law_716 rfl (lv_at hl 12 rfl) ?_
  refine lv_iload hx hb dL_law_717 (lv_at hl 2 rfl) ?_
  refine lv_iload hx hb dL_law_719 (lv_at hl 1 rfl) ?_
  refine lv_aload_n hx hb dL_law_721 rfl (lv_at hl 12 rfl) ?_
  have hJ1 := ib_10 hI h_2.2
  refine vp_callSi (W.runV (As := []) (rest := [.int (nI bb), .int (nI aa), .ref (ad (0, 0, 0))]) ⟨hx, hb, hml, hown, hts⟩ (c_now l ) (cwV 0 hts gL_law_X5_now rfl rfl rfl (by decide +kernel) ⟨Nat.le_of_ble_eq_true rfl, Nat.le_of_ble_eq_true rfl⟩) (g_preV hF hG hS (lay_main) rfl) rfl rfl hl.1 rfl (lv_room (Nat.le_of_ble_eq_true rfl)) dL_law_722 ⟨(r1c (show 200 + 700 * i + 0 ≤ 40000 by omega)), (r1s (show 30000 + 1500 * i + us 0 t + 0 ≤ 5450000 by omega))⟩) (fun r_4 h_5 => ?_)
  refine lv_to (y := nI t) (h_5.trans hJ1.2.2.2.2.2.2.2.2.1) ?_
  refine va_calli (va_runS (As := [.ref (ad (0, 0, 0)), .int (nI aa), .int (nI bb), .int (nI t)]) (rest := []) ⟨hx, hb, hml, hown, hts⟩ (l_meets l hN10 hJ1.1 hJ1.2.1 haa hbb (show t ≤ 100000 by omega)) (va_cwS 4 hts gL_law_L_meets rfl rfl rfl (by decide +kernel) ⟨Nat.le_of_ble_eq_true rfl, Nat.le_of_ble_eq_true rfl⟩) (g_preS hF hG hS) rfl rfl hl.1 rfl (lv_room (Nat.le_of_ble_eq_true rfl)) dL_law_725 ⟨(r1c (show 200 + 700 * i + 0 ≤ 40000 by omega)), (r1s (show 30000 + 1500 * i + us 0 t + 0 ≤ 5450000 by omega))⟩) hS (fun q _ h => h) (fun q h => h) (fun r_6 g_8 t9 H locs ht9 _ h_7 hB1 _ _ hS => ?_)
  have hG : g_P D (lay C g_8 ad ln ex) ad s.heap.size H := by rw [← ht9]; exact hB1
  refine lv_to (y := nI 1) (h_7.1) ?_
  refine lv_if_eq (tgt := 735) hx hb dL_law_728 (by decide) (fun c => absurd c (by decide)) (fun _ => ?_)
  refine lv_iconst (v := nI 1) hx hb dL_law_731 (by decide) ?_
  refine lv_goto (tgt := 736) hx hb dL_law_732 (by decide) ?_
  refine lv_istore_n (lv' := [(2, .int (nI 1)), (13, .int (nI mi)), (12, .int (nI bb)), (11, .int (nI aa)), (10, .int (nI z)), (9, .int (nI y)), (8, .int (nI i)), (7, .int (nI M)), (6, .ref (ad (51, 0, 0))), (5, .ref (ad (50, 0, 0))), (4, .int (nI N)), (3, .int (nI S)), (1, .ref (ad (0, 0, 0))), (0, .ref b)]) hx hb dL_law_736 rfl hl (by decide) rfl (fun ls hl => ?_)
  refine lv_aload_n hx hb dL_law_737 rfl (lv_at hl 12 rfl) ?_
  refine lv_iload hx hb dL_law_738 (lv_at hl 3 rfl) ?_
  refine lv_iload hx hb dL_law_740 (lv_at hl 1 rfl) ?_
  refine lv_iconst (v := nI 0) hx hb dL_law_742 (by decide) ?_
  have hJ2 := ib_10 hJ1 h_7.2
  refine g_callSi (vx_runSW (As := [.ref (ad (0, 0, 0)), .int (nI aa), .int (nI mi), .int (nI 0)]) (rest := []) ⟨hx, hb, hml, hown, hts⟩ (l_spread l hN10 hJ2.1 hJ2.2.1 haa (show mi ≤ 1000000 by omega) (show 0 ≤ 400 by decide)) (vx_cwSW 4 hts gL_law_L_spread rfl rfl rfl (by decide +kernel) ⟨Nat.le_of_ble_eq_true rfl, Nat.le_of_ble_eq_true rfl⟩) (g_preS hF hG hS) rfl rfl hl.1 rfl (lv_room (Nat.le_of_ble_eq_true rfl)) dL_law_743 ⟨(r1c (show 200 + 700 * i + 0 ≤ 40000 by omega)), (r1s (show 30000 + 1500 * i + us 0 t + 0 ≤ 5450000 by omega))⟩) (fun r_9 h_10 => ?_)
  refine lv_to (y := nI 1) (h_10.trans (congrArg nI (sp_one (by omega)))) ?_
  refine lv_istore (lv' := [(14, .int (nI 1)), (2, .int (nI 1)), (13, .int (nI mi)), (12, .int (nI bb)), (11, .int (nI aa)), (10, .int (nI z)), (9, .int (nI y)), (8, .int (nI i)), (7, .int (nI M)), (6, .ref (ad (51, 0, 0))), (5, .ref (ad (50, 0, 0))), (4, .int (nI N)), (3, .int (nI S)), (1, .ref (ad (0, 0, 0))), (0, .ref b)]) hx hb dL_law_746 hl (by decide) rfl (fun ls hl => ?_)
  refine lv_iload_n hx hb dL_law_748 rfl (lv_at hl 1 rfl) ?_
  refine lv_if_eq (tgt := 762) hx hb dL_law_749 (by decide) (fun c => absurd c (by decide)) (fun _ => ?_)
  refine lv_iload hx hb dL_law_752 (lv_at hl 0 rfl) ?_
  refine lv_iconst (v := nI 1) hx hb dL_law_754 (by decide) ?_
  refine lv_icmp_ne (tgt := 762) hx hb dL_law_755 (by decide) (fun c => absurd (rfl) c) (fun _ => ?_)
  refine lv_iconst (v := nI 1) hx hb dL_law_758 (by decide) ?_
  refine lv_goto (tgt := 763) hx hb dL_law_759 (by decide) ?_
  refine lv_istore_n (lv' := [(2, .int (nI 1)), (14, .int (nI 1)), (13, .int (nI mi)), (12, .int (nI bb)), (11, .int (nI aa)), (10, .int (nI z)), (9, .int (nI y)), (8, .int (nI i)), (7, .int (nI M)), (6, .ref (ad (51, 0, 0))), (5, .ref (ad (50, 0, 0))), (4, .int (nI N)), (3, .int (nI S)), (1, .ref (ad (0, 0, 0))), (0, .ref b)]) hx hb dL_law_763 rfl hl (by decide) rfl (fun ls hl => ?_)
  refine lv_iconst (v := nI 1) hx hb dL_law_764 (by decide) ?_
  refine lv_istore (lv' := [(15, .int (nI 1)), (2, .int (nI 1)), (14, .int (nI 1)), (13, .int (nI mi)), (12, .int (nI bb)), (11, .int (nI aa)), (10, .int (nI z)), (9, .int (nI y)), (8, .int (nI i)), (7, .int (nI M)), (6, .ref (ad (51, 0, 0))), (5, .ref (ad (50, 0, 0))), (4, .int (nI N)), (3, .int (nI S)), (1, .ref (ad (0, 0, 0))), (0, .ref b)]) hx hb dL_law_765 hl (by decide) rfl (fun ls hl => ?_)
  have loop : ∀ (q lt p1 : Nat) (g3 : g_k → Nat → Int32) (H : Heap) (locs : List Loc), lt ≤ 457 → 457 < lt + q → 1 ≤ lt → p1 ≤ b_cnt (flI g_8 N aa mi lt) 10 → p1 ≤ 10 → (∀ c, c ≠ (10, 0, 0) → g3 c = g_8 c) → g_P D (lay C g3 ad ln ex) ad s.heap.size H → va_S (g_A s.heap.size) s.heap H locs → ∀ ls, lv_has ls 21 [(15, .int (nI lt)), (14, .int (nI p1)), (13, .int (nI mi)), (12, .int (nI bb)), (11, .int (nI aa)), (10, .int (nI z)), (9, .int (nI y)), (8, .int (nI i)), (7, .int (nI M)), (6, .ref (ad (51, 0, 0))), (5, .ref (ad (50, 0, 0))), (4, .int (nI N)), (3, .int (nI S)), (2, .int (nI 1)), (1, .ref (ad (0, 0, 0))), (0, .ref b)] → W p l e room_1 s m #[Value.ref b] below meth c H locs (200 + 700 * i) (30000 + 1500 * i + us 0 t) Q (F0 m 767 ls []) := by
    intro q
    induction q with
    | zero => intro lt p1 g3 H locs e1 e2; exact absurd e2 (by omega)
    | succ q ih =>
      intro lt p1 g3 H locs e1 e2 e3 e4 e44 e5 hG hS ls hl
      have hJ3 := ib_10 hJ2 e5
      have h20 : ∀ i, g3 (20, i, 0) = g_8 (20, i, 0) := fun i => e5 _ (k3 (Or.inl (by decide)))
      refine lv_iload hx hb dL_law_767 (lv_at hl 0 rfl) ?_
      refine lv_sipush (v := nI 400) hx hb dL_law_769 (by decide) ?_
      refine lv_icmp_gt (tgt := 861) hx hb dL_law_772 (by decide) (fun c_11 => ?_) (fun c_11 => ?_)
      · refine W.widen (k := 200 + 700 * i + 600) (n := 30000 + 1500 * i + 1000 + us 0 t) (by omega) (by omega) ?_
        exact cont M t src to F50 F51 ex g3 ad ln _ _ (by omega) (by omega) hJ3 hE hG hS ls (lv_sub hl [7, 8, 9, 10, 11, 12, 13, 14, 15] rfl)
      · have hlt : lt ≤ 400 := Nat.le_of_not_lt (fun h9 => c_11 ((nI_ltI (by decide) (by omega)).mpr h9))
        refine lv_iload_n hx hb dL_law_775 rfl (lv_at hl 13 rfl) ?_
        refine lv_if_eq (tgt := 861) hx hb dL_law_776 (by decide) (fun c => absurd c (by decide)) (fun _ => ?_)
        refine lv_aload_n hx hb dL_law_779 rfl (lv_at hl 14 rfl) ?_
        refine lv_iload hx hb dL_law_780 (lv_at hl 4 rfl) ?_
        refine lv_iload hx hb dL_law_782 (lv_at hl 2 rfl) ?_
        refine lv_iload hx hb dL_law_784 (lv_at hl 0 rfl) ?_
        refine g_callSi (vx_runSW (As := [.ref (ad (0, 0, 0)), .int (nI aa), .int (nI mi), .int (nI lt)]) (rest := []) ⟨hx, hb, hml, hown, hts⟩ (l_spread l hN10 hJ3.1 hJ3.2.1 haa (show mi ≤ 1000000 by omega) hlt) (vx_cwSW 4 hts gL_law_L_spread rfl rfl rfl (by decide +kernel) ⟨Nat.le_of_ble_eq_true rfl, Nat.le_of_ble_eq_true rfl⟩) (g_preS hF hG hS) rfl rfl hl.1 rfl (lv_room (Nat.le_of_ble_eq_true rfl)) dL_law_786 ⟨(r1c (show 200 + 700 * i + 0 ≤ 40000 by omega)), (r1s (show 30000 + 1500 * i + us 0 t + 0 ≤ 5450000 by omega))⟩) (fun r_12 h_13 => ?_)
        obtain ⟨own, eo⟩ : ∃ own, own = b_cnt (flI g_8 N aa mi lt) 10 := ⟨_, rfl⟩
        refine lv_to (y := nI own) (h_13.trans (by rw [eo, flI_20 h20])) ?_
        have hoN : own ≤ N := by rw [eo]; exact sp_lim hN10 hJ2.2.1 haa
        refine lv_istore (lv' := [(16, .int (nI own)), (15, .int (nI lt)), (14, .int (nI p1)), (13, .int (nI mi)), (12, .int (nI bb)), (11, .int (nI aa)), (10, .int (nI z)), (9, .int (nI y)), (8, .int (nI i)), (7, .int (nI M)), (6, .ref (ad (51, 0, 0))), (5, .ref (ad (50, 0, 0))), (4, .int (nI N)), (3, .int (nI S)), (2, .int (nI 1)), (1, .ref (ad (0, 0, 0))), (0, .ref b)]) hx hb dL_law_789 hl (by decide) rfl (fun ls hl => ?_)
        refine lv_aload_n hx hb dL_law_791 rfl (lv_at hl 15 rfl) ?_
        refine lv_iload hx hb dL_law_792 (lv_at hl 5 rfl) ?_
        refine lv_iload hx hb dL_law_794 (lv_at hl 4 rfl) ?_
        refine lv_iload hx hb dL_law_796 (lv_at hl 3 rfl) ?_
        refine va_calli (vx_runSW (As := [.ref (ad (0, 0, 0)), .int (nI aa), .int (nI bb), .int (nI mi)]) (rest := []) ⟨hx, hb, hml, hown, hts⟩ (l_arrival l hN10 hJ3.1 haa hbb (show mi ≤ 1000000 by omega)) (vx_cwSW 4 hts gL_law_L_arrival rfl rfl rfl (by decide +kernel) ⟨Nat.le_of_ble_eq_true rfl, Nat.le_of_ble_eq_true rfl⟩) (g_preS hF hG hS) rfl rfl hl.1 rfl (lv_room (Nat.le_of_ble_eq_true rfl)) dL_law_798 ⟨(r1c (show 200 + 700 * i + 0 ≤ 40000 by omega)), (r1s (show 30000 + 1500 * i + us 0 t + 0 ≤ 5450000 by omega))⟩) hS (fun q _ h => h) (fun q h => h) (fun r_14 g_16 t9 H locs ht9 _ h_15 hB1 _ _ hS => ?_)
        have hG : g_P D (lay C g_16 ad ln ex) ad s.heap.size H := by rw [← ht9]; exact hB1
        have hA := arr_20 h20 h_15.1
        have e6 : ∀ c, c ≠ (10, 0, 0) → g_16 c = g_8 c := fun c hc => (h_15.2 c hc).trans (e5 c hc)
        refine lv_istore (lv' := [(17, .int r_14), (16, .int (nI own)), (15, .int (nI lt)), (14, .int (nI p1)), (13, .int (nI mi)), (12, .int (nI bb)), (11, .int (nI aa)), (10, .int (nI z)), (9, .int (nI y)), (8, .int (nI i)), (7, .int (nI M)), (6, .ref (ad (51, 0, 0))), (5, .ref (ad (50, 0, 0))), (4, .int (nI N)), (3, .int (nI S)), (2, .int (nI 1)), (1, .ref (ad (0, 0, 0))), (0, .ref b)]) hx hb dL_law_801 hl (by decide) rfl (fun ls hl => ?_)
        refine lv_iload hx hb dL_law_803 (lv_at hl 1 rfl) ?_
        refine lv_iload hx hb dL_law_805 (lv_at hl 3 rfl) ?_
        refine lv_icmp_lt (tgt := 849) hx hb dL_law_807 (by decide) (fun c => absurd c (by rw [nI_ltI (by omega) (by omega)]; omega)) (fun _ => ?_)
        refine lv_iload hx hb dL_law_810 (lv_at hl 1 rfl) ?_
        refine lv_iload hx hb dL_law_812 (lv_at hl 13 rfl) ?_
        refine lv_icmp_gt (tgt := 849) hx hb dL_law_814 (by decide) (fun c => absurd c (by rw [nI_ltI (by omega) (by omega)]; omega)) (fun _ => ?_)
        refine lv_iload hx hb dL_law_817 (lv_at hl 0 rfl) ?_
        rcases hA with ⟨k7, pp, p2, p3, rfl⟩ | ⟨pp, rfl⟩
        · rcases Classical.em (lt < k7) with c_17 | c_17
          · refine lv_if_lt (tgt := 845) hx hb dL_law_819 (by decide) (fun c => absurd c (nI_pos (by omega))) (fun _ => ?_)
            refine lv_iload hx hb dL_law_822 (lv_at hl 0 rfl) ?_
            refine lv_iload hx hb dL_law_824 (lv_at hl 4 rfl) ?_
            refine lv_iload hx hb dL_law_826 (lv_at hl 2 rfl) ?_
            refine lv_iadd hx hb dL_law_828 ?_
            refine lv_to (y := nI (mi + lt)) (nI_add mi lt) ?_
            refine lv_icmp_gt (tgt := 845) hx hb dL_law_829 (by decide) (fun _ => ?_) (fun c => absurd (by rw [nI_ltI (by omega) (by omega)]; omega) c)
            refine lv_iconst (v := nI 1) hx hb dL_law_845 (by decide) ?_
            refine lv_goto (tgt := 850) hx hb dL_law_846 (by decide) ?_
            refine lv_istore_n (lv' := [(2, .int (nI 1)), (17, .int (nI (mi + k7))), (16, .int (nI own)), (15, .int (nI lt)), (14, .int (nI p1)), (13, .int (nI mi)), (12, .int (nI bb)), (11, .int (nI aa)), (10, .int (nI z)), (9, .int (nI y)), (8, .int (nI i)), (7, .int (nI M)), (6, .ref (ad (51, 0, 0))), (5, .ref (ad (50, 0, 0))), (4, .int (nI N)), (3, .int (nI S)), (1, .ref (ad (0, 0, 0))), (0, .ref b)]) hx hb dL_law_850 rfl hl (by decide) rfl (fun ls hl => ?_)
            refine lv_iload hx hb dL_law_851 (lv_at hl 2 rfl) ?_
            refine lv_istore (lv' := [(14, .int (nI own)), (2, .int (nI 1)), (17, .int (nI (mi + k7))), (16, .int (nI own)), (15, .int (nI lt)), (13, .int (nI mi)), (12, .int (nI bb)), (11, .int (nI aa)), (10, .int (nI z)), (9, .int (nI y)), (8, .int (nI i)), (7, .int (nI M)), (6, .ref (ad (51, 0, 0))), (5, .ref (ad (50, 0, 0))), (4, .int (nI N)), (3, .int (nI S)), (1, .ref (ad (0, 0, 0))), (0, .ref b)]) hx hb dL_law_853 hl (by decide) rfl (fun ls hl => ?_)
            refine lv_iinc (v := nI (lt + 57)) (lv' := [(15, .int (nI (lt + 57))), (14, .int (nI own)), (2, .int (nI 1)), (17, .int (nI (mi + k7))), (16, .int (nI own)), (13, .int (nI mi)), (12, .int (nI bb)), (11, .int (nI aa)), (10, .int (nI z)), (9, .int (nI y)), (8, .int (nI i)), (7, .int (nI M)), (6, .ref (ad (51, 0, 0))), (5, .ref (ad (50, 0, 0))), (4, .int (nI N)), (3, .int (nI S)), (1, .ref (ad (0, 0, 0))), (0, .ref b)]) hx hb dL_law_855 hl (k := 4) rfl (nI_add lt 57) (by decide) rfl (fun ls hl => ?_)
            refine lv_goto (tgt := 767) hx hb dL_law_858 (by decide) ?_
            exact ih (lt + 57) own g_16 _ _ (by omega) (by omega) (by omega) (by rw [eo]; exact sp_mono (by omega)) (by omega) e6 hG hS ls (lv_sub hl [0, 1, 5, 6, 7, 8, 9, 10, 11, 12, 13, 14, 15, 2, 16, 17] rfl)
          · rcases Classical.em (aa = bb) with c_18 | c_18
            · refine lv_if_lt (tgt := 845) hx hb dL_law_819 (by decide) (fun c => absurd c (nI_pos (by omega))) (fun _ => ?_)
              refine lv_iload hx hb dL_law_822 (lv_at hl 0 rfl) ?_
              refine lv_iload hx hb dL_law_824 (lv_at hl 4 rfl) ?_
              refine lv_iload hx hb dL_law_826 (lv_at hl 2 rfl) ?_
              refine lv_iadd hx hb dL_law_828 ?_
              refine lv_to (y := nI (mi + lt)) (nI_add mi lt) ?_
              refine lv_icmp_gt (tgt := 845) hx hb dL_law_829 (by decide) (fun c => absurd c (by rw [nI_ltI (by omega) (by omega)]; omega)) (fun _ => ?_)
              refine lv_iload hx hb dL_law_832 (lv_at hl 6 rfl) ?_
              refine lv_iload hx hb dL_law_834 (lv_at hl 5 rfl) ?_
              refine lv_icmp_eq (tgt := 845) hx hb dL_law_836 (by decide) (fun _ => ?_) (fun c => absurd (by rw [c_18]) c)
              refine lv_iconst (v := nI 1) hx hb dL_law_845 (by decide) ?_
              refine lv_goto (tgt := 850) hx hb dL_law_846 (by decide) ?_
              refine lv_istore_n (lv' := [(2, .int (nI 1)), (17, .int (nI (mi + k7))), (16, .int (nI own)), (15, .int (nI lt)), (14, .int (nI p1)), (13, .int (nI mi)), (12, .int (nI bb)), (11, .int (nI aa)), (10, .int (nI z)), (9, .int (nI y)), (8, .int (nI i)), (7, .int (nI M)), (6, .ref (ad (51, 0, 0))), (5, .ref (ad (50, 0, 0))), (4, .int (nI N)), (3, .int (nI S)), (1, .ref (ad (0, 0, 0))), (0, .ref b)]) hx hb dL_law_850 rfl hl (by decide) rfl (fun ls hl => ?_)
              refine lv_iload hx hb dL_law_851 (lv_at hl 2 rfl) ?_
              refine lv_istore (lv' := [(14, .int (nI own)), (2, .int (nI 1)), (17, .int (nI (mi + k7))), (16, .int (nI own)), (15, .int (nI lt)), (13, .int (nI mi)), (12, .int (nI bb)), (11, .int (nI aa)), (10, .int (nI z)), (9, .int (nI y)), (8, .int (nI i)), (7, .int (nI M)), (6, .ref (ad (51, 0, 0))), (5, .ref (ad (50, 0, 0))), (4, .int (nI N)), (3, .int (nI S)), (1, .ref (ad (0, 0, 0))), (0, .ref b)]) hx hb dL_law_853 hl (by decide) rfl (fun ls hl => ?_)
              refine lv_iinc (v := nI (lt + 57)) (lv' := [(15, .int (nI (lt + 57))), (14, .int (nI own)), (2, .int (nI 1)), (17, .int (nI (mi + k7))), (16, .int (nI own)), (13, .int (nI mi)), (12, .int (nI bb)), (11, .int (nI aa)), (10, .int (nI z)), (9, .int (nI y)), (8, .int (nI i)), (7, .int (nI M)), (6, .ref (ad (51, 0, 0))), (5, .ref (ad (50, 0, 0))), (4, .int (nI N)), (3, .int (nI S)), (1, .ref (ad (0, 0, 0))), (0, .ref b)]) hx hb dL_law_855 hl (k := 4) rfl (nI_add lt 57) (by decide) rfl (fun ls hl => ?_)
              refine lv_goto (tgt := 767) hx hb dL_law_858 (by decide) ?_
              exact ih (lt + 57) own g_16 _ _ (by omega) (by omega) (by omega) (by rw [eo]; exact sp_mono (by omega)) (by omega) e6 hG hS ls (lv_sub hl [0, 1, 5, 6, 7, 8, 9, 10, 11, 12, 13, 14, 15, 2, 16, 17] rfl)
            · have h2 : 2 ≤ own := by rw [eo]; exact b_cnt_two 10 (by omega) (by omega) c_18 (fl_le lt (Nat.zero_le _) ((fl_0 (by omega) (by omega)).mpr rfl)) (fl_le lt (by omega) p2)
              refine lv_if_lt (tgt := 845) hx hb dL_law_819 (by decide) (fun c => absurd c (nI_pos (by omega))) (fun _ => ?_)
              refine lv_iload hx hb dL_law_822 (lv_at hl 0 rfl) ?_
              refine lv_iload hx hb dL_law_824 (lv_at hl 4 rfl) ?_
              refine lv_iload hx hb dL_law_826 (lv_at hl 2 rfl) ?_
              refine lv_iadd hx hb dL_law_828 ?_
              refine lv_to (y := nI (mi + lt)) (nI_add mi lt) ?_
              refine lv_icmp_gt (tgt := 845) hx hb dL_law_829 (by decide) (fun c => absurd c (by rw [nI_ltI (by omega) (by omega)]; omega)) (fun _ => ?_)
              refine lv_iload hx hb dL_law_832 (lv_at hl 6 rfl) ?_
              refine lv_iload hx hb dL_law_834 (lv_at hl 5 rfl) ?_
              refine lv_icmp_eq (tgt := 845) hx hb dL_law_836 (by decide) (fun c => absurd c (by rw [nI_eq (by omega) (by omega)]; exact c_18)) (fun _ => ?_)
              refine lv_iload hx hb dL_law_839 (lv_at hl 1 rfl) ?_
              refine lv_iconst (v := nI 2) hx hb dL_law_841 (by decide) ?_
              refine lv_icmp_lt (tgt := 849) hx hb dL_law_842 (by decide) (fun c => absurd c (by rw [nI_ltI (by omega) (by omega)]; omega)) (fun _ => ?_)
              refine lv_iconst (v := nI 1) hx hb dL_law_845 (by decide) ?_
              refine lv_goto (tgt := 850) hx hb dL_law_846 (by decide) ?_
              refine lv_istore_n (lv' := [(2, .int (nI 1)), (17, .int (nI (mi + k7))), (16, .int (nI own)), (15, .int (nI lt)), (14, .int (nI p1)), (13, .int (nI mi)), (12, .int (nI bb)), (11, .int (nI aa)), (10, .int (nI z)), (9, .int (nI y)), (8, .int (nI i)), (7, .int (nI M)), (6, .ref (ad (51, 0, 0))), (5, .ref (ad (50, 0, 0))), (4, .int (nI N)), (3, .int (nI S)), (1, .ref (ad (0, 0, 0))), (0, .ref b)]) hx hb dL_law_850 rfl hl (by decide) rfl (fun ls hl => ?_)
              refine lv_iload hx hb dL_law_851 (lv_at hl 2 rfl) ?_
              refine lv_istore (lv' := [(14, .int (nI own)), (2, .int (nI 1)), (17, .int (nI (mi + k7))), (16, .int (nI own)), (15, .int (nI lt)), (13, .int (nI mi)), (12, .int (nI bb)), (11, .int (nI aa)), (10, .int (nI z)), (9, .int (nI y)), (8, .int (nI i)), (7, .int (nI M)), (6, .ref (ad (51, 0, 0))), (5, .ref (ad (50, 0, 0))), (4, .int (nI N)), (3, .int (nI S)), (1, .ref (ad (0, 0, 0))), (0, .ref b)]) hx hb dL_law_853 hl (by decide) rfl (fun ls hl => ?_)
              refine lv_iinc (v := nI (lt + 57)) (lv' := [(15, .int (nI (lt + 57))), (14, .int (nI own)), (2, .int (nI 1)), (17, .int (nI (mi + k7))), (16, .int (nI own)), (13, .int (nI mi)), (12, .int (nI bb)), (11, .int (nI aa)), (10, .int (nI z)), (9, .int (nI y)), (8, .int (nI i)), (7, .int (nI M)), (6, .ref (ad (51, 0, 0))), (5, .ref (ad (50, 0, 0))), (4, .int (nI N)), (3, .int (nI S)), (1, .ref (ad (0, 0, 0))), (0, .ref b)]) hx hb dL_law_855 hl (k := 4) rfl (nI_add lt 57) (by decide) rfl (fun ls hl => ?_)
              refine lv_goto (tgt := 767) hx hb dL_law_858 (by decide) ?_
              exact ih (lt + 57) own g_16 _ _ (by omega) (by omega) (by omega) (by rw [eo]; exact sp_mono (by omega)) (by omega) e6 hG hS ls (lv_sub hl [0, 1, 5, 6, 7, 8, 9, 10, 11, 12, 13, 14, 15, 2, 16, 17] rfl)
        · refine lv_if_lt (tgt := 845) hx hb dL_law_819 (by decide) (fun _ => ?_) (fun c => absurd (by decide) c)
          refine lv_iconst (v := nI 1) hx hb dL_law_845 (by decide) ?_
          refine lv_goto (tgt := 850) hx hb dL_law_846 (by decide) ?_
          refine lv_istore_n (lv' := [(2, .int (nI 1)), (17, .int (-1)), (16, .int (nI own)), (15, .int (nI lt)), (14, .int (nI p1)), (13, .int (nI mi)), (12, .int (nI bb)), (11, .int (nI aa)), (10, .int (nI z)), (9, .int (nI y)), (8, .int (nI i)), (7, .int (nI M)), (6, .ref (ad (51, 0, 0))), (5, .ref (ad (50, 0, 0))), (4, .int (nI N)), (3, .int (nI S)), (1, .ref (ad (0, 0, 0))), (0, .ref b)]) hx hb dL_law_850 rfl hl (by decide) rfl (fun ls hl => ?_)
          refine lv_iload hx hb dL_law_851 (lv_at hl 2 rfl) ?_
          refine lv_istore (lv' := [(14, .int (nI own)), (2, .int (nI 1)), (17, .int (-1)), (16, .int (nI own)), (15, .int (nI lt)), (13, .int (nI mi)), (12, .int (nI bb)), (11, .int (nI aa)), (10, .int (nI z)), (9, .int (nI y)), (8, .int (nI i)), (7, .int (nI M)), (6, .ref (ad (51, 0, 0))), (5, .ref (ad (50, 0, 0))), (4, .int (nI N)), (3, .int (nI S)), (1, .ref (ad (0, 0, 0))), (0, .ref b)]) hx hb dL_law_853 hl (by decide) rfl (fun ls hl => ?_)
          refine lv_iinc (v := nI (lt + 57)) (lv' := [(15, .int (nI (lt + 57))), (14, .int (nI own)), (2, .int (nI 1)), (17, .int (-1)), (16, .int (nI own)), (13, .int (nI mi)), (12, .int (nI bb)), (11, .int (nI aa)), (10, .int (nI z)), (9, .int (nI y)), (8, .int (nI i)), (7, .int (nI M)), (6, .ref (ad (51, 0, 0))), (5, .ref (ad (50, 0, 0))), (4, .int (nI N)), (3, .int (nI S)), (1, .ref (ad (0, 0, 0))), (0, .ref b)]) hx hb dL_law_855 hl (k := 4) rfl (nI_add lt 57) (by decide) rfl (fun ls hl => ?_)
          refine lv_goto (tgt := 767) hx hb dL_law_858 (by decide) ?_
          exact ih (lt + 57) own g_16 _ _ (by omega) (by omega) (by omega) (by rw [eo]; exact sp_mono (by omega)) (by omega) e6 hG hS ls (lv_sub hl [0, 1, 5, 6, 7, 8, 9, 10, 11, 12, 13, 14, 15, 2, 16, 17] rfl)
  exact loop 458 1 1 g_8 _ _ (by decide) (by decide) (by decide) (by have := sp_mono (g := g_8) (n := N) (a := aa) (t := mi) (j := 0) (k := 1) (by decide); rw [sp_one (by omega)] at this; exact this) (by decide) (fun _ _ => rfl) hG hS ls (lv_sub hl [0, 2, 3, 4, 5, 6, 7, 8, 9, 10, 11, 12, 13, 1, 14, 15] rfl)

set_option maxHeartbeats 4000000 in
set_option maxRecDepth 100000 in
theorem lawPass {p : Program} {e : Env} {s : State} {m : MethodId} {below : List Frame} {meth : Method} {c : Code} {Q : State → Prop} (l : Launch) (hst : l.stackTraces = false) {D : va_G} {C : g_C} {b L : Nat} {xs : Nat → Int32} (hL : L ≤ 260) (hx : p.tables.exec = Jvm.exec) (hb : c.code = cL_law) (hml : c.maxLocals = 21) (hown : s.vm.findClass RL = some m.cls) (hts : ∀ w ∈ wsL_law, w.before #[Value.ref b] s = true) (hX : va_X b L xs s s.heap) (hbl : b < s.heap.size) (hF : g_F D C s.heap.size s) {S N i : Nat} (hS2 : 2 ≤ S) (hS3 : S ≤ 3) (hN1 : S + 1 ≤ N) (hN4 : N ≤ S + 4) (hi : i < 36) (cont : ∀ (M t : Nat) (src to : Nat → Nat) (F50 F51 : Nat → Int32) (ex : g_k → Option va_E) (g : g_k → Nat → Int32) (ad ln : g_k → Nat) (H : Heap) (locs : List Loc), M ≤ 20 → t ≤ 12 * (i + 1) → ib_P g ln S N M t src to → ea_P C ex F50 F51 M src to → g_P D (lay C g ad ln ex) ad s.heap.size H → va_S (g_A s.heap.size) s.heap H locs → ∀ ls, lv_has ls 21 [(8, .int (nI i)), (7, .int (nI M)), (6, .ref (ad (51, 0, 0))), (5, .ref (ad (50, 0, 0))), (4, .int (nI N)), (3, .int (nI S)), (2, .int (nI 1)), (1, .ref (ad (0, 0, 0))), (0, .ref b)] → W p l e room_1 s m #[Value.ref b] below meth c H locs (200 + 700 * i + 600) (30000 + 1500 * i + 1000 + us 0 t) Q (F0 m 861 ls [])) :
    ∀ (y z aa bb mi : Nat) (M t : Nat) (src to : Nat → Nat) (F50 F51 : Nat → Int32) (ex : g_k → Option va_E) (g : g_k → Nat → Int32) (ad ln : g_k → Nat) (H : Heap) (locs : List Loc), z < 2 ^ 29 → M ≤ 20 → t ≤ 12 * i → ib_P g ln S N M t src to → ea_P C ex F50 F51 M src to → g_P D (lay C g ad ln ex) ad s.heap.size H → va_S (g_A s.heap.size) s.heap H locs → ∀ ls, lv_has ls 21 [(13, .int (nI mi)), (12, .int (nI bb)), (11, .int (nI aa)), (10, .int (nI z)), (9, .int (nI y)), (8, .int (nI i)), (7, .int (nI M)), (6, .ref (ad (51, 0, 0))), (5, .ref (ad (50, 0, 0))), (4, .int (nI N)), (3, .int (nI S)), (2, .int (nI 1)), (1, .ref (ad (0, 0, 0))), (0, .ref b)] → W p l e room_1 s m #[Value.ref b] below meth c H locs (200 + 700 * i) (30000 + 1500 * i + us 0 t) Q (F0 m 354 ls []) := by
  have hK := hF.1
  have hN := hF.2.1
  have hB : s.heap.size ≤ s.heap.size := Nat.le_refl _
  intro y z aa bb mi M t src to F50 F51 ex g ad ln H locs hz hM20 htt hI hE hG hS ls hl
  obtain ⟨i1, i2, i3, i4, i5, i6, i7, i8, i9, i10⟩ := id hI
  have hU := Nat.le_trans (us_le 0 (show t ≤ 432 by omega)) us_432
  have hN10 : N ≤ 10 := by omega
  refine lv_aload_n hx hb dL_law_354 rfl (lv_at hl 12 rfl) ?_
  refine vp_callSi (W.runV (As := []) (rest := []) ⟨hx, hb, hml, hown, hts⟩ (c_now l ) (cwV 0 hts gL_law_X5_now rfl rfl rfl (by decide +kernel) ⟨Nat.le_of_ble_eq_true rfl, Nat.le_of_ble_eq_true rfl⟩) (g_preV hF hG hS (lay_main) rfl) rfl rfl hl.1 rfl (lv_room (Nat.le_of_ble_eq_true rfl)) dL_law_355 ⟨(r1c (show 200 + 700 * i + 0 ≤ 40000 by omega)), (r1s (show 30000 + 1500 * i + us 0 t + 0 ≤ 5450000 by omega))⟩) (fun r_1 h_2 => ?_)
  refine lv_to (y := nI t) (h_2.trans i9) ?_
  refine lv_istore (lv' := [(14, .int (nI t)), (13, .int (nI mi)), (12, .int (nI bb)), (11, .int (nI aa)), (10, .int (nI z)), (9, .int (nI y)), (8, .int (nI i)), (7, .int (nI M)), (6, .ref (ad (51, 0, 0))), (5, .ref (ad (50, 0, 0))), (4, .int (nI N)), (3, .int (nI S)), (2, .int (nI 1)), (1, .ref (ad (0, 0, 0))), (0, .ref b)]) hx hb dL_law_358 hl (by decide) rfl (fun ls hl => ?_)
  refine lv_iconst (v := nI 0) hx hb dL_law_360 (by decide) ?_
  refine lv_to (y := ngI (cg g 0)) (by show nI 0 = nI 0 - nI 0; decide) ?_
  refine lv_istore (lv' := [(15, .int (ngI (cg g 0))), (14, .int (nI t)), (13, .int (nI mi)), (12, .int (nI bb)), (11, .int (nI aa)), (10, .int (nI z)), (9, .int (nI y)), (8, .int (nI i)), (7, .int (nI M)), (6, .ref (ad (51, 0, 0))), (5, .ref (ad (50, 0, 0))), (4, .int (nI N)), (3, .int (nI S)), (2, .int (nI 1)), (1, .ref (ad (0, 0, 0))), (0, .ref b)]) hx hb dL_law_361 hl (by decide) rfl (fun ls hl => ?_)
  refine lv_iconst (v := nI 0) hx hb dL_law_363 (by decide) ?_
  refine lv_istore (lv' := [(16, .int (nI 0)), (15, .int (ngI (cg g 0))), (14, .int (nI t)), (13, .int (nI mi)), (12, .int (nI bb)), (11, .int (nI aa)), (10, .int (nI z)), (9, .int (nI y)), (8, .int (nI i)), (7, .int (nI M)), (6, .ref (ad (51, 0, 0))), (5, .ref (ad (50, 0, 0))), (4, .int (nI N)), (3, .int (nI S)), (2, .int (nI 1)), (1, .ref (ad (0, 0, 0))), (0, .ref b)]) hx hb dL_law_364 hl (by decide) rfl (fun ls hl => ?_)
  have loop1 : ∀ (q j : Nat) (H : Heap) (locs : List Loc), j ≤ M → M < j + q → g_P D (lay C g ad ln ex) ad s.heap.size H → va_S (g_A s.heap.size) s.heap H locs → ∀ ls, lv_has ls 21 [(16, .int (nI j)), (15, .int (ngI (cg g j))), (14, .int (nI t)), (13, .int (nI mi)), (12, .int (nI bb)), (11, .int (nI aa)), (10, .int (nI z)), (9, .int (nI y)), (8, .int (nI i)), (7, .int (nI M)), (6, .ref (ad (51, 0, 0))), (5, .ref (ad (50, 0, 0))), (4, .int (nI N)), (3, .int (nI S)), (2, .int (nI 1)), (1, .ref (ad (0, 0, 0))), (0, .ref b)] → W p l e room_1 s m #[Value.ref b] below meth c H locs (200 + 700 * i + j) (30000 + 1500 * i + us 0 t + 6 * j) Q (F0 m 366 ls []) := by
    intro q
    induction q with
    | zero => intro j H locs e1 e2; exact absurd e2 (by omega)
    | succ q ih =>
      intro j H locs e1 e2 hG hS ls hl
      refine lv_iload hx hb dL_law_366 (lv_at hl 0 rfl) ?_
      refine lv_iload hx hb dL_law_368 (lv_at hl 9 rfl) ?_
      refine lv_icmp_ge (tgt := 398) hx hb dL_law_370 (by decide) (fun c_3 => ?_) (fun c_3 => ?_)
      · have hj : M = j := by have := (nI_leI (by omega) (by omega)).mp c_3; omega
        subst hj
        obtain ⟨k1, ek⟩ : ∃ k1, k1 = 1 + z % 12 := ⟨_, rfl⟩
        have hua := us_add t k1
        have hU2 := Nat.le_trans (us_le 0 (show t + k1 ≤ 432 by omega)) us_432
        refine lv_aload_n hx hb dL_law_398 rfl (lv_at hl 15 rfl) ?_
        refine lv_iconst (v := nI 1) hx hb dL_law_399 (by decide) ?_
        refine lv_iload hx hb dL_law_400 (lv_at hl 6 rfl) ?_
        refine lv_bipush (v := nI 12) hx hb dL_law_402 (by decide) ?_
        refine lv_irem hx hb dL_law_404 (by decide) ?_
        refine lv_to (y := nI (z % 12)) (pk_rem (by omega) (by decide) (by decide)) ?_
        refine lv_iadd hx hb dL_law_405 ?_
        refine lv_to (y := nI (1 + (z % 12))) (nI_add 1 (z % 12)) ?_
        refine lv_to (y := nI k1) (by rw [ek]) ?_
        refine va_calli (vx_runSW (As := [.ref (ad (0, 0, 0)), .int (nI k1)]) (rest := []) ⟨hx, hb, hml, hown, hts⟩ (l_pass l hN10 i1 i7 hM20 i8 (sta := S) (t := t) (src := src) (to := to) i3 (by omega) (fun j hj => ⟨(i10 j hj).1, (i10 j hj).2.1⟩) i9 (fun j hj => (i10 j hj).2.2.2.2) i4 (show 1 ≤ k1 by omega) (show k1 ≤ 30 by omega) (show t + k1 < 2 ^ 19 by omega)) (vx_cwSW 2 hts gL_law_L_pass rfl rfl rfl (by decide +kernel) ⟨Nat.le_of_ble_eq_true rfl, Nat.le_of_ble_eq_true rfl⟩) (g_preS hF hG hS) rfl rfl hl.1 rfl (lv_room (Nat.le_of_ble_eq_true rfl)) dL_law_406 ⟨(r1c (show 200 + 700 * i + M + 40 * k1 ≤ 40000 by omega)), (r1s (show 30000 + 1500 * i + us 0 t + 6 * M + us t k1 ≤ 5450000 by omega))⟩) hS (fun q _ h => h) (fun q h => h) (fun r_4 u9 t9 H locs ht9 _ h_5 hB1 _ _ hS => ?_)
        obtain ⟨g_6, ad_8, ln_7⟩ := u9
        dsimp only at h_5
        have hG : g_P D (lay C g_6 ad_8 ln_7 ex) ad_8 s.heap.size H := by rw [← ht9]; exact hB1
        have ea0 : ad_8 (51, 0, 0) = ad (51, 0, 0) := h_5.1.2.1 _ (show (51 : Nat) ≠ 41 by decide) (show (51 : Nat) ≠ 42 by decide)
        have ea1 : ad_8 (50, 0, 0) = ad (50, 0, 0) := h_5.1.2.1 _ (show (50 : Nat) ≠ 41 by decide) (show (50 : Nat) ≠ 42 by decide)
        have ea2 : ad_8 (0, 0, 0) = ad (0, 0, 0) := h_5.1.2.1 _ (show (0 : Nat) ≠ 41 by decide) (show (0 : Nat) ≠ 42 by decide)
        have hl : lv_has ls 21 [(16, .int (nI M)), (15, .int (ngI (cg g M))), (14, .int (nI t)), (13, .int (nI mi)), (12, .int (nI bb)), (11, .int (nI aa)), (10, .int (nI z)), (9, .int (nI y)), (8, .int (nI i)), (7, .int (nI M)), (6, .ref (ad_8 (51, 0, 0))), (5, .ref (ad_8 (50, 0, 0))), (4, .int (nI N)), (3, .int (nI S)), (2, .int (nI 1)), (1, .ref (ad_8 (0, 0, 0))), (0, .ref b)] := by rw [ea0, ea1, ea2]; exact hl
        obtain ⟨t1, et1⟩ : ∃ t1, t1 = t + k1 := ⟨_, rfl⟩
        have hJ : ib_P g_6 ln_7 S N M t1 src to := by rw [et1]; exact ib_pass hI h_5
        obtain ⟨j1, j2, j3, j4, j5, j6, j7, j8, j9, j10⟩ := id hJ
        obtain ⟨q9, hq9, er, hq⟩ := h_5.2.2.2.2.2
        refine lv_to (y := nI q9) (er) ?_
        have hua2 : us 0 t1 = us 0 t + us t k1 := by rw [et1]; exact hua
        have hU3 : us 0 t1 ≤ 5350400 := by rw [et1]; exact hU2
        have hq20 : q9 ≤ 20 := by have h1 := cg_le g_6 M; omega
        refine W.widen (k := 200 + 700 * i + 500) (n := 30000 + 1500 * i + 120 + us 0 t1) (by omega) (by omega) ?_
        refine lv_istore (lv' := [(16, .int (nI q9)), (15, .int (ngI (cg g M))), (14, .int (nI t)), (13, .int (nI mi)), (12, .int (nI bb)), (11, .int (nI aa)), (10, .int (nI z)), (9, .int (nI y)), (8, .int (nI i)), (7, .int (nI M)), (6, .ref (ad_8 (51, 0, 0))), (5, .ref (ad_8 (50, 0, 0))), (4, .int (nI N)), (3, .int (nI S)), (2, .int (nI 1)), (1, .ref (ad_8 (0, 0, 0))), (0, .ref b)]) hx hb dL_law_409 hl (by decide) rfl (fun ls hl => ?_)
        refine lv_iconst (v := nI 0) hx hb dL_law_411 (by decide) ?_
        refine lv_istore (lv' := [(17, .int (nI 0)), (16, .int (nI q9)), (15, .int (ngI (cg g M))), (14, .int (nI t)), (13, .int (nI mi)), (12, .int (nI bb)), (11, .int (nI aa)), (10, .int (nI z)), (9, .int (nI y)), (8, .int (nI i)), (7, .int (nI M)), (6, .ref (ad_8 (51, 0, 0))), (5, .ref (ad_8 (50, 0, 0))), (4, .int (nI N)), (3, .int (nI S)), (2, .int (nI 1)), (1, .ref (ad_8 (0, 0, 0))), (0, .ref b)]) hx hb dL_law_412 hl (by decide) rfl (fun ls hl => ?_)
        have loop2 : ∀ (q j : Nat) (H : Heap) (locs : List Loc), j ≤ M → M < j + q → g_P D (lay C g_6 ad_8 ln_7 ex) ad_8 s.heap.size H → va_S (g_A s.heap.size) s.heap H locs → ∀ ls, lv_has ls 21 [(17, .int (nI j)), (16, .int (nI q9)), (15, .int (ngI (cg g M) + nI (cg g_6 j))), (14, .int (nI t)), (13, .int (nI mi)), (12, .int (nI bb)), (11, .int (nI aa)), (10, .int (nI z)), (9, .int (nI y)), (8, .int (nI i)), (7, .int (nI M)), (6, .ref (ad_8 (51, 0, 0))), (5, .ref (ad_8 (50, 0, 0))), (4, .int (nI N)), (3, .int (nI S)), (2, .int (nI 1)), (1, .ref (ad_8 (0, 0, 0))), (0, .ref b)] → W p l e room_1 s m #[Value.ref b] below meth c H locs (200 + 700 * i + 500 + j) (30000 + 1500 * i + 120 + us 0 t1 + 6 * j) Q (F0 m 414 ls []) := by
          intro q2
          induction q2 with
          | zero => intro j H locs e1 e2; exact absurd e2 (by omega)
          | succ q2 ih2 =>
            intro j H locs e1 e2 hG hS ls hl
            refine lv_iload hx hb dL_law_414 (lv_at hl 0 rfl) ?_
            refine lv_iload hx hb dL_law_416 (lv_at hl 10 rfl) ?_
            refine lv_icmp_ge (tgt := 446) hx hb dL_law_418 (by decide) (fun c_9 => ?_) (fun c_9 => ?_)
            · have hj : M = j := by have := (nI_leI (by omega) (by omega)).mp c_9; omega
              subst hj
              refine lv_iload hx hb dL_law_446 (lv_at hl 1 rfl) ?_
              refine lv_iload hx hb dL_law_448 (lv_at hl 2 rfl) ?_
              refine lv_icmp_ne (tgt := 474) hx hb dL_law_450 (by decide) (fun c => absurd (by rw [hq]; exact ng_e _ _) c) (fun _ => ?_)
              refine lv_aload_n hx hb dL_law_453 rfl (lv_at hl 16 rfl) ?_
              refine vp_callSi (W.runV (As := []) (rest := []) ⟨hx, hb, hml, hown, hts⟩ (c_now l ) (cwV 0 hts gL_law_X5_now rfl rfl rfl (by decide +kernel) ⟨Nat.le_of_ble_eq_true rfl, Nat.le_of_ble_eq_true rfl⟩) (g_preV hF hG hS (lay_main) rfl) rfl rfl hl.1 rfl (lv_room (Nat.le_of_ble_eq_true rfl)) dL_law_454 ⟨(r1c (show 200 + 700 * i + 500 + M + 0 ≤ 40000 by omega)), (r1s (show 30000 + 1500 * i + 120 + us 0 t1 + 6 * M + 0 ≤ 5450000 by omega))⟩) (fun r_10 h_11 => ?_)
              refine lv_to (y := nI t1) (h_11.trans j9) ?_
              refine lv_iload hx hb dL_law_457 (lv_at hl 3 rfl) ?_
              refine lv_iconst (v := nI 1) hx hb dL_law_459 (by decide) ?_
              refine lv_iadd hx hb dL_law_460 ?_
              refine lv_to (y := nI (t + 1)) (nI_add t 1) ?_
              refine lv_iload hx hb dL_law_461 (lv_at hl 7 rfl) ?_
              refine lv_bipush (v := nI 12) hx hb dL_law_463 (by decide) ?_
              refine lv_irem hx hb dL_law_465 (by decide) ?_
              refine lv_to (y := nI (z % 12)) (pk_rem (by omega) (by decide) (by decide)) ?_
              refine lv_iadd hx hb dL_law_466 ?_
              refine lv_to (y := nI ((t + 1) + (z % 12))) (nI_add (t + 1) (z % 12)) ?_
              refine lv_icmp_ne (tgt := 474) hx hb dL_law_467 (by decide) (fun c => absurd (by rw [nI_eq (by omega) (by omega)]; omega) c) (fun _ => ?_)
              refine lv_iconst (v := nI 1) hx hb dL_law_470 (by decide) ?_
              refine lv_goto (tgt := 475) hx hb dL_law_471 (by decide) ?_
              refine lv_istore_n (lv' := [(2, .int (nI 1)), (17, .int (nI M)), (16, .int (nI q9)), (15, .int (ngI (cg g M) + nI (cg g_6 M))), (14, .int (nI t)), (13, .int (nI mi)), (12, .int (nI bb)), (11, .int (nI aa)), (10, .int (nI z)), (9, .int (nI y)), (8, .int (nI i)), (7, .int (nI M)), (6, .ref (ad_8 (51, 0, 0))), (5, .ref (ad_8 (50, 0, 0))), (4, .int (nI N)), (3, .int (nI S)), (1, .ref (ad_8 (0, 0, 0))), (0, .ref b)]) hx hb dL_law_475 rfl hl (by decide) rfl (fun ls hl => ?_)
              refine lv_iconst (v := nI 0) hx hb dL_law_476 (by decide) ?_
              refine lv_istore (lv' := [(17, .int (nI 0)), (2, .int (nI 1)), (16, .int (nI q9)), (15, .int (ngI (cg g M) + nI (cg g_6 M))), (14, .int (nI t)), (13, .int (nI mi)), (12, .int (nI bb)), (11, .int (nI aa)), (10, .int (nI z)), (9, .int (nI y)), (8, .int (nI i)), (7, .int (nI M)), (6, .ref (ad_8 (51, 0, 0))), (5, .ref (ad_8 (50, 0, 0))), (4, .int (nI N)), (3, .int (nI S)), (1, .ref (ad_8 (0, 0, 0))), (0, .ref b)]) hx hb dL_law_477 hl (by decide) rfl (fun ls hl => ?_)
              refine W.widen (k := 200 + 700 * i + 600) (n := 30000 + 1500 * i + 1000 + us 0 t1) (by omega) (by omega) ?_
              have loop3 : ∀ (q k : Nat), k ≤ S → S < k + q → ∀ ls, lv_has ls 21 [(17, .int (nI k)), (13, .int (nI mi)), (12, .int (nI bb)), (11, .int (nI aa)), (10, .int (nI z)), (9, .int (nI y)), (8, .int (nI i)), (7, .int (nI M)), (6, .ref (ad_8 (51, 0, 0))), (5, .ref (ad_8 (50, 0, 0))), (4, .int (nI N)), (3, .int (nI S)), (2, .int (nI 1)), (1, .ref (ad_8 (0, 0, 0))), (0, .ref b)] → W p l e room_1 s m #[Value.ref b] below meth c H locs (200 + 700 * i + 600) (30000 + 1500 * i + 1000 + us 0 t1) Q (F0 m 479 ls []) := by
                intro q3
                induction q3 with
                | zero => intro k e1 e2; exact absurd e2 (by omega)
                | succ q3 ih3 =>
                  intro k e1 e2 ls hl
                  refine lv_iload hx hb dL_law_479 (lv_at hl 0 rfl) ?_
                  refine lv_iload_n hx hb dL_law_481 rfl (lv_at hl 11 rfl) ?_
                  refine lv_icmp_ge (tgt := 623) hx hb dL_law_482 (by decide) (fun c_12 => ?_) (fun c_12 => ?_)
                  · refine lv_goto (tgt := 861) hx hb dL_law_623 (by decide) ?_
                    refine W.widen (k := 200 + 700 * i + 600) (n := 30000 + 1500 * i + 1000 + us 0 t1) (by omega) (by omega) ?_
                    exact cont M t1 src to F50 F51 ex g_6 ad_8 ln_7 _ _ (by omega) (by omega) hJ hE hG hS ls (lv_sub hl [6, 7, 8, 9, 10, 11, 12, 13, 14] rfl)
                  · have hk : k < S := Nat.lt_of_not_le (fun h9 => c_12 ((nI_leI (by omega) (by omega)).mpr h9))
                    have hlv : ln_7 (30, k, 0) = 1 := (j3 k (by omega)).mpr hk
                    have hkN : k < N := by omega
                    have hrel : rel_P g_6 N t1 k := by rw [et1]; exact (h_5.2.2.2.2.1 k hk).1 (by omega)
                    refine lv_iload_n hx hb dL_law_485 rfl (lv_at hl 12 rfl) ?_
                    refine lv_if_eq (tgt := 623) hx hb dL_law_486 (by decide) (fun c => absurd c (by decide)) (fun _ => ?_)
                    refine lv_aload_n hx hb dL_law_489 rfl (lv_at hl 13 rfl) ?_
                    refine lv_iload hx hb dL_law_490 (lv_at hl 0 rfl) ?_
                    refine g_callSi (vx_runSW (As := [.ref (ad_8 (0, 0, 0)), .int (nI k)]) (rest := []) ⟨hx, hb, hml, hown, hts⟩ (l_relayOf l hN10 j1 hkN hlv) (vx_cwSW 2 hts gL_law_L_relayOf rfl rfl rfl (by decide +kernel) ⟨Nat.le_of_ble_eq_true rfl, Nat.le_of_ble_eq_true rfl⟩) (g_preS hF hG hS) rfl rfl hl.1 rfl (lv_room (Nat.le_of_ble_eq_true rfl)) dL_law_492 ⟨(r1c (show 200 + 700 * i + 600 + 0 ≤ 40000 by omega)), (r1s (show 30000 + 1500 * i + 1000 + us 0 t1 + 0 ≤ 5450000 by omega))⟩) (fun r_13 h_14 => ?_)
                    obtain ⟨v18, e18⟩ : ∃ v, v = g_6 (30, k, 0) 1 := ⟨_, rfl⟩
                    refine lv_to (y := v18) (h_14.trans e18.symm) ?_
                    unfold rel_P at hrel
                    rw [← e18] at hrel
                    refine lv_istore (lv' := [(18, .int v18), (17, .int (nI k)), (13, .int (nI mi)), (12, .int (nI bb)), (11, .int (nI aa)), (10, .int (nI z)), (9, .int (nI y)), (8, .int (nI i)), (7, .int (nI M)), (6, .ref (ad_8 (51, 0, 0))), (5, .ref (ad_8 (50, 0, 0))), (4, .int (nI N)), (3, .int (nI S)), (2, .int (nI 1)), (1, .ref (ad_8 (0, 0, 0))), (0, .ref b)]) hx hb dL_law_495 hl (by decide) rfl (fun ls hl => ?_)
                    refine lv_iconst (v := nI 0) hx hb dL_law_497 (by decide) ?_
                    refine lv_istore (lv' := [(19, .int (nI 0)), (18, .int v18), (17, .int (nI k)), (13, .int (nI mi)), (12, .int (nI bb)), (11, .int (nI aa)), (10, .int (nI z)), (9, .int (nI y)), (8, .int (nI i)), (7, .int (nI M)), (6, .ref (ad_8 (51, 0, 0))), (5, .ref (ad_8 (50, 0, 0))), (4, .int (nI N)), (3, .int (nI S)), (2, .int (nI 1)), (1, .ref (ad_8 (0, 0, 0))), (0, .ref b)]) hx hb dL_law_498 hl (by decide) rfl (fun ls hl => ?_)
                    refine lv_iload_n hx hb dL_law_500 rfl (lv_at hl 13 rfl) ?_
                    refine lv_istore (lv' := [(20, .int (nI S)), (19, .int (nI 0)), (18, .int v18), (17, .int (nI k)), (13, .int (nI mi)), (12, .int (nI bb)), (11, .int (nI aa)), (10, .int (nI z)), (9, .int (nI y)), (8, .int (nI i)), (7, .int (nI M)), (6, .ref (ad_8 (51, 0, 0))), (5, .ref (ad_8 (50, 0, 0))), (4, .int (nI N)), (3, .int (nI S)), (2, .int (nI 1)), (1, .ref (ad_8 (0, 0, 0))), (0, .ref b)]) hx hb dL_law_501 hl (by decide) rfl (fun ls hl => ?_)
                    have loop4 : ∀ (q o9 x9 : Nat), o9 ≤ N → N < o9 + q → x9 ≤ 360 → ((∀ o, o < N → see g_6 k o t1 = false) → x9 = 0) → ∀ ls, lv_has ls 21 [(20, .int (nI o9)), (19, .int (nI x9)), (18, .int v18), (17, .int (nI k)), (13, .int (nI mi)), (12, .int (nI bb)), (11, .int (nI aa)), (10, .int (nI z)), (9, .int (nI y)), (8, .int (nI i)), (7, .int (nI M)), (6, .ref (ad_8 (51, 0, 0))), (5, .ref (ad_8 (50, 0, 0))), (4, .int (nI N)), (3, .int (nI S)), (2, .int (nI 1)), (1, .ref (ad_8 (0, 0, 0))), (0, .ref b)] → W p l e room_1 s m #[Value.ref b] below meth c H locs (200 + 700 * i + 600) (30000 + 1500 * i + 1000 + us 0 t1) Q (F0 m 503 ls []) := by
                      intro q4
                      induction q4 with
                      | zero => intro o9 x9 e1 e2; exact absurd e2 (by omega)
                      | succ q4 ih4 =>
                        intro o9 x9 f1 f2 f3 f4 ls hl
                        refine lv_iload hx hb dL_law_503 (lv_at hl 0 rfl) ?_
                        refine lv_iload hx hb dL_law_505 (lv_at hl 13 rfl) ?_
                        refine lv_icmp_ge (tgt := 552) hx hb dL_law_507 (by decide) (fun c_15 => ?_) (fun c_15 => ?_)
                        · refine lv_iload hx hb dL_law_552 (lv_at hl 2 rfl) ?_
                          rcases hrel with ⟨r1, r2⟩ | ⟨r0, r1, r2, r3⟩
                          · have hx0 := f4 r2
                            subst hx0
                            subst r1
                            refine lv_if_ge (tgt := 570) hx hb dL_law_554 (by decide) (fun c => absurd c (by decide)) (fun _ => ?_)
                            refine lv_iload hx hb dL_law_557 (lv_at hl 1 rfl) ?_
                            refine lv_if_ne (tgt := 566) hx hb dL_law_559 (by decide) (fun c => absurd (by decide) c) (fun _ => ?_)
                            obtain ⟨-, h8, g8, e8⟩ := j4 k hk
                            refine lv_iconst (v := nI 1) hx hb dL_law_562 (by decide) ?_
                            refine lv_goto (tgt := 597) hx hb dL_law_563 (by decide) ?_
                            refine lv_istore_n (lv' := [(2, .int (nI 1)), (20, .int (nI o9)), (19, .int (nI 0)), (18, .int (-1)), (17, .int (nI k)), (13, .int (nI mi)), (12, .int (nI bb)), (11, .int (nI aa)), (10, .int (nI z)), (9, .int (nI y)), (8, .int (nI i)), (7, .int (nI M)), (6, .ref (ad_8 (51, 0, 0))), (5, .ref (ad_8 (50, 0, 0))), (4, .int (nI N)), (3, .int (nI S)), (1, .ref (ad_8 (0, 0, 0))), (0, .ref b)]) hx hb dL_law_597 rfl hl (by decide) rfl (fun ls hl => ?_)
                            refine lv_iload_n hx hb dL_law_598 rfl (lv_at hl 0 rfl) ?_
                            refine lv_if_eq (tgt := 615) hx hb dL_law_599 (by decide) (fun c => absurd c (by decide)) (fun _ => ?_)
                            refine lv_aload_n hx hb dL_law_602 rfl (lv_at hl 16 rfl) ?_
                            refine lv_iload hx hb dL_law_603 (lv_at hl 4 rfl) ?_
                            refine g_callSi (vx_runSW (As := [.ref (ad_8 (0, 0, 0)), .int (nI k)]) (rest := []) ⟨hx, hb, hml, hown, hts⟩ (l_handovers l hN10 j1 hkN hlv) (vx_cwSW 2 hts gL_law_L_handovers rfl rfl rfl (by decide +kernel) ⟨Nat.le_of_ble_eq_true rfl, Nat.le_of_ble_eq_true rfl⟩) (g_preS hF hG hS) rfl rfl hl.1 rfl (lv_room (Nat.le_of_ble_eq_true rfl)) dL_law_605 ⟨(r1c (show 200 + 700 * i + 600 + 0 ≤ 40000 by omega)), (r1s (show 30000 + 1500 * i + 1000 + us 0 t1 + 0 ≤ 5450000 by omega))⟩) (fun r_16 h_17 => ?_)
                            refine lv_to (y := nI h8) (h_17.trans e8) ?_
                            refine lv_if_lt (tgt := 615) hx hb dL_law_608 (by decide) (fun c => absurd c (nI_pos (by omega))) (fun _ => ?_)
                            refine lv_iconst (v := nI 1) hx hb dL_law_611 (by decide) ?_
                            refine lv_goto (tgt := 616) hx hb dL_law_612 (by decide) ?_
                            refine lv_istore_n (lv' := [(2, .int (nI 1)), (20, .int (nI o9)), (19, .int (nI 0)), (18, .int (-1)), (17, .int (nI k)), (13, .int (nI mi)), (12, .int (nI bb)), (11, .int (nI aa)), (10, .int (nI z)), (9, .int (nI y)), (8, .int (nI i)), (7, .int (nI M)), (6, .ref (ad_8 (51, 0, 0))), (5, .ref (ad_8 (50, 0, 0))), (4, .int (nI N)), (3, .int (nI S)), (1, .ref (ad_8 (0, 0, 0))), (0, .ref b)]) hx hb dL_law_616 rfl hl (by decide) rfl (fun ls hl => ?_)
                            refine lv_iinc (v := nI (k + 1)) (lv' := [(17, .int (nI (k + 1))), (2, .int (nI 1)), (20, .int (nI o9)), (19, .int (nI 0)), (18, .int (-1)), (13, .int (nI mi)), (12, .int (nI bb)), (11, .int (nI aa)), (10, .int (nI z)), (9, .int (nI y)), (8, .int (nI i)), (7, .int (nI M)), (6, .ref (ad_8 (51, 0, 0))), (5, .ref (ad_8 (50, 0, 0))), (4, .int (nI N)), (3, .int (nI S)), (1, .ref (ad_8 (0, 0, 0))), (0, .ref b)]) hx hb dL_law_617 hl (k := 4) rfl (nI_add k 1) (by decide) rfl (fun ls hl => ?_)
                            refine lv_goto (tgt := 479) hx hb dL_law_620 (by decide) ?_
                            exact ih3 (k + 1) (by omega) (by omega) ls (lv_sub hl [0, 5, 6, 7, 8, 9, 10, 11, 12, 13, 14, 15, 1, 16, 17] rfl)
                          · subst r2
                            have hr0S : S ≤ r0 := Nat.le_of_not_lt (fun z => absurd ((j5 k r0 t1 hk z).symm.trans r3) (by decide))
                            refine lv_if_ge (tgt := 570) hx hb dL_law_554 (by decide) (fun _ => ?_) (fun c => absurd (nI_pos' (by omega)) c)
                            refine lv_iload hx hb dL_law_570 (lv_at hl 2 rfl) ?_
                            refine lv_iload_n hx hb dL_law_572 rfl (lv_at hl 14 rfl) ?_
                            refine lv_icmp_lt (tgt := 596) hx hb dL_law_573 (by decide) (fun c => absurd c (by rw [nI_ltI (by omega) (by omega)]; omega)) (fun _ => ?_)
                            refine lv_aload_n hx hb dL_law_576 rfl (lv_at hl 16 rfl) ?_
                            refine lv_iload hx hb dL_law_577 (lv_at hl 3 rfl) ?_
                            refine lv_iload hx hb dL_law_579 (lv_at hl 2 rfl) ?_
                            refine lv_aload_n hx hb dL_law_581 rfl (lv_at hl 16 rfl) ?_
                            refine vp_callSi (W.runV (As := []) (rest := [.int (nI r0), .int (nI k), .ref (ad_8 (0, 0, 0))]) ⟨hx, hb, hml, hown, hts⟩ (c_now l ) (cwV 0 hts gL_law_X5_now rfl rfl rfl (by decide +kernel) ⟨Nat.le_of_ble_eq_true rfl, Nat.le_of_ble_eq_true rfl⟩) (g_preV hF hG hS (lay_main) rfl) rfl rfl hl.1 rfl (lv_room (Nat.le_of_ble_eq_true rfl)) dL_law_582 ⟨(r1c (show 200 + 700 * i + 600 + 0 ≤ 40000 by omega)), (r1s (show 30000 + 1500 * i + 1000 + us 0 t1 + 0 ≤ 5450000 by omega))⟩) (fun r_18 h_19 => ?_)
                            refine lv_to (y := nI t1) (h_19.trans j9) ?_
                            refine g_callSi (vx_runSW (As := [.ref (ad_8 (0, 0, 0)), .int (nI k), .int (nI r0), .int (nI t1)]) (rest := []) ⟨hx, hb, hml, hown, hts⟩ (l_see l hN10 j1 hkN r1 (show t1 ≤ 1000000 by omega)) (vx_cwSW 4 hts gL_law_L_see rfl rfl rfl (by decide +kernel) ⟨Nat.le_of_ble_eq_true rfl, Nat.le_of_ble_eq_true rfl⟩) (g_preS hF hG hS) rfl rfl hl.1 rfl (lv_room (Nat.le_of_ble_eq_true rfl)) dL_law_585 ⟨(r1c (show 200 + 700 * i + 600 + 0 ≤ 40000 by omega)), (r1s (show 30000 + 1500 * i + 1000 + us 0 t1 + 0 ≤ 5450000 by omega))⟩) (fun r_20 h_21 => ?_)
                            refine lv_to (y := nI 1) (h_21.trans (sI_t r3)) ?_
                            refine lv_iconst (v := nI 1) hx hb dL_law_588 (by decide) ?_
                            refine lv_icmp_ne (tgt := 596) hx hb dL_law_589 (by decide) (fun c => absurd (rfl) c) (fun _ => ?_)
                            obtain ⟨-, h8, g8, e8⟩ := j4 k hk
                            refine lv_iconst (v := nI 1) hx hb dL_law_592 (by decide) ?_
                            refine lv_goto (tgt := 597) hx hb dL_law_593 (by decide) ?_
                            refine lv_istore_n (lv' := [(2, .int (nI 1)), (20, .int (nI o9)), (19, .int (nI x9)), (18, .int (nI r0)), (17, .int (nI k)), (13, .int (nI mi)), (12, .int (nI bb)), (11, .int (nI aa)), (10, .int (nI z)), (9, .int (nI y)), (8, .int (nI i)), (7, .int (nI M)), (6, .ref (ad_8 (51, 0, 0))), (5, .ref (ad_8 (50, 0, 0))), (4, .int (nI N)), (3, .int (nI S)), (1, .ref (ad_8 (0, 0, 0))), (0, .ref b)]) hx hb dL_law_597 rfl hl (by decide) rfl (fun ls hl => ?_)
                            refine lv_iload_n hx hb dL_law_598 rfl (lv_at hl 0 rfl) ?_
                            refine lv_if_eq (tgt := 615) hx hb dL_law_599 (by decide) (fun c => absurd c (by decide)) (fun _ => ?_)
                            refine lv_aload_n hx hb dL_law_602 rfl (lv_at hl 16 rfl) ?_
                            refine lv_iload hx hb dL_law_603 (lv_at hl 4 rfl) ?_
                            refine g_callSi (vx_runSW (As := [.ref (ad_8 (0, 0, 0)), .int (nI k)]) (rest := []) ⟨hx, hb, hml, hown, hts⟩ (l_handovers l hN10 j1 hkN hlv) (vx_cwSW 2 hts gL_law_L_handovers rfl rfl rfl (by decide +kernel) ⟨Nat.le_of_ble_eq_true rfl, Nat.le_of_ble_eq_true rfl⟩) (g_preS hF hG hS) rfl rfl hl.1 rfl (lv_room (Nat.le_of_ble_eq_true rfl)) dL_law_605 ⟨(r1c (show 200 + 700 * i + 600 + 0 ≤ 40000 by omega)), (r1s (show 30000 + 1500 * i + 1000 + us 0 t1 + 0 ≤ 5450000 by omega))⟩) (fun r_22 h_23 => ?_)
                            refine lv_to (y := nI h8) (h_23.trans e8) ?_
                            refine lv_if_lt (tgt := 615) hx hb dL_law_608 (by decide) (fun c => absurd c (nI_pos (by omega))) (fun _ => ?_)
                            refine lv_iconst (v := nI 1) hx hb dL_law_611 (by decide) ?_
                            refine lv_goto (tgt := 616) hx hb dL_law_612 (by decide) ?_
                            refine lv_istore_n (lv' := [(2, .int (nI 1)), (20, .int (nI o9)), (19, .int (nI x9)), (18, .int (nI r0)), (17, .int (nI k)), (13, .int (nI mi)), (12, .int (nI bb)), (11, .int (nI aa)), (10, .int (nI z)), (9, .int (nI y)), (8, .int (nI i)), (7, .int (nI M)), (6, .ref (ad_8 (51, 0, 0))), (5, .ref (ad_8 (50, 0, 0))), (4, .int (nI N)), (3, .int (nI S)), (1, .ref (ad_8 (0, 0, 0))), (0, .ref b)]) hx hb dL_law_616 rfl hl (by decide) rfl (fun ls hl => ?_)
                            refine lv_iinc (v := nI (k + 1)) (lv' := [(17, .int (nI (k + 1))), (2, .int (nI 1)), (20, .int (nI o9)), (19, .int (nI x9)), (18, .int (nI r0)), (13, .int (nI mi)), (12, .int (nI bb)), (11, .int (nI aa)), (10, .int (nI z)), (9, .int (nI y)), (8, .int (nI i)), (7, .int (nI M)), (6, .ref (ad_8 (51, 0, 0))), (5, .ref (ad_8 (50, 0, 0))), (4, .int (nI N)), (3, .int (nI S)), (1, .ref (ad_8 (0, 0, 0))), (0, .ref b)]) hx hb dL_law_617 hl (k := 4) rfl (nI_add k 1) (by decide) rfl (fun ls hl => ?_)
                            refine lv_goto (tgt := 479) hx hb dL_law_620 (by decide) ?_
                            exact ih3 (k + 1) (by omega) (by omega) ls (lv_sub hl [0, 5, 6, 7, 8, 9, 10, 11, 12, 13, 14, 15, 1, 16, 17] rfl)
                        · have ho : o9 < N := Nat.lt_of_not_le (fun h9 => c_15 ((nI_leI (by omega) (by omega)).mpr h9))
                          refine lv_aload_n hx hb dL_law_510 rfl (lv_at hl 16 rfl) ?_
                          refine lv_iload hx hb dL_law_511 (lv_at hl 3 rfl) ?_
                          refine lv_iload hx hb dL_law_513 (lv_at hl 0 rfl) ?_
                          refine lv_aload_n hx hb dL_law_515 rfl (lv_at hl 16 rfl) ?_
                          refine vp_callSi (W.runV (As := []) (rest := [.int (nI o9), .int (nI k), .ref (ad_8 (0, 0, 0))]) ⟨hx, hb, hml, hown, hts⟩ (c_now l ) (cwV 0 hts gL_law_X5_now rfl rfl rfl (by decide +kernel) ⟨Nat.le_of_ble_eq_true rfl, Nat.le_of_ble_eq_true rfl⟩) (g_preV hF hG hS (lay_main) rfl) rfl rfl hl.1 rfl (lv_room (Nat.le_of_ble_eq_true rfl)) dL_law_516 ⟨(r1c (show 200 + 700 * i + 600 + 0 ≤ 40000 by omega)), (r1s (show 30000 + 1500 * i + 1000 + us 0 t1 + 0 ≤ 5450000 by omega))⟩) (fun r_24 h_25 => ?_)
                          refine lv_to (y := nI t1) (h_25.trans j9) ?_
                          refine g_callSi (vx_runSW (As := [.ref (ad_8 (0, 0, 0)), .int (nI k), .int (nI o9), .int (nI t1)]) (rest := []) ⟨hx, hb, hml, hown, hts⟩ (l_view l hN10 j1 hkN ho (show t1 ≤ 1000000 by omega)) (vx_cwSW 4 hts gL_law_L_view rfl rfl rfl (by decide +kernel) ⟨Nat.le_of_ble_eq_true rfl, Nat.le_of_ble_eq_true rfl⟩) (g_preS hF hG hS) rfl rfl hl.1 rfl (lv_room (Nat.le_of_ble_eq_true rfl)) dL_law_519 ⟨(r1c (show 200 + 700 * i + 600 + 0 ≤ 40000 by omega)), (r1s (show 30000 + 1500 * i + 1000 + us 0 t1 + 0 ≤ 5450000 by omega))⟩) (fun r_26 h_27 => ?_)
                          obtain ⟨kv, kv0, kv1, -, kve⟩ := h_27
                          refine lv_to (y := nI kv) (kve) ?_
                          refine lv_iload hx hb dL_law_522 (lv_at hl 1 rfl) ?_
                          refine lv_icmp_le (tgt := 542) hx hb dL_law_524 (by decide) (fun c_28 => ?_) (fun c_28 => ?_)
                          · refine lv_iload hx hb dL_law_542 (lv_at hl 1 rfl) ?_
                            refine lv_istore (lv' := [(19, .int (nI x9)), (20, .int (nI o9)), (18, .int v18), (17, .int (nI k)), (13, .int (nI mi)), (12, .int (nI bb)), (11, .int (nI aa)), (10, .int (nI z)), (9, .int (nI y)), (8, .int (nI i)), (7, .int (nI M)), (6, .ref (ad_8 (51, 0, 0))), (5, .ref (ad_8 (50, 0, 0))), (4, .int (nI N)), (3, .int (nI S)), (2, .int (nI 1)), (1, .ref (ad_8 (0, 0, 0))), (0, .ref b)]) hx hb dL_law_544 hl (by decide) rfl (fun ls hl => ?_)
                            refine lv_iinc (v := nI (o9 + 1)) (lv' := [(20, .int (nI (o9 + 1))), (19, .int (nI x9)), (18, .int v18), (17, .int (nI k)), (13, .int (nI mi)), (12, .int (nI bb)), (11, .int (nI aa)), (10, .int (nI z)), (9, .int (nI y)), (8, .int (nI i)), (7, .int (nI M)), (6, .ref (ad_8 (51, 0, 0))), (5, .ref (ad_8 (50, 0, 0))), (4, .int (nI N)), (3, .int (nI S)), (2, .int (nI 1)), (1, .ref (ad_8 (0, 0, 0))), (0, .ref b)]) hx hb dL_law_546 hl (k := 1) rfl (nI_add o9 1) (by decide) rfl (fun ls hl => ?_)
                            refine lv_goto (tgt := 503) hx hb dL_law_549 (by decide) ?_
                            exact ih4 (o9 + 1) x9 (by omega) (by omega) f3 f4 ls (lv_sub hl [0, 1, 2, 3, 4, 5, 6, 7, 8, 9, 10, 11, 12, 13, 14, 15, 16, 17] rfl)
                          · refine lv_aload_n hx hb dL_law_527 rfl (lv_at hl 16 rfl) ?_
                            refine lv_iload hx hb dL_law_528 (lv_at hl 3 rfl) ?_
                            refine lv_iload hx hb dL_law_530 (lv_at hl 0 rfl) ?_
                            refine lv_aload_n hx hb dL_law_532 rfl (lv_at hl 16 rfl) ?_
                            refine vp_callSi (W.runV (As := []) (rest := [.int (nI o9), .int (nI k), .ref (ad_8 (0, 0, 0))]) ⟨hx, hb, hml, hown, hts⟩ (c_now l ) (cwV 0 hts gL_law_X5_now rfl rfl rfl (by decide +kernel) ⟨Nat.le_of_ble_eq_true rfl, Nat.le_of_ble_eq_true rfl⟩) (g_preV hF hG hS (lay_main) rfl) rfl rfl hl.1 rfl (lv_room (Nat.le_of_ble_eq_true rfl)) dL_law_533 ⟨(r1c (show 200 + 700 * i + 600 + 0 ≤ 40000 by omega)), (r1s (show 30000 + 1500 * i + 1000 + us 0 t1 + 0 ≤ 5450000 by omega))⟩) (fun r_29 h_30 => ?_)
                            refine lv_to (y := nI t1) (h_30.trans j9) ?_
                            refine g_callSi (vx_runSW (As := [.ref (ad_8 (0, 0, 0)), .int (nI k), .int (nI o9), .int (nI t1)]) (rest := []) ⟨hx, hb, hml, hown, hts⟩ (l_view l hN10 j1 hkN ho (show t1 ≤ 1000000 by omega)) (vx_cwSW 4 hts gL_law_L_view rfl rfl rfl (by decide +kernel) ⟨Nat.le_of_ble_eq_true rfl, Nat.le_of_ble_eq_true rfl⟩) (g_preS hF hG hS) rfl rfl hl.1 rfl (lv_room (Nat.le_of_ble_eq_true rfl)) dL_law_536 ⟨(r1c (show 200 + 700 * i + 600 + 0 ≤ 40000 by omega)), (r1s (show 30000 + 1500 * i + 1000 + us 0 t1 + 0 ≤ 5450000 by omega))⟩) (fun r_31 h_32 => ?_)
                            obtain ⟨kw, kw0, kw1, -, kwe⟩ := h_32
                            refine lv_to (y := nI kw) (kwe) ?_
                            refine lv_goto (tgt := 544) hx hb dL_law_539 (by decide) ?_
                            refine lv_istore (lv' := [(19, .int (nI kw)), (20, .int (nI o9)), (18, .int v18), (17, .int (nI k)), (13, .int (nI mi)), (12, .int (nI bb)), (11, .int (nI aa)), (10, .int (nI z)), (9, .int (nI y)), (8, .int (nI i)), (7, .int (nI M)), (6, .ref (ad_8 (51, 0, 0))), (5, .ref (ad_8 (50, 0, 0))), (4, .int (nI N)), (3, .int (nI S)), (2, .int (nI 1)), (1, .ref (ad_8 (0, 0, 0))), (0, .ref b)]) hx hb dL_law_544 hl (by decide) rfl (fun ls hl => ?_)
                            refine lv_iinc (v := nI (o9 + 1)) (lv' := [(20, .int (nI (o9 + 1))), (19, .int (nI kw)), (18, .int v18), (17, .int (nI k)), (13, .int (nI mi)), (12, .int (nI bb)), (11, .int (nI aa)), (10, .int (nI z)), (9, .int (nI y)), (8, .int (nI i)), (7, .int (nI M)), (6, .ref (ad_8 (51, 0, 0))), (5, .ref (ad_8 (50, 0, 0))), (4, .int (nI N)), (3, .int (nI S)), (2, .int (nI 1)), (1, .ref (ad_8 (0, 0, 0))), (0, .ref b)]) hx hb dL_law_546 hl (k := 1) rfl (nI_add o9 1) (by decide) rfl (fun ls hl => ?_)
                            refine lv_goto (tgt := 503) hx hb dL_law_549 (by decide) ?_
                            exact ih4 (o9 + 1) kw (by omega) (by omega) kw0 (fun hno => Nat.le_zero.mp (Nat.le_of_not_lt (fun z => absurd ((hno o9 ho).symm.trans (kw1 0 z)) (by decide)))) ls (lv_sub hl [0, 1, 2, 3, 4, 5, 6, 7, 8, 9, 10, 11, 12, 13, 14, 15, 16, 17] rfl)
                    exact loop4 (N + 1) S 0 (by omega) (by omega) (by decide) (fun _ => rfl) ls (lv_sub hl [0, 1, 2, 3, 4, 5, 6, 7, 8, 9, 10, 11, 12, 13, 14, 15, 16, 17] rfl)
              exact loop3 (S + 1) 0 (Nat.zero_le S) (by omega) ls (lv_sub hl [0, 5, 6, 7, 8, 9, 10, 11, 12, 13, 14, 15, 1, 16, 17] rfl)
            · have hj : j < M := Nat.lt_of_not_le (fun h9 => c_9 ((nI_leI (by omega) (by omega)).mpr h9))
              obtain ⟨h, N9, T9, ⟨m1, m2, m3, m4, -⟩, ⟨m5, -⟩, m6, -, m8, -⟩ := (j10 j hj).2.2.2.2
              refine lv_iload hx hb dL_law_421 (lv_at hl 2 rfl) ?_
              refine lv_aload_n hx hb dL_law_423 rfl (lv_at hl 16 rfl) ?_
              refine lv_iload hx hb dL_law_424 (lv_at hl 0 rfl) ?_
              rcases Classical.em (g_6 (40, j, 0) 2 = g_6 (40, j, 0) 0) with c_33 | c_33
              · have hh0 : 0 < h := Nat.pos_of_ne_zero (fun z => by subst z; rw [m1, m2, m6] at c_33; exact (j10 j hj).2.2.2.1 ((nI_eq (by have := (j10 j hj).2.2.1; omega) (by have := (j10 j hj).2.1; omega)).mp c_33))
                have hT9 := (m8 (h - 1) (by omega)).2.2.2.1
                refine g_callSi (vx_runSW (As := [.ref (ad_8 (0, 0, 0)), .int (nI j)]) (rest := [.int (ngI (cg g M) + nI (cg g_6 j))]) ⟨hx, hb, hml, hown, hts⟩ (l_arrivedAt l j7 hM20 j8 hj c_33) (vx_cwSW 2 hts gL_law_L_arrivedAt rfl rfl rfl (by decide +kernel) ⟨Nat.le_of_ble_eq_true rfl, Nat.le_of_ble_eq_true rfl⟩) (g_preS hF hG hS) rfl rfl hl.1 rfl (lv_room (Nat.le_of_ble_eq_true rfl)) dL_law_426 ⟨(r1c (show 200 + 700 * i + 500 + j + 0 ≤ 40000 by omega)), (r1s (show 30000 + 1500 * i + 120 + us 0 t1 + 6 * j + 0 ≤ 5450000 by omega))⟩) (fun r_34 h_35 => ?_)
                refine lv_to (y := nI (T9 (h - 1) + 1)) (h_35.trans (m4 hh0)) ?_
                refine lv_if_lt (tgt := 436) hx hb dL_law_429 (by decide) (fun c => absurd c (nI_pos (by omega))) (fun _ => ?_)
                refine lv_iconst (v := nI 1) hx hb dL_law_432 (by decide) ?_
                refine lv_goto (tgt := 437) hx hb dL_law_433 (by decide) ?_
                refine lv_iadd hx hb dL_law_437 ?_
                refine lv_to (y := ngI (cg g M) + nI (cg g_6 (j + 1))) (by rw [ng_p, cg, if_pos c_33]) ?_
                refine lv_istore (lv' := [(15, .int (ngI (cg g M) + nI (cg g_6 (j + 1)))), (17, .int (nI j)), (16, .int (nI q9)), (14, .int (nI t)), (13, .int (nI mi)), (12, .int (nI bb)), (11, .int (nI aa)), (10, .int (nI z)), (9, .int (nI y)), (8, .int (nI i)), (7, .int (nI M)), (6, .ref (ad_8 (51, 0, 0))), (5, .ref (ad_8 (50, 0, 0))), (4, .int (nI N)), (3, .int (nI S)), (2, .int (nI 1)), (1, .ref (ad_8 (0, 0, 0))), (0, .ref b)]) hx hb dL_law_438 hl (by decide) rfl (fun ls hl => ?_)
                refine lv_iinc (v := nI (j + 1)) (lv' := [(17, .int (nI (j + 1))), (15, .int (ngI (cg g M) + nI (cg g_6 (j + 1)))), (16, .int (nI q9)), (14, .int (nI t)), (13, .int (nI mi)), (12, .int (nI bb)), (11, .int (nI aa)), (10, .int (nI z)), (9, .int (nI y)), (8, .int (nI i)), (7, .int (nI M)), (6, .ref (ad_8 (51, 0, 0))), (5, .ref (ad_8 (50, 0, 0))), (4, .int (nI N)), (3, .int (nI S)), (2, .int (nI 1)), (1, .ref (ad_8 (0, 0, 0))), (0, .ref b)]) hx hb dL_law_440 hl (k := 1) rfl (nI_add j 1) (by decide) rfl (fun ls hl => ?_)
                refine lv_goto (tgt := 414) hx hb dL_law_443 (by decide) ?_
                refine W.widen (k := 200 + 700 * i + 500 + (j + 1)) (n := 30000 + 1500 * i + 120 + us 0 t1 + 6 * (j + 1)) (by omega) (by omega) ?_
                exact ih2 (j + 1) _ _ (by omega) (by omega) hG hS ls (lv_sub hl [0, 2, 1, 3, 4, 5, 6, 7, 8, 9, 10, 11, 12, 13, 14, 15, 16, 17] rfl)
              · refine va_calli (vx_runSW (As := [.ref (ad_8 (0, 0, 0)), .int (nI j)]) (rest := [.int (ngI (cg g M) + nI (cg g_6 j))]) ⟨hx, hb, hml, hown, hts⟩ (lx_arrivedAtN l hst j7 hM20 j8 hj c_33) (vx_cwSW 2 hts gL_law_L_arrivedAt rfl rfl rfl (by decide +kernel) ⟨Nat.le_of_ble_eq_true rfl, Nat.le_of_ble_eq_true rfl⟩) (g_preS hF hG hS) rfl rfl hl.1 rfl (lv_room (Nat.le_of_ble_eq_true rfl)) dL_law_426 ⟨(r1c (show 200 + 700 * i + 500 + j + 1 ≤ 40000 by omega)), (r1s (show 30000 + 1500 * i + 120 + us 0 t1 + 6 * j + 6 ≤ 5450000 by omega))⟩) hS (fun q _ h => h) (fun q h => h) (fun r_36 g_38 t9 H locs ht9 _ h_37 hB1 _ _ hS => ?_)
                have hG : g_P D (lay C g_38 ad_8 ln_7 ex) ad_8 s.heap.size H := by rw [← ht9]; exact hB1
                rw [h_37.2] at hG
                refine lv_to (y := (-104)) (h_37.1) ?_
                refine lv_if_lt (tgt := 436) hx hb dL_law_429 (by decide) (fun _ => ?_) (fun c => absurd (by decide) c)
                refine lv_iconst (v := nI 0) hx hb dL_law_436 (by decide) ?_
                refine lv_iadd hx hb dL_law_437 ?_
                refine lv_to (y := ngI (cg g M) + nI (cg g_6 (j + 1))) (by rw [ng_p0, cg, if_neg c_33]; rfl) ?_
                refine lv_istore (lv' := [(15, .int (ngI (cg g M) + nI (cg g_6 (j + 1)))), (17, .int (nI j)), (16, .int (nI q9)), (14, .int (nI t)), (13, .int (nI mi)), (12, .int (nI bb)), (11, .int (nI aa)), (10, .int (nI z)), (9, .int (nI y)), (8, .int (nI i)), (7, .int (nI M)), (6, .ref (ad_8 (51, 0, 0))), (5, .ref (ad_8 (50, 0, 0))), (4, .int (nI N)), (3, .int (nI S)), (2, .int (nI 1)), (1, .ref (ad_8 (0, 0, 0))), (0, .ref b)]) hx hb dL_law_438 hl (by decide) rfl (fun ls hl => ?_)
                refine lv_iinc (v := nI (j + 1)) (lv' := [(17, .int (nI (j + 1))), (15, .int (ngI (cg g M) + nI (cg g_6 (j + 1)))), (16, .int (nI q9)), (14, .int (nI t)), (13, .int (nI mi)), (12, .int (nI bb)), (11, .int (nI aa)), (10, .int (nI z)), (9, .int (nI y)), (8, .int (nI i)), (7, .int (nI M)), (6, .ref (ad_8 (51, 0, 0))), (5, .ref (ad_8 (50, 0, 0))), (4, .int (nI N)), (3, .int (nI S)), (2, .int (nI 1)), (1, .ref (ad_8 (0, 0, 0))), (0, .ref b)]) hx hb dL_law_440 hl (k := 1) rfl (nI_add j 1) (by decide) rfl (fun ls hl => ?_)
                refine lv_goto (tgt := 414) hx hb dL_law_443 (by decide) ?_
                refine W.widen (k := 200 + 700 * i + 500 + (j + 1)) (n := 30000 + 1500 * i + 120 + us 0 t1 + 6 * (j + 1)) (by omega) (by omega) ?_
                exact ih2 (j + 1) _ _ (by omega) (by omega) hG hS ls (lv_sub hl [0, 2, 1, 3, 4, 5, 6, 7, 8, 9, 10, 11, 12, 13, 14, 15, 16, 17] rfl)
        have e15 : ngI (cg g M) + nI (cg g_6 0) = ngI (cg g M) := by show ngI (cg g M) + nI 0 = _; rw [nI_0, Int32.add_zero]
        have hl : lv_has ls 21 [(17, .int (nI 0)), (16, .int (nI q9)), (15, .int (ngI (cg g M) + nI (cg g_6 0))), (14, .int (nI t)), (13, .int (nI mi)), (12, .int (nI bb)), (11, .int (nI aa)), (10, .int (nI z)), (9, .int (nI y)), (8, .int (nI i)), (7, .int (nI M)), (6, .ref (ad_8 (51, 0, 0))), (5, .ref (ad_8 (50, 0, 0))), (4, .int (nI N)), (3, .int (nI S)), (2, .int (nI 1)), (1, .ref (ad_8 (0, 0, 0))), (0, .ref b)] := by rw [e15]; exact hl
        exact loop2 (M + 1) 0 _ _ (Nat.zero_le M) (by omega) hG hS ls (lv_sub hl [0, 1, 2, 3, 4, 5, 6, 7, 8, 9, 10, 11, 12, 13, 14, 15, 16, 17] rfl)
      · have hj : j < M := Nat.lt_of_not_le (fun h9 => c_3 ((nI_leI (by omega) (by omega)).mpr h9))
        obtain ⟨h, N9, T9, ⟨m1, m2, m3, m4, -⟩, ⟨m5, -⟩, m6, -, m8, -⟩ := (i10 j hj).2.2.2.2
        refine lv_iload hx hb dL_law_373 (lv_at hl 1 rfl) ?_
        refine lv_aload_n hx hb dL_law_375 rfl (lv_at hl 15 rfl) ?_
        refine lv_iload hx hb dL_law_376 (lv_at hl 0 rfl) ?_
        rcases Classical.em (g (40, j, 0) 2 = g (40, j, 0) 0) with c_39 | c_39
        · have hh0 : 0 < h := Nat.pos_of_ne_zero (fun z => by subst z; rw [m1, m2, m6] at c_39; exact (i10 j hj).2.2.2.1 ((nI_eq (by have := (i10 j hj).2.2.1; omega) (by have := (i10 j hj).2.1; omega)).mp c_39))
          have hT9 := (m8 (h - 1) (by omega)).2.2.2.1
          refine g_callSi (vx_runSW (As := [.ref (ad (0, 0, 0)), .int (nI j)]) (rest := [.int (ngI (cg g j))]) ⟨hx, hb, hml, hown, hts⟩ (l_arrivedAt l i7 hM20 i8 hj c_39) (vx_cwSW 2 hts gL_law_L_arrivedAt rfl rfl rfl (by decide +kernel) ⟨Nat.le_of_ble_eq_true rfl, Nat.le_of_ble_eq_true rfl⟩) (g_preS hF hG hS) rfl rfl hl.1 rfl (lv_room (Nat.le_of_ble_eq_true rfl)) dL_law_378 ⟨(r1c (show 200 + 700 * i + j + 0 ≤ 40000 by omega)), (r1s (show 30000 + 1500 * i + us 0 t + 6 * j + 0 ≤ 5450000 by omega))⟩) (fun r_40 h_41 => ?_)
          refine lv_to (y := nI (T9 (h - 1) + 1)) (h_41.trans (m4 hh0)) ?_
          refine lv_if_lt (tgt := 388) hx hb dL_law_381 (by decide) (fun c => absurd c (nI_pos (by omega))) (fun _ => ?_)
          refine lv_iconst (v := nI 1) hx hb dL_law_384 (by decide) ?_
          refine lv_goto (tgt := 389) hx hb dL_law_385 (by decide) ?_
          refine lv_isub hx hb dL_law_389 ?_
          refine lv_to (y := ngI (cg g (j + 1))) (by rw [ng_1, cg, if_pos c_39]) ?_
          refine lv_istore (lv' := [(15, .int (ngI (cg g (j + 1)))), (16, .int (nI j)), (14, .int (nI t)), (13, .int (nI mi)), (12, .int (nI bb)), (11, .int (nI aa)), (10, .int (nI z)), (9, .int (nI y)), (8, .int (nI i)), (7, .int (nI M)), (6, .ref (ad (51, 0, 0))), (5, .ref (ad (50, 0, 0))), (4, .int (nI N)), (3, .int (nI S)), (2, .int (nI 1)), (1, .ref (ad (0, 0, 0))), (0, .ref b)]) hx hb dL_law_390 hl (by decide) rfl (fun ls hl => ?_)
          refine lv_iinc (v := nI (j + 1)) (lv' := [(16, .int (nI (j + 1))), (15, .int (ngI (cg g (j + 1)))), (14, .int (nI t)), (13, .int (nI mi)), (12, .int (nI bb)), (11, .int (nI aa)), (10, .int (nI z)), (9, .int (nI y)), (8, .int (nI i)), (7, .int (nI M)), (6, .ref (ad (51, 0, 0))), (5, .ref (ad (50, 0, 0))), (4, .int (nI N)), (3, .int (nI S)), (2, .int (nI 1)), (1, .ref (ad (0, 0, 0))), (0, .ref b)]) hx hb dL_law_392 hl (k := 1) rfl (nI_add j 1) (by decide) rfl (fun ls hl => ?_)
          refine lv_goto (tgt := 366) hx hb dL_law_395 (by decide) ?_
          refine W.widen (k := 200 + 700 * i + (j + 1)) (n := 30000 + 1500 * i + us 0 t + 6 * (j + 1)) (by omega) (by omega) ?_
          exact ih (j + 1) _ _ (by omega) (by omega) hG hS ls (lv_sub hl [0, 1, 2, 3, 4, 5, 6, 7, 8, 9, 10, 11, 12, 13, 14, 15, 16] rfl)
        · refine va_calli (vx_runSW (As := [.ref (ad (0, 0, 0)), .int (nI j)]) (rest := [.int (ngI (cg g j))]) ⟨hx, hb, hml, hown, hts⟩ (lx_arrivedAtN l hst i7 hM20 i8 hj c_39) (vx_cwSW 2 hts gL_law_L_arrivedAt rfl rfl rfl (by decide +kernel) ⟨Nat.le_of_ble_eq_true rfl, Nat.le_of_ble_eq_true rfl⟩) (g_preS hF hG hS) rfl rfl hl.1 rfl (lv_room (Nat.le_of_ble_eq_true rfl)) dL_law_378 ⟨(r1c (show 200 + 700 * i + j + 1 ≤ 40000 by omega)), (r1s (show 30000 + 1500 * i + us 0 t + 6 * j + 6 ≤ 5450000 by omega))⟩) hS (fun q _ h => h) (fun q h => h) (fun r_42 g_44 t9 H locs ht9 _ h_43 hB1 _ _ hS => ?_)
          have hG : g_P D (lay C g_44 ad ln ex) ad s.heap.size H := by rw [← ht9]; exact hB1
          rw [h_43.2] at hG
          refine lv_to (y := (-104)) (h_43.1) ?_
          refine lv_if_lt (tgt := 388) hx hb dL_law_381 (by decide) (fun _ => ?_) (fun c => absurd (by decide) c)
          refine lv_iconst (v := nI 0) hx hb dL_law_388 (by decide) ?_
          refine lv_isub hx hb dL_law_389 ?_
          refine lv_to (y := ngI (cg g (j + 1))) (by rw [ng_0, cg, if_neg c_39]; rfl) ?_
          refine lv_istore (lv' := [(15, .int (ngI (cg g (j + 1)))), (16, .int (nI j)), (14, .int (nI t)), (13, .int (nI mi)), (12, .int (nI bb)), (11, .int (nI aa)), (10, .int (nI z)), (9, .int (nI y)), (8, .int (nI i)), (7, .int (nI M)), (6, .ref (ad (51, 0, 0))), (5, .ref (ad (50, 0, 0))), (4, .int (nI N)), (3, .int (nI S)), (2, .int (nI 1)), (1, .ref (ad (0, 0, 0))), (0, .ref b)]) hx hb dL_law_390 hl (by decide) rfl (fun ls hl => ?_)
          refine lv_iinc (v := nI (j + 1)) (lv' := [(16, .int (nI (j + 1))), (15, .int (ngI (cg g (j + 1)))), (14, .int (nI t)), (13, .int (nI mi)), (12, .int (nI bb)), (11, .int (nI aa)), (10, .int (nI z)), (9, .int (nI y)), (8, .int (nI i)), (7, .int (nI M)), (6, .ref (ad (51, 0, 0))), (5, .ref (ad (50, 0, 0))), (4, .int (nI N)), (3, .int (nI S)), (2, .int (nI 1)), (1, .ref (ad (0, 0, 0))), (0, .ref b)]) hx hb dL_law_392 hl (k := 1) rfl (nI_add j 1) (by decide) rfl (fun ls hl => ?_)
          refine lv_goto (tgt := 366) hx hb dL_law_395 (by decide) ?_
          refine W.widen (k := 200 + 700 * i + (j + 1)) (n := 30000 + 1500 * i + us 0 t + 6 * (j + 1)) (by omega) (by omega) ?_
          exact ih (j + 1) _ _ (by omega) (by omega) hG hS ls (lv_sub hl [0, 1, 2, 3, 4, 5, 6, 7, 8, 9, 10, 11, 12, 13, 14, 15, 16] rfl)
  exact loop1 (M + 1) 0 _ _ (Nat.zero_le M) (by omega) hG hS ls (lv_sub hl [0, 1, 2, 3, 4, 5, 6, 7, 8, 9, 10, 11, 12, 13, 14, 15, 16] rfl)
