theorem lay_ad {C : g_C} {g : g_k → Nat → Int32} {ad ad' ln : g_k → Nat} {ex : g_k → Option va_E} (h : ∀ c : g_k, c.1 < 50 → ad' c = ad c) : lay C g ad' ln ex = lay C g ad ln ex := by
  have e : ∀ (a i j : Nat), a < 50 → ad' (a, i, j) = ad (a, i, j) := fun a i j ha => h _ ha
  have esc : ∀ i, ad' (sc ln i) = ad (sc ln i) := fun i => h _ (by have := (sc_in ln i).2.1; omega)
  have esb : ∀ i, ad' (sb ln i) = ad (sb ln i) := fun i => h _ (by have := (sb_in ln i).2.1; omega)
  funext d
  refine lay_cg d rfl (fun k hk => e k 0 0 (by omega)) (fun i => e 20 i 0 (by decide)) (fun _ => ?_) (fun _ => ?_) (fun _ _ => ⟨rfl, ?_, ?_, ?_⟩) (fun _ _ _ => Iff.rfl) (fun _ _ => ?_) (fun _ _ => rfl) (fun _ _ => rfl)
  · funext j
    simp only [A_stations]
    rw [e 30 j 0 (by decide)]
  · funext j
    simp only [A_sent]
    rw [e 40 j 0 (by decide)]
  · rw [F_station, F_station, e 31 _ 0 (by decide)]
  · rw [F_time, F_time, e 1 0 0 (by decide), e 32 _ 0 (by decide), esc, esb]
  · funext j
    simp only [A_left]
    rw [e 35 _ j (by decide)]
  · rw [F_msg, F_msg, e 31 _ 0 (by decide), e 41 _ 0 (by decide), e 42 _ 0 (by decide)]
theorem lay_exup {C : g_C} {g : g_k → Nat → Int32} {ad ln : g_k → Nat} {ex : g_k → Option va_E} {a i j : Nat} (ha : 50 ≤ a) {e : Option va_E} : k_up (lay C g ad ln ex) (a, i, j) e = lay C g ad ln (k_up ex (a, i, j) e) := by
  funext d
  by_cases hd : d = (a, i, j)
  · subst hd
    rw [k_up_self, lay_ex ha, k_up_self]
  · rw [k_up_ne _ _ hd]
    unfold lay
    rw [k_up_ne _ _ hd]
set_option maxHeartbeats 4000000 in
set_option maxRecDepth 100000 in
theorem lawK {p : Program} {e : Env} {s : State} {m : MethodId} {below : List Frame} {meth : Method} {c : Code} {Q : State → Prop} (l : Launch) (hst : l.stackTraces = false) {D : va_G} {C : g_C} {E : m_C} {b L : Nat} {xs : Nat → Int32} (hL : L ≤ 5) (hx : p.tables.exec = Jvm.exec) (hb : c.code = cL_law) (hml : c.maxLocals = 7) (hown : s.vm.findClass RL = some m.cls) (hts : ∀ w ∈ wsL_law, w.before #[Value.ref b] s = true) (hX : va_X b L xs s s.heap) (hbl : b < s.heap.size) (hF : g_F D C s.heap.size s) (hK2 : va_K D vwCl (m_T E) s) (hCA : va_Nw (.castable IAE IAE) s) {A ln : g_k → Nat} {EX EX1 : g_k → Option va_E} {g0 h0 : g_k → Nat → Int32} (hg0 : ∀ c j, g0 c j = 0) (hl0 : ∀ c, ln c = 0) (hz0 : ∀ c j, h0 c j = 0) {f : Nat → Int64} (hex : EX (50, 0, 0) = some (.inl (E.2, 1, .inr (.inl f)))) (hmo : ∀ c : g_k, 51 ≤ c.1 → EX c = mo E C h0 A EX1 c) {H : Heap} {locs : List Loc} (hG : g_P D (lay C g0 A ln EX) A s.heap.size H) (hS : va_S (g_A s.heap.size) s.heap H locs) (fin : ∀ (H : Heap) (ls : Array Slot), W p l e room_1 s m #[Value.ref b] below meth c H [] 2000 100000 Q (F0 m 1617 ls [.int (nI 1)])) {ls : Array Slot} (hl : lv_has ls 7 [(4, .int (nI 0)), (3, .ref (A (50, 0, 0))), (2, .ref (A (60, 0, 0))), (1, .ref (A (0, 0, 0))), (0, .ref b)]) : W p l e room_1 s m #[Value.ref b] below meth c H locs 36 67476 Q (F0 m 23 ls []) := by
  have hK := hF.1
  have hN := hF.2.1
  have hB : s.heap.size ≤ s.heap.size := Nat.le_refl _
  have hcont : ∀ (H : Heap) (locs : List Loc), va_S (g_A s.heap.size) s.heap H locs → ∀ ls, lv_has ls 7 [(4, .int (nI 0)), (0, .ref b)] → 5 ≤ L → W p l e room_1 s m #[Value.ref b] below meth c H locs 2000 100000 Q (F0 m 1610 ls []) := by
    intro H locs hS ls hl hL5
    refine lv_iinc (v := nI (0 + 5)) (lv' := [(4, .int (nI (0 + 5))), (0, .ref b)]) hx hb dL_law_1610 hl (k := 0) rfl (nI_add 0 5) (by decide) rfl (fun ls hl => ?_)
    refine lv_goto (tgt := 23) hx hb dL_law_1613 (by decide) ?_
    refine lv_iload hx hb dL_law_23 (lv_at hl 0 rfl) ?_
    refine lv_aload_n hx hb dL_law_25 rfl (lv_at hl 1 rfl) ?_
    refine va_slen hx hb hX hbl (Nat.not_le.mpr hbl) hS dL_law_26 ?_
    refine lv_to (y := nI L) (by rfl) ?_
    refine lv_iconst (v := nI 5) hx hb dL_law_27 (by decide) ?_
    refine lv_isub hx hb dL_law_28 ?_
    have hge : nI L - nI 5 < nI 5 ↔ ((L : Int) - 5 < 5) := by
      rw [Int32.lt_iff_toInt_lt, pk_sub_toInt (by omega) (by decide), nI_toInt (show 5 < 2 ^ 31 by decide)]; omega
    refine W.eq (g2 := F0 m 29 ls [.int (nI L - nI 5), .int (nI 5)]) rfl ?_
    refine lv_icmp_gt (tgt := 1616) hx hb dL_law_29 (by decide) (fun _ => ?_) (fun c => absurd (hge.mpr (by omega)) c)
    refine lv_iconst (v := nI 1) hx hb dL_law_1616 (by decide) ?_
    refine W.widen (k := 2000) (n := 100000) (by omega) (by omega) ?_
    refine va_forget (fun z hz => hS.2.2 z hz) ?_
    exact fin H ls
  refine lv_iload hx hb dL_law_23 (lv_at hl 0 rfl) ?_
  refine lv_aload_n hx hb dL_law_25 rfl (lv_at hl 4 rfl) ?_
  refine va_slen hx hb hX hbl (Nat.not_le.mpr hbl) hS dL_law_26 ?_
  refine lv_to (y := nI L) (by rfl) ?_
  refine lv_iconst (v := nI 5) hx hb dL_law_27 (by decide) ?_
  refine lv_isub hx hb dL_law_28 ?_
  have hge : nI L - nI 5 < nI 0 ↔ ((L : Int) - 5 < 0) := by
    rw [Int32.lt_iff_toInt_lt, pk_sub_toInt (by omega) (by decide), nI_toInt (show 0 < 2 ^ 31 by decide)]; omega
  refine lv_icmp_gt (tgt := 1616) hx hb dL_law_29 (by decide) (fun c_1 => ?_) (fun c_1 => ?_)
  · refine lv_iconst (v := nI 1) hx hb dL_law_1616 (by decide) ?_
    refine W.widen (k := 2000) (n := 100000) (by omega) (by omega) ?_
    refine va_forget (fun z hz => hS.2.2 z hz) ?_
    exact fin H ls
  · have hL5 : 5 ≤ L := by
      refine Nat.le_of_not_lt (fun h9 => c_1 (hge.mpr ?_))
      omega
    refine lv_aload_n hx hb dL_law_32 rfl (lv_at hl 4 rfl) ?_
    refine lv_iload hx hb dL_law_33 (lv_at hl 0 rfl) ?_
    refine va_sld hx hb hX hbl (Nat.not_le.mpr hbl) hS (vp_in_nI (show 0 < L by omega) (by omega)) dL_law_35 ?_
    refine lv_bipush (v := nI 31) hx hb dL_law_36 (by decide) ?_
    refine lv_iand hx hb dL_law_38 ?_
    obtain ⟨j, hj, ej⟩ := pk_andE (xs (nI 0).toNatClampNeg) (m := nI 31) 5 (by decide)
    refine lv_to (y := nI j) (ej) ?_
    rcases (show j = 0 ∨ j = 1 ∨ j = 2 ∨ j = 3 ∨ j = 4 ∨ j = 5 ∨ j = 6 ∨ j = 7 ∨ j = 8 ∨ j = 9 ∨ j = 10 ∨ j = 11 ∨ j = 12 ∨ j = 13 ∨ j = 14 ∨ j = 15 ∨ j = 16 ∨ j = 17 ∨ j = 18 ∨ j = 19 ∨ j = 20 ∨ j = 21 ∨ j = 22 ∨ j = 23 ∨ 24 ≤ j by omega) with rfl | rfl | rfl | rfl | rfl | rfl | rfl | rfl | rfl | rfl | rfl | rfl | rfl | rfl | rfl | rfl | rfl | rfl | rfl | rfl | rfl | rfl | rfl | rfl | h24
    · refine lv_tableIn (off := 109) (tgt := 148) hx hb dL_law_39 (by decide) (by decide) (by decide) (by decide) ?_
      exact k_addStation l hst hL hx hb hml hown hts hX hbl hF hK2 hCA hg0 hl0 hz0 hex hmo hG hS hL5 (fun H locs hS ls hl => hcont H locs hS ls hl hL5) (lv_sub hl [0, 1, 2, 3, 4] rfl)
    · refine lv_tableIn (off := 165) (tgt := 204) hx hb dL_law_39 (by decide) (by decide) (by decide) (by decide) ?_
      exact k_addRelay l hst hL hx hb hml hown hts hX hbl hF hK2 hCA hg0 hl0 hz0 hex hmo hG hS hL5 (fun H locs hS ls hl => hcont H locs hS ls hl hL5) (lv_sub hl [0, 1, 2, 3, 4] rfl)
    · refine lv_tableIn (off := 257) (tgt := 296) hx hb dL_law_39 (by decide) (by decide) (by decide) (by decide) ?_
      exact k_setCapacity l hst hL hx hb hml hown hts hX hbl hF hK2 hCA hg0 hl0 hz0 hex hmo hG hS hL5 (fun H locs hS ls hl => hcont H locs hS ls hl hL5) (lv_sub hl [0, 1, 2, 3, 4] rfl)
    · refine lv_tableIn (off := 325) (tgt := 364) hx hb dL_law_39 (by decide) (by decide) (by decide) (by decide) ?_
      exact k_nodes l hst hL hx hb hml hown hts hX hbl hF hK2 hCA hg0 hl0 hz0 hex hmo hG hS hL5 (fun H locs hS ls hl => hcont H locs hS ls hl hL5) (lv_sub hl [0, 1, 2, 3, 4] rfl)
    · refine lv_tableIn (off := 338) (tgt := 377) hx hb dL_law_39 (by decide) (by decide) (by decide) (by decide) ?_
      exact k_placeAt l hst hL hx hb hml hown hts hX hbl hF hK2 hCA hg0 hl0 hz0 hex hmo hG hS hL5 (fun H locs hS ls hl => hcont H locs hS ls hl hL5) (lv_sub hl [0, 1, 2, 3, 4] rfl)
    · refine lv_tableIn (off := 406) (tgt := 445) hx hb dL_law_39 (by decide) (by decide) (by decide) (by decide) ?_
      exact k_see l hst hL hx hb hml hown hts hX hbl hF hK2 hCA hg0 hl0 hz0 hex hmo hG hS hL5 (fun H locs hS ls hl => hcont H locs hS ls hl hL5) (lv_sub hl [0, 1, 2, 3, 4] rfl)
    · refine lv_tableIn (off := 493) (tgt := 532) hx hb dL_law_39 (by decide) (by decide) (by decide) (by decide) ?_
      exact k_nextContact l hst hL hx hb hml hown hts hX hbl hF hK2 hCA hg0 hl0 hz0 hex hmo hG hS hL5 (fun H locs hS ls hl => hcont H locs hS ls hl hL5) (lv_sub hl [0, 1, 2, 3, 4] rfl)
    · refine lv_tableIn (off := 573) (tgt := 612) hx hb dL_law_39 (by decide) (by decide) (by decide) (by decide) ?_
      exact k_view l hst hL hx hb hml hown hts hX hbl hF hK2 hCA hg0 hl0 hz0 hex hmo hG hS hL5 (fun H locs hS ls hl => hcont H locs hS ls hl hL5) (lv_sub hl [0, 1, 2, 3, 4] rfl)
    · refine lv_tableIn (off := 653) (tgt := 692) hx hb dL_law_39 (by decide) (by decide) (by decide) (by decide) ?_
      exact k_arrival l hst hL hx hb hml hown hts hX hbl hF hK2 hCA hg0 hl0 hz0 hex hmo hG hS hL5 (fun H locs hS ls hl => hcont H locs hS ls hl hL5) (lv_sub hl [0, 1, 2, 3, 4] rfl)
    · refine lv_tableIn (off := 733) (tgt := 772) hx hb dL_law_39 (by decide) (by decide) (by decide) (by decide) ?_
      exact k_arrivalByFlooding l hst hL hx hb hml hown hts hX hbl hF hK2 hCA hg0 hl0 hz0 hex hmo hG hS hL5 (fun H locs hS ls hl => hcont H locs hS ls hl hL5) (lv_sub hl [0, 1, 2, 3, 4] rfl)
    · refine lv_tableIn (off := 813) (tgt := 852) hx hb dL_law_39 (by decide) (by decide) (by decide) (by decide) ?_
      exact k_spread l hst hL hx hb hml hown hts hX hbl hF hK2 hCA hg0 hl0 hz0 hex hmo hG hS hL5 (fun H locs hS ls hl => hcont H locs hS ls hl hL5) (lv_sub hl [0, 1, 2, 3, 4] rfl)
    · refine lv_tableIn (off := 893) (tgt := 932) hx hb dL_law_39 (by decide) (by decide) (by decide) (by decide) ?_
      exact k_send l hst hL hx hb hml hown hts hX hbl hF hK2 hCA hg0 hl0 hz0 hex hmo hG hS hL5 (fun H locs hS ls hl => hcont H locs hS ls hl hL5) (lv_sub hl [0, 1, 2, 3, 4] rfl)
    · refine lv_tableIn (off := 961) (tgt := 1000) hx hb dL_law_39 (by decide) (by decide) (by decide) (by decide) ?_
      exact k_pass l hst hL hx hb hml hown hts hX hbl hF hK2 hCA hg0 hl0 hz0 hex hmo hG hS hL5 (fun H locs hS ls hl => hcont H locs hS ls hl hL5) (lv_sub hl [0, 1, 2, 3, 4] rfl)
    · refine lv_tableIn (off := 1017) (tgt := 1056) hx hb dL_law_39 (by decide) (by decide) (by decide) (by decide) ?_
      exact k_now l hst hL hx hb hml hown hts hX hbl hF hK2 hCA hg0 hl0 hz0 hex hmo hG hS hL5 (fun H locs hS ls hl => hcont H locs hS ls hl hL5) (lv_sub hl [0, 1, 2, 3, 4] rfl)
    · refine lv_tableIn (off := 1030) (tgt := 1069) hx hb dL_law_39 (by decide) (by decide) (by decide) (by decide) ?_
      exact k_messages l hst hL hx hb hml hown hts hX hbl hF hK2 hCA hg0 hl0 hz0 hex hmo hG hS hL5 (fun H locs hS ls hl => hcont H locs hS ls hl hL5) (lv_sub hl [0, 1, 2, 3, 4] rfl)
    · refine lv_tableIn (off := 1043) (tgt := 1082) hx hb dL_law_39 (by decide) (by decide) (by decide) (by decide) ?_
      exact k_nodeOf l hst hL hx hb hml hown hts hX hbl hF hK2 hCA hg0 hl0 hz0 hex hmo hG hS hL5 (fun H locs hS ls hl => hcont H locs hS ls hl hL5) (lv_sub hl [0, 1, 2, 3, 4] rfl)
    · refine lv_tableIn (off := 1099) (tgt := 1138) hx hb dL_law_39 (by decide) (by decide) (by decide) (by decide) ?_
      exact k_arrivedAt l hst hL hx hb hml hown hts hX hbl hF hK2 hCA hg0 hl0 hz0 hex hmo hG hS hL5 (fun H locs hS ls hl => hcont H locs hS ls hl hL5) (lv_sub hl [0, 1, 2, 3, 4] rfl)
    · refine lv_tableIn (off := 1155) (tgt := 1194) hx hb dL_law_39 (by decide) (by decide) (by decide) (by decide) ?_
      exact k_hops l hst hL hx hb hml hown hts hX hbl hF hK2 hCA hg0 hl0 hz0 hex hmo hG hS hL5 (fun H locs hS ls hl => hcont H locs hS ls hl hL5) (lv_sub hl [0, 1, 2, 3, 4] rfl)
    · refine lv_tableIn (off := 1211) (tgt := 1250) hx hb dL_law_39 (by decide) (by decide) (by decide) (by decide) ?_
      exact k_hopNode l hst hL hx hb hml hown hts hX hbl hF hK2 hCA hg0 hl0 hz0 hex hmo hG hS hL5 (fun H locs hS ls hl => hcont H locs hS ls hl hL5) (lv_sub hl [0, 1, 2, 3, 4] rfl)
    · refine lv_tableIn (off := 1279) (tgt := 1318) hx hb dL_law_39 (by decide) (by decide) (by decide) (by decide) ?_
      exact k_hopMinute l hst hL hx hb hml hown hts hX hbl hF hK2 hCA hg0 hl0 hz0 hex hmo hG hS hL5 (fun H locs hS ls hl => hcont H locs hS ls hl hL5) (lv_sub hl [0, 1, 2, 3, 4] rfl)
    · refine lv_tableIn (off := 1347) (tgt := 1386) hx hb dL_law_39 (by decide) (by decide) (by decide) (by decide) ?_
      exact k_blocked l hst hL hx hb hml hown hts hX hbl hF hK2 hCA hg0 hl0 hz0 hex hmo hG hS hL5 (fun H locs hS ls hl => hcont H locs hS ls hl hL5) (lv_sub hl [0, 1, 2, 3, 4] rfl)
    · refine lv_tableIn (off := 1403) (tgt := 1442) hx hb dL_law_39 (by decide) (by decide) (by decide) (by decide) ?_
      exact k_load l hst hL hx hb hml hown hts hX hbl hF hK2 hCA hg0 hl0 hz0 hex hmo hG hS hL5 (fun H locs hS ls hl => hcont H locs hS ls hl hL5) (lv_sub hl [0, 1, 2, 3, 4] rfl)
    · refine lv_tableIn (off := 1459) (tgt := 1498) hx hb dL_law_39 (by decide) (by decide) (by decide) (by decide) ?_
      exact k_relayOf l hst hL hx hb hml hown hts hX hbl hF hK2 hCA hg0 hl0 hz0 hex hmo hG hS hL5 (fun H locs hS ls hl => hcont H locs hS ls hl hL5) (lv_sub hl [0, 1, 2, 3, 4] rfl)
    · refine lv_tableIn (off := 1515) (tgt := 1554) hx hb dL_law_39 (by decide) (by decide) (by decide) (by decide) ?_
      exact k_handovers l hst hL hx hb hml hown hts hX hbl hF hK2 hCA hg0 hl0 hz0 hex hmo hG hS hL5 (fun H locs hS ls hl => hcont H locs hS ls hl hL5) (lv_sub hl [0, 1, 2, 3, 4] rfl)
    · refine lv_tableOut (tgt := 1610) hx hb dL_law_39 (Or.inr (by rw [nI_toInt (show j < 2 ^ 31 by omega)]; omega)) (by decide) ?_
      refine W.widen (k := 2000) (n := 100000) (by omega) (by omega) ?_
      exact hcont H locs hS ls (lv_sub hl [0, 4] rfl) hL5

set_option maxHeartbeats 4000000 in
set_option maxRecDepth 100000 in
theorem lawS {p : Program} {e : Env} {s : State} {m : MethodId} {below : List Frame} {meth : Method} {c : Code} {Q : State → Prop} (l : Launch) (hst : l.stackTraces = false) {D : va_G} {C : g_C} {E : m_C} {b L : Nat} {xs : Nat → Int32} (hL : L ≤ 5) (hx : p.tables.exec = Jvm.exec) (hb : c.code = cL_law) (hml : c.maxLocals = 7) (hown : s.vm.findClass RL = some m.cls) (hts : ∀ w ∈ wsL_law, w.before #[Value.ref b] s = true) (hX : va_X b L xs s s.heap) (hbl : b < s.heap.size) (hF : g_F D C s.heap.size s) (hK2 : va_K D vwCl (m_T E) s) (hCA : va_Nw (.castable IAE IAE) s) (fin : ∀ (H : Heap) (ls : Array Slot), W p l e room_1 s m #[Value.ref b] below meth c H [] 2000 100000 Q (F0 m 1617 ls [.int (nI 1)])) : W p l e room_1 s m #[Value.ref b] below meth c s.heap [] 0 0 Q (entryFrame m ([Value.ref b] : List Value).toArray 7) := by
  have hK := hF.1
  have hB : s.heap.size ≤ s.heap.size := Nat.le_refl _
  have hi5 : ∀ w ∈ wsX50, w ∈ wsL_law := inlX5
  have hi6 : ∀ w ∈ wsX60, w ∈ wsL_law := inlX6
  have hS : va_S (g_A s.heap.size) s.heap s.heap [] := va_S.rf
  have hG : g_P D (fun _ => none) (fun _ => 0) s.heap.size s.heap := ⟨fun c e h => (by cases h), fun c c' e e' h => (by cases h), [], fun c e h => (by cases h)⟩
  have hl := lv_entry [.ref b] (n := 7) (Nat.le_of_ble_eq_true rfl)
  rw [lg_entry_eq]
  generalize (lg_sl [.ref b] ++ List.replicate (7 - (lg_sl [.ref b]).length) Slot.unset).toArray = ls at hl ⊢
  have hl : lv_has ls 7 [(0, .ref b)] := hl
  refine g_new hx hb hts hi5 tyX5 tyX5_ok hown (hts (.classLink RL 8 RX5) (by decide +kernel)) (hts (.instantiable RX5 9) (by decide +kernel)) (hts (.initialized RX5) (by decide +kernel)) hK hG hS hB (0, 0, 0) rfl (ci := 5) rfl (fs := [.null, .null, .null, .null, .null, .int 0, .int 0, .int 0, .int 0]) (fun j hj => by rcases (show j = 0 ∨ j = 1 ∨ j = 2 ∨ j = 3 ∨ j = 4 ∨ j = 5 ∨ j = 6 ∨ j = 7 ∨ j = 8 by omega) with rfl | rfl | rfl | rfl | rfl | rfl | rfl | rfl | rfl <;> rfl) (r1c (show 0 + 1 ≤ 2000 by omega)) (r1s (show 0 + 9 ≤ 100000 by omega)) dL_law_0 (fun q0 H hG hS => ?_)
  obtain ⟨A1, eA1⟩ : ∃ z, z = k_up (fun _ => 0) (0, 0, 0) q0 := ⟨_, rfl⟩
  rw [← eA1] at hG
  obtain ⟨V1, eV1⟩ : ∃ z : g_k → Option va_E, z = k_up (fun _ => none) (0, 0, 0) (some (.inr (5, [.null, .null, .null, .null, .null, .int 0, .int 0, .int 0, .int 0]))) := ⟨_, rfl⟩
  rw [← eV1] at hG
  have sA1 : A1 (0, 0, 0) = q0 := by rw [eA1, k_up_self]
  have sV1 : V1 (0, 0, 0) = some (.inr (5, [.null, .null, .null, .null, .null, .int 0, .int 0, .int 0, .int 0])) := by rw [eV1, k_up_self]
  have nV1 : ∀ c, c ≠ (0, 0, 0) → V1 c = none := fun c hc9 => by rw [eV1, k_up_ne _ _ hc9]
  refine W.eq (g2 := F0 m 3 ls [.ref (A1 (0, 0, 0))]) (by rw [sA1]) ?_
  refine lv_dup hx hb dL_law_3 rfl ?_
  refine va_callv (va_runI (As := []) (rest := [.ref (A1 (0, 0, 0))]) ⟨hx, hb, hml, hown, hts⟩ (c_X5_init l (v := V1) (ad := A1) sV1 (fun c _ h => nV1 c h)) (cwI 0 hts gL_law_X5_init rfl rfl rfl (hts (.initialized RX5) (by decide +kernel)) (hts (.methodLink RL 85 yX5_init) (by decide +kernel)) (hts (.instanceMethod yX5_init) (by decide +kernel)) rfl (by decide +kernel) ⟨Nat.le_of_ble_eq_true rfl, Nat.le_of_ble_eq_true rfl⟩) (g_preS hF hG hS) rfl rfl hl.1 rfl (lv_room (Nat.le_of_ble_eq_true rfl)) dL_law_4 ⟨r1c (show 0 + 1 + 20 ≤ 2000 by omega), r1s (show 0 + 9 + 3697 ≤ 100000 by omega)⟩) hS (fun q _ h => h) (fun q h => h) (fun u9 t9 H locs ht9 _ hu9 hB1 _ _ hS => ?_)
  obtain ⟨V2, A2⟩ := u9
  dsimp only at hu9
  have hG : g_P D V2 A2 s.heap.size H := by rw [← ht9]; exact hB1
  obtain ⟨eV2, eA2, eA0⟩ := hu9
  rw [eV2] at hG
  obtain ⟨g0, eg0⟩ : ∃ z : g_k → Nat → Int32, z = fun _ _ => 0 := ⟨_, rfl⟩
  obtain ⟨ln0, eln0⟩ : ∃ z : g_k → Nat, z = fun _ => 0 := ⟨_, rfl⟩
  rw [← eg0, ← eln0] at hG
  have hg0 : ∀ c j, g0 c j = 0 := fun c j => by rw [eg0]
  have hl0 : ∀ c, ln0 c = 0 := fun c => by rw [eln0]
  refine W.eq (g2 := F0 m 7 ls [.ref (A2 (0, 0, 0))]) (by rw [eA0]) ?_
  refine W.widen (k := 21) (n := 3706) (by omega) (by omega) ?_
  refine lv_astore_n (lv' := [(1, .ref (A2 (0, 0, 0))), (0, .ref b)]) hx hb dL_law_7 rfl hl (by decide) rfl (fun ls hl => ?_)
  refine g_new hx hb hts hi6 tyX6 tyX6_ok hown (hts (.classLink RL 86 RX6) (by decide +kernel)) (hts (.instantiable RX6 19) (by decide +kernel)) (hts (.initialized RX6) (by decide +kernel)) hK hG hS hB (60, 0, 0) ((lay_ex (by decide)).trans (nV1 _ (by decide))) (ci := 6) rfl (fs := [.null, .null, .null, .null, .null, .int 0, .int 0, .null, .null, .null, .null, .null, .null, .null, .int 0, .null, .int 0, .int 0, .int 0]) (fun j hj => by rcases (show j = 0 ∨ j = 1 ∨ j = 2 ∨ j = 3 ∨ j = 4 ∨ j = 5 ∨ j = 6 ∨ j = 7 ∨ j = 8 ∨ j = 9 ∨ j = 10 ∨ j = 11 ∨ j = 12 ∨ j = 13 ∨ j = 14 ∨ j = 15 ∨ j = 16 ∨ j = 17 ∨ j = 18 by omega) with rfl | rfl | rfl | rfl | rfl | rfl | rfl | rfl | rfl | rfl | rfl | rfl | rfl | rfl | rfl | rfl | rfl | rfl | rfl <;> rfl) (r1c (show 21 + 1 ≤ 2000 by omega)) (r1s (show 3706 + 19 ≤ 100000 by omega)) dL_law_8 (fun q3 H hG hS => ?_)
  obtain ⟨A3, eA3⟩ : ∃ z, z = k_up A2 (60, 0, 0) q3 := ⟨_, rfl⟩
  obtain ⟨V3, eV3⟩ : ∃ z : g_k → Option va_E, z = k_up V1 (60, 0, 0) (some (.inr (6, [.null, .null, .null, .null, .null, .int 0, .int 0, .null, .null, .null, .null, .null, .null, .null, .int 0, .null, .int 0, .int 0, .int 0]))) := ⟨_, rfl⟩
  have nA3 : ∀ c, c ≠ (60, 0, 0) → A3 c = A2 c := fun c hc9 => by rw [eA3, k_up_ne _ _ hc9]
  have sA3 : A3 (60, 0, 0) = q3 := by rw [eA3, k_up_self]
  have sV3 : V3 (60, 0, 0) = some (.inr (6, [.null, .null, .null, .null, .null, .int 0, .int 0, .null, .null, .null, .null, .null, .null, .null, .int 0, .null, .int 0, .int 0, .int 0])) := by rw [eV3, k_up_self]
  have nV3 : ∀ c, c ≠ (60, 0, 0) → V3 c = V1 c := fun c hc9 => by rw [eV3, k_up_ne _ _ hc9]
  have hG : g_P D (lay C g0 A3 ln0 V3) A3 s.heap.size H := by
    have hlay : lay C g0 A3 ln0 V3 = lay C g0 A2 ln0 V3 := lay_ad (fun c hc9 => nA3 c (fun z => by rw [z] at hc9; exact absurd hc9 (by decide)))
    rw [hlay, eV3, ← lay_exup (by decide), eA3]; exact hG
  have hl : lv_has ls 7 [(1, .ref (A3 (0, 0, 0))), (0, .ref b)] := by rw [nA3 _ (by decide)]; exact hl
  refine W.eq (g2 := F0 m 11 ls [.ref (A3 (60, 0, 0))]) (by rw [sA3]) ?_
  refine lv_dup hx hb dL_law_11 rfl ?_
  refine va_callv (va_runI (As := []) (rest := [.ref (A3 (60, 0, 0))]) ⟨hx, hb, hml, hown, hts⟩ (m_init l (E := E) (v := lay C g0 A3 ln0 V3) (ad := A3) ((lay_ex (by decide)).trans sV3) (fun c h8 h9 => by obtain ⟨a, i, j⟩ := c; exact ((lay_ex (show 50 ≤ a by have : 60 ≤ a := h8; omega)).trans (nV3 _ h9)).trans (nV1 _ (fun z => by have := congrArg (fun y : g_k => y.1) z; have h7 : a = 0 := this; have : 60 ≤ a := h8; omega)))) (cwI 0 hts gL_law_X6_init rfl rfl rfl (hts (.initialized RX6) (by decide +kernel)) (hts (.methodLink RL 88 yX6_init) (by decide +kernel)) (hts (.instanceMethod yX6_init) (by decide +kernel)) rfl (by decide +kernel) ⟨Nat.le_of_ble_eq_true rfl, Nat.le_of_ble_eq_true rfl⟩) (m_preS hF hK2 hCA hG hS) rfl rfl hl.1 rfl (lv_room (Nat.le_of_ble_eq_true rfl)) dL_law_12 ⟨r1c (show 21 + 1 + 13 ≤ 2000 by omega), r1s (show 3706 + 19 + 63750 ≤ 100000 by omega)⟩) hS (fun q _ h => h) (fun q h => h) (fun u9 t9 H locs ht9 _ hu9 hB1 _ _ hS => ?_)
  obtain ⟨V4, A4⟩ := u9
  dsimp only at hu9
  have hG : g_P D V4 A4 s.heap.size H := by rw [← ht9]; exact hB1
  obtain ⟨eV4, nA4⟩ := hu9
  obtain ⟨h0, eh0⟩ : ∃ z : g_k → Nat → Int32, z = fun _ _ => 0 := ⟨_, rfl⟩
  have hz0 : ∀ c j, h0 c j = 0 := fun c j => by rw [eh0]
  have hG : g_P D (lay C g0 A4 ln0 (mo E C h0 A4 V3)) A4 s.heap.size H := by
    have hlay : lay C g0 A4 ln0 V3 = lay C g0 A3 ln0 V3 := lay_ad (fun c hc9 => nA4 c (by omega))
    rw [← lay_mo, hlay, eh0, ← eV4]; exact hG
  have hl : lv_has ls 7 [(1, .ref (A4 (0, 0, 0))), (0, .ref b)] := by rw [nA4 _ (by decide)]; exact hl
  refine W.eq (g2 := F0 m 15 ls [.ref (A4 (60, 0, 0))]) (by rw [nA4 _ (by decide)]) ?_
  refine lv_astore_n (lv' := [(2, .ref (A4 (60, 0, 0))), (1, .ref (A4 (0, 0, 0))), (0, .ref b)]) hx hb dL_law_15 rfl hl (by decide) rfl (fun ls hl => ?_)
  refine lv_iconst (v := nI 1) hx hb dL_law_16 (by decide) ?_
  obtain ⟨V5, eV5⟩ : ∃ z, z = mo E C h0 A4 V3 := ⟨_, rfl⟩
  rw [← eV5] at hG
  have h50 : V5 (50, 0, 0) = none := by rw [eV5]; exact (mo_50 (C := C)).trans ((nV3 _ (by decide)).trans (nV1 _ (by decide)))
  refine g_newaL (n := 1) hx hb (hts (.arrayClass .long) (by decide +kernel)) hK2 hG hS hB (50, 0, 0) ((lay_ex (by decide)).trans h50) (by decide) (r1c (show 21 + 1 + 13 + 1 ≤ 2000 by omega)) (r1s (show 3706 + 19 + 63750 + 1 ≤ 100000 by omega)) dL_law_17 (fun q6 H hG hS => ?_)
  obtain ⟨A6, eA6⟩ : ∃ z, z = k_up A4 (50, 0, 0) q6 := ⟨_, rfl⟩
  obtain ⟨V6, eV6⟩ : ∃ z, z = k_up V5 (50, 0, 0) (some (.inl (E.2, 1, .inr (.inl (fun _ => 0))))) := ⟨_, rfl⟩
  have nA6 : ∀ c, c ≠ (50, 0, 0) → A6 c = A4 c := fun c hc9 => by rw [eA6, k_up_ne _ _ hc9]
  have sA6 : A6 (50, 0, 0) = q6 := by rw [eA6, k_up_self]
  have hG : g_P D (lay C g0 A6 ln0 V6) A6 s.heap.size H := by
    have hlay : lay C g0 A6 ln0 V6 = lay C g0 A4 ln0 V6 := lay_ad (fun c hc9 => nA6 c (fun z => by rw [z] at hc9; exact absurd hc9 (by decide)))
    rw [hlay, eV6, ← lay_exup (by decide), eA6]; exact hG
  have hl : lv_has ls 7 [(2, .ref (A6 (60, 0, 0))), (1, .ref (A6 (0, 0, 0))), (0, .ref b)] := by rw [nA6 (60, 0, 0) (by decide), nA6 (0, 0, 0) (by decide)]; exact lv_sub hl [0, 1, 2] rfl
  refine W.eq (g2 := F0 m 19 ls [.ref (A6 (50, 0, 0))]) (by rw [sA6]) ?_
  refine lv_astore_n (lv' := [(3, .ref (A6 (50, 0, 0))), (2, .ref (A6 (60, 0, 0))), (1, .ref (A6 (0, 0, 0))), (0, .ref b)]) hx hb dL_law_19 rfl hl (by decide) rfl (fun ls hl => ?_)
  refine lv_iconst (v := nI 0) hx hb dL_law_20 (by decide) ?_
  refine lv_istore (lv' := [(4, .int (nI 0)), (3, .ref (A6 (50, 0, 0))), (2, .ref (A6 (60, 0, 0))), (1, .ref (A6 (0, 0, 0))), (0, .ref b)]) hx hb dL_law_21 hl (by decide) rfl (fun ls hl => ?_)
  have hex : V6 (50, 0, 0) = some (.inl (E.2, 1, .inr (.inl (fun _ => 0)))) := by rw [eV6, k_up_self]
  have hmo : ∀ c : g_k, 51 ≤ c.1 → V6 c = mo E C h0 A6 V3 c := fun c hc9 => by
    have e1 : V6 c = V5 c := by rw [eV6, k_up_ne _ _ (fun z => by rw [z] at hc9; exact absurd hc9 (by decide))]
    rw [e1, eV5]; unfold mo; rw [mo0_ad (fun c h8 => nA6 c (fun z => by rw [z] at h8; exact absurd h8 (by decide)))]
  refine W.widen (k := 36) (n := 67476) (by omega) (by omega) ?_
  exact lawK l hst hL hx hb hml hown hts hX hbl hF hK2 hCA hg0 hl0 hz0 hex hmo hG hS fin (lv_sub hl [0, 1, 2, 3, 4] rfl)
