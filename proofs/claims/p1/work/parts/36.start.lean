theorem w_at {i : Nat} {w : Cond} (h : lw_tbl[i]? = some w) : w ∈ lw_tbl := by first | exact List.mem_of_getElem? h | exact List.getElem?_mem h
theorem ao_int {args : Array Value} {s : State} (h : (Cond.arrayOver (.array .int)).before args s = true) : ∃ comp c k, s.vm.classes[c]? = some k ∧ k.kind = .array comp (.array .int) ∧ s.vm.findClass ("[" ++ (FieldType.array .int).toString) = some c := by
  simp only [Cond.before, Cond.holds, Cond.value, beq_iff_eq] at h
  cases hc : s.vm.findClass (FieldType.array .int).toString with
  | none => simp [hc] at h
  | some comp =>
    simp only [hc, Option.bind_some, Option.bind_eq_some_iff, Option.map_eq_some_iff] at h
    obtain ⟨c, hi, k, hk, hb⟩ := h
    obtain ⟨hlt, hp, -⟩ := Array.findIdx?_eq_some_iff_getElem.mp hi
    have hkk : s.vm.classes[c] = k := (Array.getElem?_eq_some_iff.mp hk).2
    rw [hkk] at hp
    cases hkind : k.kind with
    | array component ty =>
      rw [hkind] at hb hp
      simp at hb hp
      exact ⟨comp, c, k, hk, by rw [hkind, hp, hb.1], hb.2⟩
    | _ => rw [hkind] at hb; simp at hb
theorem st_K {s : State} {args : Array Value} (hts : ∀ w ∈ lw_tbl, w.before args s = true) : ∃ (D : va_G) (C : g_C), va_K D vwCl (g_T C) s := by
  obtain ⟨c0, i0, h0⟩ := u_known (C := RX0) (T := TX0) (N := 8) (n := 8) hts wl_X0 (hts (.instantiable RX0 8) (w_at (i := 484) (by decide +kernel)))
  obtain ⟨c1, i1, h1⟩ := u_known (C := RX1) (T := TX1) (N := 2) (n := 2) hts wl_X1 (hts (.instantiable RX1 2) (w_at (i := 92) (by decide +kernel)))
  obtain ⟨c2, i2, h2⟩ := u_known (C := RX2) (T := TX2) (N := 5) (n := 5) hts wl_X2 (hts (.instantiable RX2 5) (w_at (i := 64) (by decide +kernel)))
  obtain ⟨c3, i3, h3⟩ := u_known (C := RX3) (T := TX3) (N := 3) (n := 3) hts wl_X3 (hts (.instantiable RX3 3) (w_at (i := 276) (by decide +kernel)))
  obtain ⟨c4, i4, h4⟩ := u_known (C := RX4) (T := TX4) (N := 6) (n := 6) hts wl_X4 (hts (.instantiable RX4 6) (w_at (i := 278) (by decide +kernel)))
  obtain ⟨c5, i5, h5⟩ := u_known (C := RX5) (T := TX5) (N := 9) (n := 9) hts wl_X5 (hts (.instantiable RX5 9) (w_at (i := 56) (by decide +kernel)))
  obtain ⟨c6, i6, h6⟩ := u_known (C := RX6) (T := TX6) (N := 19) (n := 19) hts wl_X6 (hts (.instantiable RX6 19) (w_at (i := 680) (by decide +kernel)))
  have a0 : (Cond.arrayClass .int).before args s = true := hts _ (w_at (i := 90) (by decide +kernel))
  have a1 : (Cond.arrayOver (.array .int)).before args s = true := hts _ (w_at (i := 70) (by decide +kernel))
  have a2 : (Cond.arrayOver (.object "Satellitering$Station")).before args s = true := hts _ (w_at (i := 105) (by decide +kernel))
  have a3 : (Cond.arrayOver (.object "Satellitering$Message")).before args s = true := hts _ (w_at (i := 107) (by decide +kernel))
  obtain ⟨cI, kI, compI, f1, f2, f3⟩ := Cond.arrayClass_spec a0
  obtain ⟨compJ, cJ, kJ, j2, j3, j4⟩ := ao_int a1
  obtain ⟨compS, cS, kS, s1, -, s2, s3, s4⟩ := Cond.arrayOver_spec a2
  obtain ⟨compM, cM, kM, m1, -, m2, m3, m4⟩ := Cond.arrayOver_spec a3
  refine ⟨(fun k => match k with | 0 => c0 | 1 => c1 | 2 => c2 | 3 => c3 | 4 => c4 | 5 => c5 | _ => c6, fun k => match k with | 0 => i0 | 1 => i1 | 2 => i2 | 3 => i3 | 4 => i4 | 5 => i5 | _ => i6), (cI, cJ, cS, cM), fun k q hq => ?_, fun k q hq => ?_⟩
  · match k, hq with
    | 0, hq => cases hq; exact h0
    | 1, hq => cases hq; exact h1
    | 2, hq => cases hq; exact h2
    | 3, hq => cases hq; exact h3
    | 4, hq => cases hq; exact h4
    | 5, hq => cases hq; exact h5
    | 6, hq => cases hq; exact h6
    | k + 7, hq => simp [vwCl] at hq
  · match k, hq with
    | 0, hq => cases hq; exact ⟨fun n z => ⟨fun k h => (by cases h), kI, f2, compI, f3⟩, f1⟩
    | 1, hq => cases hq; exact ⟨fun n z => ⟨fun k h => (by cases h), kJ, j2, compJ, j3⟩, j4⟩
    | 2, hq => cases hq; exact ⟨fun n z => ⟨fun k h => (by cases h), kS, s2, compS, s3⟩, kS, compS, s2, s3, s1, s4⟩
    | 3, hq => cases hq; exact ⟨fun n z => ⟨fun k h => (by cases h), kM, m2, compM, m3⟩, kM, compM, m2, m3, m1, m4⟩
    | k + 4, hq => simp [g_T] at hq
theorem st_K2 {s : State} {args : Array Value} {D : va_G} {tys : List (ClassId × FieldType)} (hK : va_K D vwCl tys s) (hts : ∀ w ∈ lw_tbl, w.before args s = true) : ∃ E : m_C, va_K D vwCl (m_T E) s := by
  have a0 : (Cond.arrayClass .boolean).before args s = true := hts _ (w_at (i := 744) (by decide +kernel))
  have a1 : (Cond.arrayClass .long).before args s = true := hts _ (w_at (i := 921) (by decide +kernel))
  obtain ⟨cZ, kZ, compZ, f1, f2, f3⟩ := Cond.arrayClass_spec a0
  obtain ⟨cJ, kJ, compJ, j1, j2, j3⟩ := Cond.arrayClass_spec a1
  refine ⟨(cZ, cJ), hK.1, fun k q hq => ?_⟩
  match k, hq with
  | 0, hq => cases hq; exact ⟨fun n z => ⟨fun k h => (by cases h), kZ, f2, compZ, f3⟩, f1⟩
  | 1, hq => cases hq; exact ⟨fun n z => ⟨fun k h => (by cases h), kJ, j2, compJ, j3⟩, j1⟩
  | k + 2, hq => simp [m_T] at hq
theorem st_N {s : State} {args : Array Value} (hts : ∀ w ∈ lw_tbl, w.before args s = true) : g_N s := ⟨va_Nw.of rfl (hts (.fieldLinkNest "Satellitering" 140 "Satellitering$Station" "timetable" "LSatellitering$Timetable;" "Satellitering") (w_at (i := 308) (by decide +kernel))), va_Nw.of rfl (hts (.fieldLinkNest "Satellitering" 158 "Satellitering$Message" "node" "I" "Satellitering") (w_at (i := 493) (by decide +kernel))), va_Nw.of rfl (hts (.fieldLinkNest "Satellitering" 170 "Satellitering$Message" "since" "I" "Satellitering") (w_at (i := 495) (by decide +kernel))), va_Nw.of rfl (hts (.fieldLinkNest "Satellitering" 173 "Satellitering$Message" "hopCount" "I" "Satellitering") (w_at (i := 499) (by decide +kernel))), va_Nw.of rfl (hts (.fieldLinkNest "Satellitering" 180 "Satellitering$Message" "hopNodes" "[I" "Satellitering") (w_at (i := 501) (by decide +kernel))), va_Nw.of rfl (hts (.fieldLinkNest "Satellitering" 183 "Satellitering$Message" "hopMinutes" "[I" "Satellitering") (w_at (i := 503) (by decide +kernel))), va_Nw.of rfl (hts (.fieldLinkNest "Satellitering" 186 "Satellitering$Message" "blocks" "I" "Satellitering") (w_at (i := 497) (by decide +kernel))), va_Nw.of rfl (hts (.fieldLinkNest "Satellitering" 192 "Satellitering$Station" "relay" "I" "Satellitering") (w_at (i := 310) (by decide +kernel))), va_Nw.of rfl (hts (.fieldLinkNest "Satellitering" 195 "Satellitering$Station" "handoverCount" "I" "Satellitering") (w_at (i := 312) (by decide +kernel))), va_Nw.of rfl (hts (.fieldLinkNest "Satellitering" 202 "Satellitering$Message" "timetable" "LSatellitering$Timetable;" "Satellitering") (w_at (i := 491) (by decide +kernel))), va_Nw.of rfl (hts (.fieldLinkNest "Satellitering" 96 "Satellitering$Sky" "count" "I" "Satellitering") (w_at (i := 78) (by decide +kernel))), va_Nw.of rfl (hts (.fieldLinkNest "Satellitering$Search" 25 "Satellitering$Sky" "count" "I" "Satellitering") (w_at (i := 77) (by decide +kernel))), va_Nw.of rfl (hts (.fieldLinkNest "Satellitering$Timetable" 34 "Satellitering$Sky" "count" "I" "Satellitering") (w_at (i := 76) (by decide +kernel))), va_Nw.of rfl (hts (.methodLinkNest "Satellitering" 11 yX2_init "Satellitering") (w_at (i := 65) (by decide +kernel)))⟩
theorem st_X {s : State} {args : Array Value} (hts : ∀ w ∈ lw_tbl, w.before args s = true) (hs : ∀ w ∈ flatC (Jvm.Cond.and given_1 narrow_1), w.before args s = true) : g_X s := ⟨va_Nw.of rfl (hts (.castable "java/lang/IndexOutOfBoundsException" "java/lang/IndexOutOfBoundsException") (w_at (i := 359) (by decide +kernel))), va_Nw.of rfl (hts (.castable "java/util/NoSuchElementException" "java/util/NoSuchElementException") (w_at (i := 612) (by decide +kernel))), va_Nc.of (hs (.not (.castable "java/util/NoSuchElementException" "java/lang/IndexOutOfBoundsException")) (by decide +kernel)), va_Nw.of rfl (hts (.declares (Bundle.initS "java/lang/RuntimeException")) (w_at (i := 167) (by decide +kernel))), va_Nw.of rfl (hts (.declares (Bundle.initS "java/lang/Exception")) (w_at (i := 169) (by decide +kernel))), va_Nw.of rfl (hts (.declares (Bundle.initS Bundle.tN)) (w_at (i := 171) (by decide +kernel)))⟩
theorem st_str1 {s : State} {args : Array Value} {k : Nat} {tx : String} (h1 : (Cond.stringRef RX5 k tx).before args s = true) (h2 : (Cond.exactly (.string RX5 k) "java/lang/String").before args s = true) : ∃ sa, vk_R RX5 k tx sa s := by
  obtain ⟨a, c, cell, kk, e1, -⟩ := Cond.exactly_spec h2
  exact ⟨a, vk_R.of h1 e1⟩
set_option maxHeartbeats 4000000 in
set_option maxRecDepth 100000 in
theorem st_str {s : State} {args : Array Value} (hts : ∀ w ∈ lw_tbl, w.before args s = true) (hs : ∀ w ∈ flatC (Jvm.Cond.and given_1 narrow_1), w.before args s = true) : ∀ q ∈ g_strs, ∃ sa, vk_R RX5 q.1 q.2 sa s := List.forall_mem_cons.mpr ⟨st_str1 (k := 138) (tx := "there are 20 messages") (hts (.stringRef RX5 138 "there are 20 messages") (w_at (i := 483) (by decide +kernel))) (hs (.exactly (.string RX5 138) "java/lang/String") (by decide +kernel)), List.forall_mem_cons.mpr ⟨st_str1 (k := 148) (tx := "now would be above 1000000") (hts (.stringRef RX5 148 "now would be above 1000000") (w_at (i := 528) (by decide +kernel))) (hs (.exactly (.string RX5 148) "java/lang/String") (by decide +kernel)), List.forall_mem_cons.mpr ⟨st_str1 (k := 167) (tx := "the message has not arrived") (hts (.stringRef RX5 167 "the message has not arrived") (w_at (i := 619) (by decide +kernel))) (hs (.exactly (.string RX5 167) "java/lang/String") (by decide +kernel)), List.forall_mem_cons.mpr ⟨st_str1 (k := 216) (tx := "an argument is not allowed") (hts (.stringRef RX5 216 "an argument is not allowed") (w_at (i := 205) (by decide +kernel))) (hs (.exactly (.string RX5 216) "java/lang/String") (by decide +kernel)), List.forall_mem_cons.mpr ⟨st_str1 (k := 219) (tx := "there is no such node") (hts (.stringRef RX5 219 "there is no such node") (w_at (i := 366) (by decide +kernel))) (hs (.exactly (.string RX5 219) "java/lang/String") (by decide +kernel)), List.forall_mem_cons.mpr ⟨st_str1 (k := 221) (tx := "the node is no station") (hts (.stringRef RX5 221 "the node is no station") (w_at (i := 482) (by decide +kernel))) (hs (.exactly (.string RX5 221) "java/lang/String") (by decide +kernel)), List.forall_mem_cons.mpr ⟨st_str1 (k := 223) (tx := "there is no such message") (hts (.stringRef RX5 223 "there is no such message") (w_at (i := 601) (by decide +kernel))) (hs (.exactly (.string RX5 223) "java/lang/String") (by decide +kernel)), List.forall_mem_cons.mpr ⟨st_str1 (k := 225) (tx := "there is no such hop") (hts (.stringRef RX5 225 "there is no such hop") (w_at (i := 643) (by decide +kernel))) (hs (.exactly (.string RX5 225) "java/lang/String") (by decide +kernel)), List.forall_mem_cons.mpr ⟨st_str1 (k := 64) (tx := "there are 4 stations") (hts (.stringRef RX5 64 "there are 4 stations") (w_at (i := 241) (by decide +kernel))) (hs (.exactly (.string RX5 64) "java/lang/String") (by decide +kernel)), List.forall_mem_cons.mpr ⟨st_str1 (k := 85) (tx := "there are 6 relays") (hts (.stringRef RX5 85 "there are 6 relays") (w_at (i := 344) (by decide +kernel))) (hs (.exactly (.string RX5 85) "java/lang/String") (by decide +kernel)), List.forall_mem_cons.mpr ⟨st_str1 (k := 93) (tx := "the node is a station") (hts (.stringRef RX5 93 "the node is a station") (w_at (i := 373) (by decide +kernel))) (hs (.exactly (.string RX5 93) "java/lang/String") (by decide +kernel)), fun _ h => absurd h List.not_mem_nil⟩⟩⟩⟩⟩⟩⟩⟩⟩⟩⟩
theorem g_AOA.of {A : Array Value} {U : State} (h : (Cond.arrayOver (.array .int)).before A U = true) : g_AOA U := h
theorem st_E {s : State} {args : Array Value} (hts : ∀ w ∈ lw_tbl, w.before args s = true) (hs : ∀ w ∈ flatC (Jvm.Cond.and given_1 narrow_1), w.before args s = true) : g_E s.heap.size s s.heap := ⟨vx_Zqof (hts (.laysStatic Bundle.tN "UNASSIGNED_STACK" Bundle.steD) (w_at (i := 190) (by decide +kernel))) (hts (.initialized Bundle.tN) (w_at (i := 41) (by decide +kernel))) (hs (.isRef (.static Bundle.tN "UNASSIGNED_STACK" Bundle.steD)) (by decide +kernel)) (fun a ha => Nat.not_le.mpr ha), vx_Zqof (hts (.laysStatic Bundle.tN "SUPPRESSED_SENTINEL" Bundle.listD) (w_at (i := 192) (by decide +kernel))) (hts (.initialized Bundle.tN) (w_at (i := 41) (by decide +kernel))) (hs (.isRef (.static Bundle.tN "SUPPRESSED_SENTINEL" Bundle.listD)) (by decide +kernel)) (fun a ha => Nat.not_le.mpr ha), ⟨st_str hts hs, st_X hts hs⟩, va_AO.of (hts _ (w_at (i := 105) (by decide +kernel))), va_AO.of (hts _ (w_at (i := 107) (by decide +kernel))), g_AOA.of (hts _ (w_at (i := 70) (by decide +kernel)))⟩
theorem st_CA {s : State} {args : Array Value} (hts : ∀ w ∈ lw_tbl, w.before args s = true) : va_Nw (.castable IAE IAE) s := va_Nw.of rfl (hts (.castable IAE IAE) (w_at (i := 165) (by decide +kernel)))
theorem st_F {s : State} {args : Array Value} (hts : ∀ w ∈ lw_tbl, w.before args s = true) (hs : ∀ w ∈ flatC (Jvm.Cond.and given_1 narrow_1), w.before args s = true) : ∃ (D : va_G) (C : g_C), g_F D C s.heap.size s := by
  obtain ⟨D, C, h⟩ := st_K hts
  exact ⟨D, C, h, st_N hts, st_E hts hs, Nat.le_refl _⟩
