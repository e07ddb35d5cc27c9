/-- a contract of a method for which the machine has no row of its own, whatever its class is called -/
theorem g_ofWF {l : Launch} {y : MethodName} {ws ws' : List Cond} {rm : Room} {Pc : Array Value → State → Prop} {Qc : Array Value → State → Outcome → State → Prop} {mc ms : Nat} {free : Addr → Prop} {cc : ByteArray} {maxL : Nat} {ret : Option FieldType} (hy : plainFor y = true) (hw : ws = Cond.code y cc maxL ret :: ws')
    (body : ∀ p e s m args below meth c s₁, BodyLoose p l y (headSpec ws rm) cc maxL ret e s m args below meth c s₁ → c.maxLocals = maxL → Pc args s → W p l e (headSpec ws rm).room s m args below meth c s.heap [] 0 0 (MQ below Qc args s mc ms free) (entryFrame m args maxL)) : Met l y ws rm Pc Qc mc ms free := by
  refine MetFree.of_bodySF (code := cc) (maxLocals := maxL) (ret := ret) hy ?_ ?_
  · intro args s m h hn
    obtain ⟨meth, c, h1, h2, h3, h4, h5, h6, -, -⟩ := Cond.code_spec hn (atoms_spec (ws := ws) h _ (by rw [hw]; exact List.mem_cons_self))
    exact ⟨meth, c, h1, h2, h3, h4, h5, h6⟩
  · intro p e s m args below meth c s₁ B hml hP _
    have hh0 : s₁.heap = s.heap := by rw [B.state]; rfl
    obtain ⟨t, a1, o, b1, b2, b3⟩ := body p e s m args below meth c s₁ B hml hP s₁ hh0 (Stand.of_body B)
    exact ⟨t, o, a1, b1, b2, ⟨b3.1, b3.2⟩⟩

theorem n_xor (a b : Nat) : nI a ^^^ nI b = nI (a ^^^ b) := by
  apply Int32.toBitVec_inj.1
  show BitVec.ofNat 32 a ^^^ BitVec.ofNat 32 b = BitVec.ofNat 32 (a ^^^ b)
  apply BitVec.eq_of_getLsbD_eq
  intro i hi
  simp [hi]

set_option maxHeartbeats 4000000 in
set_option maxRecDepth 100000 in
theorem c_commonReach (l : Launch) {D : va_G} {C : g_C} {g : g_k → Nat → Int32} {ad ln : g_k → Nat} {ex : g_k → Option va_E} {B : Nat} {a b : Nat} (ha : a < 10) (hb9 : b < 10) : Met l yX2_commonReach wsX2_commonReach ({ frames := 1, cells := 0, slots := 0, locals := 21 } : Room) (va_Pc [.ref (ad (1, 0, 0)), .int (nI a), .int (nI b)] (g_S D C (lay C g ad ln ex) ad B)) (vp_Si (fun r => g (8, 0, 0) a = -1 → g (8, 0, 0) b = -1 → r = -1)) 0 0 (fun _ => False) := by
  refine Met.ofW (cc := cX2_commonReach) (maxL := 3) (ret := (some .int)) (by decide) rfl ?_
  intro p e s m args below meth c s₁ B₀ hml hv
  obtain ⟨rfl, hG, hF⟩ := hv
  have hK := hF.1
  have hN := hF.2.1
  have hB := hF.2.2.2
  have hx := B₀.exec
  have hb := B₀.bytes
  have hr := B₀.returns
  have hts := atoms_spec (ws := wsX2_commonReach) B₀.pre
  have hown : s.vm.findClass RX2 = some m.cls := findClass_of_methodNamed B₀.named
  have hlocks := B₀.notSynchronized
  have hS : va_S (g_A B) s.heap s.heap [] := va_S.rf
  have hi2 : ∀ w ∈ wsX20, w ∈ wsX2_commonReach := by decide +kernel
  have hl := lv_entry [.ref (ad (1, 0, 0)), .int (nI a), .int (nI b)] (n := 3) (Nat.le_of_ble_eq_true rfl)
  rw [lg_entry_eq]
  generalize (lg_sl [.ref (ad (1, 0, 0)), .int (nI a), .int (nI b)] ++ List.replicate (3 - (lg_sl [.ref (ad (1, 0, 0)), .int (nI a), .int (nI b)]).length) Slot.unset).toArray = ls at hl ⊢
  have hl : lv_has ls 3 [(0, .ref (ad (1, 0, 0))), (1, .int (nI a)), (2, .int (nI b))] := hl
  refine lv_aload_n hx hb dX2_commonReach_0 rfl (lv_at hl 0 rfl) ?_
  refine g_get hx hb hts hi2 hown hK hG (lay_sky) rfl 2 (by decide) (hts (.fieldLink RX2 18 "Satellitering$Sky" "reaches" "[I") (by decide +kernel)) rfl dX2_commonReach_1 ?_
  refine lv_iload_n hx hb dX2_commonReach_4 rfl (lv_at hl 1 rfl) ?_
  refine g_iald hx hb hK hG (lay_reaches) (ha) (by first | decide | omega) dX2_commonReach_5 ?_
  refine lv_iconst (v := (-1)) hx hb dX2_commonReach_6 (by decide) ?_
  refine lv_icmp_ne (tgt := 17) hx hb dX2_commonReach_7 (by decide) (fun c_1 => ?_) (fun c_1 => ?_)
  · refine lv_aload_n hx hb dX2_commonReach_17 rfl (lv_at hl 0 rfl) ?_
    refine g_get hx hb hts hi2 hown hK hG (lay_sky) rfl 2 (by decide) (hts (.fieldLink RX2 18 "Satellitering$Sky" "reaches" "[I") (by decide +kernel)) rfl dX2_commonReach_18 ?_
    refine lv_iload_n hx hb dX2_commonReach_21 rfl (lv_at hl 2 rfl) ?_
    refine g_iald hx hb hK hG (lay_reaches) (hb9) (by first | decide | omega) dX2_commonReach_22 ?_
    refine lv_iconst (v := (-1)) hx hb dX2_commonReach_23 (by decide) ?_
    refine lv_icmp_ne (tgt := 34) hx hb dX2_commonReach_24 (by decide) (fun c_2 => ?_) (fun c_2 => ?_)
    · refine lv_aload_n hx hb dX2_commonReach_34 rfl (lv_at hl 0 rfl) ?_
      refine g_get hx hb hts hi2 hown hK hG (lay_sky) rfl 2 (by decide) (hts (.fieldLink RX2 18 "Satellitering$Sky" "reaches" "[I") (by decide +kernel)) rfl dX2_commonReach_35 ?_
      refine lv_iload_n hx hb dX2_commonReach_38 rfl (lv_at hl 1 rfl) ?_
      refine g_iald hx hb hK hG (lay_reaches) (ha) (by first | decide | omega) dX2_commonReach_39 ?_
      refine lv_aload_n hx hb dX2_commonReach_40 rfl (lv_at hl 0 rfl) ?_
      refine g_get hx hb hts hi2 hown hK hG (lay_sky) rfl 2 (by decide) (hts (.fieldLink RX2 18 "Satellitering$Sky" "reaches" "[I") (by decide +kernel)) rfl dX2_commonReach_41 ?_
      refine lv_iload_n hx hb dX2_commonReach_44 rfl (lv_at hl 2 rfl) ?_
      refine g_iald hx hb hK hG (lay_reaches) (hb9) (by first | decide | omega) dX2_commonReach_45 ?_
      refine va_mmin hx hb (hml.trans hl.1.symm) hown (hts (.methodLink RX2 44 Lib.Math.min.name) (by decide +kernel)) (hts (.static Lib.Math.min.name) (by decide +kernel)) (hts (.initialized "java/lang/Math") (by decide +kernel)) (hts (.code Lib.Math.min.name Lib.Math.min.code 2 (some .int)) (by decide +kernel)) (Nat.le_of_ble_eq_true rfl) (Nat.le_of_ble_eq_true rfl) (Nat.le_of_ble_eq_true rfl) (Nat.le_of_ble_eq_true rfl) dX2_commonReach_46 ?_
      refine lv_topi (fun r_3 er_3 => ?_)
      exact W.iret (v := r_3) hx hb hr (fun t9 ht9 hW9 => ⟨_, rfl, fun z1 _ => absurd z1 c_1, ht9⟩) (fun q h => nomatch h) dX2_commonReach_49
    · refine lv_aload_n hx hb dX2_commonReach_27 rfl (lv_at hl 0 rfl) ?_
      refine g_get hx hb hts hi2 hown hK hG (lay_sky) rfl 2 (by decide) (hts (.fieldLink RX2 18 "Satellitering$Sky" "reaches" "[I") (by decide +kernel)) rfl dX2_commonReach_28 ?_
      refine lv_iload_n hx hb dX2_commonReach_31 rfl (lv_at hl 1 rfl) ?_
      refine g_iald hx hb hK hG (lay_reaches) (ha) (by first | decide | omega) dX2_commonReach_32 ?_
      exact W.iret (v := g (8, 0, 0) a) hx hb hr (fun t9 ht9 hW9 => ⟨_, rfl, fun z1 _ => absurd z1 c_1, ht9⟩) (fun q h => nomatch h) dX2_commonReach_33
  · refine lv_aload_n hx hb dX2_commonReach_10 rfl (lv_at hl 0 rfl) ?_
    refine g_get hx hb hts hi2 hown hK hG (lay_sky) rfl 2 (by decide) (hts (.fieldLink RX2 18 "Satellitering$Sky" "reaches" "[I") (by decide +kernel)) rfl dX2_commonReach_11 ?_
    refine lv_iload_n hx hb dX2_commonReach_14 rfl (lv_at hl 2 rfl) ?_
    refine g_iald hx hb hK hG (lay_reaches) (hb9) (by first | decide | omega) dX2_commonReach_15 ?_
    exact W.iret (v := g (8, 0, 0) b) hx hb hr (fun t9 ht9 hW9 => ⟨_, rfl, fun _ z2 => z2, ht9⟩) (fun q h => nomatch h) dX2_commonReach_16

theorem n_dist {p q : Nat} (hp : p < 360) (hq : q < 360) {s r : Int32} (es : (if 0 ≤ nI p - nI q then nI p - nI q else 0 - (nI p - nI q)) = s) (er : (if nI 360 - s < s then nI 360 - s else s) = r) : 0 ≤ r := by
  have h1 : (nI p - nI q).toInt = (p : Int) - q := pk_sub_toInt (by omega) (by omega)
  have h0 : (0 : Int32).toInt = 0 := by decide
  have h3 : (nI 360).toInt = 360 := by decide
  have hs : 0 ≤ s.toInt ∧ s.toInt < 360 := by
    rw [← es]
    by_cases c : 0 ≤ nI p - nI q
    · rw [if_pos c]; rw [Int32.le_iff_toInt_le, h0, h1] at c; rw [h1]; omega
    · rw [if_neg c]; rw [Int32.le_iff_toInt_le, h0, h1] at c
      rw [Int32.toInt_sub, h0, h1, Int.bmod_eq_of_le (by omega) (by omega)]; omega
  have h4 : (nI 360 - s).toInt = 360 - s.toInt := by rw [Int32.toInt_sub, h3, Int.bmod_eq_of_le (by omega) (by omega)]
  rw [← er, Int32.le_iff_toInt_le, h0]
  by_cases c : nI 360 - s < s
  · rw [if_pos c, h4]; omega
  · rw [if_neg c]; omega
theorem n_tdI (x : Int) : (x.tdiv 360 = x / 360 ∧ x.tmod 360 = x % 360 ∧ 0 ≤ x) ∨ (x.tdiv 360 = -((-x) / 360) ∧ x.tmod 360 = -((-x) % 360) ∧ x < 0) := by
  by_cases h : 0 ≤ x
  · exact Or.inl ⟨Int.tdiv_eq_ediv_of_nonneg h, Int.tmod_eq_emod_of_nonneg h, h⟩
  · have e : x = -(-x) := by omega
    refine Or.inr ⟨?_, ?_, by omega⟩
    · rw [← Int.tdiv_eq_ediv_of_nonneg (by omega : 0 ≤ -x), Int.neg_tdiv, Int.neg_neg]
    · rw [← Int.tmod_eq_emod_of_nonneg (by omega : 0 ≤ -x), Int.neg_tmod, Int.neg_neg]
theorem n_tmod (x : Int32) : (x - x / nI 360 * nI 360).toInt = x.toInt.tmod 360 := by
  have h3 : (nI 360).toInt = 360 := by decide
  have hl := Int32.le_toInt x
  have hu := Int32.toInt_lt x
  have td := n_tdI x.toInt
  have e1 : (x / nI 360).toInt = x.toInt.tdiv 360 := by
    rw [Int32.toInt_div, h3]
    exact Int.bmod_eq_of_le (by omega) (by omega)
  have e2 : (x / nI 360 * nI 360).toInt = x.toInt.tdiv 360 * 360 := by
    rw [Int32.toInt_mul, h3, e1]
    exact Int.bmod_eq_of_le (by omega) (by omega)
  rw [Int32.toInt_sub, e2, Int.bmod_eq_of_le (by omega) (by omega)]
  omega
theorem n_floor (x r : Int32) (h : (0 ≤ x ^^^ nI 360 ∧ r = x - x / nI 360 * nI 360) ∨ (¬ 0 ≤ x ^^^ nI 360 ∧ x - x / nI 360 * nI 360 = 0 ∧ r = x - x / nI 360 * nI 360) ∨ (¬ 0 ≤ x ^^^ nI 360 ∧ x - x / nI 360 * nI 360 ≠ 0 ∧ r = x - x / nI 360 * nI 360 + nI 360)) : ∃ p, p < 360 ∧ r = nI p := by
  have ht := n_tmod x
  have td := n_tdI x.toInt
  generalize x - x / nI 360 * nI 360 = y at h ht
  have h0 : (0 : Int32).toInt = 0 := by decide
  have h3 : (nI 360).toInt = 360 := by decide
  have sgn : ∀ z : Int32, (0 ≤ z) ↔ z.toBitVec.msb = false := fun z => by
    rw [Int32.le_iff_toInt_le, h0]
    show 0 ≤ z.toBitVec.toInt ↔ _
    rw [BitVec.msb_eq_toInt]
    simp
  have sx : (0 ≤ x ^^^ nI 360) ↔ 0 ≤ x.toInt := by
    rw [sgn, ← h0, ← Int32.le_iff_toInt_le, sgn, Int32.toBitVec_xor, BitVec.msb_xor, show (nI 360).toBitVec.msb = false by decide]
    simp
  rcases h with ⟨a1, rfl⟩ | ⟨_, a2, rfl⟩ | ⟨a1, a2, rfl⟩
  · rw [sx] at a1
    exact ⟨r.toInt.toNat, by omega, Int32.toInt_inj.mp (by rw [nI_toInt (by omega)]; omega)⟩
  · exact ⟨0, by decide, a2.trans (by decide)⟩
  · rw [sx] at a1
    have a3 : y.toInt ≠ 0 := fun z => a2 (Int32.toInt_inj.mp (z.trans h0.symm))
    refine ⟨(y.toInt + 360).toNat, by omega, Int32.toInt_inj.mp ?_⟩
    rw [nI_toInt (by omega), Int32.toInt_add, h3, Int.bmod_eq_of_le (by omega) (by omega)]
    omega

set_option maxHeartbeats 4000000 in
set_option maxRecDepth 100000 in
theorem c_distance (l : Launch) {D : va_G} {C : g_C} {g : g_k → Nat → Int32} {ad ln : g_k → Nat} {ex : g_k → Option va_E} {B : Nat} {x y : Int32} : Met l yX2_distance wsX2_distance ({ frames := 1, cells := 0, slots := 0, locals := 21 } : Room) (va_Pc [.int x, .int y] (g_S D C (lay C g ad ln ex) ad B)) (vp_Si (fun r => ∀ p q, p < 360 → q < 360 → x = nI p → y = nI q → 0 ≤ r)) 0 0 (fun _ => False) := by
  refine Met.ofW (cc := cX2_distance) (maxL := 3) (ret := (some .int)) (by decide) rfl ?_
  intro p e s m args below meth c s₁ B₀ hml hv
  obtain ⟨rfl, hG, hF⟩ := hv
  have hK := hF.1
  have hN := hF.2.1
  have hB := hF.2.2.2
  have hx := B₀.exec
  have hb := B₀.bytes
  have hr := B₀.returns
  have hts := atoms_spec (ws := wsX2_distance) B₀.pre
  have hown : s.vm.findClass RX2 = some m.cls := findClass_of_methodNamed B₀.named
  have hlocks := B₀.notSynchronized
  have hS : va_S (g_A B) s.heap s.heap [] := va_S.rf
  have hl := lv_entry [.int x, .int y] (n := 3) (Nat.le_of_ble_eq_true rfl)
  rw [lg_entry_eq]
  generalize (lg_sl [.int x, .int y] ++ List.replicate (3 - (lg_sl [.int x, .int y]).length) Slot.unset).toArray = ls at hl ⊢
  have hl : lv_has ls 3 [(0, .int x), (1, .int y)] := hl
  refine lv_iload_n hx hb dX2_distance_0 rfl (lv_at hl 0 rfl) ?_
  refine lv_iload_n hx hb dX2_distance_1 rfl (lv_at hl 1 rfl) ?_
  refine lv_isub hx hb dX2_distance_2 ?_
  refine va_mabs hx hb (hml.trans hl.1.symm) hown (hts (.methodLink RX2 49 Lib.Math.abs.name) (by decide +kernel)) (hts (.static Lib.Math.abs.name) (by decide +kernel)) (hts (.initialized "java/lang/Math") (by decide +kernel)) (hts (.code Lib.Math.abs.name Lib.Math.abs.code 1 (some .int)) (by decide +kernel)) (Nat.le_of_ble_eq_true rfl) (Nat.le_of_ble_eq_true rfl) (Nat.le_of_ble_eq_true rfl) (Nat.le_of_ble_eq_true rfl) dX2_distance_3 ?_
  refine lv_topi (fun r_1 er_1 => ?_)
  refine lv_istore_n (lv' := [(2, .int r_1), (0, .int x), (1, .int y)]) hx hb dX2_distance_6 rfl hl (by decide) rfl (fun ls hl => ?_)
  refine lv_iload_n hx hb dX2_distance_7 rfl (lv_at hl 0 rfl) ?_
  refine lv_sipush (v := nI 360) hx hb dX2_distance_8 (by decide) ?_
  refine lv_iload_n hx hb dX2_distance_11 rfl (lv_at hl 0 rfl) ?_
  refine lv_isub hx hb dX2_distance_12 ?_
  refine va_mmin hx hb (hml.trans hl.1.symm) hown (hts (.methodLink RX2 44 Lib.Math.min.name) (by decide +kernel)) (hts (.static Lib.Math.min.name) (by decide +kernel)) (hts (.initialized "java/lang/Math") (by decide +kernel)) (hts (.code Lib.Math.min.name Lib.Math.min.code 2 (some .int)) (by decide +kernel)) (Nat.le_of_ble_eq_true rfl) (Nat.le_of_ble_eq_true rfl) (Nat.le_of_ble_eq_true rfl) (Nat.le_of_ble_eq_true rfl) dX2_distance_13 ?_
  refine lv_topi (fun r_2 er_2 => ?_)
  exact W.iret (v := r_2) hx hb hr (fun t9 ht9 hW9 => ⟨_, rfl, fun p q hp hq e1 e2 => by subst e1; subst e2; exact n_dist hp hq er_1.symm er_2.symm, ht9⟩) (fun q h => nomatch h) dX2_distance_16

set_option maxHeartbeats 4000000 in
set_option maxRecDepth 100000 in
theorem c_floorMod (l : Launch) {D : va_G} {C : g_C} {g : g_k → Nat → Int32} {ad ln : g_k → Nat} {ex : g_k → Option va_E} {B : Nat} {x : Int32} : Met l yJ9_floorMod_7cf53 wsJ9_floorMod_7cf53 ({ frames := 0, cells := 0, slots := 0, locals := 0 } : Room) (va_Pc [.int x, .int (nI 360)] (g_S D C (lay C g ad ln ex) ad B)) (vp_Si (fun r => (∃ p, p < 360 ∧ r = nI p) ∧ (∀ p, p < 360 → x = nI p → r = nI p))) 0 0 (fun _ => False) := by
  refine g_ofWF (cc := cJ9_floorMod_7cf53) (maxL := 3) (ret := (some .int)) (by decide +kernel) rfl ?_
  intro p e s m args below meth c s₁ B₀ hml hv
  obtain ⟨rfl, hG, hF⟩ := hv
  have hK := hF.1
  have hN := hF.2.1
  have hB := hF.2.2.2
  have hx := B₀.exec
  have hb := B₀.bytes
  have hr := B₀.returns
  have hts := atoms_spec (ws := wsJ9_floorMod_7cf53) B₀.pre
  have hown : s.vm.findClass RJ9 = some m.cls := findClass_of_methodNamed B₀.named
  have hlocks := B₀.notSynchronized
  have hS : va_S (g_A B) s.heap s.heap [] := va_S.rf
  have hl := lv_entry [.int x, .int (nI 360)] (n := 3) (Nat.le_of_ble_eq_true rfl)
  rw [lg_entry_eq]
  generalize (lg_sl [.int x, .int (nI 360)] ++ List.replicate (3 - (lg_sl [.int x, .int (nI 360)]).length) Slot.unset).toArray = ls at hl ⊢
  have hl : lv_has ls 3 [(0, .int x), (1, .int (nI 360))] := hl
  refine lv_iload_n hx hb dJ9_floorMod_7cf53_0 rfl (lv_at hl 0 rfl) ?_
  refine lv_iload_n hx hb dJ9_floorMod_7cf53_1 rfl (lv_at hl 1 rfl) ?_
  refine lv_irem hx hb dJ9_floorMod_7cf53_2 (by decide) ?_
  refine lv_istore_n (lv' := [(2, .int (x - x / (nI 360) * (nI 360))), (0, .int x), (1, .int (nI 360))]) hx hb dJ9_floorMod_7cf53_3 rfl hl (by decide) rfl (fun ls hl => ?_)
  refine lv_iload_n hx hb dJ9_floorMod_7cf53_4 rfl (lv_at hl 1 rfl) ?_
  refine lv_iload_n hx hb dJ9_floorMod_7cf53_5 rfl (lv_at hl 2 rfl) ?_
  refine lv_ixor hx hb dJ9_floorMod_7cf53_6 ?_
  refine lv_if_ge (tgt := 18) hx hb dJ9_floorMod_7cf53_7 (by decide) (fun c_1 => ?_) (fun c_1 => ?_)
  · refine lv_iload_n hx hb dJ9_floorMod_7cf53_18 rfl (lv_at hl 0 rfl) ?_
    exact W.iret (v := x - x / (nI 360) * (nI 360)) hx hb hr (fun t9 ht9 hW9 => ⟨_, rfl, ⟨n_floor x _ (Or.inl ⟨c_1, rfl⟩), fun p hp hxp => by rw [hxp]; exact (pk_rem (by omega) (by decide) (by decide)).trans (by rw [Nat.mod_eq_of_lt hp])⟩, ht9⟩) (fun q h => nomatch h) dJ9_floorMod_7cf53_19
  · refine lv_iload_n hx hb dJ9_floorMod_7cf53_10 rfl (lv_at hl 0 rfl) ?_
    refine lv_if_eq (tgt := 18) hx hb dJ9_floorMod_7cf53_11 (by decide) (fun c_2 => ?_) (fun c_2 => ?_)
    · refine lv_iload_n hx hb dJ9_floorMod_7cf53_18 rfl (lv_at hl 0 rfl) ?_
      exact W.iret (v := x - x / (nI 360) * (nI 360)) hx hb hr (fun t9 ht9 hW9 => ⟨_, rfl, ⟨n_floor x _ (Or.inr (Or.inl ⟨c_1, c_2, rfl⟩)), (fun p hp hxp => absurd (show (0 : Int32) ≤ x ^^^ nI 360 by rw [hxp, n_xor]; exact nI_pos' (Nat.lt_trans (Nat.xor_lt_two_pow (n := 9) (by omega) (by decide)) (by decide))) c_1)⟩, ht9⟩) (fun q h => nomatch h) dJ9_floorMod_7cf53_19
    · refine lv_iload_n hx hb dJ9_floorMod_7cf53_14 rfl (lv_at hl 0 rfl) ?_
      refine lv_iload_n hx hb dJ9_floorMod_7cf53_15 rfl (lv_at hl 2 rfl) ?_
      refine lv_iadd hx hb dJ9_floorMod_7cf53_16 ?_
      exact W.iret (v := (x - x / (nI 360) * (nI 360)) + (nI 360)) hx hb hr (fun t9 ht9 hW9 => ⟨_, rfl, ⟨n_floor x _ (Or.inr (Or.inr ⟨c_1, c_2, rfl⟩)), (fun p hp hxp => absurd (show (0 : Int32) ≤ x ^^^ nI 360 by rw [hxp, n_xor]; exact nI_pos' (Nat.lt_trans (Nat.xor_lt_two_pow (n := 9) (by omega) (by decide)) (by decide))) c_1)⟩, ht9⟩) (fun q h => nomatch h) dJ9_floorMod_7cf53_17

set_option maxHeartbeats 4000000 in
set_option maxRecDepth 100000 in
theorem c_placeOf (l : Launch) {D : va_G} {C : g_C} {g : g_k → Nat → Int32} {ad ln : g_k → Nat} {ex : g_k → Option va_E} {B : Nat} {a t : Nat} (ha : a < 10) : Met l yX2_placeOf wsX2_placeOf ({ frames := 1, cells := 0, slots := 0, locals := 22 } : Room) (va_Pc [.ref (ad (1, 0, 0)), .int (nI a), .int (nI t)] (g_S D C (lay C g ad ln ex) ad B)) (vp_Si (fun r => (∃ p, p < 360 ∧ r = nI p) ∧ (∀ p, p < 360 → g (6, 0, 0) a = nI p → t = 0 → r = nI p))) 0 0 (fun _ => False) := by
  refine Met.ofW (cc := cX2_placeOf) (maxL := 3) (ret := (some .int)) (by decide) rfl ?_
  intro p e s m args below meth c s₁ B₀ hml hv
  obtain ⟨rfl, hG, hF⟩ := hv
  have hK := hF.1
  have hN := hF.2.1
  have hB := hF.2.2.2
  have hx := B₀.exec
  have hb := B₀.bytes
  have hr := B₀.returns
  have hts := atoms_spec (ws := wsX2_placeOf) B₀.pre
  have hown : s.vm.findClass RX2 = some m.cls := findClass_of_methodNamed B₀.named
  have hlocks := B₀.notSynchronized
  have hS : va_S (g_A B) s.heap s.heap [] := va_S.rf
  have hi2 : ∀ w ∈ wsX20, w ∈ wsX2_placeOf := by decide +kernel
  have hl := lv_entry [.ref (ad (1, 0, 0)), .int (nI a), .int (nI t)] (n := 3) (Nat.le_of_ble_eq_true rfl)
  rw [lg_entry_eq]
  generalize (lg_sl [.ref (ad (1, 0, 0)), .int (nI a), .int (nI t)] ++ List.replicate (3 - (lg_sl [.ref (ad (1, 0, 0)), .int (nI a), .int (nI t)]).length) Slot.unset).toArray = ls at hl ⊢
  have hl : lv_has ls 3 [(0, .ref (ad (1, 0, 0))), (1, .int (nI a)), (2, .int (nI t))] := hl
  refine lv_aload_n hx hb dX2_placeOf_0 rfl (lv_at hl 0 rfl) ?_
  refine g_get hx hb hts hi2 hown hK hG (lay_sky) rfl 0 (by decide) (hts (.fieldLink RX2 9 "Satellitering$Sky" "places" "[I") (by decide +kernel)) rfl dX2_placeOf_1 ?_
  refine lv_iload_n hx hb dX2_placeOf_4 rfl (lv_at hl 1 rfl) ?_
  refine g_iald hx hb hK hG (lay_places) (ha) (by first | decide | omega) dX2_placeOf_5 ?_
  refine lv_iload_n hx hb dX2_placeOf_6 rfl (lv_at hl 2 rfl) ?_
  refine lv_aload_n hx hb dX2_placeOf_7 rfl (lv_at hl 0 rfl) ?_
  refine g_get hx hb hts hi2 hown hK hG (lay_sky) rfl 1 (by decide) (hts (.fieldLink RX2 15 "Satellitering$Sky" "speeds" "[I") (by decide +kernel)) rfl dX2_placeOf_8 ?_
  refine lv_iload_n hx hb dX2_placeOf_11 rfl (lv_at hl 1 rfl) ?_
  refine g_iald hx hb hK hG (lay_speeds) (ha) (by first | decide | omega) dX2_placeOf_12 ?_
  refine lv_imul hx hb dX2_placeOf_13 ?_
  refine lv_iadd hx hb dX2_placeOf_14 ?_
  refine lv_sipush (v := nI 360) hx hb dX2_placeOf_15 (by decide) ?_
  refine vp_callSi (W.runS (As := [.int ((g (6, 0, 0) a) + ((nI t) * (g (7, 0, 0) a))), .int (nI 360)]) (rest := []) ⟨hx, hb, hml, hown, hts⟩ (c_floorMod l ) (va_cwS 2 hts gX2_placeOf_J9_floorMod_7cf53 rfl rfl rfl (by decide +kernel) ⟨Nat.le_of_ble_eq_true rfl, Nat.le_of_ble_eq_true rfl⟩) (g_preS hF hG hS) rfl rfl hl.1 rfl (lv_room (Nat.le_of_ble_eq_true rfl)) dX2_placeOf_18 ⟨Nat.le_of_ble_eq_true rfl, Nat.le_of_ble_eq_true rfl⟩) (fun r_1 h_2 => ?_)
  exact W.iret (v := r_1) hx hb hr (fun t9 ht9 hW9 => ⟨_, rfl, ⟨h_2.1, fun p hp hgp h0 => h_2.2 p hp (by rw [hgp, h0, nI_0, Int32.zero_mul, Int32.add_zero])⟩, ht9⟩) (fun q h => nomatch h) dX2_placeOf_21

/-- at minute t nothing is marked, or both see each other from now on -/
def mk_P (g g1 : g_k → Nat → Int32) (a b t : Nat) : Prop := (g1 (20, a, 0) t = g (20, a, 0) t ∧ g1 (20, b, 0) t = g (20, b, 0) t) ∨ (g1 (20, a, 0) t = g (20, a, 0) t ||| nI 1 <<< (nI b &&& 31) ∧ g1 (20, b, 0) t = g (20, b, 0) t ||| nI 1 <<< (nI a &&& 31))

set_option maxHeartbeats 4000000 in
set_option maxRecDepth 100000 in
theorem c_markContacts (l : Launch) {D : va_G} {C : g_C} {g : g_k → Nat → Int32} {ad ln : g_k → Nat} {ex : g_k → Option va_E} {B : Nat} {a b : Nat} (ha : a < 10) (hb9 : b < 10) (hab : a ≠ b) : Met l yX2_markContacts wsX2_markContacts ({ frames := 2, cells := 0, slots := 0, locals := 44 } : Room) (va_Pc [.ref (ad (1, 0, 0)), .int (nI a), .int (nI b)] (g_S D C (lay C g ad ln ex) ad B)) (va_Qv (fun (g1 : g_k → Nat → Int32) => (∀ c, c ≠ (20, a, 0) → c ≠ (20, b, 0) → g1 c = g c) ∧ (∀ t, t < 360 → mk_P g g1 a b t) ∧ (g (8, 0, 0) a = -1 → g (8, 0, 0) b = -1 → g1 = g)) (fun g1 t => g_P D (lay C g1 ad ln ex) ad B t.heap) (g_A B)) 0 0 (g_A B) := by
  refine Met.ofW (cc := cX2_markContacts) (maxL := 5) (ret := none) (by decide) rfl ?_
  intro p e s m args below meth c s₁ B₀ hml hv
  obtain ⟨rfl, hG, hF⟩ := hv
  have hK := hF.1
  have hN := hF.2.1
  have hB := hF.2.2.2
  have hx := B₀.exec
  have hb := B₀.bytes
  have hr := B₀.returns
  have hts := atoms_spec (ws := wsX2_markContacts) B₀.pre
  have hown : s.vm.findClass RX2 = some m.cls := findClass_of_methodNamed B₀.named
  have hlocks := B₀.notSynchronized
  have hS : va_S (g_A B) s.heap s.heap [] := va_S.rf
  have hi2 : ∀ w ∈ wsX20, w ∈ wsX2_markContacts := by decide +kernel
  have hl := lv_entry [.ref (ad (1, 0, 0)), .int (nI a), .int (nI b)] (n := 5) (Nat.le_of_ble_eq_true rfl)
  rw [lg_entry_eq]
  generalize (lg_sl [.ref (ad (1, 0, 0)), .int (nI a), .int (nI b)] ++ List.replicate (5 - (lg_sl [.ref (ad (1, 0, 0)), .int (nI a), .int (nI b)]).length) Slot.unset).toArray = ls at hl ⊢
  have hl : lv_has ls 5 [(0, .ref (ad (1, 0, 0))), (1, .int (nI a)), (2, .int (nI b))] := hl
  refine lv_aload_n hx hb dX2_markContacts_0 rfl (lv_at hl 0 rfl) ?_
  refine lv_iload_n hx hb dX2_markContacts_1 rfl (lv_at hl 1 rfl) ?_
  refine lv_iload_n hx hb dX2_markContacts_2 rfl (lv_at hl 2 rfl) ?_
  refine vp_callSi (W.runV (As := [.int (nI a), .int (nI b)]) (rest := []) ⟨hx, hb, hml, hown, hts⟩ (c_commonReach l ha hb9) (cwV 2 hts gX2_markContacts_X2_commonReach rfl rfl rfl (by decide +kernel) ⟨Nat.le_of_ble_eq_true rfl, Nat.le_of_ble_eq_true rfl⟩) (g_preV hF hG hS (lay_sky) rfl) rfl rfl hl.1 rfl (lv_room (Nat.le_of_ble_eq_true rfl)) dX2_markContacts_3 ⟨Nat.le_of_ble_eq_true rfl, Nat.le_of_ble_eq_true rfl⟩) (fun r_1 h_2 => ?_)
  refine lv_istore_n (lv' := [(3, .int r_1), (0, .ref (ad (1, 0, 0))), (1, .int (nI a)), (2, .int (nI b))]) hx hb dX2_markContacts_6 rfl hl (by decide) rfl (fun ls hl => ?_)
  refine lv_iconst (v := nI 0) hx hb dX2_markContacts_7 (by decide) ?_
  refine lv_istore (lv' := [(4, .int (nI 0)), (3, .int r_1), (0, .ref (ad (1, 0, 0))), (1, .int (nI a)), (2, .int (nI b))]) hx hb dX2_markContacts_8 hl (by decide) rfl (fun ls hl => ?_)
  have loop : ∀ (k i : Nat) (g1 : g_k → Nat → Int32) (H : Heap) (locs : List Loc), i ≤ 360 → 360 < i + k → (∀ c, c ≠ (20, a, 0) → c ≠ (20, b, 0) → g1 c = g c) ∧ (∀ t, t < i → mk_P g g1 a b t) ∧ (g (8, 0, 0) a = -1 → g (8, 0, 0) b = -1 → g1 = g) → (∀ t, i ≤ t → g1 (20, a, 0) t = g (20, a, 0) t ∧ g1 (20, b, 0) t = g (20, b, 0) t) → g_P D (lay C g1 ad ln ex) ad B H → va_S (g_A B) s.heap H locs → ∀ ls, lv_has ls 5 [(4, .int (nI i)), (3, .int r_1), (0, .ref (ad (1, 0, 0))), (1, .int (nI a)), (2, .int (nI b))] → W p l e (headSpec wsX2_markContacts ({ frames := 2, cells := 0, slots := 0, locals := 44 } : Room)).room s m ([.ref (ad (1, 0, 0)), .int (nI a), .int (nI b)]).toArray below meth c H locs 0 0 (MQ below (va_Qv (fun (g1 : g_k → Nat → Int32) => (∀ c, c ≠ (20, a, 0) → c ≠ (20, b, 0) → g1 c = g c) ∧ (∀ t, t < 360 → mk_P g g1 a b t) ∧ (g (8, 0, 0) a = -1 → g (8, 0, 0) b = -1 → g1 = g)) (fun g1 t => g_P D (lay C g1 ad ln ex) ad B t.heap) (g_A B)) ([.ref (ad (1, 0, 0)), .int (nI a), .int (nI b)]).toArray s 0 0 (g_A B)) (F0 m 10 ls []) := by
    intro k
    induction k with
    | zero => intro i g1 H locs h1 h2; exact absurd h2 (by omega)
    | succ k ih =>
      intro i g1 H locs h1 h2 h3 h4 hG hS ls hl
      refine lv_iload hx hb dX2_markContacts_10 (lv_at hl 0 rfl) ?_
      refine lv_sipush (v := nI 360) hx hb dX2_markContacts_12 (by decide) ?_
      refine lv_icmp_ge (tgt := 75) hx hb dX2_markContacts_15 (by decide) (fun c_3 => ?_) (fun c_3 => ?_)
      · have hi : i = 360 := by have := (nI_leI (by omega) (by omega)).mp c_3; omega
        subst hi
        exact W.vret hx hb hr (fun t9 ht9 hW9 => ⟨⟨_, rfl, h3, by show g_P _ _ _ _ t9.heap; rw [ht9]; exact hG⟩, hS.F ht9⟩) hS.2.2 dX2_markContacts_75
      · have hi : i < 360 := Nat.lt_of_not_le (fun h9 => c_3 ((nI_leI (by omega) (by omega)).mpr h9))
        refine lv_aload_n hx hb dX2_markContacts_18 rfl (lv_at hl 2 rfl) ?_
        refine lv_iload_n hx hb dX2_markContacts_19 rfl (lv_at hl 3 rfl) ?_
        refine lv_iload hx hb dX2_markContacts_20 (lv_at hl 0 rfl) ?_
        refine vp_callSi (W.runV (As := [.int (nI a), .int (nI i)]) (rest := []) ⟨hx, hb, hml, hown, hts⟩ (c_placeOf l ha) (cwV 2 hts gX2_markContacts_X2_placeOf rfl rfl rfl (by decide +kernel) ⟨Nat.le_of_ble_eq_true rfl, Nat.le_of_ble_eq_true rfl⟩) (g_preV hF hG hS (lay_sky) rfl) rfl rfl hl.1 rfl (lv_room (Nat.le_of_ble_eq_true rfl)) dX2_markContacts_22 ⟨Nat.le_of_ble_eq_true rfl, Nat.le_of_ble_eq_true rfl⟩) (fun r_4 h_5 => ?_)
        refine lv_aload_n hx hb dX2_markContacts_25 rfl (lv_at hl 2 rfl) ?_
        refine lv_iload_n hx hb dX2_markContacts_26 rfl (lv_at hl 4 rfl) ?_
        refine lv_iload hx hb dX2_markContacts_27 (lv_at hl 0 rfl) ?_
        refine vp_callSi (W.runV (As := [.int (nI b), .int (nI i)]) (rest := [.int r_4]) ⟨hx, hb, hml, hown, hts⟩ (c_placeOf l hb9) (cwV 2 hts gX2_markContacts_X2_placeOf rfl rfl rfl (by decide +kernel) ⟨Nat.le_of_ble_eq_true rfl, Nat.le_of_ble_eq_true rfl⟩) (g_preV hF hG hS (lay_sky) rfl) rfl rfl hl.1 rfl (lv_room (Nat.le_of_ble_eq_true rfl)) dX2_markContacts_29 ⟨Nat.le_of_ble_eq_true rfl, Nat.le_of_ble_eq_true rfl⟩) (fun r_6 h_7 => ?_)
        refine vp_callSi (W.runS (As := [.int r_4, .int r_6]) (rest := []) ⟨hx, hb, hml, hown, hts⟩ (c_distance l ) (va_cwS 2 hts gX2_markContacts_X2_distance rfl rfl rfl (by decide +kernel) ⟨Nat.le_of_ble_eq_true rfl, Nat.le_of_ble_eq_true rfl⟩) (g_preS hF hG hS) rfl rfl hl.1 rfl (lv_room (Nat.le_of_ble_eq_true rfl)) dX2_markContacts_32 ⟨Nat.le_of_ble_eq_true rfl, Nat.le_of_ble_eq_true rfl⟩) (fun r_8 h_9 => ?_)
        refine lv_iload_n hx hb dX2_markContacts_35 rfl (lv_at hl 1 rfl) ?_
        refine lv_icmp_gt (tgt := 69) hx hb dX2_markContacts_36 (by decide) (fun c_10 => ?_) (fun c_10 => ?_)
        · refine lv_iinc (v := nI (i + 1)) (lv' := [(4, .int (nI (i + 1))), (3, .int r_1), (0, .ref (ad (1, 0, 0))), (1, .int (nI a)), (2, .int (nI b))]) hx hb dX2_markContacts_69 hl (k := 0) rfl (nI_add i 1) (by decide) rfl (fun ls hl => ?_)
          refine lv_goto (tgt := 10) hx hb dX2_markContacts_72 (by decide) ?_
          exact ih (i + 1) g1 H locs (by omega) (by omega) ⟨h3.1, fun t ht9 => (by rcases Nat.lt_or_eq_of_le (Nat.le_of_lt_succ ht9) with h9 | h9; exact h3.2.1 t h9; rw [h9]; exact Or.inl (h4 i (Nat.le_refl i))), h3.2.2⟩ (fun t ht9 => h4 t (by omega)) hG hS ls (lv_sub hl [0, 1, 2, 3, 4] rfl)
        · refine lv_aload_n hx hb dX2_markContacts_39 rfl (lv_at hl 2 rfl) ?_
          refine g_get hx hb hts hi2 hown hK hG (lay_sky) rfl 3 (by decide) (hts (.fieldLink RX2 23 "Satellitering$Sky" "seen" "[[I") (by decide +kernel)) rfl dX2_markContacts_40 ?_
          refine lv_iload_n hx hb dX2_markContacts_43 rfl (lv_at hl 3 rfl) ?_
          refine o_seen hx hb hK hG (ha) dX2_markContacts_44 ?_
          refine lv_iload hx hb dX2_markContacts_45 (lv_at hl 0 rfl) ?_
          refine lv_dup2_11 hx hb dX2_markContacts_47 rfl rfl ?_
          refine g_iald hx hb hK hG (lay_row (ha)) (hi) (by first | decide | omega) dX2_markContacts_48 ?_
          refine lv_iconst (v := nI 1) hx hb dX2_markContacts_49 (by decide) ?_
          refine lv_iload_n hx hb dX2_markContacts_50 rfl (lv_at hl 4 rfl) ?_
          refine lv_ishl hx hb dX2_markContacts_51 ?_
          refine lv_ior hx hb dX2_markContacts_52 ?_
          refine o_iast hx hb hK hG hS (cd := (20, a, 0)) (fun _ => lay_row (ha)) (hi) (by first | decide | omega) dX2_markContacts_53 (fun H locs hG hS => ?_)
          have hne : ((20, b, 0) : g_k) ≠ (20, a, 0) := fun h9 => hab (congrArg (fun z : g_k => z.2.1) h9).symm
          refine lv_aload_n hx hb dX2_markContacts_54 rfl (lv_at hl 2 rfl) ?_
          refine g_get hx hb hts hi2 hown hK hG (lay_sky) rfl 3 (by decide) (hts (.fieldLink RX2 23 "Satellitering$Sky" "seen" "[[I") (by decide +kernel)) rfl dX2_markContacts_55 ?_
          refine lv_iload_n hx hb dX2_markContacts_58 rfl (lv_at hl 4 rfl) ?_
          refine o_seen hx hb hK hG (hb9) dX2_markContacts_59 ?_
          refine lv_iload hx hb dX2_markContacts_60 (lv_at hl 0 rfl) ?_
          refine lv_dup2_11 hx hb dX2_markContacts_62 rfl rfl ?_
          refine g_iald hx hb hK hG (lay_row (hb9)) (hi) (by first | decide | omega) dX2_markContacts_63 ?_
          refine lv_to (y := g1 (20, b, 0) i) (by rw [g2_ne _ _ _ hne]) ?_
          refine lv_iconst (v := nI 1) hx hb dX2_markContacts_64 (by decide) ?_
          refine lv_iload_n hx hb dX2_markContacts_65 rfl (lv_at hl 3 rfl) ?_
          refine lv_ishl hx hb dX2_markContacts_66 ?_
          refine lv_ior hx hb dX2_markContacts_67 ?_
          refine o_iast hx hb hK hG hS (cd := (20, b, 0)) (fun _ => lay_row (hb9)) (hi) (by first | decide | omega) dX2_markContacts_68 (fun H locs hG hS => ?_)
          refine lv_iinc (v := nI (i + 1)) (lv' := [(4, .int (nI (i + 1))), (3, .int r_1), (0, .ref (ad (1, 0, 0))), (1, .int (nI a)), (2, .int (nI b))]) hx hb dX2_markContacts_69 hl (k := 0) rfl (nI_add i 1) (by decide) rfl (fun ls hl => ?_)
          refine lv_goto (tgt := 10) hx hb dX2_markContacts_72 (by decide) ?_
          refine ih (i + 1) _ _ _ (by omega) (by omega) ⟨fun c c1 c2 => by rw [g2_ne _ _ _ c2, g2_ne _ _ _ c1]; exact h3.1 c c1 c2, fun t ht9 => ?_, fun z1 z2 => ?_⟩ (fun t ht9 => ?_) hG hS ls (lv_sub hl [0, 1, 2, 3, 4] rfl)
          · unfold mk_P
            rw [g2_self, g2_ne _ _ _ (Ne.symm hne), g2_self, g2_ne _ _ _ hne]
            rcases Nat.lt_or_eq_of_le (Nat.le_of_lt_succ ht9) with h9 | h9
            · rw [upd_ne _ _ (by omega), upd_ne _ _ (by omega)]; exact h3.2.1 t h9
            · rw [h9, upd_self, upd_self, (h4 i (Nat.le_refl i)).1, (h4 i (Nat.le_refl i)).2]; exact Or.inr ⟨rfl, rfl⟩
          · obtain ⟨p9, hp9, e9⟩ := h_5.1
            obtain ⟨q9, hq9, f9⟩ := h_7.1
            have n9 := h_9 p9 q9 hp9 hq9 e9 f9
            have m9 := c_10
            rw [h_2 z1 z2] at m9
            rw [Int32.le_iff_toInt_le, show (0 : Int32).toInt = 0 from by decide] at n9
            rw [Int32.lt_iff_toInt_lt, show (-1 : Int32).toInt = -1 from by decide] at m9
            exact absurd m9 (by omega)
          · rw [g2_self, g2_ne _ _ _ (Ne.symm hne), g2_self, g2_ne _ _ _ hne, upd_ne _ _ (by omega), upd_ne _ _ (by omega)]
            exact h4 t (by omega)
  exact loop 361 0 g s.heap [] (by decide) (by decide) ⟨fun _ _ _ => rfl, fun t ht9 => absurd ht9 (Nat.not_lt_zero t), fun _ _ => rfl⟩ (fun _ _ => ⟨rfl, rfl⟩) hG hS ls (lv_sub hl [0, 1, 2, 3, 4] rfl)

/-- who sees whom, of n nodes: both ways, and none itself -/
def sk1 (g : g_k → Nat → Int32) (n : Nat) : Prop := ∀ a b t, a < 10 → b < 32 → see g a b t = true → a < n ∧ b < n ∧ a ≠ b ∧ see g b a t = true
theorem sk1_up {g : g_k → Nat → Int32} {n m : Nat} (h : sk1 g n) (hm : n ≤ m) : sk1 g m := fun a b t ha hb hs => by
  obtain ⟨a1, a2, a3, a4⟩ := h a b t ha hb hs
  exact ⟨by omega, by omega, a3, a4⟩
theorem sk1_cong {g g1 : g_k → Nat → Int32} {n : Nat} (h : sk1 g n) (he : ∀ i, g1 (20, i, 0) = g (20, i, 0)) : sk1 g1 n := fun a b t ha hb hs => by
  have e : ∀ a b t, see g1 a b t = see g a b t := fun a b t => by unfold see; rw [he]
  rw [e] at hs ⊢
  exact h a b t ha hb hs
theorem mk_see {g g1 : g_k → Nat → Int32} {a b : Nat} (ha : a < 10) (hb : b < 10) (hab : a ≠ b) (h1 : ∀ c, c ≠ (20, a, 0) → c ≠ (20, b, 0) → g1 c = g c) (h2 : ∀ t, t < 360 → mk_P g g1 a b t) (t : Nat) : (∀ u v, v < 32 → see g1 u v t = see g u v t) ∨ (∀ u v, v < 32 → see g1 u v t = (see g u v t || ((decide (u = a) && decide (v = b)) || (decide (u = b) && decide (v = a))))) := by
  have hne : ∀ i, i ≠ a → i ≠ b → g1 (20, i, 0) = g (20, i, 0) := fun i i1 i2 => h1 _ (fun h9 => i1 (congrArg (fun z : g_k => z.2.1) h9)) (fun h9 => i2 (congrArg (fun z : g_k => z.2.1) h9))
  have ht : t % 360 < 360 := Nat.mod_lt _ (by decide)
  rcases h2 (t % 360) ht with ⟨e1, e2⟩ | ⟨e1, e2⟩
  · refine Or.inl (fun u v _ => ?_)
    unfold see
    by_cases q1 : u = a
    · rw [q1, e1]
    · by_cases q2 : u = b
      · rw [q2, e2]
      · rw [hne u q1 q2]
  · refine Or.inr (fun u v hv => ?_)
    unfold see
    by_cases q1 : u = a
    · have q3 : ¬ u = b := fun z => hab (by rw [← q1, z])
      have q4 : ¬ a = b := hab
      rw [q1, e1, b_or, b_bit (by omega) hv]
      simp [q4]
    · by_cases q2 : u = b
      · have q4 : ¬ b = a := fun z => hab z.symm
        rw [q2, e2, b_or, b_bit (by omega) hv]
        simp [q4]
      · rw [hne u q1 q2]
        simp [q1, q2]
theorem mk_see1 {g g1 : g_k → Nat → Int32} {a b : Nat} (ha : a < 10) (hb : b < 10) (hab : a ≠ b) (h1 : ∀ c, c ≠ (20, a, 0) → c ≠ (20, b, 0) → g1 c = g c) (h2 : ∀ t, t < 360 → mk_P g g1 a b t) {t u v : Nat} (hv : v < 32) (n1 : ¬ (u = a ∧ v = b)) (n2 : ¬ (u = b ∧ v = a)) : see g1 u v t = see g u v t := by
  rcases mk_see ha hb hab h1 h2 t with key | key
  · exact key u v hv
  · rw [key u v hv]
    have e1 : (decide (u = a) && decide (v = b)) = false := by rw [Bool.and_eq_false_imp]; intro z; exact decide_eq_false (fun z2 => n1 ⟨of_decide_eq_true z, z2⟩)
    have e2 : (decide (u = b) && decide (v = a)) = false := by rw [Bool.and_eq_false_imp]; intro z; exact decide_eq_false (fun z2 => n2 ⟨of_decide_eq_true z, z2⟩)
    rw [e1, e2]
    simp
theorem sk1_mark {g g1 : g_k → Nat → Int32} {n a b : Nat} (h : sk1 g n) (ha : a < n) (hb : b < n) (hn : n ≤ 10) (hab : a ≠ b) (h1 : ∀ c, c ≠ (20, a, 0) → c ≠ (20, b, 0) → g1 c = g c) (h2 : ∀ t, t < 360 → mk_P g g1 a b t) : sk1 g1 n := by
  intro u v t hu hv hs
  have key := mk_see (show a < 10 by omega) (show b < 10 by omega) hab h1 h2 t
  rcases key with key | key
  · rw [key u v hv] at hs
    obtain ⟨a1, a2, a3, a4⟩ := h u v t hu hv hs
    exact ⟨a1, a2, a3, by rw [key v u (by omega)]; exact a4⟩
  · rw [key u v hv, Bool.or_eq_true] at hs
    rcases hs with hs | hs
    · obtain ⟨a1, a2, a3, a4⟩ := h u v t hu hv hs
      exact ⟨a1, a2, a3, by rw [key v u (by omega), a4]; rfl⟩
    · rw [Bool.or_eq_true, Bool.and_eq_true, Bool.and_eq_true, decide_eq_true_eq, decide_eq_true_eq, decide_eq_true_eq, decide_eq_true_eq] at hs
      rcases hs with ⟨z1, z2⟩ | ⟨z1, z2⟩
      · exact ⟨by omega, by omega, by omega, by rw [key v u (by omega), z1, z2]; simp⟩
      · exact ⟨by omega, by omega, by omega, by rw [key v u (by omega), z1, z2]; simp⟩

set_option maxHeartbeats 4000000 in
set_option maxRecDepth 100000 in
theorem c_addNode (l : Launch) {D : va_G} {C : g_C} {g : g_k → Nat → Int32} {ad ln : g_k → Nat} {ex : g_k → Option va_E} {B : Nat} {n : Nat} (hn : n < 10) (hc : g (1, 0, 0) 4 = nI n) (hsk : sk1 g n) {x y z : Int32} : Met l yX2_addNode wsX2_addNode ({ frames := 3, cells := 0, slots := 0, locals := 68 } : Room) (va_Pc [.ref (ad (1, 0, 0)), .int x, .int y, .int z] (g_S D C (lay C g ad ln ex) ad B)) (va_Qi (fun (r : Int32) (g1 : g_k → Nat → Int32) => r = nI n ∧ g1 (1, 0, 0) 4 = nI (n + 1) ∧ g1 (6, 0, 0) = upd (g (6, 0, 0)) n x ∧ g1 (8, 0, 0) = upd (g (8, 0, 0)) n z ∧ (∀ c : g_k, c ≠ (1, 0, 0) → c ≠ (6, 0, 0) → c ≠ (7, 0, 0) → c ≠ (8, 0, 0) → c.1 ≠ 20 → g1 c = g c) ∧ sk1 g1 (n + 1) ∧ (∀ a b t, a < n → b < n → see g1 a b t = see g a b t) ∧ (z = -1 → ∀ b t, b < n → g (8, 0, 0) b = -1 → see g1 n b t = false)) (fun g1 t => g_P D (lay C g1 ad ln ex) ad B t.heap) (g_A B)) 0 0 (g_A B) := by
  refine Met.ofW (cc := cX2_addNode) (maxL := 6) (ret := (some .int)) (by decide) rfl ?_
  intro p e s m args below meth c s₁ B₀ hml hv
  obtain ⟨rfl, hG, hF⟩ := hv
  have hK := hF.1
  have hN := hF.2.1
  have hB := hF.2.2.2
  have hx := B₀.exec
  have hb := B₀.bytes
  have hr := B₀.returns
  have hts := atoms_spec (ws := wsX2_addNode) B₀.pre
  have hown : s.vm.findClass RX2 = some m.cls := findClass_of_methodNamed B₀.named
  have hlocks := B₀.notSynchronized
  have hS : va_S (g_A B) s.heap s.heap [] := va_S.rf
  have hi2 : ∀ w ∈ wsX20, w ∈ wsX2_addNode := by decide +kernel
  have hl := lv_entry [.ref (ad (1, 0, 0)), .int x, .int y, .int z] (n := 6) (Nat.le_of_ble_eq_true rfl)
  rw [lg_entry_eq]
  generalize (lg_sl [.ref (ad (1, 0, 0)), .int x, .int y, .int z] ++ List.replicate (6 - (lg_sl [.ref (ad (1, 0, 0)), .int x, .int y, .int z]).length) Slot.unset).toArray = ls at hl ⊢
  have hl : lv_has ls 6 [(0, .ref (ad (1, 0, 0))), (1, .int x), (2, .int y), (3, .int z)] := hl
  refine lv_aload_n hx hb dX2_addNode_0 rfl (lv_at hl 0 rfl) ?_
  refine g_get hx hb hts hi2 hown hK hG (lay_sky) rfl 4 (by decide) (hts (.fieldLink RX2 26 "Satellitering$Sky" "count" "I") (by decide +kernel)) rfl dX2_addNode_1 ?_
  refine lv_to (y := nI n) (hc) ?_
  refine lv_istore (lv' := [(4, .int (nI n)), (0, .ref (ad (1, 0, 0))), (1, .int x), (2, .int y), (3, .int z)]) hx hb dX2_addNode_4 hl (by decide) rfl (fun ls hl => ?_)
  refine lv_aload_n hx hb dX2_addNode_6 rfl (lv_at hl 1 rfl) ?_
  refine g_get hx hb hts hi2 hown hK hG (lay_sky) rfl 0 (by decide) (hts (.fieldLink RX2 9 "Satellitering$Sky" "places" "[I") (by decide +kernel)) rfl dX2_addNode_7 ?_
  refine lv_iload hx hb dX2_addNode_10 (lv_at hl 0 rfl) ?_
  refine lv_iload_n hx hb dX2_addNode_12 rfl (lv_at hl 2 rfl) ?_
  refine o_iast hx hb hK hG hS (cd := (6, 0, 0)) (fun _ => lay_places) (hn) (by first | decide | omega) dX2_addNode_13 (fun H locs hG hS => ?_)
  refine lv_aload_n hx hb dX2_addNode_14 rfl (lv_at hl 1 rfl) ?_
  refine g_get hx hb hts hi2 hown hK hG (lay_sky) rfl 1 (by decide) (hts (.fieldLink RX2 15 "Satellitering$Sky" "speeds" "[I") (by decide +kernel)) rfl dX2_addNode_15 ?_
  refine lv_iload hx hb dX2_addNode_18 (lv_at hl 0 rfl) ?_
  refine lv_iload_n hx hb dX2_addNode_20 rfl (lv_at hl 3 rfl) ?_
  refine o_iast hx hb hK hG hS (cd := (7, 0, 0)) (fun _ => lay_speeds) (hn) (by first | decide | omega) dX2_addNode_21 (fun H locs hG hS => ?_)
  refine lv_aload_n hx hb dX2_addNode_22 rfl (lv_at hl 1 rfl) ?_
  refine g_get hx hb hts hi2 hown hK hG (lay_sky) rfl 2 (by decide) (hts (.fieldLink RX2 18 "Satellitering$Sky" "reaches" "[I") (by decide +kernel)) rfl dX2_addNode_23 ?_
  refine lv_iload hx hb dX2_addNode_26 (lv_at hl 0 rfl) ?_
  refine lv_iload_n hx hb dX2_addNode_28 rfl (lv_at hl 4 rfl) ?_
  refine o_iast hx hb hK hG hS (cd := (8, 0, 0)) (fun _ => lay_reaches) (hn) (by first | decide | omega) dX2_addNode_29 (fun H locs hG hS => ?_)
  refine lv_aload_n hx hb dX2_addNode_30 rfl (lv_at hl 1 rfl) ?_
  refine lv_dup hx hb dX2_addNode_31 rfl ?_
  refine g_get hx hb hts hi2 hown hK hG (lay_sky) rfl 4 (by decide) (hts (.fieldLink RX2 26 "Satellitering$Sky" "count" "I") (by decide +kernel)) rfl dX2_addNode_32 ?_
  refine lv_to (y := nI n) (by rw [g2_ne _ _ _ (by decide), g2_ne _ _ _ (by decide), g2_ne _ _ _ (by decide)]; exact hc) ?_
  refine lv_iconst (v := nI 1) hx hb dX2_addNode_35 (by decide) ?_
  refine lv_iadd hx hb dX2_addNode_36 ?_
  refine lv_to (y := nI (n + 1)) (nI_add n 1) ?_
  refine o_put hx hb hts hi2 tyX2 tyX2_ok nmX2 hown hK hG hS (cd := (1, 0, 0)) (F_sky ad) (fun _ => lay_sky) rfl 4 (by decide) (hts (.fieldLink RX2 26 "Satellitering$Sky" "count" "I") (by decide +kernel)) rfl rfl (by simp [upd]) (by simp) dX2_addNode_37 (fun H locs hG hS => ?_)
  refine lv_iconst (v := nI 0) hx hb dX2_addNode_40 (by decide) ?_
  refine lv_istore (lv' := [(5, .int (nI 0)), (4, .int (nI n)), (0, .ref (ad (1, 0, 0))), (1, .int x), (2, .int y), (3, .int z)]) hx hb dX2_addNode_41 hl (by decide) rfl (fun ls hl => ?_)
  have loop : ∀ (k i : Nat) (g1 : g_k → Nat → Int32) (H : Heap) (locs : List Loc), i ≤ n → n < i + k → g1 (1, 0, 0) 4 = nI (n + 1) → g1 (6, 0, 0) = upd (g (6, 0, 0)) n x → g1 (8, 0, 0) = upd (g (8, 0, 0)) n z → (∀ c : g_k, c ≠ (1, 0, 0) → c ≠ (6, 0, 0) → c ≠ (7, 0, 0) → c ≠ (8, 0, 0) → c.1 ≠ 20 → g1 c = g c) → sk1 g1 (n + 1) → (∀ a b t, a < n → b < n → see g1 a b t = see g a b t) → (z = -1 → ∀ b t, b < n → g (8, 0, 0) b = -1 → see g1 n b t = false) → g_P D (lay C g1 ad ln ex) ad B H → va_S (g_A B) s.heap H locs → ∀ ls, lv_has ls 6 [(5, .int (nI i)), (4, .int (nI n)), (0, .ref (ad (1, 0, 0)))] → W p l e (headSpec wsX2_addNode ({ frames := 3, cells := 0, slots := 0, locals := 68 } : Room)).room s m ([.ref (ad (1, 0, 0)), .int x, .int y, .int z]).toArray below meth c H locs 0 0 (MQ below (va_Qi (fun (r : Int32) (g1 : g_k → Nat → Int32) => r = nI n ∧ g1 (1, 0, 0) 4 = nI (n + 1) ∧ g1 (6, 0, 0) = upd (g (6, 0, 0)) n x ∧ g1 (8, 0, 0) = upd (g (8, 0, 0)) n z ∧ (∀ c : g_k, c ≠ (1, 0, 0) → c ≠ (6, 0, 0) → c ≠ (7, 0, 0) → c ≠ (8, 0, 0) → c.1 ≠ 20 → g1 c = g c) ∧ sk1 g1 (n + 1) ∧ (∀ a b t, a < n → b < n → see g1 a b t = see g a b t) ∧ (z = -1 → ∀ b t, b < n → g (8, 0, 0) b = -1 → see g1 n b t = false)) (fun g1 t => g_P D (lay C g1 ad ln ex) ad B t.heap) (g_A B)) ([.ref (ad (1, 0, 0)), .int x, .int y, .int z]).toArray s 0 0 (g_A B)) (F0 m 43 ls []) := by
    intro k
    induction k with
    | zero => intro i g1 H locs h1 h2; exact absurd h2 (by omega)
    | succ k ih =>
      intro i g1 H locs h1 h2 h3 h4 h48 h5 h6 h7 h8 hG hS ls hl
      refine lv_iload hx hb dX2_addNode_43 (lv_at hl 0 rfl) ?_
      refine lv_iload hx hb dX2_addNode_45 (lv_at hl 1 rfl) ?_
      refine lv_icmp_ge (tgt := 64) hx hb dX2_addNode_47 (by decide) (fun c_1 => ?_) (fun c_1 => ?_)
      · refine lv_iload hx hb dX2_addNode_64 (lv_at hl 1 rfl) ?_
        exact W.iret (v := nI n) hx hb hr (fun t9 ht9 hW9 => ⟨⟨_, _, rfl, ⟨rfl, h3, h4, h48, h5, h6, h7, h8⟩, by show g_P _ _ _ _ t9.heap; rw [ht9]; exact hG⟩, hS.F ht9⟩) hS.2.2 dX2_addNode_66
      · have hi : i < n := Nat.lt_of_not_le (fun h9 => c_1 ((nI_leI (by omega) (by omega)).mpr h9))
        refine lv_aload_n hx hb dX2_addNode_50 rfl (lv_at hl 2 rfl) ?_
        refine lv_iload hx hb dX2_addNode_51 (lv_at hl 1 rfl) ?_
        refine lv_iload hx hb dX2_addNode_53 (lv_at hl 0 rfl) ?_
        refine va_callv (va_runV (As := [.int (nI n), .int (nI i)]) (rest := []) ⟨hx, hb, hml, hown, hts⟩ (c_markContacts l (show n < 10 by omega) (show i < 10 by omega) (show n ≠ i by omega)) (cwV 2 hts gX2_addNode_X2_markContacts rfl rfl rfl (by decide +kernel) ⟨Nat.le_of_ble_eq_true rfl, Nat.le_of_ble_eq_true rfl⟩) (g_preV hF hG hS (lay_sky) rfl) rfl rfl hl.1 rfl (lv_room (Nat.le_of_ble_eq_true rfl)) dX2_addNode_55 ⟨Nat.le_of_ble_eq_true rfl, Nat.le_of_ble_eq_true rfl⟩) hS (fun q _ h => h) (fun q h => h) (fun g_4 t9 H locs ht9 _ h_3 hB1 _ _ hS => ?_)
        have hG : g_P D (lay C g_4 ad ln ex) ad B H := by rw [← ht9]; exact hB1
        refine lv_iinc (v := nI (i + 1)) (lv' := [(5, .int (nI (i + 1))), (4, .int (nI n)), (0, .ref (ad (1, 0, 0)))]) hx hb dX2_addNode_58 hl (k := 0) rfl (nI_add i 1) (by decide) rfl (fun ls hl => ?_)
        refine lv_goto (tgt := 43) hx hb dX2_addNode_61 (by decide) ?_
        have hr9 : ∀ c : g_k, c.1 ≠ 20 → g_4 c = g1 c := fun c hc9 => h_3.1 c (fun z => hc9 (by rw [z])) (fun z => hc9 (by rw [z]))
        refine ih (i + 1) _ _ _ (by omega) (by omega) (by rw [hr9 _ (by decide)]; exact h3) (by rw [hr9 _ (by decide)]; exact h4) (by rw [hr9 _ (by decide)]; exact h48) (fun c c1 c2 c3 c4 c5 => by rw [hr9 c c5]; exact h5 c c1 c2 c3 c4 c5) (sk1_mark h6 (by omega) (by omega) (by omega) (by omega) h_3.1 h_3.2.1) (fun a b t a1 b1 => (mk_see1 (show n < 10 by omega) (show i < 10 by omega) (by omega) h_3.1 h_3.2.1 (by omega) (by omega) (by omega)).trans (h7 a b t a1 b1)) (fun z1 b t b1 b2 => ?_) hG hS ls (lv_sub hl [0, 1, 2] rfl)
        by_cases e9 : b = i
        · rw [← h8 z1 b t b1 b2]
          unfold see
          rw [h_3.2.2 (by rw [h48, upd_self]; exact z1) (by rw [h48, upd_ne _ _ (by omega), ← e9]; exact b2)]
        · exact (mk_see1 (show n < 10 by omega) (show i < 10 by omega) (by omega) h_3.1 h_3.2.1 (by omega) (by omega) (by omega)).trans (h8 z1 b t b1 b2)
  have hh20 : ∀ i, (g2 (g2 (g2 (g2 g (6, 0, 0) n x) (7, 0, 0) n y) (8, 0, 0) n z) (1, 0, 0) 4 (nI (n + 1))) (20, i, 0) = g (20, i, 0) := fun i => by rw [g2_ne _ _ _ (by intro h9; cases h9), g2_ne _ _ _ (by intro h9; cases h9), g2_ne _ _ _ (by intro h9; cases h9), g2_ne _ _ _ (by intro h9; cases h9)]
  refine loop (n + 1) 0 _ _ _ (Nat.zero_le n) (by omega) (by rw [g2_self, upd_self]) ?_ ?_ (fun c c1 c2 c3 c4 c5 => by rw [g2_ne _ _ _ c1, g2_ne _ _ _ c4, g2_ne _ _ _ c3, g2_ne _ _ _ c2]) (sk1_cong (sk1_up hsk (Nat.le_succ n)) hh20) (fun a b t _ _ => by unfold see; rw [hh20]) (fun _ b t b1 _ => ?_) hG hS ls (lv_sub hl [0, 1, 2] rfl)
  · rw [g2_ne _ _ _ (by decide), g2_ne _ _ _ (by decide), g2_ne _ _ _ (by decide), g2_self]
  · rw [g2_ne _ _ _ (by decide), g2_self, g2_ne _ _ _ (by decide), g2_ne _ _ _ (by decide)]
  · by_cases e9 : see g n b t = true
    · exact absurd (hsk n b t (by omega) (by omega) e9).1 (Nat.lt_irrefl n)
    · rw [Bool.not_eq_true] at e9
      rw [← e9]
      unfold see
      rw [hh20]
