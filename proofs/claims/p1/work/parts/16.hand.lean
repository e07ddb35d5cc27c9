section CopyI
variable {p : Program} {l : Launch} {e : Env} {R : Room} {s : State} {m : MethodId} {args : Array Value} {below : List Frame} {meth : Method} {c : Code} {H : Heap} {locs : List Loc} {cells slots : Nat} {Q : State → Prop}
variable {cc : ByteArray} {pc : Nat} {ls : Array Slot} {rest : List Value} {D : va_G} {C : g_C} {v : g_k → Option va_E} {ad : g_k → Nat} {B : Nat} {H0 : Heap}
theorem g_copyi (hx : p.tables.exec = Jvm.exec) (hb : c.code = cc) (hml : c.maxLocals = ls.size) {own : String} {index : Nat} (hown : s.vm.findClass own = some m.cls) (hlink : (Cond.methodLink own index arraycopyName).before args s = true) (hnat : (Cond.native arraycopyName).before args s = true) (hstat : (Cond.static arraycopyName).before args s = true) (hini : (Cond.initialized "java/lang/System").before args s = true)
    (hK : va_K D vwCl (g_T C) s) (hG : g_P D v ad B H) (hS : va_S (g_A B) H0 H locs) {c0 c1 : g_k} {a0 a1 : Nat} (ha0 : ad c0 = a0) (ha1 : ad c1 = a1) {n0 n1 : Nat} {f g : Nat → Int32} (he0 : v c0 = some (.inl (C.1, n0, .inl f))) (he1 : v c1 = some (.inl (C.1, n1, .inl g))) {n : Nat} (h4 : n ≤ n0) (h5 : n ≤ n1) (hn : n < 2 ^ 31)
    (hframes : 1 ≤ R.frames) (hlocals : (rest.map fun v => v.category).sum + (nativeFrameWords "java/lang/System" "arraycopy" 5 + 11) ≤ R.locals) (hdg : decode cc pc = .ok (.invokestatic index, 3))
    (kk : ∀ (H1 : Heap) (locs1 : List Loc), g_P D (k_up v c1 (some (.inl (C.1, n1, .inl (va_cpy f g 0 0 n))))) ad B H1 → va_S (g_A B) H0 H1 locs1 → W p l e R s m args below meth c H1 locs1 cells slots Q (F0 m (pc + 3) ls rest)) : W p l e R s m args below meth c H locs cells slots Q (F0 m pc ls (.int (nI n) :: .int (nI 0) :: .ref a1 :: .int (nI 0) :: .ref a0 :: rest)) := by
  subst ha0
  subst ha1
  obtain ⟨L, h1, h2, h3⟩ := g_P_ws hG
  obtain ⟨q0, hq0⟩ := h3 c0 _ he0
  obtain ⟨q1, hq1⟩ := h3 c1 _ he1
  have z0 : (nI 0).toNatClampNeg = 0 := nI_clamp (by decide)
  have zn : (nI n).toNatClampNeg = n := nI_clamp hn
  refine va_copyi hx hb hml hown hlink hnat hstat hini hK h1 h2 hS q0 q1 0 0 hq0 hq1 rfl rfl rfl (nI_pos (by decide)) (nI_pos (by decide)) (nI_pos hn) (by rw [z0, zn]; omega) (by rw [z0, zn]; omega) (fun i _ => rfl) hframes hlocals hdg (fun H1 locs1 p1 _ s1 => kk H1 locs1 (g_P_set hG he1 h3 hq1 ?_) s1)
  rw [z0, zn] at p1
  exact p1
end CopyI

set_option maxHeartbeats 4000000 in
set_option maxRecDepth 100000 in
theorem c_copyOf (l : Launch) {D : va_G} {C : g_C} {g : g_k → Nat → Int32} {ad ln : g_k → Nat} {ex : g_k → Option va_E} {B : Nat} {cd : g_k} {n N : Nat} (hO : ∀ g, lay C g ad ln ex cd = some (.inl (C.1, n, .inl (g cd)))) (h49 : cd ≠ (49, 0, 0)) (hn0 : n < N) (hN0 : N < 2 ^ 26) : Met l yJ7_copyOf_59c91 wsJ7_copyOf_59c91 ({ frames := 1, cells := 1, slots := N, locals := 40 } : Room) (va_Pc [.ref (ad cd), .int (nI N)] (g_S D C (lay C g ad ln ex) ad B)) (va_Qr (fun (f : Nat → Int32) => ∀ j, j < n → f j = g cd j) (fun f q t => g_P D (k_up (lay C g ad ln ex) (49, 0, 0) (some (.inl (C.1, N, .inl f)))) (k_up ad (49, 0, 0) q) B t.heap) (g_A B)) 1 N (g_A B) := by
  refine Met.ofW (cc := cJ7_copyOf_59c91) (maxL := 3) (ret := (some (.array .int))) (by decide) rfl ?_
  intro p e s m args below meth c s₁ B₀ hml hv
  obtain ⟨rfl, hG, hF⟩ := hv
  have hK := hF.1
  have hB := hF.2.2.2
  have hx := B₀.exec
  have hb := B₀.bytes
  have hr := B₀.returns
  have hts := atoms_spec (ws := wsJ7_copyOf_59c91) B₀.pre
  have hown : s.vm.findClass RJ7 = some m.cls := findClass_of_methodNamed B₀.named
  have hlocks := B₀.notSynchronized
  have hS : va_S (g_A B) s.heap s.heap [] := va_S.rf
  have hl := lv_entry [.ref (ad cd), .int (nI N)] (n := 3) (Nat.le_of_ble_eq_true rfl)
  rw [lg_entry_eq]
  generalize (lg_sl [.ref (ad cd), .int (nI N)] ++ List.replicate (3 - (lg_sl [.ref (ad cd), .int (nI N)]).length) Slot.unset).toArray = ls at hl ⊢
  have hl : lv_has ls 3 [(0, .ref (ad cd)), (1, .int (nI N))] := hl
  refine lv_iload_n hx hb dJ7_copyOf_59c91_0 rfl (lv_at hl 1 rfl) ?_
  refine lv_aload_n hx hb dJ7_copyOf_59c91_1 rfl (lv_at hl 0 rfl) ?_
  refine g_alen hx hb hK hG (hO _) dJ7_copyOf_59c91_2 ?_
  refine lv_icmp_ne (tgt := 14) hx hb dJ7_copyOf_59c91_3 (by decide) (fun _ => ?_) (fun c1 => absurd ((nI_eq (by omega) (by omega)).mp c1) (by omega))
  refine lv_iload_n hx hb dJ7_copyOf_59c91_14 rfl (lv_at hl 1 rfl) ?_
  refine g_newa hx hb (hts (.arrayClass .int) (by decide +kernel)) hK hG hS hB (49, 0, 0) (by simp [lay]) (by omega) (by show 0 + 1 ≤ 1; omega) (by show 0 + N ≤ N; omega) dJ7_copyOf_59c91_15 (fun q H hq0 hG hS => ?_)
  have e0 : k_up ad (49, 0, 0) q cd = ad cd := k_up_ne _ _ h49
  refine lv_astore_n (lv' := [(2, .ref q), (0, .ref (ad cd)), (1, .int (nI N))]) hx hb dJ7_copyOf_59c91_17 rfl hl (by decide) rfl (fun ls hl => ?_)
  refine lv_aload_n hx hb dJ7_copyOf_59c91_18 rfl (lv_at hl 1 rfl) ?_
  refine lv_iconst (v := nI 0) hx hb dJ7_copyOf_59c91_19 (by decide) ?_
  refine lv_aload_n hx hb dJ7_copyOf_59c91_20 rfl (lv_at hl 0 rfl) ?_
  refine lv_iconst (v := nI 0) hx hb dJ7_copyOf_59c91_21 (by decide) ?_
  refine lv_aload_n hx hb dJ7_copyOf_59c91_22 rfl (lv_at hl 1 rfl) ?_
  refine W.eq (g2 := F0 m 23 ls [.ref (k_up ad (49, 0, 0) q cd), .int (nI 0), .ref q, .int (nI 0), .ref (ad cd)]) (by rw [e0]) ?_
  refine g_alen hx hb hK hG (by rw [k_up_ne _ _ h49]; exact hO g) dJ7_copyOf_59c91_23 ?_
  refine lv_iload_n hx hb dJ7_copyOf_59c91_24 rfl (lv_at hl 2 rfl) ?_
  refine va_mmin hx hb (hml.trans hl.1.symm) hown (hts (.methodLink RJ7 304 Lib.Math.min.name) (by decide +kernel)) (hts (.static Lib.Math.min.name) (by decide +kernel)) (hts (.initialized "java/lang/Math") (by decide +kernel)) (hts (.code Lib.Math.min.name Lib.Math.min.code 2 (some .int)) (by decide +kernel)) (Nat.le_of_ble_eq_true rfl) (Nat.le_of_ble_eq_true rfl) (Nat.le_of_ble_eq_true rfl) (by show 0 + N ≤ N; omega) dJ7_copyOf_59c91_25 ?_
  refine lv_to (y := nI n) (if_neg (fun h9 => by have := (nI_ltI (by omega) (by omega)).mp h9; omega)) ?_
  refine g_copyi hx hb (hml.trans hl.1.symm) hown (hts (.methodLink RJ7 150 arraycopyName) (by decide +kernel)) (hts (.native arraycopyName) (by decide +kernel)) (hts (.static arraycopyName) (by decide +kernel)) (hts (.initialized "java/lang/System") (by decide +kernel)) hK hG hS (c0 := cd) (c1 := (49, 0, 0)) e0 (k_up_self _ _ _) (by rw [k_up_ne _ _ h49]; exact hO g) (k_up_self _ _ _) (Nat.le_refl n) (Nat.le_of_lt hn0) (by omega) (Nat.le_of_ble_eq_true rfl) (Nat.le_of_ble_eq_true rfl) dJ7_copyOf_59c91_28 (fun H locs hG hS => ?_)
  refine lv_aload_n hx hb dJ7_copyOf_59c91_31 rfl (lv_at hl 0 rfl) ?_
  refine W.widen (k := 1) (n := N) (by omega) (by omega) ?_
  refine W.aret (v := .ref q) hx hb hr (Or.inr ⟨_, rfl⟩) (Or.inr ⟨_, rfl⟩) (fun t9 ht9 hW9 => ⟨⟨va_cpy (g cd) (fun _ => 0) 0 0 n, q, rfl, fun j hj => ?_, ?_⟩, hS.F ht9⟩) hS.2.2 dJ7_copyOf_59c91_32
  · rw [pk_cpy_in (Nat.zero_le j) (by omega)]
    congr 1
    omega
  · show g_P _ _ _ _ t9.heap
    rw [ht9]
    refine hG.to (funext fun d => ?_) rfl
    by_cases hd : d = (49, 0, 0)
    · rw [hd, k_up_self, k_up_self]
    · rw [k_up_ne _ _ hd, k_up_ne _ _ hd, k_up_ne _ _ hd]

/-- a message is handed on: the (h + 1)st time, to o, at minute t -/
def hand_P (g : g_k → Nat → Int32) (ad ln : g_k → Nat) (mg h o t : Nat) (g1 : g_k → Nat → Int32) (ad1 ln1 : g_k → Nat) : Prop :=
  (∀ c, c ≠ (40, mg, 0) → c ≠ (41, mg, 0) → c ≠ (42, mg, 0) → g1 c = g c) ∧ g1 (40, mg, 0) = upd (upd (upd (g (40, mg, 0)) 5 (nI (h + 1))) 2 (nI o)) 3 (nI (t + 1)) ∧ (∀ i, i < h → g1 (41, mg, 0) i = g (41, mg, 0) i ∧ g1 (42, mg, 0) i = g (42, mg, 0) i) ∧ g1 (41, mg, 0) h = nI o ∧ g1 (42, mg, 0) h = nI t ∧
  (∀ c, c ≠ (41, mg, 0) → c ≠ (42, mg, 0) → ad1 c = ad c ∧ ln1 c = ln c) ∧ ln1 (42, mg, 0) = ln1 (41, mg, 0) ∧ h + 1 ≤ ln1 (41, mg, 0) ∧ (ln1 (41, mg, 0) = ln (41, mg, 0) ∨ (h = ln (41, mg, 0) ∧ ln1 (41, mg, 0) = 2 * h))

set_option maxHeartbeats 4000000 in
set_option maxRecDepth 100000 in
theorem c_handTo (l : Launch) {D : va_G} {C : g_C} {g : g_k → Nat → Int32} {ad ln : g_k → Nat} {ex : g_k → Option va_E} {B : Nat} {mg h o t Wd : Nat} (hm : mg < ln (5, 0, 0)) (hh : g (40, mg, 0) 5 = nI h) (hhL : h ≤ ln (41, mg, 0)) (hL2 : ln (42, mg, 0) = ln (41, mg, 0)) (hL : 8 ≤ ln (41, mg, 0) ∧ ln (41, mg, 0) ≤ 2 ^ 20) (hW : h < ln (41, mg, 0) ∨ 4 * h ≤ Wd) : Met l yX0_handTo wsX0_handTo ({ frames := 2, cells := 2, slots := Wd, locals := 62 } : Room) (va_Pc [.ref (ad (40, mg, 0)), .int (nI o), .int (nI t)] (g_S D C (lay C g ad ln ex) ad B)) (va_Qv (fun (u : (g_k → Nat → Int32) × (g_k → Nat) × (g_k → Nat)) => hand_P g ad ln mg h o t u.1 u.2.1 u.2.2) (fun u t => g_P D (lay C u.1 u.2.1 u.2.2 ex) u.2.1 B t.heap) (g_A B)) 2 Wd (g_A B) := by
  refine Met.ofW (cc := cX0_handTo) (maxL := 3) (ret := none) (by decide) rfl ?_
  intro p e s m args below meth c s₁ B₀ hml hv
  obtain ⟨rfl, hG, hF⟩ := hv
  have hK := hF.1
  have hN := hF.2.1
  have hB := hF.2.2.2
  have hx := B₀.exec
  have hb := B₀.bytes
  have hr := B₀.returns
  have hts := atoms_spec (ws := wsX0_handTo) B₀.pre
  have hown : s.vm.findClass RX0 = some m.cls := findClass_of_methodNamed B₀.named
  have hlocks := B₀.notSynchronized
  have hS : va_S (g_A B) s.heap s.heap [] := va_S.rf
  have hi0 : ∀ w ∈ wsX00, w ∈ wsX0_handTo := by decide +kernel
  have hl := lv_entry [.ref (ad (40, mg, 0)), .int (nI o), .int (nI t)] (n := 3) (Nat.le_of_ble_eq_true rfl)
  rw [lg_entry_eq]
  generalize (lg_sl [.ref (ad (40, mg, 0)), .int (nI o), .int (nI t)] ++ List.replicate (3 - (lg_sl [.ref (ad (40, mg, 0)), .int (nI o), .int (nI t)]).length) Slot.unset).toArray = ls at hl ⊢
  have hl : lv_has ls 3 [(0, .ref (ad (40, mg, 0))), (1, .int (nI o)), (2, .int (nI t))] := hl
  have rest : ∀ (g1 : g_k → Nat → Int32) (ad1 ln1 : g_k → Nat) (H : Heap) (locs : List Loc), (∀ c, c ≠ (41, mg, 0) → c ≠ (42, mg, 0) → g1 c = g c ∧ ad1 c = ad c ∧ ln1 c = ln c) → (∀ i, i < h → g1 (41, mg, 0) i = g (41, mg, 0) i ∧ g1 (42, mg, 0) i = g (42, mg, 0) i) → ln1 (42, mg, 0) = ln1 (41, mg, 0) → h + 1 ≤ ln1 (41, mg, 0) → (ln1 (41, mg, 0) = ln (41, mg, 0) ∨ (h = ln (41, mg, 0) ∧ ln1 (41, mg, 0) = 2 * h)) → g_P D (lay C g1 ad1 ln1 ex) ad1 B H → va_S (g_A B) s.heap H locs → ∀ ls, lv_has ls 3 [(0, .ref (ad1 (40, mg, 0))), (1, .int (nI o)), (2, .int (nI t))] → W p l e (headSpec wsX0_handTo ({ frames := 2, cells := 2, slots := Wd, locals := 62 } : Room)).room s m ([.ref (ad (40, mg, 0)), .int (nI o), .int (nI t)]).toArray below meth c H locs 2 Wd (MQ below (va_Qv (fun (u : (g_k → Nat → Int32) × (g_k → Nat) × (g_k → Nat)) => hand_P g ad ln mg h o t u.1 u.2.1 u.2.2) (fun u t => g_P D (lay C u.1 u.2.1 u.2.2 ex) u.2.1 B t.heap) (g_A B)) ([.ref (ad (40, mg, 0)), .int (nI o), .int (nI t)]).toArray s 2 Wd (g_A B)) (F0 m 46 ls []) := by
    intro g1 ad1 ln1 H locs h1 h2 h3 h4 h5 hG hS ls hl
    have e40 : ((40, mg, 0) : g_k) ≠ (41, mg, 0) ∧ ((40, mg, 0) : g_k) ≠ (42, mg, 0) ∧ ((41, mg, 0) : g_k) ≠ (42, mg, 0) := ⟨(k3 (Or.inl (by decide))), (k3 (Or.inl (by decide))), (k3 (Or.inl (by decide)))⟩
    have hh1 : g1 (40, mg, 0) 5 = nI h := by rw [(h1 _ e40.1 e40.2.1).1]; exact hh
    have hm1 : mg < ln1 (5, 0, 0) := by rw [(h1 (5, 0, 0) (by intro h9; cases h9) (by intro h9; cases h9)).2.2]; exact hm
    have hL1 : ln1 (41, mg, 0) < 2 ^ 22 := by rcases h5 with h5 | ⟨h5, h6⟩ <;> omega
    refine lv_aload_n hx hb dX0_handTo_46 rfl (lv_at hl 0 rfl) ?_
    refine g_get hx hb hts hi0 hown hK hG (lay_msg hm1) rfl 6 (by decide) (hts (.fieldLink RX0 19 "Satellitering$Message" "hopNodes" "[I") (by decide +kernel)) rfl dX0_handTo_47 ?_
    refine lv_aload_n hx hb dX0_handTo_50 rfl (lv_at hl 0 rfl) ?_
    refine g_get hx hb hts hi0 hown hK hG (lay_msg hm1) rfl 5 (by decide) (hts (.fieldLink RX0 16 "Satellitering$Message" "hopCount" "I") (by decide +kernel)) rfl dX0_handTo_51 ?_
    refine lv_to (y := nI h) (hh1) ?_
    refine lv_iload_n hx hb dX0_handTo_54 rfl (lv_at hl 1 rfl) ?_
    refine o_iast hx hb hK hG hS (cd := (41, mg, 0)) (fun _ => lay_hopN hm1) (by omega) (by first | decide | omega) dX0_handTo_55 (fun H locs hG hS => ?_)
    refine lv_aload_n hx hb dX0_handTo_56 rfl (lv_at hl 0 rfl) ?_
    refine g_get hx hb hts hi0 hown hK hG (lay_msg hm1) rfl 7 (by decide) (hts (.fieldLink RX0 23 "Satellitering$Message" "hopMinutes" "[I") (by decide +kernel)) rfl dX0_handTo_57 ?_
    refine lv_aload_n hx hb dX0_handTo_60 rfl (lv_at hl 0 rfl) ?_
    refine g_get hx hb hts hi0 hown hK hG (lay_msg hm1) rfl 5 (by decide) (hts (.fieldLink RX0 16 "Satellitering$Message" "hopCount" "I") (by decide +kernel)) rfl dX0_handTo_61 ?_
    refine lv_to (y := nI h) (by rw [g2_ne _ _ _ e40.1]; exact hh1) ?_
    refine lv_iload_n hx hb dX0_handTo_64 rfl (lv_at hl 2 rfl) ?_
    refine o_iast hx hb hK hG hS (cd := (42, mg, 0)) (fun _ => lay_hopM hm1) (by omega) (by first | decide | omega) dX0_handTo_65 (fun H locs hG hS => ?_)
    refine lv_aload_n hx hb dX0_handTo_66 rfl (lv_at hl 0 rfl) ?_
    refine lv_dup hx hb dX0_handTo_67 rfl ?_
    refine g_get hx hb hts hi0 hown hK hG (lay_msg hm1) rfl 5 (by decide) (hts (.fieldLink RX0 16 "Satellitering$Message" "hopCount" "I") (by decide +kernel)) rfl dX0_handTo_68 ?_
    refine lv_to (y := nI h) (by rw [g2_ne _ _ _ e40.2.1, g2_ne _ _ _ e40.1]; exact hh1) ?_
    refine lv_iconst (v := nI 1) hx hb dX0_handTo_71 (by decide) ?_
    refine lv_iadd hx hb dX0_handTo_72 ?_
    refine lv_to (y := nI (h + 1)) (nI_add h 1) ?_
    refine o_put hx hb hts hi0 tyX0 tyX0_ok nmX0 hown hK hG hS (cd := (40, mg, 0)) (F_msg ad1 ln1 mg) (fun _ => lay_msg hm1) rfl 5 (by decide) (hts (.fieldLink RX0 16 "Satellitering$Message" "hopCount" "I") (by decide +kernel)) rfl rfl (by simp [upd]) (by simp) dX0_handTo_73 (fun H locs hG hS => ?_)
    refine lv_aload_n hx hb dX0_handTo_76 rfl (lv_at hl 0 rfl) ?_
    refine lv_iload_n hx hb dX0_handTo_77 rfl (lv_at hl 1 rfl) ?_
    refine o_put hx hb hts hi0 tyX0 tyX0_ok nmX0 hown hK hG hS (cd := (40, mg, 0)) (F_msg ad1 ln1 mg) (fun _ => lay_msg hm1) rfl 2 (by decide) (hts (.fieldLink RX0 26 "Satellitering$Message" "node" "I") (by decide +kernel)) rfl rfl (by simp [upd]) (by simp) dX0_handTo_78 (fun H locs hG hS => ?_)
    refine lv_aload_n hx hb dX0_handTo_81 rfl (lv_at hl 0 rfl) ?_
    refine lv_iload_n hx hb dX0_handTo_82 rfl (lv_at hl 2 rfl) ?_
    refine lv_iconst (v := nI 1) hx hb dX0_handTo_83 (by decide) ?_
    refine lv_iadd hx hb dX0_handTo_84 ?_
    refine lv_to (y := nI (t + 1)) (nI_add t 1) ?_
    refine o_put hx hb hts hi0 tyX0 tyX0_ok nmX0 hown hK hG hS (cd := (40, mg, 0)) (F_msg ad1 ln1 mg) (fun _ => lay_msg hm1) rfl 3 (by decide) (hts (.fieldLink RX0 7 "Satellitering$Message" "since" "I") (by decide +kernel)) rfl rfl (by simp [upd]) (by simp) dX0_handTo_85 (fun H locs hG hS => ?_)
    have hfin : hand_P g ad ln mg h o t (g2 (g2 (g2 (g2 (g2 g1 (41, mg, 0) h (nI o)) (42, mg, 0) h (nI t)) (40, mg, 0) 5 (nI (h + 1))) (40, mg, 0) 2 (nI o)) (40, mg, 0) 3 (nI (t + 1))) ad1 ln1 := by
      refine ⟨fun c c1 c2 c3 => ?_, ?_, fun i hi => ⟨?_, ?_⟩, ?_, ?_, fun c c1 c2 => ⟨(h1 c c1 c2).2.1, (h1 c c1 c2).2.2⟩, h3, h4, h5⟩
      · rw [g2_ne _ _ _ c1, g2_ne _ _ _ c1, g2_ne _ _ _ c1, g2_ne _ _ _ c3, g2_ne _ _ _ c2]; exact (h1 c c2 c3).1
      · rw [g2_self, g2_self, g2_self, g2_ne _ _ _ e40.2.1, g2_ne _ _ _ e40.1, (h1 _ e40.1 e40.2.1).1]
      · rw [g2_ne _ _ _ (Ne.symm e40.1), g2_ne _ _ _ (Ne.symm e40.1), g2_ne _ _ _ (Ne.symm e40.1), g2_ne _ _ _ e40.2.2, g2_self, upd_ne _ _ (by omega)]; exact (h2 i hi).1
      · rw [g2_ne _ _ _ (Ne.symm e40.2.1), g2_ne _ _ _ (Ne.symm e40.2.1), g2_ne _ _ _ (Ne.symm e40.2.1), g2_self, g2_ne _ _ _ (Ne.symm e40.2.2), upd_ne _ _ (by omega)]; exact (h2 i hi).2
      · rw [g2_ne _ _ _ (Ne.symm e40.1), g2_ne _ _ _ (Ne.symm e40.1), g2_ne _ _ _ (Ne.symm e40.1), g2_ne _ _ _ e40.2.2, g2_self, upd_self]
      · rw [g2_ne _ _ _ (Ne.symm e40.2.1), g2_ne _ _ _ (Ne.symm e40.2.1), g2_ne _ _ _ (Ne.symm e40.2.1), g2_self, upd_self]
    exact W.vret hx hb hr (fun t9 ht9 hW9 => ⟨⟨((g2 (g2 (g2 (g2 (g2 g1 (41, mg, 0) h (nI o)) (42, mg, 0) h (nI t)) (40, mg, 0) 5 (nI (h + 1))) (40, mg, 0) 2 (nI o)) (40, mg, 0) 3 (nI (t + 1))), ad1, ln1), rfl, hfin, by show g_P D (lay C (g2 (g2 (g2 (g2 (g2 g1 (41, mg, 0) h (nI o)) (42, mg, 0) h (nI t)) (40, mg, 0) 5 (nI (h + 1))) (40, mg, 0) 2 (nI o)) (40, mg, 0) 3 (nI (t + 1))) ad1 ln1 ex) ad1 B t9.heap; rw [ht9]; exact hG⟩, hS.F ht9⟩) hS.2.2 dX0_handTo_88
  refine lv_aload_n hx hb dX0_handTo_0 rfl (lv_at hl 0 rfl) ?_
  refine g_get hx hb hts hi0 hown hK hG (lay_msg hm) rfl 5 (by decide) (hts (.fieldLink RX0 16 "Satellitering$Message" "hopCount" "I") (by decide +kernel)) rfl dX0_handTo_1 ?_
  refine lv_to (y := nI h) (hh) ?_
  refine lv_aload_n hx hb dX0_handTo_4 rfl (lv_at hl 0 rfl) ?_
  refine g_get hx hb hts hi0 hown hK hG (lay_msg hm) rfl 6 (by decide) (hts (.fieldLink RX0 19 "Satellitering$Message" "hopNodes" "[I") (by decide +kernel)) rfl dX0_handTo_5 ?_
  refine g_alen hx hb hK hG (lay_hopN hm) dX0_handTo_8 ?_
  refine lv_icmp_lt (tgt := 46) hx hb dX0_handTo_9 (by decide) (fun c_1 => ?_) (fun c_1 => ?_)
  · have hlt : h < ln (41, mg, 0) := (nI_ltI (by omega) (by omega)).mp c_1
    refine W.widen (k := 2) (n := Wd) (by omega) (by omega) ?_
    exact rest g ad ln s.heap [] (fun _ _ _ => ⟨rfl, rfl, rfl⟩) (fun _ _ => ⟨rfl, rfl⟩) hL2 (by omega) (Or.inl rfl) hG hS ls (lv_sub hl [0, 1, 2] rfl)
  · have hge : h = ln (41, mg, 0) := Nat.le_antisymm hhL (Nat.le_of_not_lt (fun h9 => c_1 ((nI_ltI (by omega) (by omega)).mpr h9)))
    have hWd : 4 * h ≤ Wd := by rcases hW with h9 | h9 <;> omega
    refine lv_aload_n hx hb dX0_handTo_12 rfl (lv_at hl 0 rfl) ?_
    refine lv_aload_n hx hb dX0_handTo_13 rfl (lv_at hl 0 rfl) ?_
    refine g_get hx hb hts hi0 hown hK hG (lay_msg hm) rfl 6 (by decide) (hts (.fieldLink RX0 19 "Satellitering$Message" "hopNodes" "[I") (by decide +kernel)) rfl dX0_handTo_14 ?_
    refine lv_iconst (v := nI 2) hx hb dX0_handTo_17 (by decide) ?_
    refine lv_aload_n hx hb dX0_handTo_18 rfl (lv_at hl 0 rfl) ?_
    refine g_get hx hb hts hi0 hown hK hG (lay_msg hm) rfl 5 (by decide) (hts (.fieldLink RX0 16 "Satellitering$Message" "hopCount" "I") (by decide +kernel)) rfl dX0_handTo_19 ?_
    refine lv_to (y := nI h) (hh) ?_
    refine lv_imul hx hb dX0_handTo_22 ?_
    refine lv_to (y := nI (2 * h)) (pk_mul 2 h) ?_
    refine va_callr (va_runS (As := [.ref (ad (41, mg, 0)), .int (nI (2 * h))]) (rest := [.ref (ad (40, mg, 0))]) ⟨hx, hb, hml, hown, hts⟩ (c_copyOf l (g := g) (ad := ad) (ln := ln) (cd := (41, mg, 0)) (n := ln (41, mg, 0)) (N := 2 * h) (fun _ => lay_hopN hm) (k3 (Or.inl (by decide))) (by omega) (by omega)) (va_cwS 2 hts gX0_handTo_J7_copyOf_59c91 rfl rfl rfl (by decide +kernel) ⟨Nat.le_of_ble_eq_true rfl, Nat.le_of_ble_eq_true rfl⟩) (g_preS hF hG hS) rfl rfl hl.1 rfl (lv_room (Nat.le_of_ble_eq_true rfl)) dX0_handTo_23 ⟨(by show _ ≤ 2; omega), (by show _ ≤ Wd; omega)⟩) hS (fun q _ h => h) (fun q h => h) (fun f41 q41 t9 H locs ht9 _ hf41 hB1 _ _ hS => ?_)
    have hG : g_P D (k_up (lay C g ad ln ex) (49, 0, 0) (some (.inl (C.1, 2 * h, .inl f41)))) (k_up ad (49, 0, 0) q41) B H := by rw [← ht9]; exact hB1
    refine W.eq (g2 := F0 m 26 ls [.ref q41, .ref (k_up ad (49, 0, 0) q41 (40, mg, 0))]) (by rw [k_up_ne _ _ (k3 (Or.inl (by decide)))]) ?_
    refine g_put hx hb hts hi0 tyX0 tyX0_ok nmX0 hown hK hG hS (cd := (40, mg, 0)) (by rw [k_up_ne _ _ (k3 (Or.inl (by decide)))]; exact lay_msg hm) rfl 6 (by decide) (hts (.fieldLink RX0 19 "Satellitering$Message" "hopNodes" "[I") (by decide +kernel)) rfl rfl rfl (by simp) dX0_handTo_26 (fun H locs hG hS => ?_)
    have hG := lay_growN hm hG
    obtain ⟨ga41, ega41⟩ : ∃ z, z = k_up g (41, mg, 0) f41 := ⟨_, rfl⟩
    obtain ⟨aa41, eaa41⟩ : ∃ z, z = k_up ad (41, mg, 0) q41 := ⟨_, rfl⟩
    obtain ⟨la41, ela41⟩ : ∃ z, z = k_up ln (41, mg, 0) (2 * h) := ⟨_, rfl⟩
    rw [← ega41, ← eaa41, ← ela41] at hG
    have n41 : ∀ c : g_k, c ≠ (41, mg, 0) → ga41 c = g c ∧ aa41 c = ad c ∧ la41 c = ln c := fun c hc9 => ⟨by rw [ega41, k_up_ne _ _ hc9], by rw [eaa41, k_up_ne _ _ hc9], by rw [ela41, k_up_ne _ _ hc9]⟩
    have ea0 : aa41 (40, mg, 0) = ad (40, mg, 0) := (n41 _ (k3 (Or.inl (by decide)))).2.1
    have hl : lv_has ls 3 [(0, .ref (aa41 (40, mg, 0))), (1, .int (nI o)), (2, .int (nI t))] := by rw [ea0]; exact hl
    have hm41 : mg < la41 (5, 0, 0) := by rw [(n41 (5, 0, 0) (by intro h9; cases h9)).2.2]; exact hm
    have hh41 : ga41 (40, mg, 0) 5 = nI h := by rw [(n41 _ (k3 (Or.inl (by decide)))).1]; exact hh
    have hl42 : la41 (42, mg, 0) = h := by rw [(n41 _ (k3 (Or.inl (by decide)))).2.2, hL2, hge]
    refine lv_aload_n hx hb dX0_handTo_29 rfl (lv_at hl 0 rfl) ?_
    refine lv_aload_n hx hb dX0_handTo_30 rfl (lv_at hl 0 rfl) ?_
    refine g_get hx hb hts hi0 hown hK hG (lay_msg hm41) rfl 7 (by decide) (hts (.fieldLink RX0 23 "Satellitering$Message" "hopMinutes" "[I") (by decide +kernel)) rfl dX0_handTo_31 ?_
    refine lv_iconst (v := nI 2) hx hb dX0_handTo_34 (by decide) ?_
    refine lv_aload_n hx hb dX0_handTo_35 rfl (lv_at hl 0 rfl) ?_
    refine g_get hx hb hts hi0 hown hK hG (lay_msg hm41) rfl 5 (by decide) (hts (.fieldLink RX0 16 "Satellitering$Message" "hopCount" "I") (by decide +kernel)) rfl dX0_handTo_36 ?_
    refine lv_to (y := nI h) (hh41) ?_
    refine lv_imul hx hb dX0_handTo_39 ?_
    refine lv_to (y := nI (2 * h)) (pk_mul 2 h) ?_
    refine va_callr (va_runS (As := [.ref (aa41 (42, mg, 0)), .int (nI (2 * h))]) (rest := [.ref (aa41 (40, mg, 0))]) ⟨hx, hb, hml, hown, hts⟩ (c_copyOf l (g := ga41) (ad := aa41) (ln := la41) (cd := (42, mg, 0)) (n := la41 (42, mg, 0)) (N := 2 * h) (fun _ => lay_hopM hm41) (k3 (Or.inl (by decide))) (by omega) (by omega)) (va_cwS 2 hts gX0_handTo_J7_copyOf_59c91 rfl rfl rfl (by decide +kernel) ⟨Nat.le_of_ble_eq_true rfl, Nat.le_of_ble_eq_true rfl⟩) (g_preS hF hG hS) rfl rfl hl.1 rfl (lv_room (Nat.le_of_ble_eq_true rfl)) dX0_handTo_40 ⟨(by show _ ≤ 2; omega), (by show _ ≤ Wd; omega)⟩) hS (fun q _ h => h) (fun q h => h) (fun f42 q42 t9 H locs ht9 _ hf42 hB1 _ _ hS => ?_)
    have hG : g_P D (k_up (lay C ga41 aa41 la41 ex) (49, 0, 0) (some (.inl (C.1, 2 * h, .inl f42)))) (k_up aa41 (49, 0, 0) q42) B H := by rw [← ht9]; exact hB1
    refine W.eq (g2 := F0 m 43 ls [.ref q42, .ref (k_up aa41 (49, 0, 0) q42 (40, mg, 0))]) (by rw [k_up_ne _ _ (k3 (Or.inl (by decide)))]) ?_
    refine g_put hx hb hts hi0 tyX0 tyX0_ok nmX0 hown hK hG hS (cd := (40, mg, 0)) (by rw [k_up_ne _ _ (k3 (Or.inl (by decide)))]; exact lay_msg hm41) rfl 7 (by decide) (hts (.fieldLink RX0 23 "Satellitering$Message" "hopMinutes" "[I") (by decide +kernel)) rfl rfl rfl (by simp) dX0_handTo_43 (fun H locs hG hS => ?_)
    have hG := lay_growM hm41 hG
    obtain ⟨ga42, ega42⟩ : ∃ z, z = k_up ga41 (42, mg, 0) f42 := ⟨_, rfl⟩
    obtain ⟨aa42, eaa42⟩ : ∃ z, z = k_up aa41 (42, mg, 0) q42 := ⟨_, rfl⟩
    obtain ⟨la42, ela42⟩ : ∃ z, z = k_up la41 (42, mg, 0) (2 * h) := ⟨_, rfl⟩
    rw [← ega42, ← eaa42, ← ela42] at hG
    have n42 : ∀ c : g_k, c ≠ (42, mg, 0) → ga42 c = ga41 c ∧ aa42 c = aa41 c ∧ la42 c = la41 c := fun c hc9 => ⟨by rw [ega42, k_up_ne _ _ hc9], by rw [eaa42, k_up_ne _ _ hc9], by rw [ela42, k_up_ne _ _ hc9]⟩
    have ea0 : aa42 (40, mg, 0) = aa41 (40, mg, 0) := (n42 _ (k3 (Or.inl (by decide)))).2.1
    have hl : lv_has ls 3 [(0, .ref (aa42 (40, mg, 0))), (1, .int (nI o)), (2, .int (nI t))] := by rw [ea0]; exact hl
    have hm42 : mg < la42 (5, 0, 0) := by rw [(n42 (5, 0, 0) (by intro h9; cases h9)).2.2]; exact hm41
    have hh42 : ga42 (40, mg, 0) 5 = nI h := by rw [(n42 _ (k3 (Or.inl (by decide)))).1]; exact hh41
    refine W.widen (k := 2) (n := Wd) (by omega) (by omega) ?_
    refine rest ga42 aa42 la42 H locs (fun c c1 c2 => ?_) (fun i hi => ⟨?_, ?_⟩) ?_ ?_ (Or.inr ⟨hge, ?_⟩) hG hS ls (lv_sub hl [0, 1, 2] rfl)
    · exact ⟨((n42 c c2).1).trans (n41 c c1).1, ((n42 c c2).2.1).trans (n41 c c1).2.1, ((n42 c c2).2.2).trans (n41 c c1).2.2⟩
    · rw [(n42 _ (k3 (Or.inl (by decide)))).1, ega41, k_up_self]; exact hf41 i (by omega)
    · rw [ega42, k_up_self, hf42 i (by omega), (n41 _ (k3 (Or.inl (by decide)))).1]
    · rw [(n42 (41, mg, 0) (k3 (Or.inl (by decide)))).2.2, ela41, ela42, k_up_self, k_up_self]
    · rw [(n42 (41, mg, 0) (k3 (Or.inl (by decide)))).2.2, ela41, k_up_self]; omega
    · rw [(n42 (41, mg, 0) (k3 (Or.inl (by decide)))).2.2, ela41, k_up_self]

set_option maxHeartbeats 4000000 in
set_option maxRecDepth 100000 in
theorem c_isAtGoal (l : Launch) {D : va_G} {C : g_C} {g : g_k → Nat → Int32} {ad ln : g_k → Nat} {ex : g_k → Option va_E} {B : Nat} {mg : Nat} (hm : mg < ln (5, 0, 0)) : Met l yX0_isAtGoal wsX0_isAtGoal ({ frames := 0, cells := 0, slots := 0, locals := 0 } : Room) (va_Pc [.ref (ad (40, mg, 0))] (g_S D C (lay C g ad ln ex) ad B)) (vp_Si (fun r => r = if g (40, mg, 0) 2 = g (40, mg, 0) 0 then nI 1 else nI 0)) 0 0 (fun _ => False) := by
  refine Met.ofW (cc := cX0_isAtGoal) (maxL := 1) (ret := (some .boolean)) (by decide) rfl ?_
  intro p e s m args below meth c s₁ B₀ hml hv
  obtain ⟨rfl, hG, hF⟩ := hv
  have hK := hF.1
  have hN := hF.2.1
  have hB := hF.2.2.2
  have hx := B₀.exec
  have hb := B₀.bytes
  have hr := B₀.returns
  have hts := atoms_spec (ws := wsX0_isAtGoal) B₀.pre
  have hown : s.vm.findClass RX0 = some m.cls := findClass_of_methodNamed B₀.named
  have hlocks := B₀.notSynchronized
  have hS : va_S (g_A B) s.heap s.heap [] := va_S.rf
  have hi0 : ∀ w ∈ wsX00, w ∈ wsX0_isAtGoal := by decide +kernel
  have hl := lv_entry [.ref (ad (40, mg, 0))] (n := 1) (Nat.le_of_ble_eq_true rfl)
  rw [lg_entry_eq]
  generalize (lg_sl [.ref (ad (40, mg, 0))] ++ List.replicate (1 - (lg_sl [.ref (ad (40, mg, 0))]).length) Slot.unset).toArray = ls at hl ⊢
  have hl : lv_has ls 1 [(0, .ref (ad (40, mg, 0)))] := hl
  refine lv_aload_n hx hb dX0_isAtGoal_0 rfl (lv_at hl 0 rfl) ?_
  refine g_get hx hb hts hi0 hown hK hG (lay_msg hm) rfl 2 (by decide) (hts (.fieldLink RX0 26 "Satellitering$Message" "node" "I") (by decide +kernel)) rfl dX0_isAtGoal_1 ?_
  refine lv_aload_n hx hb dX0_isAtGoal_4 rfl (lv_at hl 0 rfl) ?_
  refine g_get hx hb hts hi0 hown hK hG (lay_msg hm) rfl 0 (by decide) (hts (.fieldLink RX0 29 "Satellitering$Message" "goal" "I") (by decide +kernel)) rfl dX0_isAtGoal_5 ?_
  refine lv_icmp_ne (tgt := 15) hx hb dX0_isAtGoal_8 (by decide) (fun c_1 => ?_) (fun c_1 => ?_)
  · refine lv_iconst (v := nI 0) hx hb dX0_isAtGoal_15 (by decide) ?_
    exact W.zret (v := nI 0) hx hb hr rfl (fun t9 ht9 hW9 => ⟨_, rfl, (if_neg c_1).symm, ht9⟩) (fun q h => nomatch h) dX0_isAtGoal_16
  · refine lv_iconst (v := nI 1) hx hb dX0_isAtGoal_11 (by decide) ?_
    refine lv_goto (tgt := 16) hx hb dX0_isAtGoal_12 (by decide) ?_
    exact W.zret (v := nI 1) hx hb hr rfl (fun t9 ht9 hW9 => ⟨_, rfl, (if_pos c_1).symm, ht9⟩) (fun q h => nomatch h) dX0_isAtGoal_16
