section CT
variable {p : Program} {l : Launch} {e : Env} {R : Room} {s : State} {m : MethodId} {args : Array Value} {below : List Frame} {meth : Method} {c : Code} {H : Heap} {locs : List Loc} {cells slots : Nat} {Q : State → Prop}
variable {cc : ByteArray} {pc : Nat} {ls : Array Slot} {rest : List Value} {D : va_G} {C : g_C} {v : g_k → Option va_E} {ad : g_k → Nat} {B : Nat} {H0 : Heap} {tys : List (ClassId × FieldType)}
theorem g_puta (hx : p.tables.exec = Jvm.exec) (hb : c.code = cc) {own Cn : String} {T : u_T} {N ci index : Nat} {Ts : List Cond} (hts : ∀ w ∈ Ts, w.before args s = true) (hin : ∀ w ∈ u_ws Cn T N, w ∈ Ts) (ty0 : Nat → FieldType) (hty : ∀ k, k < N → parseFieldDescriptor (T k).2.2.1 = some (ty0 k)) (hnm : ∀ a, a < N → ∀ b, b < N → a ≠ b → (T a).2.1 ≠ (T b).2.1) (hown : s.vm.findClass own = some m.cls) (hK : va_K D vwCl tys s) (hG : g_P D v ad B H) (hS : va_S (g_A B) H0 H locs) {cd : g_k} {a : Nat} (ha : ad cd = a) {fs : List Value} (he : v cd = some (.inr (ci, fs))) (hc : vwCl[ci]? = some (Cn, T, N)) (k : Nat) (hk : k < N) (hlink : (Cond.fieldLink own index (T k).1 (T k).2.1 (T k).2.2.1).before args s = true) (hfin : (T k).2.2.2 = false ∨ ((T k).2.2.2 = true ∧ meth.name = "<init>" ∧ (T k).1 = own)) {x : Value} (hn : narrow (ty0 k) x = x) (hfit : fits (ty0 k) x = true) (hl : k < fs.length) (hdg : decode cc pc = .ok (.putfield index, 3))
    (kk : ∀ (H1 : Heap) (locs1 : List Loc), g_P D (k_up v cd (some (.inr (ci, fs.set k x)))) ad B H1 → va_S (g_A B) H0 H1 locs1 → W p l e R s m args below meth c H1 locs1 cells slots Q (F0 m (pc + 3) ls rest)) : W p l e R s m args below meth c H locs cells slots Q (F0 m pc ls (x :: .ref a :: rest)) := by
  subst ha
  rcases hfin with h | ⟨h1, h2, h3⟩
  · exact g_put hx hb hts hin ty0 hty hnm hown hK hG hS he hc k hk hlink h hn hfit hl hdg kk
  · exact g_putF hx hb hts hin ty0 hty hnm hown hK hG hS he hc k hk hlink h1 h2 h3 hn hfit hl hdg kk
theorem g_newqa (hx : p.tables.exec = Jvm.exec) (hb : c.code = cc) {own Cn : String} {index : Nat} (hown : s.vm.findClass own = some m.cls) (hclink : (Cond.classLink own index Cn).before args s = true) (hover : va_AO Cn s) {cA : ClassId} (t0 : Nat) (ht : (g_T C)[t0]? = some (cA, .object Cn)) (hK : va_K D vwCl (g_T C) s) (hG : g_P D v ad B H) (hS : va_S (g_A B) H0 H locs) (hB : B ≤ H0.size) (cd : g_k) (hcd : v cd = none) {n : Nat} (hn : n < 2 ^ 20) (hcells : cells + 1 ≤ R.cells) (hslots : slots + n ≤ R.slots) (hdg : decode cc pc = .ok (.anewarray index, 3))
    (kk : ∀ (q : Nat) (H1 : Heap), g_P D (k_up v cd (some (.inl (cA, n, .inr (.inr (.inr (.inr (fun _ => none)))))))) (k_up ad cd q) B H1 → va_S (g_A B) H0 H1 locs → W p l e R s m args below meth c H1 locs (cells + 1) (slots + n) Q (F0 m (pc + 3) ls (.ref q :: rest))) : W p l e R s m args below meth c H locs cells slots Q (F0 m pc ls (.int (nI n) :: rest)) := by
  obtain ⟨L, h1, h2, h3⟩ := g_P_ws hG
  have hn31 : n < 2 ^ 31 := Nat.lt_trans hn (by decide)
  refine va_newq hx hb hown hclink hover hK h1 h2 hS (fun q hq => Nat.le_trans hB hq) (nI_pos hn31) (nI_clamp hn31) (by omega) hcells hslots hdg (fun q cA' H1 k1 p1 d1 s1 => ?_)
  have hcA : cA' = cA := by
    have e1 := (k1.2 4 _ rfl).2
    have e2 := (hK.2 t0 _ ht).2
    obtain ⟨-, -, -, -, -, f1⟩ := e1
    obtain ⟨-, -, -, -, -, f2⟩ := e2
    exact Option.some.inj (f1.symm.trans f2)
  subst hcA
  exact kk q H1 (g_P_push hG hcd h3 p1 d1) s1
end CT

def search_v (C : g_C) (v : g_k → Option va_E) (ad : g_k → Nat) : g_k → Option va_E := fun c => if c = (2, 0, 0) then some (.inr (1, F_search ad)) else if c = (10, 0, 0) then some (.inl (C.1, 10, .inl (fun _ => 0))) else v c
set_option maxHeartbeats 4000000 in
set_option maxRecDepth 100000 in
theorem c_X1_init (l : Launch) {D : va_G} {C : g_C} {v : g_k → Option va_E} {ad : g_k → Nat} {B : Nat} (h0 : v (2, 0, 0) = some (.inr (1, [.null, .null]))) (h1 : v (10, 0, 0) = none) : Met l yX1_init wsX1_init ({ frames := 1, cells := 1, slots := 10, locals := 12 } : Room) (va_Pc [.ref (ad (2, 0, 0)), .ref (ad (1, 0, 0))] (g_S D C v ad B)) (va_Qv (fun (u : (g_k → Option va_E) × (g_k → Nat)) => u.1 = search_v C v u.2 ∧ ∀ c, ¬ (c = (10, 0, 0)) → u.2 c = ad c) (fun u t => g_P D u.1 u.2 B t.heap) (g_A B)) 1 10 (g_A B) := by
  refine Met.ofW (cc := cX1_init) (maxL := 2) (ret := none) (by decide) rfl ?_
  intro p e s m args below meth c s₁ B₀ hml hv
  obtain ⟨rfl, hG, hF⟩ := hv
  have hK := hF.1
  have hB := hF.2.2.2
  have hx := B₀.exec
  have hb := B₀.bytes
  have hr := B₀.returns
  have hts := atoms_spec (ws := wsX1_init) B₀.pre
  have hown : s.vm.findClass RX1 = some m.cls := findClass_of_methodNamed B₀.named
  have hlocks := B₀.notSynchronized
  have hin : meth.name = "<init>" := (name_of_methodNamed B₀.named B₀.method).1
  have hS : va_S (g_A B) s.heap s.heap [] := va_S.rf
  have hi1 : ∀ w ∈ wsX10, w ∈ wsX1_init := by decide +kernel
  have hl := lv_entry [.ref (ad (2, 0, 0)), .ref (ad (1, 0, 0))] (n := 2) (Nat.le_of_ble_eq_true rfl)
  rw [lg_entry_eq]
  generalize (lg_sl [.ref (ad (2, 0, 0)), .ref (ad (1, 0, 0))] ++ List.replicate (2 - (lg_sl [.ref (ad (2, 0, 0)), .ref (ad (1, 0, 0))]).length) Slot.unset).toArray = ls at hl ⊢
  have hl : lv_has ls 2 [(0, .ref (ad (2, 0, 0))), (1, .ref (ad (1, 0, 0)))] := hl
  refine lv_aload_n hx hb dX1_init_0 rfl (lv_at hl 0 rfl) ?_
  refine W.objInit hx hb hown (hts (.methodLink RX1 3 objectInit) (by decide +kernel)) (hts (.instanceMethod objectInit) (by decide +kernel)) (hts (.code objectInit ⟨#[0xb1]⟩ 1 none) (by decide +kernel)) rfl (by rw [hml]; exact hl.1) rfl dX1_init_1 (Nat.le_of_ble_eq_true rfl) (Nat.le_of_ble_eq_true rfl) ?_
  refine W.eq (g2 := F0 m 4 ls []) rfl ?_
  refine lv_aload_n hx hb dX1_init_4 rfl (lv_at hl 0 rfl) ?_
  refine lv_bipush (v := nI 10) hx hb dX1_init_5 (by decide) ?_
  refine g_newa hx hb (hts (.arrayClass .int) (by decide +kernel)) hK hG hS hB (10, 0, 0) (by simp [k_up, h0, h1]) (by decide) (Nat.le_of_ble_eq_true rfl) (Nat.le_of_ble_eq_true rfl) dX1_init_7 (fun q7 H _ hG hS => ?_)
  refine g_puta hx hb hts hi1 tyX1 tyX1_ok nmX1 hown hK hG hS (ci := 1) (cd := (2, 0, 0)) (by simp [k_up, h0, h1]) (fs := [.null, .null]) (by simp [k_up, h0, h1]) rfl 1 (by decide) (hts (.fieldLink RX1 9 "Satellitering$Search" "reached" "[I") (by decide +kernel)) (Or.inr ⟨rfl, hin, rfl⟩) rfl rfl (by simp) dX1_init_9 (fun H locs hG hS => ?_)
  have hG : g_P D (k_up (k_up v (10, 0, 0) (some (.inl (C.1, 10, .inl (fun _ => 0))))) (2, 0, 0) (some (.inr (1, [.null, .ref q7])))) (k_up ad (10, 0, 0) q7) B H := hG
  refine lv_aload_n hx hb dX1_init_12 rfl (lv_at hl 0 rfl) ?_
  refine lv_aload_n hx hb dX1_init_13 rfl (lv_at hl 1 rfl) ?_
  refine g_puta hx hb hts hi1 tyX1 tyX1_ok nmX1 hown hK hG hS (ci := 1) (cd := (2, 0, 0)) (by simp [k_up, h0, h1]) (fs := [.null, .ref q7]) (by simp [k_up, h0, h1]) rfl 0 (by decide) (hts (.fieldLink RX1 15 "Satellitering$Search" "sky" "LSatellitering$Sky;") (by decide +kernel)) (Or.inr ⟨rfl, hin, rfl⟩) rfl rfl (by simp) dX1_init_14 (fun H locs hG hS => ?_)
  have hG : g_P D (k_up (k_up (k_up v (10, 0, 0) (some (.inl (C.1, 10, .inl (fun _ => 0))))) (2, 0, 0) (some (.inr (1, [.null, .ref q7])))) (2, 0, 0) (some (.inr (1, [.ref (ad (1, 0, 0)), .ref q7])))) (k_up ad (10, 0, 0) q7) B H := hG
  have hfin : ((k_up (k_up (k_up v (10, 0, 0) (some (.inl (C.1, 10, .inl (fun _ => 0))))) (2, 0, 0) (some (.inr (1, [.null, .ref q7])))) (2, 0, 0) (some (.inr (1, [.ref (ad (1, 0, 0)), .ref q7])))) = search_v C v (k_up ad (10, 0, 0) q7)) ∧ ∀ c, ¬ (c = (10, 0, 0)) → (k_up ad (10, 0, 0) q7) c = ad c := by
    constructor
    · funext d
      unfold search_v
      by_cases e0 : d = (2, 0, 0)
      · subst e0
        simp [k_up, nI_0]
      by_cases e1 : d = (10, 0, 0)
      · subst e1
        simp [k_up, nI_0]
      simp [k_up, e0, e1]
    · intro d hd
      (try simp only [not_or] at hd)
      simp [k_up, hd]
  exact W.vret hx hb hr (fun t9 ht9 hW9 => ⟨⟨((k_up (k_up (k_up v (10, 0, 0) (some (.inl (C.1, 10, .inl (fun _ => 0))))) (2, 0, 0) (some (.inr (1, [.null, .ref q7])))) (2, 0, 0) (some (.inr (1, [.ref (ad (1, 0, 0)), .ref q7])))), (k_up ad (10, 0, 0) q7)), rfl, hfin, by show g_P D (k_up (k_up (k_up v (10, 0, 0) (some (.inl (C.1, 10, .inl (fun _ => 0))))) (2, 0, 0) (some (.inr (1, [.null, .ref q7])))) (2, 0, 0) (some (.inr (1, [.ref (ad (1, 0, 0)), .ref q7])))) (k_up ad (10, 0, 0) q7) B t9.heap; rw [ht9]; exact hG⟩, hS.F ht9⟩) hS.2.2 dX1_init_17

def station_v (v : g_k → Option va_E) (i : Nat) (ad : g_k → Nat) : g_k → Option va_E := fun c => if c = (30, i, 0) then some (.inr (3, F_station ad i (fun k => if k = 1 then (-1) else 0))) else v c
set_option maxHeartbeats 4000000 in
set_option maxRecDepth 100000 in
theorem c_X3_init (l : Launch) {D : va_G} {C : g_C} {v : g_k → Option va_E} {ad : g_k → Nat} {B : Nat} {i : Nat} (h0 : v (30, i, 0) = some (.inr (3, [.null, .int 0, .int 0]))) : Met l yX3_init wsX3_init ({ frames := 1, cells := 0, slots := 0, locals := 12 } : Room) (va_Pc [.ref (ad (30, i, 0)), .ref (ad (31, i, 0))] (g_S D C v ad B)) (va_Qv (fun (u : (g_k → Option va_E) × (g_k → Nat)) => u.1 = station_v v i u.2 ∧ ∀ c, u.2 c = ad c) (fun u t => g_P D u.1 u.2 B t.heap) (g_A B)) 0 0 (g_A B) := by
  refine Met.ofW (cc := cX3_init) (maxL := 2) (ret := none) (by decide) rfl ?_
  intro p e s m args below meth c s₁ B₀ hml hv
  obtain ⟨rfl, hG, hF⟩ := hv
  have hK := hF.1
  have hB := hF.2.2.2
  have hx := B₀.exec
  have hb := B₀.bytes
  have hr := B₀.returns
  have hts := atoms_spec (ws := wsX3_init) B₀.pre
  have hown : s.vm.findClass RX3 = some m.cls := findClass_of_methodNamed B₀.named
  have hlocks := B₀.notSynchronized
  have hin : meth.name = "<init>" := (name_of_methodNamed B₀.named B₀.method).1
  have hS : va_S (g_A B) s.heap s.heap [] := va_S.rf
  have hi3 : ∀ w ∈ wsX30, w ∈ wsX3_init := by decide +kernel
  have hl := lv_entry [.ref (ad (30, i, 0)), .ref (ad (31, i, 0))] (n := 2) (Nat.le_of_ble_eq_true rfl)
  rw [lg_entry_eq]
  generalize (lg_sl [.ref (ad (30, i, 0)), .ref (ad (31, i, 0))] ++ List.replicate (2 - (lg_sl [.ref (ad (30, i, 0)), .ref (ad (31, i, 0))]).length) Slot.unset).toArray = ls at hl ⊢
  have hl : lv_has ls 2 [(0, .ref (ad (30, i, 0))), (1, .ref (ad (31, i, 0)))] := hl
  refine lv_aload_n hx hb dX3_init_0 rfl (lv_at hl 0 rfl) ?_
  refine W.objInit hx hb hown (hts (.methodLink RX3 3 objectInit) (by decide +kernel)) (hts (.instanceMethod objectInit) (by decide +kernel)) (hts (.code objectInit ⟨#[0xb1]⟩ 1 none) (by decide +kernel)) rfl (by rw [hml]; exact hl.1) rfl dX3_init_1 (Nat.le_of_ble_eq_true rfl) (Nat.le_of_ble_eq_true rfl) ?_
  refine W.eq (g2 := F0 m 4 ls []) rfl ?_
  refine lv_aload_n hx hb dX3_init_4 rfl (lv_at hl 0 rfl) ?_
  refine lv_iconst (v := (-1)) hx hb dX3_init_5 (by decide) ?_
  refine g_puta hx hb hts hi3 tyX3 tyX3_ok nmX3 hown hK hG hS (ci := 3) (cd := (30, i, 0)) (by simp [k_up, h0]) (fs := [.null, .int 0, .int 0]) (by simp [k_up, h0]) rfl 1 (by decide) (hts (.fieldLink RX3 9 "Satellitering$Station" "relay" "I") (by decide +kernel)) (Or.inl rfl) rfl rfl (by simp) dX3_init_6 (fun H locs hG hS => ?_)
  have hG : g_P D (k_up v (30, i, 0) (some (.inr (3, [.null, .int ((-1)), .int 0])))) ad B H := hG
  refine lv_aload_n hx hb dX3_init_9 rfl (lv_at hl 0 rfl) ?_
  refine lv_iconst (v := nI 0) hx hb dX3_init_10 (by decide) ?_
  refine g_puta hx hb hts hi3 tyX3 tyX3_ok nmX3 hown hK hG hS (ci := 3) (cd := (30, i, 0)) (by simp [k_up, h0]) (fs := [.null, .int ((-1)), .int 0]) (by simp [k_up, h0]) rfl 2 (by decide) (hts (.fieldLink RX3 15 "Satellitering$Station" "handoverCount" "I") (by decide +kernel)) (Or.inl rfl) rfl rfl (by simp) dX3_init_11 (fun H locs hG hS => ?_)
  have hG : g_P D (k_up (k_up v (30, i, 0) (some (.inr (3, [.null, .int ((-1)), .int 0])))) (30, i, 0) (some (.inr (3, [.null, .int ((-1)), .int (nI 0)])))) ad B H := hG
  refine lv_aload_n hx hb dX3_init_14 rfl (lv_at hl 0 rfl) ?_
  refine lv_aload_n hx hb dX3_init_15 rfl (lv_at hl 1 rfl) ?_
  refine g_puta hx hb hts hi3 tyX3 tyX3_ok nmX3 hown hK hG hS (ci := 3) (cd := (30, i, 0)) (by simp [k_up, h0]) (fs := [.null, .int ((-1)), .int (nI 0)]) (by simp [k_up, h0]) rfl 0 (by decide) (hts (.fieldLink RX3 18 "Satellitering$Station" "timetable" "LSatellitering$Timetable;") (by decide +kernel)) (Or.inr ⟨rfl, hin, rfl⟩) rfl rfl (by simp) dX3_init_16 (fun H locs hG hS => ?_)
  have hG : g_P D (k_up (k_up (k_up v (30, i, 0) (some (.inr (3, [.null, .int ((-1)), .int 0])))) (30, i, 0) (some (.inr (3, [.null, .int ((-1)), .int (nI 0)])))) (30, i, 0) (some (.inr (3, [.ref (ad (31, i, 0)), .int ((-1)), .int (nI 0)])))) ad B H := hG
  have hfin : ((k_up (k_up (k_up v (30, i, 0) (some (.inr (3, [.null, .int ((-1)), .int 0])))) (30, i, 0) (some (.inr (3, [.null, .int ((-1)), .int (nI 0)])))) (30, i, 0) (some (.inr (3, [.ref (ad (31, i, 0)), .int ((-1)), .int (nI 0)])))) = station_v v i ad) ∧ ∀ c, ad c = ad c := by
    constructor
    · funext d
      unfold station_v
      by_cases e0 : d = (30, i, 0)
      · subst e0
        simp [k_up, nI_0]
      simp [k_up, e0]
    · intro d
      rfl
  exact W.vret hx hb hr (fun t9 ht9 hW9 => ⟨⟨((k_up (k_up (k_up v (30, i, 0) (some (.inr (3, [.null, .int ((-1)), .int 0])))) (30, i, 0) (some (.inr (3, [.null, .int ((-1)), .int (nI 0)])))) (30, i, 0) (some (.inr (3, [.ref (ad (31, i, 0)), .int ((-1)), .int (nI 0)])))), ad), rfl, hfin, by show g_P D (k_up (k_up (k_up v (30, i, 0) (some (.inr (3, [.null, .int ((-1)), .int 0])))) (30, i, 0) (some (.inr (3, [.null, .int ((-1)), .int (nI 0)])))) (30, i, 0) (some (.inr (3, [.ref (ad (31, i, 0)), .int ((-1)), .int (nI 0)])))) ad B t9.heap; rw [ht9]; exact hG⟩, hS.F ht9⟩) hS.2.2 dX3_init_19

def message_v (C : g_C) (v : g_k → Option va_E) (i k : Nat) (x y : Int32) (ad : g_k → Nat) : g_k → Option va_E := fun c => if c = (40, i, 0) then some (.inr (0, [.int y, .ref (ad (31, k, 0)), .int x, .int 0, .int 0, .int 0, .ref (ad (41, i, 0)), .ref (ad (42, i, 0))])) else if c = (41, i, 0) then some (.inl (C.1, 8, .inl (fun _ => 0))) else if c = (42, i, 0) then some (.inl (C.1, 8, .inl (fun _ => 0))) else v c
set_option maxHeartbeats 4000000 in
set_option maxRecDepth 100000 in
theorem c_X0_init (l : Launch) {D : va_G} {C : g_C} {v : g_k → Option va_E} {ad : g_k → Nat} {B : Nat} {i k : Nat} {x y : Int32} (h0 : v (40, i, 0) = some (.inr (0, [.int 0, .null, .int 0, .int 0, .int 0, .int 0, .null, .null]))) (h1 : v (41, i, 0) = none) (h2 : v (42, i, 0) = none) : Met l yX0_init wsX0_init ({ frames := 1, cells := 2, slots := 16, locals := 12 } : Room) (va_Pc [.ref (ad (40, i, 0)), .int x, .int y, .ref (ad (31, k, 0))] (g_S D C v ad B)) (va_Qv (fun (u : (g_k → Option va_E) × (g_k → Nat)) => u.1 = message_v C v i k x y u.2 ∧ ∀ c, ¬ (c = (41, i, 0) ∨ c = (42, i, 0)) → u.2 c = ad c) (fun u t => g_P D u.1 u.2 B t.heap) (g_A B)) 2 16 (g_A B) := by
  refine Met.ofW (cc := cX0_init) (maxL := 4) (ret := none) (by decide) rfl ?_
  intro p e s m args below meth c s₁ B₀ hml hv
  obtain ⟨rfl, hG, hF⟩ := hv
  have hK := hF.1
  have hB := hF.2.2.2
  have hx := B₀.exec
  have hb := B₀.bytes
  have hr := B₀.returns
  have hts := atoms_spec (ws := wsX0_init) B₀.pre
  have hown : s.vm.findClass RX0 = some m.cls := findClass_of_methodNamed B₀.named
  have hlocks := B₀.notSynchronized
  have hin : meth.name = "<init>" := (name_of_methodNamed B₀.named B₀.method).1
  have hS : va_S (g_A B) s.heap s.heap [] := va_S.rf
  have hi0 : ∀ w ∈ wsX00, w ∈ wsX0_init := by decide +kernel
  have hl := lv_entry [.ref (ad (40, i, 0)), .int x, .int y, .ref (ad (31, k, 0))] (n := 4) (Nat.le_of_ble_eq_true rfl)
  rw [lg_entry_eq]
  generalize (lg_sl [.ref (ad (40, i, 0)), .int x, .int y, .ref (ad (31, k, 0))] ++ List.replicate (4 - (lg_sl [.ref (ad (40, i, 0)), .int x, .int y, .ref (ad (31, k, 0))]).length) Slot.unset).toArray = ls at hl ⊢
  have hl : lv_has ls 4 [(0, .ref (ad (40, i, 0))), (1, .int x), (2, .int y), (3, .ref (ad (31, k, 0)))] := hl
  refine lv_aload_n hx hb dX0_init_0 rfl (lv_at hl 0 rfl) ?_
  refine W.objInit hx hb hown (hts (.methodLink RX0 1 objectInit) (by decide +kernel)) (hts (.instanceMethod objectInit) (by decide +kernel)) (hts (.code objectInit ⟨#[0xb1]⟩ 1 none) (by decide +kernel)) rfl (by rw [hml]; exact hl.1) rfl dX0_init_1 (Nat.le_of_ble_eq_true rfl) (Nat.le_of_ble_eq_true rfl) ?_
  refine W.eq (g2 := F0 m 4 ls []) rfl ?_
  refine lv_aload_n hx hb dX0_init_4 rfl (lv_at hl 0 rfl) ?_
  refine lv_iconst (v := nI 0) hx hb dX0_init_5 (by decide) ?_
  refine g_puta hx hb hts hi0 tyX0 tyX0_ok nmX0 hown hK hG hS (ci := 0) (cd := (40, i, 0)) (by simp [k_up, h0, h1, h2]) (fs := [.int 0, .null, .int 0, .int 0, .int 0, .int 0, .null, .null]) (by simp [k_up, h0, h1, h2]) rfl 3 (by decide) (hts (.fieldLink RX0 7 "Satellitering$Message" "since" "I") (by decide +kernel)) (Or.inl rfl) rfl rfl (by simp) dX0_init_6 (fun H locs hG hS => ?_)
  have hG : g_P D (k_up v (40, i, 0) (some (.inr (0, [.int 0, .null, .int 0, .int (nI 0), .int 0, .int 0, .null, .null])))) ad B H := hG
  refine lv_aload_n hx hb dX0_init_9 rfl (lv_at hl 0 rfl) ?_
  refine lv_iconst (v := nI 0) hx hb dX0_init_10 (by decide) ?_
  refine g_puta hx hb hts hi0 tyX0 tyX0_ok nmX0 hown hK hG hS (ci := 0) (cd := (40, i, 0)) (by simp [k_up, h0, h1, h2]) (fs := [.int 0, .null, .int 0, .int (nI 0), .int 0, .int 0, .null, .null]) (by simp [k_up, h0, h1, h2]) rfl 4 (by decide) (hts (.fieldLink RX0 13 "Satellitering$Message" "blocks" "I") (by decide +kernel)) (Or.inl rfl) rfl rfl (by simp) dX0_init_11 (fun H locs hG hS => ?_)
  have hG : g_P D (k_up (k_up v (40, i, 0) (some (.inr (0, [.int 0, .null, .int 0, .int (nI 0), .int 0, .int 0, .null, .null])))) (40, i, 0) (some (.inr (0, [.int 0, .null, .int 0, .int (nI 0), .int (nI 0), .int 0, .null, .null])))) ad B H := hG
  refine lv_aload_n hx hb dX0_init_14 rfl (lv_at hl 0 rfl) ?_
  refine lv_iconst (v := nI 0) hx hb dX0_init_15 (by decide) ?_
  refine g_puta hx hb hts hi0 tyX0 tyX0_ok nmX0 hown hK hG hS (ci := 0) (cd := (40, i, 0)) (by simp [k_up, h0, h1, h2]) (fs := [.int 0, .null, .int 0, .int (nI 0), .int (nI 0), .int 0, .null, .null]) (by simp [k_up, h0, h1, h2]) rfl 5 (by decide) (hts (.fieldLink RX0 16 "Satellitering$Message" "hopCount" "I") (by decide +kernel)) (Or.inl rfl) rfl rfl (by simp) dX0_init_16 (fun H locs hG hS => ?_)
  have hG : g_P D (k_up (k_up (k_up v (40, i, 0) (some (.inr (0, [.int 0, .null, .int 0, .int (nI 0), .int 0, .int 0, .null, .null])))) (40, i, 0) (some (.inr (0, [.int 0, .null, .int 0, .int (nI 0), .int (nI 0), .int 0, .null, .null])))) (40, i, 0) (some (.inr (0, [.int 0, .null, .int 0, .int (nI 0), .int (nI 0), .int (nI 0), .null, .null])))) ad B H := hG
  refine lv_aload_n hx hb dX0_init_19 rfl (lv_at hl 0 rfl) ?_
  refine lv_bipush (v := nI 8) hx hb dX0_init_20 (by decide) ?_
  refine g_newa hx hb (hts (.arrayClass .int) (by decide +kernel)) hK hG hS hB (41, i, 0) (by simp [k_up, h0, h1, h2]) (by decide) (Nat.le_of_ble_eq_true rfl) (Nat.le_of_ble_eq_true rfl) dX0_init_22 (fun q22 H _ hG hS => ?_)
  refine g_puta hx hb hts hi0 tyX0 tyX0_ok nmX0 hown hK hG hS (ci := 0) (cd := (40, i, 0)) (by simp [k_up, h0, h1, h2]) (fs := [.int 0, .null, .int 0, .int (nI 0), .int (nI 0), .int (nI 0), .null, .null]) (by simp [k_up, h0, h1, h2]) rfl 6 (by decide) (hts (.fieldLink RX0 19 "Satellitering$Message" "hopNodes" "[I") (by decide +kernel)) (Or.inl rfl) rfl rfl (by simp) dX0_init_24 (fun H locs hG hS => ?_)
  have hG : g_P D (k_up (k_up (k_up (k_up (k_up v (40, i, 0) (some (.inr (0, [.int 0, .null, .int 0, .int (nI 0), .int 0, .int 0, .null, .null])))) (40, i, 0) (some (.inr (0, [.int 0, .null, .int 0, .int (nI 0), .int (nI 0), .int 0, .null, .null])))) (40, i, 0) (some (.inr (0, [.int 0, .null, .int 0, .int (nI 0), .int (nI 0), .int (nI 0), .null, .null])))) (41, i, 0) (some (.inl (C.1, 8, .inl (fun _ => 0))))) (40, i, 0) (some (.inr (0, [.int 0, .null, .int 0, .int (nI 0), .int (nI 0), .int (nI 0), .ref q22, .null])))) (k_up ad (41, i, 0) q22) B H := hG
  refine lv_aload_n hx hb dX0_init_27 rfl (lv_at hl 0 rfl) ?_
  refine lv_bipush (v := nI 8) hx hb dX0_init_28 (by decide) ?_
  refine g_newa hx hb (hts (.arrayClass .int) (by decide +kernel)) hK hG hS hB (42, i, 0) (by simp [k_up, h0, h1, h2]) (by decide) (Nat.le_of_ble_eq_true rfl) (Nat.le_of_ble_eq_true rfl) dX0_init_30 (fun q30 H _ hG hS => ?_)
  refine g_puta hx hb hts hi0 tyX0 tyX0_ok nmX0 hown hK hG hS (ci := 0) (cd := (40, i, 0)) (by simp [k_up, h0, h1, h2]) (fs := [.int 0, .null, .int 0, .int (nI 0), .int (nI 0), .int (nI 0), .ref q22, .null]) (by simp [k_up, h0, h1, h2]) rfl 7 (by decide) (hts (.fieldLink RX0 23 "Satellitering$Message" "hopMinutes" "[I") (by decide +kernel)) (Or.inl rfl) rfl rfl (by simp) dX0_init_32 (fun H locs hG hS => ?_)
  have hG : g_P D (k_up (k_up (k_up (k_up (k_up (k_up (k_up v (40, i, 0) (some (.inr (0, [.int 0, .null, .int 0, .int (nI 0), .int 0, .int 0, .null, .null])))) (40, i, 0) (some (.inr (0, [.int 0, .null, .int 0, .int (nI 0), .int (nI 0), .int 0, .null, .null])))) (40, i, 0) (some (.inr (0, [.int 0, .null, .int 0, .int (nI 0), .int (nI 0), .int (nI 0), .null, .null])))) (41, i, 0) (some (.inl (C.1, 8, .inl (fun _ => 0))))) (40, i, 0) (some (.inr (0, [.int 0, .null, .int 0, .int (nI 0), .int (nI 0), .int (nI 0), .ref q22, .null])))) (42, i, 0) (some (.inl (C.1, 8, .inl (fun _ => 0))))) (40, i, 0) (some (.inr (0, [.int 0, .null, .int 0, .int (nI 0), .int (nI 0), .int (nI 0), .ref q22, .ref q30])))) (k_up (k_up ad (41, i, 0) q22) (42, i, 0) q30) B H := hG
  refine lv_aload_n hx hb dX0_init_35 rfl (lv_at hl 0 rfl) ?_
  refine lv_iload_n hx hb dX0_init_36 rfl (lv_at hl 1 rfl) ?_
  refine g_puta hx hb hts hi0 tyX0 tyX0_ok nmX0 hown hK hG hS (ci := 0) (cd := (40, i, 0)) (by simp [k_up, h0, h1, h2]) (fs := [.int 0, .null, .int 0, .int (nI 0), .int (nI 0), .int (nI 0), .ref q22, .ref q30]) (by simp [k_up, h0, h1, h2]) rfl 2 (by decide) (hts (.fieldLink RX0 26 "Satellitering$Message" "node" "I") (by decide +kernel)) (Or.inl rfl) rfl rfl (by simp) dX0_init_37 (fun H locs hG hS => ?_)
  have hG : g_P D (k_up (k_up (k_up (k_up (k_up (k_up (k_up (k_up v (40, i, 0) (some (.inr (0, [.int 0, .null, .int 0, .int (nI 0), .int 0, .int 0, .null, .null])))) (40, i, 0) (some (.inr (0, [.int 0, .null, .int 0, .int (nI 0), .int (nI 0), .int 0, .null, .null])))) (40, i, 0) (some (.inr (0, [.int 0, .null, .int 0, .int (nI 0), .int (nI 0), .int (nI 0), .null, .null])))) (41, i, 0) (some (.inl (C.1, 8, .inl (fun _ => 0))))) (40, i, 0) (some (.inr (0, [.int 0, .null, .int 0, .int (nI 0), .int (nI 0), .int (nI 0), .ref q22, .null])))) (42, i, 0) (some (.inl (C.1, 8, .inl (fun _ => 0))))) (40, i, 0) (some (.inr (0, [.int 0, .null, .int 0, .int (nI 0), .int (nI 0), .int (nI 0), .ref q22, .ref q30])))) (40, i, 0) (some (.inr (0, [.int 0, .null, .int x, .int (nI 0), .int (nI 0), .int (nI 0), .ref q22, .ref q30])))) (k_up (k_up ad (41, i, 0) q22) (42, i, 0) q30) B H := hG
  refine lv_aload_n hx hb dX0_init_40 rfl (lv_at hl 0 rfl) ?_
  refine lv_iload_n hx hb dX0_init_41 rfl (lv_at hl 2 rfl) ?_
  refine g_puta hx hb hts hi0 tyX0 tyX0_ok nmX0 hown hK hG hS (ci := 0) (cd := (40, i, 0)) (by simp [k_up, h0, h1, h2]) (fs := [.int 0, .null, .int x, .int (nI 0), .int (nI 0), .int (nI 0), .ref q22, .ref q30]) (by simp [k_up, h0, h1, h2]) rfl 0 (by decide) (hts (.fieldLink RX0 29 "Satellitering$Message" "goal" "I") (by decide +kernel)) (Or.inr ⟨rfl, hin, rfl⟩) rfl rfl (by simp) dX0_init_42 (fun H locs hG hS => ?_)
  have hG : g_P D (k_up (k_up (k_up (k_up (k_up (k_up (k_up (k_up (k_up v (40, i, 0) (some (.inr (0, [.int 0, .null, .int 0, .int (nI 0), .int 0, .int 0, .null, .null])))) (40, i, 0) (some (.inr (0, [.int 0, .null, .int 0, .int (nI 0), .int (nI 0), .int 0, .null, .null])))) (40, i, 0) (some (.inr (0, [.int 0, .null, .int 0, .int (nI 0), .int (nI 0), .int (nI 0), .null, .null])))) (41, i, 0) (some (.inl (C.1, 8, .inl (fun _ => 0))))) (40, i, 0) (some (.inr (0, [.int 0, .null, .int 0, .int (nI 0), .int (nI 0), .int (nI 0), .ref q22, .null])))) (42, i, 0) (some (.inl (C.1, 8, .inl (fun _ => 0))))) (40, i, 0) (some (.inr (0, [.int 0, .null, .int 0, .int (nI 0), .int (nI 0), .int (nI 0), .ref q22, .ref q30])))) (40, i, 0) (some (.inr (0, [.int 0, .null, .int x, .int (nI 0), .int (nI 0), .int (nI 0), .ref q22, .ref q30])))) (40, i, 0) (some (.inr (0, [.int y, .null, .int x, .int (nI 0), .int (nI 0), .int (nI 0), .ref q22, .ref q30])))) (k_up (k_up ad (41, i, 0) q22) (42, i, 0) q30) B H := hG
  refine lv_aload_n hx hb dX0_init_45 rfl (lv_at hl 0 rfl) ?_
  refine lv_aload_n hx hb dX0_init_46 rfl (lv_at hl 3 rfl) ?_
  refine g_puta hx hb hts hi0 tyX0 tyX0_ok nmX0 hown hK hG hS (ci := 0) (cd := (40, i, 0)) (by simp [k_up, h0, h1, h2]) (fs := [.int y, .null, .int x, .int (nI 0), .int (nI 0), .int (nI 0), .ref q22, .ref q30]) (by simp [k_up, h0, h1, h2]) rfl 1 (by decide) (hts (.fieldLink RX0 32 "Satellitering$Message" "timetable" "LSatellitering$Timetable;") (by decide +kernel)) (Or.inr ⟨rfl, hin, rfl⟩) rfl rfl (by simp) dX0_init_47 (fun H locs hG hS => ?_)
  have hG : g_P D (k_up (k_up (k_up (k_up (k_up (k_up (k_up (k_up (k_up (k_up v (40, i, 0) (some (.inr (0, [.int 0, .null, .int 0, .int (nI 0), .int 0, .int 0, .null, .null])))) (40, i, 0) (some (.inr (0, [.int 0, .null, .int 0, .int (nI 0), .int (nI 0), .int 0, .null, .null])))) (40, i, 0) (some (.inr (0, [.int 0, .null, .int 0, .int (nI 0), .int (nI 0), .int (nI 0), .null, .null])))) (41, i, 0) (some (.inl (C.1, 8, .inl (fun _ => 0))))) (40, i, 0) (some (.inr (0, [.int 0, .null, .int 0, .int (nI 0), .int (nI 0), .int (nI 0), .ref q22, .null])))) (42, i, 0) (some (.inl (C.1, 8, .inl (fun _ => 0))))) (40, i, 0) (some (.inr (0, [.int 0, .null, .int 0, .int (nI 0), .int (nI 0), .int (nI 0), .ref q22, .ref q30])))) (40, i, 0) (some (.inr (0, [.int 0, .null, .int x, .int (nI 0), .int (nI 0), .int (nI 0), .ref q22, .ref q30])))) (40, i, 0) (some (.inr (0, [.int y, .null, .int x, .int (nI 0), .int (nI 0), .int (nI 0), .ref q22, .ref q30])))) (40, i, 0) (some (.inr (0, [.int y, .ref (ad (31, k, 0)), .int x, .int (nI 0), .int (nI 0), .int (nI 0), .ref q22, .ref q30])))) (k_up (k_up ad (41, i, 0) q22) (42, i, 0) q30) B H := hG
  have hfin : ((k_up (k_up (k_up (k_up (k_up (k_up (k_up (k_up (k_up (k_up v (40, i, 0) (some (.inr (0, [.int 0, .null, .int 0, .int (nI 0), .int 0, .int 0, .null, .null])))) (40, i, 0) (some (.inr (0, [.int 0, .null, .int 0, .int (nI 0), .int (nI 0), .int 0, .null, .null])))) (40, i, 0) (some (.inr (0, [.int 0, .null, .int 0, .int (nI 0), .int (nI 0), .int (nI 0), .null, .null])))) (41, i, 0) (some (.inl (C.1, 8, .inl (fun _ => 0))))) (40, i, 0) (some (.inr (0, [.int 0, .null, .int 0, .int (nI 0), .int (nI 0), .int (nI 0), .ref q22, .null])))) (42, i, 0) (some (.inl (C.1, 8, .inl (fun _ => 0))))) (40, i, 0) (some (.inr (0, [.int 0, .null, .int 0, .int (nI 0), .int (nI 0), .int (nI 0), .ref q22, .ref q30])))) (40, i, 0) (some (.inr (0, [.int 0, .null, .int x, .int (nI 0), .int (nI 0), .int (nI 0), .ref q22, .ref q30])))) (40, i, 0) (some (.inr (0, [.int y, .null, .int x, .int (nI 0), .int (nI 0), .int (nI 0), .ref q22, .ref q30])))) (40, i, 0) (some (.inr (0, [.int y, .ref (ad (31, k, 0)), .int x, .int (nI 0), .int (nI 0), .int (nI 0), .ref q22, .ref q30])))) = message_v C v i k x y (k_up (k_up ad (41, i, 0) q22) (42, i, 0) q30)) ∧ ∀ c, ¬ (c = (41, i, 0) ∨ c = (42, i, 0)) → (k_up (k_up ad (41, i, 0) q22) (42, i, 0) q30) c = ad c := by
    constructor
    · funext d
      unfold message_v
      by_cases e0 : d = (40, i, 0)
      · subst e0
        simp [k_up, nI_0]
      by_cases e1 : d = (41, i, 0)
      · subst e1
        simp [k_up, nI_0]
      by_cases e2 : d = (42, i, 0)
      · subst e2
        simp [k_up, nI_0]
      simp [k_up, e0, e1, e2]
    · intro d hd
      (try simp only [not_or] at hd)
      simp [k_up, hd]
  exact W.vret hx hb hr (fun t9 ht9 hW9 => ⟨⟨((k_up (k_up (k_up (k_up (k_up (k_up (k_up (k_up (k_up (k_up v (40, i, 0) (some (.inr (0, [.int 0, .null, .int 0, .int (nI 0), .int 0, .int 0, .null, .null])))) (40, i, 0) (some (.inr (0, [.int 0, .null, .int 0, .int (nI 0), .int (nI 0), .int 0, .null, .null])))) (40, i, 0) (some (.inr (0, [.int 0, .null, .int 0, .int (nI 0), .int (nI 0), .int (nI 0), .null, .null])))) (41, i, 0) (some (.inl (C.1, 8, .inl (fun _ => 0))))) (40, i, 0) (some (.inr (0, [.int 0, .null, .int 0, .int (nI 0), .int (nI 0), .int (nI 0), .ref q22, .null])))) (42, i, 0) (some (.inl (C.1, 8, .inl (fun _ => 0))))) (40, i, 0) (some (.inr (0, [.int 0, .null, .int 0, .int (nI 0), .int (nI 0), .int (nI 0), .ref q22, .ref q30])))) (40, i, 0) (some (.inr (0, [.int 0, .null, .int x, .int (nI 0), .int (nI 0), .int (nI 0), .ref q22, .ref q30])))) (40, i, 0) (some (.inr (0, [.int y, .null, .int x, .int (nI 0), .int (nI 0), .int (nI 0), .ref q22, .ref q30])))) (40, i, 0) (some (.inr (0, [.int y, .ref (ad (31, k, 0)), .int x, .int (nI 0), .int (nI 0), .int (nI 0), .ref q22, .ref q30])))), (k_up (k_up ad (41, i, 0) q22) (42, i, 0) q30)), rfl, hfin, by show g_P D (k_up (k_up (k_up (k_up (k_up (k_up (k_up (k_up (k_up (k_up v (40, i, 0) (some (.inr (0, [.int 0, .null, .int 0, .int (nI 0), .int 0, .int 0, .null, .null])))) (40, i, 0) (some (.inr (0, [.int 0, .null, .int 0, .int (nI 0), .int (nI 0), .int 0, .null, .null])))) (40, i, 0) (some (.inr (0, [.int 0, .null, .int 0, .int (nI 0), .int (nI 0), .int (nI 0), .null, .null])))) (41, i, 0) (some (.inl (C.1, 8, .inl (fun _ => 0))))) (40, i, 0) (some (.inr (0, [.int 0, .null, .int 0, .int (nI 0), .int (nI 0), .int (nI 0), .ref q22, .null])))) (42, i, 0) (some (.inl (C.1, 8, .inl (fun _ => 0))))) (40, i, 0) (some (.inr (0, [.int 0, .null, .int 0, .int (nI 0), .int (nI 0), .int (nI 0), .ref q22, .ref q30])))) (40, i, 0) (some (.inr (0, [.int 0, .null, .int x, .int (nI 0), .int (nI 0), .int (nI 0), .ref q22, .ref q30])))) (40, i, 0) (some (.inr (0, [.int y, .null, .int x, .int (nI 0), .int (nI 0), .int (nI 0), .ref q22, .ref q30])))) (40, i, 0) (some (.inr (0, [.int y, .ref (ad (31, k, 0)), .int x, .int (nI 0), .int (nI 0), .int (nI 0), .ref q22, .ref q30])))) (k_up (k_up ad (41, i, 0) q22) (42, i, 0) q30) B t9.heap; rw [ht9]; exact hG⟩, hS.F ht9⟩) hS.2.2 dX0_init_50

def sky_v (C : g_C) (v : g_k → Option va_E) (ad : g_k → Nat) : g_k → Option va_E := fun c => if c = (1, 0, 0) then some (.inr (2, F_sky ad (fun _ => 0))) else if c = (6, 0, 0) then some (.inl (C.1, 10, .inl (fun _ => 0))) else if c = (7, 0, 0) then some (.inl (C.1, 10, .inl (fun _ => 0))) else if c = (8, 0, 0) then some (.inl (C.1, 10, .inl (fun _ => 0))) else if c = (9, 0, 0) then some (.inl (C.2.1, 10, .inr (.inr (.inr (.inr (A_seen ad)))))) else if c.1 = 20 ∧ c.2.1 < 10 ∧ c.2.2 = 0 then some (.inl (C.1, 360, .inl (fun _ => 0))) else v c
set_option maxHeartbeats 4000000 in
set_option maxRecDepth 100000 in
theorem c_X2_init (l : Launch) {D : va_G} {C : g_C} {v : g_k → Option va_E} {ad : g_k → Nat} {B : Nat} (h0 : v (1, 0, 0) = some (.inr (2, [.null, .null, .null, .null, .int 0]))) (h6 : v (6, 0, 0) = none) (h7 : v (7, 0, 0) = none) (h8 : v (8, 0, 0) = none) (h9 : v (9, 0, 0) = none) (hr9 : ∀ i, i < 10 → v (20, i, 0) = none) : Met l yX2_init wsX2_init ({ frames := 1, cells := 14, slots := 3640, locals := 12 } : Room) (va_Pc [.ref (ad (1, 0, 0))] (g_S D C v ad B)) (va_Qv (fun (u : (g_k → Option va_E) × (g_k → Nat)) => u.1 = sky_v C v u.2 ∧ ∀ c, ¬ (c = (6, 0, 0) ∨ c = (7, 0, 0) ∨ c = (8, 0, 0) ∨ c = (9, 0, 0) ∨ (c.1 = 20 ∧ c.2.1 < 10 ∧ c.2.2 = 0)) → u.2 c = ad c) (fun u t => g_P D u.1 u.2 B t.heap) (g_A B)) 14 3640 (g_A B) := by
  refine Met.ofW (cc := cX2_init) (maxL := 1) (ret := none) (by decide) rfl ?_
  intro p e s m args below meth c s₁ B₀ hml hv
  obtain ⟨rfl, hG, hF⟩ := hv
  have hK := hF.1
  have hB := hF.2.2.2
  have hx := B₀.exec
  have hb := B₀.bytes
  have hr := B₀.returns
  have hts := atoms_spec (ws := wsX2_init) B₀.pre
  have hown : s.vm.findClass RX2 = some m.cls := findClass_of_methodNamed B₀.named
  have hlocks := B₀.notSynchronized
  have hin : meth.name = "<init>" := (name_of_methodNamed B₀.named B₀.method).1
  have hS : va_S (g_A B) s.heap s.heap [] := va_S.rf
  have hi2 : ∀ w ∈ wsX20, w ∈ wsX2_init := by decide +kernel
  have hover : (Cond.arrayOver (.array .int)).before [.ref (ad (1, 0, 0))].toArray s = true := hF.2.2.1.2.2.2.2.2.use
  have hl := lv_entry [.ref (ad (1, 0, 0))] (n := 1) (Nat.le_of_ble_eq_true rfl)
  rw [lg_entry_eq]
  generalize (lg_sl [.ref (ad (1, 0, 0))] ++ List.replicate (1 - (lg_sl [.ref (ad (1, 0, 0))]).length) Slot.unset).toArray = ls at hl ⊢
  have hl : lv_has ls 1 [(0, .ref (ad (1, 0, 0)))] := hl
  refine lv_aload_n hx hb dX2_init_0 rfl (lv_at hl 0 rfl) ?_
  refine W.objInit hx hb hown (hts (.methodLink RX2 3 objectInit) (by decide +kernel)) (hts (.instanceMethod objectInit) (by decide +kernel)) (hts (.code objectInit ⟨#[0xb1]⟩ 1 none) (by decide +kernel)) rfl (by rw [hml]; exact hl.1) rfl dX2_init_1 (Nat.le_of_ble_eq_true rfl) (Nat.le_of_ble_eq_true rfl) ?_
  refine W.eq (g2 := F0 m 4 ls []) rfl ?_
  refine lv_aload_n hx hb dX2_init_4 rfl (lv_at hl 0 rfl) ?_
  refine lv_bipush (v := nI 10) hx hb dX2_init_5 (by decide) ?_
  refine g_newa hx hb (hts (.arrayClass .int) (by decide +kernel)) hK hG hS hB (6, 0, 0) (by simp [k_up, h0, h6, h7, h8, h9, hr9]) (by decide) (Nat.le_of_ble_eq_true rfl) (Nat.le_of_ble_eq_true rfl) dX2_init_7 (fun q7 H _ hG hS => ?_)
  refine g_puta hx hb hts hi2 tyX2 tyX2_ok nmX2 hown hK hG hS (ci := 2) (cd := (1, 0, 0)) (by simp [k_up, h0, h6, h7, h8, h9, hr9]) (fs := [.null, .null, .null, .null, .int 0]) (by simp [k_up, h0, h6, h7, h8, h9, hr9]) rfl 0 (by decide) (hts (.fieldLink RX2 9 "Satellitering$Sky" "places" "[I") (by decide +kernel)) (Or.inr ⟨rfl, hin, rfl⟩) rfl rfl (by simp) dX2_init_9 (fun H locs hG hS => ?_)
  have hG : g_P D (k_up (k_up v (6, 0, 0) (some (.inl (C.1, 10, .inl (fun _ => 0))))) (1, 0, 0) (some (.inr (2, [.ref q7, .null, .null, .null, .int 0])))) (k_up ad (6, 0, 0) q7) B H := hG
  refine lv_aload_n hx hb dX2_init_12 rfl (lv_at hl 0 rfl) ?_
  refine lv_bipush (v := nI 10) hx hb dX2_init_13 (by decide) ?_
  refine g_newa hx hb (hts (.arrayClass .int) (by decide +kernel)) hK hG hS hB (7, 0, 0) (by simp [k_up, h0, h6, h7, h8, h9, hr9]) (by decide) (Nat.le_of_ble_eq_true rfl) (Nat.le_of_ble_eq_true rfl) dX2_init_15 (fun q15 H _ hG hS => ?_)
  refine g_puta hx hb hts hi2 tyX2 tyX2_ok nmX2 hown hK hG hS (ci := 2) (cd := (1, 0, 0)) (by simp [k_up, h0, h6, h7, h8, h9, hr9]) (fs := [.ref q7, .null, .null, .null, .int 0]) (by simp [k_up, h0, h6, h7, h8, h9, hr9]) rfl 1 (by decide) (hts (.fieldLink RX2 15 "Satellitering$Sky" "speeds" "[I") (by decide +kernel)) (Or.inr ⟨rfl, hin, rfl⟩) rfl rfl (by simp) dX2_init_17 (fun H locs hG hS => ?_)
  have hG : g_P D (k_up (k_up (k_up (k_up v (6, 0, 0) (some (.inl (C.1, 10, .inl (fun _ => 0))))) (1, 0, 0) (some (.inr (2, [.ref q7, .null, .null, .null, .int 0])))) (7, 0, 0) (some (.inl (C.1, 10, .inl (fun _ => 0))))) (1, 0, 0) (some (.inr (2, [.ref q7, .ref q15, .null, .null, .int 0])))) (k_up (k_up ad (6, 0, 0) q7) (7, 0, 0) q15) B H := hG
  refine lv_aload_n hx hb dX2_init_20 rfl (lv_at hl 0 rfl) ?_
  refine lv_bipush (v := nI 10) hx hb dX2_init_21 (by decide) ?_
  refine g_newa hx hb (hts (.arrayClass .int) (by decide +kernel)) hK hG hS hB (8, 0, 0) (by simp [k_up, h0, h6, h7, h8, h9, hr9]) (by decide) (Nat.le_of_ble_eq_true rfl) (Nat.le_of_ble_eq_true rfl) dX2_init_23 (fun q23 H _ hG hS => ?_)
  refine g_puta hx hb hts hi2 tyX2 tyX2_ok nmX2 hown hK hG hS (ci := 2) (cd := (1, 0, 0)) (by simp [k_up, h0, h6, h7, h8, h9, hr9]) (fs := [.ref q7, .ref q15, .null, .null, .int 0]) (by simp [k_up, h0, h6, h7, h8, h9, hr9]) rfl 2 (by decide) (hts (.fieldLink RX2 18 "Satellitering$Sky" "reaches" "[I") (by decide +kernel)) (Or.inr ⟨rfl, hin, rfl⟩) rfl rfl (by simp) dX2_init_25 (fun H locs hG hS => ?_)
  have hG : g_P D (k_up (k_up (k_up (k_up (k_up (k_up v (6, 0, 0) (some (.inl (C.1, 10, .inl (fun _ => 0))))) (1, 0, 0) (some (.inr (2, [.ref q7, .null, .null, .null, .int 0])))) (7, 0, 0) (some (.inl (C.1, 10, .inl (fun _ => 0))))) (1, 0, 0) (some (.inr (2, [.ref q7, .ref q15, .null, .null, .int 0])))) (8, 0, 0) (some (.inl (C.1, 10, .inl (fun _ => 0))))) (1, 0, 0) (some (.inr (2, [.ref q7, .ref q15, .ref q23, .null, .int 0])))) (k_up (k_up (k_up ad (6, 0, 0) q7) (7, 0, 0) q15) (8, 0, 0) q23) B H := hG
  refine lv_aload_n hx hb dX2_init_28 rfl (lv_at hl 0 rfl) ?_
  refine lv_bipush (v := nI 10) hx hb dX2_init_29 (by decide) ?_
  refine lv_sipush (v := nI 360) hx hb dX2_init_31 (by decide) ?_
  refine g_mna hx hb hown (hts (.classLink RX2 21 "[[I") (by decide +kernel)) hover (hts (.arrayClass .int) (by decide +kernel)) hK hG hS hB (9, 0, 0) (fun jj => (20, jj, 0)) (N := 10) (K := 360) (fun i j h => by simpa using h) (fun i h => by simp at h) (by simp [k_up, h0, h6, h7, h8, h9, hr9]) (fun jj hi => by simp [k_up, h0, h6, h7, h8, h9, hr9, hi]) (by decide) (by decide) (Nat.le_of_ble_eq_true rfl) (Nat.le_of_ble_eq_true rfl) dX2_init_34 (fun q34 H hfor hS => ?_)
  obtain ⟨A9, hA9⟩ : ∃ z, z = (fun c : g_k => if c = (9, 0, 0) then q34 else if c.1 = 20 ∧ c.2.1 < 10 ∧ c.2.2 = 0 then q34 + 1 + c.2.1 else (k_up (k_up (k_up ad (6, 0, 0) q7) (7, 0, 0) q15) (8, 0, 0) q23) c) := ⟨_, rfl⟩
  obtain ⟨V9, hV9⟩ : ∃ z, z = (fun c : g_k => if c = (9, 0, 0) then some (.inl (C.2.1, 10, .inr (.inr (.inr (.inr (fun i => if i < 10 then some (q34 + 1 + i) else none)))))) else if c.1 = 20 ∧ c.2.1 < 10 ∧ c.2.2 = 0 then some (.inl (C.1, 360, .inl (fun _ => 0))) else (k_up (k_up (k_up (k_up (k_up (k_up v (6, 0, 0) (some (.inl (C.1, 10, .inl (fun _ => 0))))) (1, 0, 0) (some (.inr (2, [.ref q7, .null, .null, .null, .int 0])))) (7, 0, 0) (some (.inl (C.1, 10, .inl (fun _ => 0))))) (1, 0, 0) (some (.inr (2, [.ref q7, .ref q15, .null, .null, .int 0])))) (8, 0, 0) (some (.inl (C.1, 10, .inl (fun _ => 0))))) (1, 0, 0) (some (.inr (2, [.ref q7, .ref q15, .ref q23, .null, .int 0])))) c) := ⟨_, rfl⟩
  have hG : g_P D V9 A9 B H := by
    refine hfor V9 A9 ?_ (fun jj hi => by rw [hV9]; simp [hi]) (fun c c1 c2 => ?_) (by rw [hA9]; simp) (fun jj hi => by rw [hA9]; simp [hi]) (fun c c1 c2 => ?_)
    · rw [hV9, hA9]
      simp only [if_true]
      refine congrArg some (congrArg Sum.inl (congrArg (fun z => (C.2.1, 10, Sum.inr (Sum.inr (Sum.inr (Sum.inr z))))) (funext fun jj => ?_)))
      by_cases hi : jj < 10
      · simp [hi]
      · simp [hi]
    · rw [hV9]
      have hr : ¬ (c.1 = 20 ∧ c.2.1 < 10 ∧ c.2.2 = 0) := fun z => c2 c.2.1 z.2.1 (by rw [← z.1, ← z.2.2])
      simp only [if_neg c1, if_neg hr]
    · rw [hA9]
      have hr : ¬ (c.1 = 20 ∧ c.2.1 < 10 ∧ c.2.2 = 0) := fun z => c2 c.2.1 z.2.1 (by rw [← z.1, ← z.2.2])
      simp only [if_neg c1, if_neg hr]
  refine g_puta hx hb hts hi2 tyX2 tyX2_ok nmX2 hown hK hG hS (ci := 2) (cd := (1, 0, 0)) (by simp [k_up, h0, h6, h7, h8, h9, hr9, hV9, hA9]) (fs := [.ref q7, .ref q15, .ref q23, .null, .int 0]) (by simp [k_up, h0, h6, h7, h8, h9, hr9, hV9, hA9]) rfl 3 (by decide) (hts (.fieldLink RX2 23 "Satellitering$Sky" "seen" "[[I") (by decide +kernel)) (Or.inr ⟨rfl, hin, rfl⟩) rfl rfl (by simp) dX2_init_38 (fun H locs hG hS => ?_)
  have hG : g_P D (k_up V9 (1, 0, 0) (some (.inr (2, [.ref q7, .ref q15, .ref q23, .ref q34, .int 0])))) A9 B H := hG
  refine lv_aload_n hx hb dX2_init_41 rfl (lv_at hl 0 rfl) ?_
  refine lv_iconst (v := nI 0) hx hb dX2_init_42 (by decide) ?_
  refine g_puta hx hb hts hi2 tyX2 tyX2_ok nmX2 hown hK hG hS (ci := 2) (cd := (1, 0, 0)) (by simp [k_up, h0, h6, h7, h8, h9, hr9, hV9, hA9]) (fs := [.ref q7, .ref q15, .ref q23, .ref q34, .int 0]) (by simp [k_up, h0, h6, h7, h8, h9, hr9, hV9, hA9]) rfl 4 (by decide) (hts (.fieldLink RX2 26 "Satellitering$Sky" "count" "I") (by decide +kernel)) (Or.inl rfl) rfl rfl (by simp) dX2_init_43 (fun H locs hG hS => ?_)
  have hG : g_P D (k_up (k_up V9 (1, 0, 0) (some (.inr (2, [.ref q7, .ref q15, .ref q23, .ref q34, .int 0])))) (1, 0, 0) (some (.inr (2, [.ref q7, .ref q15, .ref q23, .ref q34, .int (nI 0)])))) A9 B H := hG
  have hfin : ((k_up (k_up V9 (1, 0, 0) (some (.inr (2, [.ref q7, .ref q15, .ref q23, .ref q34, .int 0])))) (1, 0, 0) (some (.inr (2, [.ref q7, .ref q15, .ref q23, .ref q34, .int (nI 0)])))) = sky_v C v A9) ∧ ∀ c, ¬ (c = (6, 0, 0) ∨ c = (7, 0, 0) ∨ c = (8, 0, 0) ∨ c = (9, 0, 0) ∨ (c.1 = 20 ∧ c.2.1 < 10 ∧ c.2.2 = 0)) → A9 c = ad c := by
    constructor
    · funext d
      unfold sky_v
      by_cases e0 : d = (1, 0, 0)
      · subst e0
        simp [k_up, nI_0, hV9, hA9]
      by_cases e1 : d = (6, 0, 0)
      · subst e1
        simp [k_up, nI_0, hV9, hA9]
      by_cases e2 : d = (7, 0, 0)
      · subst e2
        simp [k_up, nI_0, hV9, hA9]
      by_cases e3 : d = (8, 0, 0)
      · subst e3
        simp [k_up, nI_0, hV9, hA9]
      by_cases e4 : d = (9, 0, 0)
      · subst e4
        simp [k_up, nI_0, hV9, hA9]
        funext jj
        by_cases hj : jj < 10
        · simp [A_seen, A_left, k_up, hj]
        · simp [A_seen, A_left, hj]
      simp [k_up, e0, e1, e2, e3, e4, hV9]
    · intro d hd
      (try simp only [not_or] at hd)
      simp [k_up, hd, hA9]
  exact W.vret hx hb hr (fun t9 ht9 hW9 => ⟨⟨((k_up (k_up V9 (1, 0, 0) (some (.inr (2, [.ref q7, .ref q15, .ref q23, .ref q34, .int 0])))) (1, 0, 0) (some (.inr (2, [.ref q7, .ref q15, .ref q23, .ref q34, .int (nI 0)])))), A9), rfl, hfin, by show g_P D (k_up (k_up V9 (1, 0, 0) (some (.inr (2, [.ref q7, .ref q15, .ref q23, .ref q34, .int 0])))) (1, 0, 0) (some (.inr (2, [.ref q7, .ref q15, .ref q23, .ref q34, .int (nI 0)])))) A9 B t9.heap; rw [ht9]; exact hG⟩, hS.F ht9⟩) hS.2.2 dX2_init_46

def time_v (C : g_C) (v : g_k → Option va_E) (i : Nat) (x : Int32) (ad : g_k → Nat) : g_k → Option va_E := fun c => if c = (31, i, 0) then some (.inr (4, [.ref (ad (1, 0, 0)), .int x, .ref (ad (32, i, 0)), .ref (ad (33, i, 0)), .ref (ad (34, i, 0)), .int 0])) else if c = (33, i, 0) then some (.inl (C.1, 10, .inl (fun _ => 0))) else if c = (34, i, 0) then some (.inl (C.1, 10, .inl (fun _ => 0))) else if c = (32, i, 0) then some (.inl (C.2.1, 10, .inr (.inr (.inr (.inr (A_left ad i)))))) else if c.1 = 35 ∧ c.2.1 = i ∧ c.2.2 < 10 then some (.inl (C.1, 360, .inl (fun _ => 0))) else v c
set_option maxHeartbeats 4000000 in
set_option maxRecDepth 100000 in
theorem c_X4_init (l : Launch) {D : va_G} {C : g_C} {v : g_k → Option va_E} {ad : g_k → Nat} {B : Nat} {i : Nat} {x : Int32} (h0 : v (31, i, 0) = some (.inr (4, [.null, .int 0, .null, .null, .null, .int 0]))) (h2 : v (32, i, 0) = none) (h3 : v (33, i, 0) = none) (h4 : v (34, i, 0) = none) (hr9 : ∀ j, j < 10 → v (35, i, j) = none) : Met l yX4_init wsX4_init ({ frames := 1, cells := 13, slots := 3630, locals := 12 } : Room) (va_Pc [.ref (ad (31, i, 0)), .ref (ad (1, 0, 0)), .int x] (g_S D C v ad B)) (va_Qv (fun (u : (g_k → Option va_E) × (g_k → Nat)) => u.1 = time_v C v i x u.2 ∧ ∀ c, ¬ (c = (33, i, 0) ∨ c = (34, i, 0) ∨ c = (32, i, 0) ∨ (c.1 = 35 ∧ c.2.1 = i ∧ c.2.2 < 10)) → u.2 c = ad c) (fun u t => g_P D u.1 u.2 B t.heap) (g_A B)) 13 3630 (g_A B) := by
  refine Met.ofW (cc := cX4_init) (maxL := 3) (ret := none) (by decide) rfl ?_
  intro p e s m args below meth c s₁ B₀ hml hv
  obtain ⟨rfl, hG, hF⟩ := hv
  have hK := hF.1
  have hB := hF.2.2.2
  have hx := B₀.exec
  have hb := B₀.bytes
  have hr := B₀.returns
  have hts := atoms_spec (ws := wsX4_init) B₀.pre
  have hown : s.vm.findClass RX4 = some m.cls := findClass_of_methodNamed B₀.named
  have hlocks := B₀.notSynchronized
  have hin : meth.name = "<init>" := (name_of_methodNamed B₀.named B₀.method).1
  have hS : va_S (g_A B) s.heap s.heap [] := va_S.rf
  have hi4 : ∀ w ∈ wsX40, w ∈ wsX4_init := by decide +kernel
  have hover : (Cond.arrayOver (.array .int)).before [.ref (ad (31, i, 0)), .ref (ad (1, 0, 0)), .int x].toArray s = true := hF.2.2.1.2.2.2.2.2.use
  have hl := lv_entry [.ref (ad (31, i, 0)), .ref (ad (1, 0, 0)), .int x] (n := 3) (Nat.le_of_ble_eq_true rfl)
  rw [lg_entry_eq]
  generalize (lg_sl [.ref (ad (31, i, 0)), .ref (ad (1, 0, 0)), .int x] ++ List.replicate (3 - (lg_sl [.ref (ad (31, i, 0)), .ref (ad (1, 0, 0)), .int x]).length) Slot.unset).toArray = ls at hl ⊢
  have hl : lv_has ls 3 [(0, .ref (ad (31, i, 0))), (1, .ref (ad (1, 0, 0))), (2, .int x)] := hl
  refine lv_aload_n hx hb dX4_init_0 rfl (lv_at hl 0 rfl) ?_
  refine W.objInit hx hb hown (hts (.methodLink RX4 3 objectInit) (by decide +kernel)) (hts (.instanceMethod objectInit) (by decide +kernel)) (hts (.code objectInit ⟨#[0xb1]⟩ 1 none) (by decide +kernel)) rfl (by rw [hml]; exact hl.1) rfl dX4_init_1 (Nat.le_of_ble_eq_true rfl) (Nat.le_of_ble_eq_true rfl) ?_
  refine W.eq (g2 := F0 m 4 ls []) rfl ?_
  refine lv_aload_n hx hb dX4_init_4 rfl (lv_at hl 0 rfl) ?_
  refine lv_bipush (v := nI 10) hx hb dX4_init_5 (by decide) ?_
  refine lv_sipush (v := nI 360) hx hb dX4_init_7 (by decide) ?_
  refine g_mna hx hb hown (hts (.classLink RX4 9 "[[I") (by decide +kernel)) hover (hts (.arrayClass .int) (by decide +kernel)) hK hG hS hB (32, i, 0) (fun jj => (35, i, jj)) (N := 10) (K := 360) (fun i j h => by simpa using h) (fun i h => by simp at h) (by simp [k_up, h0, h2, h3, h4, hr9]) (fun jj hi => by simp [k_up, h0, h2, h3, h4, hr9, hi]) (by decide) (by decide) (Nat.le_of_ble_eq_true rfl) (Nat.le_of_ble_eq_true rfl) dX4_init_10 (fun q10 H hfor hS => ?_)
  obtain ⟨A9, hA9⟩ : ∃ z, z = (fun c : g_k => if c = (32, i, 0) then q10 else if c.1 = 35 ∧ c.2.1 = i ∧ c.2.2 < 10 then q10 + 1 + c.2.2 else ad c) := ⟨_, rfl⟩
  obtain ⟨V9, hV9⟩ : ∃ z, z = (fun c : g_k => if c = (32, i, 0) then some (.inl (C.2.1, 10, .inr (.inr (.inr (.inr (fun i => if i < 10 then some (q10 + 1 + i) else none)))))) else if c.1 = 35 ∧ c.2.1 = i ∧ c.2.2 < 10 then some (.inl (C.1, 360, .inl (fun _ => 0))) else v c) := ⟨_, rfl⟩
  have hG : g_P D V9 A9 B H := by
    refine hfor V9 A9 ?_ (fun jj hi => by rw [hV9]; simp [hi]) (fun c c1 c2 => ?_) (by rw [hA9]; simp) (fun jj hi => by rw [hA9]; simp [hi]) (fun c c1 c2 => ?_)
    · rw [hV9, hA9]
      simp only [if_true]
      refine congrArg some (congrArg Sum.inl (congrArg (fun z => (C.2.1, 10, Sum.inr (Sum.inr (Sum.inr (Sum.inr z))))) (funext fun jj => ?_)))
      by_cases hi : jj < 10
      · simp [hi]
      · simp [hi]
    · rw [hV9]
      have hr : ¬ (c.1 = 35 ∧ c.2.1 = i ∧ c.2.2 < 10) := fun z => c2 c.2.2 z.2.2 (by rw [← z.1, ← z.2.1])
      simp only [if_neg c1, if_neg hr]
    · rw [hA9]
      have hr : ¬ (c.1 = 35 ∧ c.2.1 = i ∧ c.2.2 < 10) := fun z => c2 c.2.2 z.2.2 (by rw [← z.1, ← z.2.1])
      simp only [if_neg c1, if_neg hr]
  refine g_puta hx hb hts hi4 tyX4 tyX4_ok nmX4 hown hK hG hS (ci := 4) (cd := (31, i, 0)) (by simp [k_up, h0, h2, h3, h4, hr9, hV9, hA9]) (fs := [.null, .int 0, .null, .null, .null, .int 0]) (by simp [k_up, h0, h2, h3, h4, hr9, hV9, hA9]) rfl 2 (by decide) (hts (.fieldLink RX4 11 "Satellitering$Timetable" "left" "[[I") (by decide +kernel)) (Or.inr ⟨rfl, hin, rfl⟩) rfl rfl (by simp) dX4_init_14 (fun H locs hG hS => ?_)
  have hG : g_P D (k_up V9 (31, i, 0) (some (.inr (4, [.null, .int 0, .ref q10, .null, .null, .int 0])))) A9 B H := hG
  refine lv_aload_n hx hb dX4_init_17 rfl (lv_at hl 0 rfl) ?_
  refine lv_bipush (v := nI 10) hx hb dX4_init_18 (by decide) ?_
  refine g_newa hx hb (hts (.arrayClass .int) (by decide +kernel)) hK hG hS hB (33, i, 0) (by simp [k_up, h0, h2, h3, h4, hr9, hV9, hA9]) (by decide) (Nat.le_of_ble_eq_true rfl) (Nat.le_of_ble_eq_true rfl) dX4_init_20 (fun q20 H _ hG hS => ?_)
  refine g_puta hx hb hts hi4 tyX4 tyX4_ok nmX4 hown hK hG hS (ci := 4) (cd := (31, i, 0)) (by simp [k_up, h0, h2, h3, h4, hr9, hV9, hA9]) (fs := [.null, .int 0, .ref q10, .null, .null, .int 0]) (by simp [k_up, h0, h2, h3, h4, hr9, hV9, hA9]) rfl 3 (by decide) (hts (.fieldLink RX4 16 "Satellitering$Timetable" "soonest" "[I") (by decide +kernel)) (Or.inl rfl) rfl rfl (by simp) dX4_init_22 (fun H locs hG hS => ?_)
  have hG : g_P D (k_up (k_up (k_up V9 (31, i, 0) (some (.inr (4, [.null, .int 0, .ref q10, .null, .null, .int 0])))) (33, i, 0) (some (.inl (C.1, 10, .inl (fun _ => 0))))) (31, i, 0) (some (.inr (4, [.null, .int 0, .ref q10, .ref q20, .null, .int 0])))) (k_up A9 (33, i, 0) q20) B H := hG
  refine lv_aload_n hx hb dX4_init_25 rfl (lv_at hl 0 rfl) ?_
  refine lv_bipush (v := nI 10) hx hb dX4_init_26 (by decide) ?_
  refine g_newa hx hb (hts (.arrayClass .int) (by decide +kernel)) hK hG hS hB (34, i, 0) (by simp [k_up, h0, h2, h3, h4, hr9, hV9, hA9]) (by decide) (Nat.le_of_ble_eq_true rfl) (Nat.le_of_ble_eq_true rfl) dX4_init_28 (fun q28 H _ hG hS => ?_)
  refine g_puta hx hb hts hi4 tyX4 tyX4_ok nmX4 hown hK hG hS (ci := 4) (cd := (31, i, 0)) (by simp [k_up, h0, h2, h3, h4, hr9, hV9, hA9]) (fs := [.null, .int 0, .ref q10, .ref q20, .null, .int 0]) (by simp [k_up, h0, h2, h3, h4, hr9, hV9, hA9]) rfl 4 (by decide) (hts (.fieldLink RX4 20 "Satellitering$Timetable" "soonestBefore" "[I") (by decide +kernel)) (Or.inl rfl) rfl rfl (by simp) dX4_init_30 (fun H locs hG hS => ?_)
  have hG : g_P D (k_up (k_up (k_up (k_up (k_up V9 (31, i, 0) (some (.inr (4, [.null, .int 0, .ref q10, .null, .null, .int 0])))) (33, i, 0) (some (.inl (C.1, 10, .inl (fun _ => 0))))) (31, i, 0) (some (.inr (4, [.null, .int 0, .ref q10, .ref q20, .null, .int 0])))) (34, i, 0) (some (.inl (C.1, 10, .inl (fun _ => 0))))) (31, i, 0) (some (.inr (4, [.null, .int 0, .ref q10, .ref q20, .ref q28, .int 0])))) (k_up (k_up A9 (33, i, 0) q20) (34, i, 0) q28) B H := hG
  refine lv_aload_n hx hb dX4_init_33 rfl (lv_at hl 0 rfl) ?_
  refine lv_iconst (v := nI 0) hx hb dX4_init_34 (by decide) ?_
  refine g_puta hx hb hts hi4 tyX4 tyX4_ok nmX4 hown hK hG hS (ci := 4) (cd := (31, i, 0)) (by simp [k_up, h0, h2, h3, h4, hr9, hV9, hA9]) (fs := [.null, .int 0, .ref q10, .ref q20, .ref q28, .int 0]) (by simp [k_up, h0, h2, h3, h4, hr9, hV9, hA9]) rfl 5 (by decide) (hts (.fieldLink RX4 23 "Satellitering$Timetable" "nodesKnown" "I") (by decide +kernel)) (Or.inl rfl) rfl rfl (by simp) dX4_init_35 (fun H locs hG hS => ?_)
  have hG : g_P D (k_up (k_up (k_up (k_up (k_up (k_up V9 (31, i, 0) (some (.inr (4, [.null, .int 0, .ref q10, .null, .null, .int 0])))) (33, i, 0) (some (.inl (C.1, 10, .inl (fun _ => 0))))) (31, i, 0) (some (.inr (4, [.null, .int 0, .ref q10, .ref q20, .null, .int 0])))) (34, i, 0) (some (.inl (C.1, 10, .inl (fun _ => 0))))) (31, i, 0) (some (.inr (4, [.null, .int 0, .ref q10, .ref q20, .ref q28, .int 0])))) (31, i, 0) (some (.inr (4, [.null, .int 0, .ref q10, .ref q20, .ref q28, .int (nI 0)])))) (k_up (k_up A9 (33, i, 0) q20) (34, i, 0) q28) B H := hG
  refine lv_aload_n hx hb dX4_init_38 rfl (lv_at hl 0 rfl) ?_
  refine lv_aload_n hx hb dX4_init_39 rfl (lv_at hl 1 rfl) ?_
  refine g_puta hx hb hts hi4 tyX4 tyX4_ok nmX4 hown hK hG hS (ci := 4) (cd := (31, i, 0)) (by simp [k_up, h0, h2, h3, h4, hr9, hV9, hA9]) (fs := [.null, .int 0, .ref q10, .ref q20, .ref q28, .int (nI 0)]) (by simp [k_up, h0, h2, h3, h4, hr9, hV9, hA9]) rfl 0 (by decide) (hts (.fieldLink RX4 27 "Satellitering$Timetable" "sky" "LSatellitering$Sky;") (by decide +kernel)) (Or.inr ⟨rfl, hin, rfl⟩) rfl rfl (by simp) dX4_init_40 (fun H locs hG hS => ?_)
  have hG : g_P D (k_up (k_up (k_up (k_up (k_up (k_up (k_up V9 (31, i, 0) (some (.inr (4, [.null, .int 0, .ref q10, .null, .null, .int 0])))) (33, i, 0) (some (.inl (C.1, 10, .inl (fun _ => 0))))) (31, i, 0) (some (.inr (4, [.null, .int 0, .ref q10, .ref q20, .null, .int 0])))) (34, i, 0) (some (.inl (C.1, 10, .inl (fun _ => 0))))) (31, i, 0) (some (.inr (4, [.null, .int 0, .ref q10, .ref q20, .ref q28, .int 0])))) (31, i, 0) (some (.inr (4, [.null, .int 0, .ref q10, .ref q20, .ref q28, .int (nI 0)])))) (31, i, 0) (some (.inr (4, [.ref (ad (1, 0, 0)), .int 0, .ref q10, .ref q20, .ref q28, .int (nI 0)])))) (k_up (k_up A9 (33, i, 0) q20) (34, i, 0) q28) B H := hG
  refine lv_aload_n hx hb dX4_init_43 rfl (lv_at hl 0 rfl) ?_
  refine lv_iload_n hx hb dX4_init_44 rfl (lv_at hl 2 rfl) ?_
  refine g_puta hx hb hts hi4 tyX4 tyX4_ok nmX4 hown hK hG hS (ci := 4) (cd := (31, i, 0)) (by simp [k_up, h0, h2, h3, h4, hr9, hV9, hA9]) (fs := [.ref (ad (1, 0, 0)), .int 0, .ref q10, .ref q20, .ref q28, .int (nI 0)]) (by simp [k_up, h0, h2, h3, h4, hr9, hV9, hA9]) rfl 1 (by decide) (hts (.fieldLink RX4 31 "Satellitering$Timetable" "goal" "I") (by decide +kernel)) (Or.inr ⟨rfl, hin, rfl⟩) rfl rfl (by simp) dX4_init_45 (fun H locs hG hS => ?_)
  have hG : g_P D (k_up (k_up (k_up (k_up (k_up (k_up (k_up (k_up V9 (31, i, 0) (some (.inr (4, [.null, .int 0, .ref q10, .null, .null, .int 0])))) (33, i, 0) (some (.inl (C.1, 10, .inl (fun _ => 0))))) (31, i, 0) (some (.inr (4, [.null, .int 0, .ref q10, .ref q20, .null, .int 0])))) (34, i, 0) (some (.inl (C.1, 10, .inl (fun _ => 0))))) (31, i, 0) (some (.inr (4, [.null, .int 0, .ref q10, .ref q20, .ref q28, .int 0])))) (31, i, 0) (some (.inr (4, [.null, .int 0, .ref q10, .ref q20, .ref q28, .int (nI 0)])))) (31, i, 0) (some (.inr (4, [.ref (ad (1, 0, 0)), .int 0, .ref q10, .ref q20, .ref q28, .int (nI 0)])))) (31, i, 0) (some (.inr (4, [.ref (ad (1, 0, 0)), .int x, .ref q10, .ref q20, .ref q28, .int (nI 0)])))) (k_up (k_up A9 (33, i, 0) q20) (34, i, 0) q28) B H := hG
  have hfin : ((k_up (k_up (k_up (k_up (k_up (k_up (k_up (k_up V9 (31, i, 0) (some (.inr (4, [.null, .int 0, .ref q10, .null, .null, .int 0])))) (33, i, 0) (some (.inl (C.1, 10, .inl (fun _ => 0))))) (31, i, 0) (some (.inr (4, [.null, .int 0, .ref q10, .ref q20, .null, .int 0])))) (34, i, 0) (some (.inl (C.1, 10, .inl (fun _ => 0))))) (31, i, 0) (some (.inr (4, [.null, .int 0, .ref q10, .ref q20, .ref q28, .int 0])))) (31, i, 0) (some (.inr (4, [.null, .int 0, .ref q10, .ref q20, .ref q28, .int (nI 0)])))) (31, i, 0) (some (.inr (4, [.ref (ad (1, 0, 0)), .int 0, .ref q10, .ref q20, .ref q28, .int (nI 0)])))) (31, i, 0) (some (.inr (4, [.ref (ad (1, 0, 0)), .int x, .ref q10, .ref q20, .ref q28, .int (nI 0)])))) = time_v C v i x (k_up (k_up A9 (33, i, 0) q20) (34, i, 0) q28)) ∧ ∀ c, ¬ (c = (33, i, 0) ∨ c = (34, i, 0) ∨ c = (32, i, 0) ∨ (c.1 = 35 ∧ c.2.1 = i ∧ c.2.2 < 10)) → (k_up (k_up A9 (33, i, 0) q20) (34, i, 0) q28) c = ad c := by
    constructor
    · funext d
      unfold time_v
      by_cases e0 : d = (31, i, 0)
      · subst e0
        simp [k_up, nI_0, hV9, hA9]
      by_cases e1 : d = (33, i, 0)
      · subst e1
        simp [k_up, nI_0, hV9, hA9]
      by_cases e2 : d = (34, i, 0)
      · subst e2
        simp [k_up, nI_0, hV9, hA9]
      by_cases e3 : d = (32, i, 0)
      · subst e3
        simp [k_up, nI_0, hV9, hA9]
        funext jj
        by_cases hj : jj < 10
        · simp [A_seen, A_left, k_up, hj]
        · simp [A_seen, A_left, hj]
      simp [k_up, e0, e1, e2, e3, hV9]
    · intro d hd
      (try simp only [not_or] at hd)
      simp [k_up, hd, hA9]
  exact W.vret hx hb hr (fun t9 ht9 hW9 => ⟨⟨((k_up (k_up (k_up (k_up (k_up (k_up (k_up (k_up V9 (31, i, 0) (some (.inr (4, [.null, .int 0, .ref q10, .null, .null, .int 0])))) (33, i, 0) (some (.inl (C.1, 10, .inl (fun _ => 0))))) (31, i, 0) (some (.inr (4, [.null, .int 0, .ref q10, .ref q20, .null, .int 0])))) (34, i, 0) (some (.inl (C.1, 10, .inl (fun _ => 0))))) (31, i, 0) (some (.inr (4, [.null, .int 0, .ref q10, .ref q20, .ref q28, .int 0])))) (31, i, 0) (some (.inr (4, [.null, .int 0, .ref q10, .ref q20, .ref q28, .int (nI 0)])))) (31, i, 0) (some (.inr (4, [.ref (ad (1, 0, 0)), .int 0, .ref q10, .ref q20, .ref q28, .int (nI 0)])))) (31, i, 0) (some (.inr (4, [.ref (ad (1, 0, 0)), .int x, .ref q10, .ref q20, .ref q28, .int (nI 0)])))), (k_up (k_up A9 (33, i, 0) q20) (34, i, 0) q28)), rfl, hfin, by show g_P D (k_up (k_up (k_up (k_up (k_up (k_up (k_up (k_up V9 (31, i, 0) (some (.inr (4, [.null, .int 0, .ref q10, .null, .null, .int 0])))) (33, i, 0) (some (.inl (C.1, 10, .inl (fun _ => 0))))) (31, i, 0) (some (.inr (4, [.null, .int 0, .ref q10, .ref q20, .null, .int 0])))) (34, i, 0) (some (.inl (C.1, 10, .inl (fun _ => 0))))) (31, i, 0) (some (.inr (4, [.null, .int 0, .ref q10, .ref q20, .ref q28, .int 0])))) (31, i, 0) (some (.inr (4, [.null, .int 0, .ref q10, .ref q20, .ref q28, .int (nI 0)])))) (31, i, 0) (some (.inr (4, [.ref (ad (1, 0, 0)), .int 0, .ref q10, .ref q20, .ref q28, .int (nI 0)])))) (31, i, 0) (some (.inr (4, [.ref (ad (1, 0, 0)), .int x, .ref q10, .ref q20, .ref q28, .int (nI 0)])))) (k_up (k_up A9 (33, i, 0) q20) (34, i, 0) q28) B t9.heap; rw [ht9]; exact hG⟩, hS.F ht9⟩) hS.2.2 dX4_init_48
