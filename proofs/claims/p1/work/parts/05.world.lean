/-! The world by codes: a cell has a code (kind, i, j); v says what the cell of a code holds, ad where it lies. -/
abbrev g_k : Type := Nat × Nat × Nat
def k_up {α : Type} (f : g_k → α) (c : g_k) (x : α) : g_k → α := fun d => if d = c then x else f d
theorem k_up_self {α : Type} (f : g_k → α) (c : g_k) (x : α) : k_up f c x c = x := by simp [k_up]
theorem k_up_ne {α : Type} (f : g_k → α) {c d : g_k} (x : α) (h : d ≠ c) : k_up f c x d = f d := by simp [k_up, h]
def g_A (B : Nat) : Nat → Prop := fun q => B ≤ q
def g_P (D : va_G) (v : g_k → Option va_E) (ad : g_k → Nat) (B : Nat) (H : Heap) : Prop :=
  (∀ (c : g_k) (e : va_E), v c = some e → va_at D vwCl (ad c, e) H ∧ B ≤ ad c) ∧ (∀ (c c' : g_k) (e e' : va_E), v c = some e → v c' = some e' → ad c = ad c' → c = c') ∧ ∃ L : List g_k, ∀ (c : g_k) (e : va_E), v c = some e → c ∈ L
def g_L (v : g_k → Option va_E) (ad : g_k → Nat) : List g_k → va_W
  | [] => []
  | c :: l => if c ∈ l then g_L v ad l else match v c with
    | some e => (ad c, e) :: g_L v ad l
    | none => g_L v ad l
theorem g_L_mem {v : g_k → Option va_E} {ad : g_k → Nat} {q : Nat × va_E} : ∀ l : List g_k, q ∈ g_L v ad l → ∃ c, c ∈ l ∧ v c = some q.2 ∧ q.1 = ad c
  | [], h => by simp [g_L] at h
  | c :: l, h => by
    rw [g_L] at h
    by_cases hc : c ∈ l
    · rw [if_pos hc] at h
      obtain ⟨d, h1, h2⟩ := g_L_mem l h
      exact ⟨d, List.mem_cons_of_mem _ h1, h2⟩
    · rw [if_neg hc] at h
      cases hv : v c with
      | none =>
        rw [hv] at h
        obtain ⟨d, h1, h2⟩ := g_L_mem l h
        exact ⟨d, List.mem_cons_of_mem _ h1, h2⟩
      | some e =>
        rw [hv] at h
        rcases List.mem_cons.mp h with h | h
        · subst h
          exact ⟨c, List.mem_cons_self, hv, rfl⟩
        · obtain ⟨d, h1, h2⟩ := g_L_mem l h
          exact ⟨d, List.mem_cons_of_mem _ h1, h2⟩
theorem g_L_at {v : g_k → Option va_E} {ad : g_k → Nat} {d : g_k} {e : va_E} (hd : v d = some e) : ∀ l : List g_k, d ∈ l → (ad d, e) ∈ g_L v ad l
  | [], h => by simp at h
  | c :: l, h => by
    rw [g_L]
    by_cases hc : c ∈ l
    · rw [if_pos hc]
      rcases List.mem_cons.mp h with h | h
      · subst h
        exact g_L_at hd l hc
      · exact g_L_at hd l h
    · rw [if_neg hc]
      rcases List.mem_cons.mp h with h | h
      · subst h
        rw [hd]
        exact List.mem_cons_self
      · cases hv : v c with
        | none => exact g_L_at hd l h
        | some e' => exact List.mem_cons_of_mem _ (g_L_at hd l h)
theorem g_L_inj {v : g_k → Option va_E} {ad : g_k → Nat} (hi : ∀ (c c' : g_k) (e e' : va_E), v c = some e → v c' = some e' → ad c = ad c' → c = c') : ∀ (l : List g_k) (i j : Nat) (p q : Nat × va_E), (g_L v ad l)[i]? = some p → (g_L v ad l)[j]? = some q → p.1 = q.1 → i = j
  | [], i, j, p, q, h, _, _ => by simp [g_L] at h
  | c :: l, i, j, p, q, h1, h2, h3 => by
    rw [g_L] at h1 h2
    by_cases hc : c ∈ l
    · rw [if_pos hc] at h1 h2
      exact g_L_inj hi l i j p q h1 h2 h3
    · rw [if_neg hc] at h1 h2
      cases hv : v c with
      | none =>
        rw [hv] at h1 h2
        exact g_L_inj hi l i j p q h1 h2 h3
      | some e =>
        rw [hv] at h1 h2
        have key : ∀ x : Nat × va_E, x ∈ g_L v ad l → x.1 = ad c → False := fun x hx hxa => by
          obtain ⟨d, d1, d2, d3⟩ := g_L_mem l hx
          have := hi c d e x.2 hv d2 (by rw [← hxa, d3])
          exact hc (by rw [this]; exact d1)
        cases i with
        | zero =>
          cases j with
          | zero => rfl
          | succ j =>
            rw [List.getElem?_cons_zero] at h1
            rw [List.getElem?_cons_succ] at h2
            cases h1
            exact (key q (List.mem_of_getElem? h2) h3.symm).elim
        | succ i =>
          rw [List.getElem?_cons_succ] at h1
          cases j with
          | zero =>
            rw [List.getElem?_cons_zero] at h2
            cases h2
            exact (key p (List.mem_of_getElem? h1) h3).elim
          | succ j =>
            rw [List.getElem?_cons_succ] at h2
            rw [g_L_inj hi l i j p q h1 h2 h3]
theorem g_P_ws {D : va_G} {v : g_k → Option va_E} {ad : g_k → Nat} {B : Nat} {H : Heap} (h : g_P D v ad B H) : ∃ l : List g_k, va_P D vwCl (g_L v ad l) H ∧ va_D (g_A B) (g_L v ad l) ∧ ∀ (c : g_k) (e : va_E), v c = some e → ∃ k : Nat, (g_L v ad l)[k]? = some (ad c, e) := by
  obtain ⟨h1, h2, l, h3⟩ := h
  refine ⟨l, fun k q hq => ?_, ⟨g_L_inj h2 l, fun k q hq => ?_⟩, fun c e hc => List.getElem?_of_mem (g_L_at hc l (h3 c e hc))⟩
  · obtain ⟨c, -, c2, c3⟩ := g_L_mem l (List.mem_of_getElem? hq)
    have := (h1 c q.2 c2).1
    rw [← c3] at this
    exact this
  · obtain ⟨c, -, c2, c3⟩ := g_L_mem l (List.mem_of_getElem? hq)
    show B ≤ q.1
    rw [c3]
    exact (h1 c q.2 c2).2
theorem g_P_set {D : va_G} {v : g_k → Option va_E} {ad : g_k → Nat} {B : Nat} {H H1 : Heap} {c : g_k} {e0 e1 : va_E} {l : List g_k} {k : Nat} (h : g_P D v ad B H) (hc : v c = some e0) (hl : ∀ (c : g_k) (e : va_E), v c = some e → ∃ k : Nat, (g_L v ad l)[k]? = some (ad c, e)) (hk : (g_L v ad l)[k]? = some (ad c, e0)) (h1 : va_P D vwCl ((g_L v ad l).set k (ad c, e1)) H1) : g_P D (k_up v c (some e1)) ad B H1 := by
  obtain ⟨a1, a2, L, a3⟩ := h
  have old : ∀ (d : g_k) (e : va_E), k_up v c (some e1) d = some e → (d = c ∧ e = e1) ∨ (d ≠ c ∧ v d = some e) := fun d e hd => by
    by_cases hdc : d = c
    · subst hdc
      rw [k_up_self] at hd
      exact Or.inl ⟨rfl, (Option.some.inj hd).symm⟩
    · rw [k_up_ne _ _ hdc] at hd
      exact Or.inr ⟨hdc, hd⟩
  have some0 : ∀ (d : g_k) (e : va_E), k_up v c (some e1) d = some e → ∃ e', v d = some e' := fun d e hd => by
    rcases old d e hd with ⟨rfl, -⟩ | ⟨-, h⟩
    · exact ⟨_, hc⟩
    · exact ⟨_, h⟩
  refine ⟨fun d e hd => ?_, fun d d' e e' hd hd' hq => ?_, L, fun d e hd => ?_⟩
  · rcases old d e hd with ⟨rfl, rfl⟩ | ⟨hne, hd⟩
    · exact ⟨h1 k (ad d, e) (List.getElem?_set_self (List.getElem?_eq_some_iff.mp hk).1), (a1 d _ hc).2⟩
    · obtain ⟨k', hk'⟩ := hl d e hd
      have hkk : k ≠ k' := fun z => by
        subst z
        rw [hk] at hk'
        have := Option.some.inj hk'
        exact hne (a2 d c e e0 hd hc (congrArg Prod.fst this).symm)
      exact ⟨h1 k' (ad d, e) (by rw [List.getElem?_set_ne hkk]; exact hk'), (a1 d e hd).2⟩
  · obtain ⟨x, hx⟩ := some0 d e hd
    obtain ⟨x', hx'⟩ := some0 d' e' hd'
    exact a2 d d' x x' hx hx' hq
  · obtain ⟨x, hx⟩ := some0 d e hd
    exact a3 d x hx
theorem g_P_push {D : va_G} {v : g_k → Option va_E} {ad : g_k → Nat} {B : Nat} {H H1 : Heap} {c : g_k} {e1 : va_E} {l : List g_k} {q : Nat} (h : g_P D v ad B H) (hc : v c = none) (hl : ∀ (c : g_k) (e : va_E), v c = some e → ∃ k : Nat, (g_L v ad l)[k]? = some (ad c, e)) (h1 : va_P D vwCl (g_L v ad l ++ [(q, e1)]) H1) (h2 : va_D (g_A B) (g_L v ad l ++ [(q, e1)])) : g_P D (k_up v c (some e1)) (k_up ad c q) B H1 := by
  obtain ⟨a1, a2, L, a3⟩ := h
  have hq : (g_L v ad l ++ [(q, e1)])[(g_L v ad l).length]? = some (q, e1) := by rw [List.getElem?_append_right (Nat.le_refl _), Nat.sub_self]; rfl
  have old : ∀ (d : g_k) (e : va_E), k_up v c (some e1) d = some e → (d = c ∧ e = e1) ∨ (d ≠ c ∧ v d = some e) := fun d e hd => by
    by_cases hdc : d = c
    · subst hdc
      rw [k_up_self] at hd
      exact Or.inl ⟨rfl, (Option.some.inj hd).symm⟩
    · rw [k_up_ne _ _ hdc] at hd
      exact Or.inr ⟨hdc, hd⟩
  have place : ∀ (d : g_k) (e : va_E), k_up v c (some e1) d = some e → ∃ k : Nat, (g_L v ad l ++ [(q, e1)])[k]? = some (k_up ad c q d, e) ∧ (d ≠ c → k < (g_L v ad l).length) ∧ (d = c → k = (g_L v ad l).length) := fun d e hd => by
    rcases old d e hd with ⟨rfl, rfl⟩ | ⟨hne, hd⟩
    · exact ⟨_, by rw [k_up_self]; exact hq, fun h => absurd rfl h, fun _ => rfl⟩
    · obtain ⟨k', hk'⟩ := hl d e hd
      have hlt := (List.getElem?_eq_some_iff.mp hk').1
      exact ⟨k', by rw [List.getElem?_append_left hlt, k_up_ne _ _ hne]; exact hk', fun _ => hlt, fun h => absurd h hne⟩
  refine ⟨fun d e hd => ?_, fun d d' e e' hd hd' hqq => ?_, c :: L, fun d e hd => ?_⟩
  · obtain ⟨k, hk, -⟩ := place d e hd
    exact ⟨h1 k _ hk, h2.2 k _ hk⟩
  · obtain ⟨k, hk, k1, k2⟩ := place d e hd
    obtain ⟨k', hk', k1', k2'⟩ := place d' e' hd'
    have hkk := h2.1 k k' _ _ hk hk' hqq
    by_cases g1 : d = c <;> by_cases g2 : d' = c
    · rw [g1, g2]
    · have := k2 g1
      have := k1' g2
      omega
    · have := k1 g1
      have := k2' g2
      omega
    · rcases old d e hd with ⟨z, -⟩ | ⟨-, hd⟩
      · exact absurd z g1
      · rcases old d' e' hd' with ⟨z, -⟩ | ⟨-, hd'⟩
        · exact absurd z g2
        · rw [k_up_ne _ _ g1, k_up_ne _ _ g2] at hqq
          exact a2 d d' e e' hd hd' hqq
  · rcases old d e hd with ⟨rfl, -⟩ | ⟨-, hd⟩
    · exact List.mem_cons_self
    · exact List.mem_cons_of_mem _ (a3 d e hd)
theorem g_P.to {D : va_G} {v v' : g_k → Option va_E} {ad ad' : g_k → Nat} {B : Nat} {H : Heap} (h : g_P D v ad B H) (hv : v = v') (ha : ad = ad') : g_P D v' ad' B H := by
  subst hv
  subst ha
  exact h
theorem g_one {D : va_G} {a : Nat} {e : va_E} {H : Heap} (h : va_at D vwCl (a, e) H) : va_P D vwCl [(a, e)] H := fun k q hq => by
  cases k with
  | zero => cases hq; exact h
  | succ k => simp at hq
/-- the classes of the arrays: int[], int[][], Station[], Message[] -/
abbrev g_C : Type := ClassId × ClassId × ClassId × ClassId
abbrev g_T (C : g_C) : List (ClassId × FieldType) := [(C.1, .int), (C.2.1, .array .int), (C.2.2.1, .object "Satellitering$Station"), (C.2.2.2, .object "Satellitering$Message")]
/-- what links the class's own nest -/
def g_N (U : State) : Prop := va_Nw (.fieldLinkNest "Satellitering" 140 "Satellitering$Station" "timetable" "LSatellitering$Timetable;" "Satellitering") U ∧ va_Nw (.fieldLinkNest "Satellitering" 158 "Satellitering$Message" "node" "I" "Satellitering") U ∧ va_Nw (.fieldLinkNest "Satellitering" 170 "Satellitering$Message" "since" "I" "Satellitering") U ∧ va_Nw (.fieldLinkNest "Satellitering" 173 "Satellitering$Message" "hopCount" "I" "Satellitering") U ∧ va_Nw (.fieldLinkNest "Satellitering" 180 "Satellitering$Message" "hopNodes" "[I" "Satellitering") U ∧ va_Nw (.fieldLinkNest "Satellitering" 183 "Satellitering$Message" "hopMinutes" "[I" "Satellitering") U ∧ va_Nw (.fieldLinkNest "Satellitering" 186 "Satellitering$Message" "blocks" "I" "Satellitering") U ∧ va_Nw (.fieldLinkNest "Satellitering" 192 "Satellitering$Station" "relay" "I" "Satellitering") U ∧ va_Nw (.fieldLinkNest "Satellitering" 195 "Satellitering$Station" "handoverCount" "I" "Satellitering") U ∧ va_Nw (.fieldLinkNest "Satellitering" 202 "Satellitering$Message" "timetable" "LSatellitering$Timetable;" "Satellitering") U ∧ va_Nw (.fieldLinkNest "Satellitering" 96 "Satellitering$Sky" "count" "I" "Satellitering") U ∧ va_Nw (.fieldLinkNest "Satellitering$Search" 25 "Satellitering$Sky" "count" "I" "Satellitering") U ∧ va_Nw (.fieldLinkNest "Satellitering$Timetable" 34 "Satellitering$Sky" "count" "I" "Satellitering") U ∧ va_Nw (.methodLinkNest "Satellitering" 11 yX2_init "Satellitering") U
theorem g_N.warm {s U : State} (hW : s.WarmedH U.vm) (h : g_N s) : g_N U := ⟨va_Nw.warmF hW h.1, va_Nw.warmF hW h.2.1, va_Nw.warmF hW h.2.2.1, va_Nw.warmF hW h.2.2.2.1, va_Nw.warmF hW h.2.2.2.2.1, va_Nw.warmF hW h.2.2.2.2.2.1, va_Nw.warmF hW h.2.2.2.2.2.2.1, va_Nw.warmF hW h.2.2.2.2.2.2.2.1, va_Nw.warmF hW h.2.2.2.2.2.2.2.2.1, va_Nw.warmF hW h.2.2.2.2.2.2.2.2.2.1, va_Nw.warmF hW h.2.2.2.2.2.2.2.2.2.2.1, va_Nw.warmF hW h.2.2.2.2.2.2.2.2.2.2.2.1, va_Nw.warmF hW h.2.2.2.2.2.2.2.2.2.2.2.2.1, va_Nw.warmM hW h.2.2.2.2.2.2.2.2.2.2.2.2.2⟩
theorem g_N.same {s U : State} (hv : s.vm = U.vm) (h : g_N s) : g_N U := ⟨va_Nw.same rfl hv h.1, va_Nw.same rfl hv h.2.1, va_Nw.same rfl hv h.2.2.1, va_Nw.same rfl hv h.2.2.2.1, va_Nw.same rfl hv h.2.2.2.2.1, va_Nw.same rfl hv h.2.2.2.2.2.1, va_Nw.same rfl hv h.2.2.2.2.2.2.1, va_Nw.same rfl hv h.2.2.2.2.2.2.2.1, va_Nw.same rfl hv h.2.2.2.2.2.2.2.2.1, va_Nw.same rfl hv h.2.2.2.2.2.2.2.2.2.1, va_Nw.same rfl hv h.2.2.2.2.2.2.2.2.2.2.1, va_Nw.same rfl hv h.2.2.2.2.2.2.2.2.2.2.2.1, va_Nw.same rfl hv h.2.2.2.2.2.2.2.2.2.2.2.2.1, va_Nw.same rfl hv h.2.2.2.2.2.2.2.2.2.2.2.2.2⟩
def g_AOA (U : State) : Prop := (Cond.arrayOver (.array .int)).before #[] U = true
theorem g_AOA.use {A : Array Value} {U : State} (h : g_AOA U) : (Cond.arrayOver (.array .int)).before A U = true := h
theorem g_AOA.moved {u U : State} (hvm : u.vm.Alike U.vm) (h : g_AOA u) : g_AOA U := by
  have e : (Cond.arrayOver (.array .int)).before #[] (u.setVm U.vm) = (Cond.arrayOver (.array .int)).before #[] u := Cond.arrayOver_setVmC hvm _
  exact (show (Cond.arrayOver (.array .int)).before #[] (u.setVm U.vm) = true from e.trans h)
/-- the classes of arrays that the tables have -/
def g_O (U : State) : Prop := va_AO "Satellitering$Station" U ∧ va_AO "Satellitering$Message" U ∧ g_AOA U
def g_strs : List (Nat × String) := [(138, "there are 20 messages"), (148, "now would be above 1000000"), (167, "the message has not arrived"), (216, "an argument is not allowed"), (219, "there is no such node"), (221, "the node is no station"), (223, "there is no such message"), (225, "there is no such hop"), (64, "there are 4 stations"), (85, "there are 6 relays"), (93, "the node is a station")]
/-- which exceptions are which -/
def g_X (U : State) : Prop := va_Nw (.castable "java/lang/IndexOutOfBoundsException" "java/lang/IndexOutOfBoundsException") U ∧ va_Nw (.castable "java/util/NoSuchElementException" "java/util/NoSuchElementException") U ∧ va_Nc "java/util/NoSuchElementException" "java/lang/IndexOutOfBoundsException" U ∧ va_Nw (.declares (Bundle.initS "java/lang/RuntimeException")) U ∧ va_Nw (.declares (Bundle.initS "java/lang/Exception")) U ∧ va_Nw (.declares (Bundle.initS Bundle.tN)) U
theorem g_X.warm {s U : State} (hW : s.WarmedH U.vm) (h : g_X s) : g_X U := ⟨va_Nw.warmC hW h.1, va_Nw.warmC hW h.2.1, va_Nc.moved hW.alike h.2.2.1, va_Nw.warmD hW h.2.2.2.1, va_Nw.warmD hW h.2.2.2.2.1, va_Nw.warmD hW h.2.2.2.2.2⟩
/-- what a throw needs of the machine -/
def g_E (B : Nat) (U : State) (H : Heap) : Prop := vx_Zq Bundle.tN "UNASSIGNED_STACK" Bundle.steD (g_A B) U H ∧ vx_Zq Bundle.tN "SUPPRESSED_SENTINEL" Bundle.listD (g_A B) U H ∧ ((∀ q ∈ g_strs, ∃ sa, vk_R RX5 q.1 q.2 sa U) ∧ g_X U) ∧ g_O U
theorem g_E.warm {B : Nat} {s U : State} {H : Heap} (hW : s.WarmedH U.vm) (h : g_E B s H) : g_E B U H := ⟨h.1.moved hW.alike, h.2.1.moved hW.alike, ⟨(fun q hq => by
  obtain ⟨sa, hs⟩ := h.2.2.1.1 q hq
  exact ⟨sa, vk_R.warm hW hs⟩), h.2.2.1.2.warm hW⟩, h.2.2.2.1.moved hW.alike, h.2.2.2.2.1.moved hW.alike, h.2.2.2.2.2.moved hW.alike⟩
theorem g_E.kept {B : Nat} {U : State} {H H1 : Heap} (h : g_E B U H) (hq : ∀ a : Nat, a < H.size → ¬ g_A B a → H1[a]? = H[a]?) : g_E B U H1 := ⟨h.1.kept hq, h.2.1.kept hq, h.2.2⟩
/-- what does not change while the law runs -/
def g_F (D : va_G) (C : g_C) (B : Nat) (U : State) : Prop := va_K D vwCl (g_T C) U ∧ g_N U ∧ g_E B U U.heap ∧ B ≤ U.heap.size
def g_S (D : va_G) (C : g_C) (v : g_k → Option va_E) (ad : g_k → Nat) (B : Nat) (U : State) : Prop := g_P D v ad B U.heap ∧ g_F D C B U
theorem g_F.calling {D : va_G} {C : g_C} {B : Nat} {U : State} {g : JFrame} {mk : MethodId} {a : Array Value} (h : g_F D C B U) : g_F D C B (U.calling g mk a) := ⟨va_K.moved (u := U) (U := U.calling g mk a) (Vm.Alike.refl U.vm) h.1, g_N.same (s := U) (U := U.calling g mk a) rfl h.2.1, g_E.warm (s := U) (U := U.calling g mk a) (State.WarmedH.refl U) h.2.2.1, h.2.2.2⟩
theorem g_F.at {D : va_G} {C : g_C} {B : Nat} {s U : State} {H : Heap} {locs : List Loc} (h : g_F D C B s) (hS : va_S (g_A B) s.heap H locs) (hU : U.heap = H) (hW : s.WarmedH U.vm) : g_F D C B U := ⟨va_K.moved hW.alike h.1, g_N.warm hW h.2.1, by rw [hU]; exact g_E.warm hW (h.2.2.1.kept hS.2.1), by rw [hU]; exact Nat.le_trans h.2.2.2 hS.1⟩
theorem g_blind {D : va_G} {C : g_C} {v : g_k → Option va_E} {ad : g_k → Nat} {B : Nat} {av : List Value} : FrameBlind (va_Pc av (g_S D C v ad B)) := fun a U g mk q => ⟨q.1, q.2.1, q.2.2.calling⟩
theorem g_preS {D : va_G} {C : g_C} {v : g_k → Option va_E} {ad : g_k → Nat} {B : Nat} {s : State} {H : Heap} {locs : List Loc} {As : List Value} (hF : g_F D C B s) (hG : g_P D v ad B H) (hS : va_S (g_A B) s.heap H locs) : PreS s H (va_Pc As (g_S D C v ad B)) As := ⟨g_blind, fun U hU hW => ⟨rfl, by rw [hU]; exact hG, hF.at hS hU hW⟩⟩
theorem g_recv {D : va_G} {C : g_C} {v : g_k → Option va_E} {ad : g_k → Nat} {B : Nat} {s : State} {H : Heap} {cd : g_k} {ci : Nat} {r : vw_C} {fs : List Value} (hF : g_F D C B s) (hG : g_P D v ad B H) (he : v cd = some (.inr (ci, fs))) (hc : vwCl[ci]? = some r) : ∃ cell : Cell, H[ad cd]? = some cell ∧ cell.vm.isStatics = false ∧ s.vm.findClass r.1 = some cell.cls := va_recv hF.1 (g_one (hG.1 cd _ he).1) hc (q0 := 0) rfl
theorem g_preV {D : va_G} {C : g_C} {v : g_k → Option va_E} {ad : g_k → Nat} {B : Nat} {s : State} {H : Heap} {locs : List Loc} {As : List Value} {cd : g_k} {ci : Nat} {r : vw_C} {fs : List Value} (hF : g_F D C B s) (hG : g_P D v ad B H) (hS : va_S (g_A B) s.heap H locs) (he : v cd = some (.inr (ci, fs))) (hc : vwCl[ci]? = some r) : PreV s H r.1 (ad cd) (va_Pc (.ref (ad cd) :: As) (g_S D C v ad B)) As := ⟨g_blind, g_recv hF hG he hc, fun U hU hW => ⟨rfl, by rw [hU]; exact hG, hF.at hS hU hW⟩⟩
section GRows
variable {p : Program} {l : Launch} {e : Env} {R : Room} {s : State} {m : MethodId} {args : Array Value} {below : List Frame} {meth : Method} {c : Code} {H : Heap} {locs : List Loc} {cells slots : Nat} {Q : State → Prop}
variable {cc : ByteArray} {pc : Nat} {ls : Array Slot} {rest : List Value} {D : va_G} {C : g_C} {v : g_k → Option va_E} {ad : g_k → Nat} {B : Nat} {H0 : Heap} {tys : List (ClassId × FieldType)}
theorem g_get (hx : p.tables.exec = Jvm.exec) (hb : c.code = cc) {own Cn : String} {T : u_T} {N ci index : Nat} {Ts : List Cond} (hts : ∀ w ∈ Ts, w.before args s = true) (hin : ∀ w ∈ u_ws Cn T N, w ∈ Ts) (hown : s.vm.findClass own = some m.cls) (hK : va_K D vwCl tys s) (hG : g_P D v ad B H) {cd : g_k} {fs : List Value} (he : v cd = some (.inr (ci, fs))) (hc : vwCl[ci]? = some (Cn, T, N)) (k : Nat) (hk : k < N) (hlink : (Cond.fieldLink own index (T k).1 (T k).2.1 (T k).2.2.1).before args s = true) {x : Value} (hv : fs[k]? = some x) (hdg : decode cc pc = .ok (.getfield index, 3))
    (kk : W p l e R s m args below meth c H locs cells slots Q (F0 m (pc + 3) ls (x :: rest))) : W p l e R s m args below meth c H locs cells slots Q (F0 m pc ls (.ref (ad cd) :: rest)) :=
  va_get hx hb hts hin hown hK (g_one (hG.1 cd _ he).1) 0 rfl hc k hk hlink (fun _ h9 => h9) hv hdg kk
theorem g_getN (hx : p.tables.exec = Jvm.exec) (hb : c.code = cc) {own Cn host : String} {T : u_T} {N ci index : Nat} {Ts : List Cond} (hts : ∀ w ∈ Ts, w.before args s = true) (hin : ∀ w ∈ u_ws Cn T N, w ∈ Ts) (hown : s.vm.findClass own = some m.cls) (hK : va_K D vwCl tys s) (hG : g_P D v ad B H) {cd : g_k} {fs : List Value} (he : v cd = some (.inr (ci, fs))) (hc : vwCl[ci]? = some (Cn, T, N)) (k : Nat) (hk : k < N) (hlink : (Cond.fieldLinkNest own index (T k).1 (T k).2.1 (T k).2.2.1 host).before args s = true) {x : Value} (hv : fs[k]? = some x) (hdg : decode cc pc = .ok (.getfield index, 3))
    (kk : W p l e R s m args below meth c H locs cells slots Q (F0 m (pc + 3) ls (x :: rest))) : W p l e R s m args below meth c H locs cells slots Q (F0 m pc ls (.ref (ad cd) :: rest)) :=
  va_getN hx hb hts hin hown hK (g_one (hG.1 cd _ he).1) 0 rfl hc k hk hlink (fun _ h9 => h9) hv hdg kk
theorem g_put (hx : p.tables.exec = Jvm.exec) (hb : c.code = cc) {own Cn : String} {T : u_T} {N ci index : Nat} {Ts : List Cond} (hts : ∀ w ∈ Ts, w.before args s = true) (hin : ∀ w ∈ u_ws Cn T N, w ∈ Ts) (ty0 : Nat → FieldType) (hty : ∀ k, k < N → parseFieldDescriptor (T k).2.2.1 = some (ty0 k)) (hnm : ∀ a, a < N → ∀ b, b < N → a ≠ b → (T a).2.1 ≠ (T b).2.1) (hown : s.vm.findClass own = some m.cls) (hK : va_K D vwCl tys s) (hG : g_P D v ad B H) (hS : va_S (g_A B) H0 H locs) {cd : g_k} {fs : List Value} (he : v cd = some (.inr (ci, fs))) (hc : vwCl[ci]? = some (Cn, T, N)) (k : Nat) (hk : k < N) (hlink : (Cond.fieldLink own index (T k).1 (T k).2.1 (T k).2.2.1).before args s = true) (hfin : (T k).2.2.2 = false) {x : Value} (hn : narrow (ty0 k) x = x) (hfit : fits (ty0 k) x = true) (hl : k < fs.length) (hdg : decode cc pc = .ok (.putfield index, 3))
    (kk : ∀ (H1 : Heap) (locs1 : List Loc), g_P D (k_up v cd (some (.inr (ci, fs.set k x)))) ad B H1 → va_S (g_A B) H0 H1 locs1 → W p l e R s m args below meth c H1 locs1 cells slots Q (F0 m (pc + 3) ls rest)) : W p l e R s m args below meth c H locs cells slots Q (F0 m pc ls (x :: .ref (ad cd) :: rest)) := by
  obtain ⟨L, h1, h2, h3⟩ := g_P_ws hG
  obtain ⟨q0, hq0⟩ := h3 cd _ he
  exact va_put hx hb hts hin ty0 hty hnm hown hK h1 h2 hS q0 hq0 hc k hk hlink (fun _ h9 => h9) hfin (hty k hk) hn hfit hl hdg (fun H1 locs1 p1 _ s1 => kk H1 locs1 (g_P_set hG he h3 hq0 p1) s1)
theorem g_putN (hx : p.tables.exec = Jvm.exec) (hb : c.code = cc) {own Cn host : String} {T : u_T} {N ci index : Nat} {Ts : List Cond} (hts : ∀ w ∈ Ts, w.before args s = true) (hin : ∀ w ∈ u_ws Cn T N, w ∈ Ts) (ty0 : Nat → FieldType) (hty : ∀ k, k < N → parseFieldDescriptor (T k).2.2.1 = some (ty0 k)) (hnm : ∀ a, a < N → ∀ b, b < N → a ≠ b → (T a).2.1 ≠ (T b).2.1) (hown : s.vm.findClass own = some m.cls) (hK : va_K D vwCl tys s) (hG : g_P D v ad B H) (hS : va_S (g_A B) H0 H locs) {cd : g_k} {fs : List Value} (he : v cd = some (.inr (ci, fs))) (hc : vwCl[ci]? = some (Cn, T, N)) (k : Nat) (hk : k < N) (hlink : (Cond.fieldLinkNest own index (T k).1 (T k).2.1 (T k).2.2.1 host).before args s = true) (hfin : (T k).2.2.2 = false) {x : Value} (hn : narrow (ty0 k) x = x) (hfit : fits (ty0 k) x = true) (hl : k < fs.length) (hdg : decode cc pc = .ok (.putfield index, 3))
    (kk : ∀ (H1 : Heap) (locs1 : List Loc), g_P D (k_up v cd (some (.inr (ci, fs.set k x)))) ad B H1 → va_S (g_A B) H0 H1 locs1 → W p l e R s m args below meth c H1 locs1 cells slots Q (F0 m (pc + 3) ls rest)) : W p l e R s m args below meth c H locs cells slots Q (F0 m pc ls (x :: .ref (ad cd) :: rest)) := by
  obtain ⟨L, h1, h2, h3⟩ := g_P_ws hG
  obtain ⟨q0, hq0⟩ := h3 cd _ he
  exact va_putN hx hb hts hin ty0 hty hnm hown hK h1 h2 hS q0 hq0 hc k hk hlink (fun _ h9 => h9) hfin (hty k hk) hn hfit hl hdg (fun H1 locs1 p1 _ s1 => kk H1 locs1 (g_P_set hG he h3 hq0 p1) s1)
theorem g_putF (hx : p.tables.exec = Jvm.exec) (hb : c.code = cc) {own Cn : String} {T : u_T} {N ci index : Nat} {Ts : List Cond} (hts : ∀ w ∈ Ts, w.before args s = true) (hin : ∀ w ∈ u_ws Cn T N, w ∈ Ts) (ty0 : Nat → FieldType) (hty : ∀ k, k < N → parseFieldDescriptor (T k).2.2.1 = some (ty0 k)) (hnm : ∀ a, a < N → ∀ b, b < N → a ≠ b → (T a).2.1 ≠ (T b).2.1) (hown : s.vm.findClass own = some m.cls) (hK : va_K D vwCl tys s) (hG : g_P D v ad B H) (hS : va_S (g_A B) H0 H locs) {cd : g_k} {fs : List Value} (he : v cd = some (.inr (ci, fs))) (hc : vwCl[ci]? = some (Cn, T, N)) (k : Nat) (hk : k < N) (hlink : (Cond.fieldLink own index (T k).1 (T k).2.1 (T k).2.2.1).before args s = true) (hfin : (T k).2.2.2 = true) (hin2 : meth.name = "<init>") (hdecl : (T k).1 = own) {x : Value} (hn : narrow (ty0 k) x = x) (hfit : fits (ty0 k) x = true) (hl : k < fs.length) (hdg : decode cc pc = .ok (.putfield index, 3))
    (kk : ∀ (H1 : Heap) (locs1 : List Loc), g_P D (k_up v cd (some (.inr (ci, fs.set k x)))) ad B H1 → va_S (g_A B) H0 H1 locs1 → W p l e R s m args below meth c H1 locs1 cells slots Q (F0 m (pc + 3) ls rest)) : W p l e R s m args below meth c H locs cells slots Q (F0 m pc ls (x :: .ref (ad cd) :: rest)) := by
  obtain ⟨L, h1, h2, h3⟩ := g_P_ws hG
  obtain ⟨q0, hq0⟩ := h3 cd _ he
  exact va_putF hx hb hts hin ty0 hty hnm hown hK h1 h2 hS q0 hq0 hc k hk hlink (fun _ h9 => h9) hfin hin2 hdecl (hty k hk) hn hfit hl hdg (fun H1 locs1 p1 _ s1 => kk H1 locs1 (g_P_set hG he h3 hq0 p1) s1)
theorem g_iald (hx : p.tables.exec = Jvm.exec) (hb : c.code = cc) (hK : va_K D vwCl (g_T C) s) (hG : g_P D v ad B H) {cd : g_k} {n : Nat} {f : Nat → Int32} (he : v cd = some (.inl (C.1, n, .inl f))) {j : Nat} (hj : j < n) (hn : n < 2 ^ 31) (hdg : decode cc pc = .ok (.iaload, 1))
    (kk : W p l e R s m args below meth c H locs cells slots Q (F0 m (pc + 1) ls (.int (f j) :: rest))) : W p l e R s m args below meth c H locs cells slots Q (F0 m pc ls (.int (nI j) :: .ref (ad cd) :: rest)) := by
  refine va_iald hx hb hK (g_one (hG.1 cd _ he).1) 0 0 rfl rfl (vp_in_nI hj hn) hdg ?_
  rw [nI_clamp (Nat.lt_trans hj hn)]
  exact kk
theorem g_iast (hx : p.tables.exec = Jvm.exec) (hb : c.code = cc) (hK : va_K D vwCl (g_T C) s) (hG : g_P D v ad B H) (hS : va_S (g_A B) H0 H locs) {cd : g_k} {n : Nat} {f : Nat → Int32} (he : v cd = some (.inl (C.1, n, .inl f))) {j : Nat} {x : Int32} (hj : j < n) (hn : n < 2 ^ 31) (hdg : decode cc pc = .ok (.iastore, 1))
    (kk : ∀ (H1 : Heap) (locs1 : List Loc), g_P D (k_up v cd (some (.inl (C.1, n, .inl (upd f j x))))) ad B H1 → va_S (g_A B) H0 H1 locs1 → W p l e R s m args below meth c H1 locs1 cells slots Q (F0 m (pc + 1) ls rest)) : W p l e R s m args below meth c H locs cells slots Q (F0 m pc ls (.int x :: .int (nI j) :: .ref (ad cd) :: rest)) := by
  obtain ⟨L, h1, h2, h3⟩ := g_P_ws hG
  obtain ⟨q0, hq0⟩ := h3 cd _ he
  refine va_iast hx hb hK h1 h2 hS q0 0 hq0 rfl (vp_in_nI hj hn) hdg (fun H1 locs1 p1 _ s1 => kk H1 locs1 (g_P_set hG he h3 hq0 ?_) s1)
  rw [nI_clamp (Nat.lt_trans hj hn)] at p1
  exact p1
theorem g_aald (hx : p.tables.exec = Jvm.exec) (hb : c.code = cc) {ty : FieldType} {cA : ClassId} (t0 : Nat) (hK : va_K D vwCl (g_T C) s) (ht : (g_T C)[t0]? = some (cA, ty)) (hty : ty.isReference = true) (hG : g_P D v ad B H) {cd : g_k} {n : Nat} {f : Nat → Option Nat} (he : v cd = some (.inl (cA, n, .inr (.inr (.inr (.inr f)))))) {j : Nat} (hj : j < n) (hn : n < 2 ^ 31) (hdg : decode cc pc = .ok (.aaload, 1))
    (kk : W p l e R s m args below meth c H locs cells slots Q (F0 m (pc + 1) ls (va_rf (f j) :: rest))) : W p l e R s m args below meth c H locs cells slots Q (F0 m pc ls (.int (nI j) :: .ref (ad cd) :: rest)) := by
  have hin := vp_in_nI hj hn
  have hlt : (nI j).toNatClampNeg < n := by rw [nI_clamp (Nat.lt_trans hj hn)]; exact hj
  have hcell : va_at D vwCl (ad cd, .inl (cA, n, .inr (.inr (.inr (.inr f))))) H := (hG.1 cd _ he).1
  refine W.aald (v := va_rf (f (nI j).toNatClampNeg)) (ty := ty) hx hb hcell ((hK.2 t0 _ ht).1 n (fun j => va_rf (f j))) hty (fun q => by cases q) (by show ¬ (nI j < 0 ∨ (arrV _ _ _).slots.size ≤ _); rw [arrV_size]; exact hin) (by show (arrV _ _ _).slots[_]? = _; rw [arrV_read _ _ hlt]) rfl rfl hdg ?_
  rw [nI_clamp (Nat.lt_trans hj hn)]
  exact kk
theorem g_alen (hx : p.tables.exec = Jvm.exec) (hb : c.code = cc) (hK : va_K D vwCl (g_T C) s) (hG : g_P D v ad B H) {cd : g_k} {n : Nat} {f : Nat → Int32} (he : v cd = some (.inl (C.1, n, .inl f))) (hdg : decode cc pc = .ok (.arraylength, 1))
    (kk : W p l e R s m args below meth c H locs cells slots Q (F0 m (pc + 1) ls (.int (nI n) :: rest))) : W p l e R s m args below meth c H locs cells slots Q (F0 m pc ls (.ref (ad cd) :: rest)) :=
  va_alen hx hb hK (g_one (hG.1 cd _ he).1) 0 0 rfl rfl rfl hdg kk
theorem g_cI {s : State} {a b : ClassId} (ha : va_RA s a .int) (hb : s.vm.findClass "[I" = some b) : a = b := Option.some.inj ((va_nm_int ha).symm.trans hb)
theorem g_newa (hx : p.tables.exec = Jvm.exec) (hb : c.code = cc) (harr : (Cond.arrayClass .int).before args s = true) (hK : va_K D vwCl (g_T C) s) (hG : g_P D v ad B H) (hS : va_S (g_A B) H0 H locs) (hB : B ≤ H0.size) (cd : g_k) (hcd : v cd = none) {n : Nat} (hn : n < 2 ^ 27) (hcells : cells + 1 ≤ R.cells) (hslots : slots + n ≤ R.slots) (hdg : decode cc pc = .ok (.newarray .int, 2))
    (kk : ∀ (q : Nat) (H1 : Heap), q = H.size → g_P D (k_up v cd (some (.inl (C.1, n, .inl (fun _ => 0))))) (k_up ad cd q) B H1 → va_S (g_A B) H0 H1 locs → W p l e R s m args below meth c H1 locs (cells + 1) (slots + n) Q (F0 m (pc + 2) ls (.ref q :: rest))) : W p l e R s m args below meth c H locs cells slots Q (F0 m pc ls (.int (nI n) :: rest)) := by
  obtain ⟨L, h1, h2, h3⟩ := g_P_ws hG
  have hn31 : n < 2 ^ 31 := Nat.lt_trans hn (by decide)
  refine va_newaK (N := n) hx hb (atype := .int) harr rfl hdg rfl (nI_pos hn31) (nI_clamp hn31) (by show n * 4 ≤ 536870912; omega) hcells hslots rfl (fun H1 cA e1 z1 o1 hAr hNm => ?_)
  have hcA : cA = C.1 := (g_cI (hK.2 0 _ rfl).2 hNm).symm
  subst hcA
  have hP1 : va_P D vwCl (g_L v ad L ++ [(H.size, .inl (C.1, n, .inl (fun _ => 0)))]) H1 := (h1.kept (fun k x hx => o1 x.1 ((h1 k x hx).lt))).app (g_one e1)
  exact kk H.size H1 rfl (g_P_push hG hcd h3 hP1 (h2.push h1 rfl (Nat.le_trans hB hS.1))) ⟨Nat.le_trans hS.1 (by omega), fun x a1 a2 => (o1 x (Nat.lt_of_lt_of_le a1 hS.1)).trans (hS.2.1 x a1 a2), hS.2.2⟩
theorem g_new {c0 : Code} (hx : p.tables.exec = Jvm.exec) (hb : c0.code = cc) {own Cn : String} {T : u_T} {N ci index : Nat} {Ts : List Cond} (hts : ∀ w ∈ Ts, w.before args s = true) (hin : ∀ w ∈ u_ws Cn T N, w ∈ Ts) (ty : Nat → FieldType) (hty : ∀ k, k < N → parseFieldDescriptor (T k).2.2.1 = some (ty k)) (hown : s.vm.findClass own = some m.cls) (hcl : (Cond.classLink own index Cn).before args s = true) (hinst : (Cond.instantiable Cn N).before args s = true) (hini : (Cond.initialized Cn).before args s = true) (hK : va_K D vwCl tys s) (hG : g_P D v ad B H) (hS : va_S (g_A B) H0 H locs) (hB : B ≤ H0.size) (cd : g_k) (hcd : v cd = none) (hc : vwCl[ci]? = some (Cn, T, N)) {fs : List Value} (hfs : ∀ j, j < N → defaultValue (ty j) = vp_V fs j) (hcells : cells + 1 ≤ R.cells) (hslots : slots + N ≤ R.slots) (hdg : decode cc pc = .ok (.new index, 3))
    (kk : ∀ (q : Nat) (H1 : Heap), g_P D (k_up v cd (some (.inr (ci, fs)))) (k_up ad cd q) B H1 → va_S (g_A B) H0 H1 locs → W p l e R s m args below meth c0 H1 locs (cells + 1) (slots + N) Q (F0 m (pc + 3) ls (.ref q :: rest))) : W p l e R s m args below meth c0 H locs cells slots Q (F0 m pc ls rest) := by
  obtain ⟨L, h1, h2, h3⟩ := g_P_ws hG
  exact va_new hx hb hts hin ty hty hown hcl hinst hini hK h1 h2 hS (fun q hq => Nat.le_trans hB hq) hc hfs hcells hslots hdg (fun q H1 p1 d1 s1 => kk q H1 (g_P_push hG hcd h3 p1 d1) s1)
end GRows
