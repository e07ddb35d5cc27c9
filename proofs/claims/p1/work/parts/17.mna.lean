/-! new int[n][k] -/
section MNA
variable {p : Program} {l : Launch} {e : Env} {R : Room} {s : State} {m : MethodId} {args : Array Value} {below : List Frame} {meth : Method} {c : Code} {H : Heap} {locs : List Loc} {cells slots : Nat} {Q : State → Prop}
variable {cc : ByteArray} {pc : Nat} {ls : Array Slot} {rest : List Value} {D : va_G} {C : g_C} {v : g_k → Option va_E} {ad : g_k → Nat} {B : Nat} {H0 : Heap}
theorem g_outer (c : ClassId) (N h0 : Nat) : ∀ i : Nat, Jvm.Free.Multi.outerC c N h0 i = arrV c N (fun j => va_rf (if j < i then some (h0 + 1 + j) else none))
  | 0 => by
    show ({ cls := c, slots := Array.replicate N .null, vm := .none } : Cell) = _
    rw [arrV_new]
    refine congrArg (arrV c N) (funext fun j => ?_)
    simp [va_rf]
  | i + 1 => by
    show (Jvm.Free.Multi.outerC c N h0 i).setSlot i (.ref (h0 + 1 + i)) = _
    rw [g_outer c N h0 i, arrV_store]
    refine congrArg (arrV c N) (funext fun j => ?_)
    by_cases e : j = i
    · subst e
      simp [updV, va_rf]
    · by_cases h : j < i
      · simp [updV, e, h, Nat.lt_succ_of_lt h]
      · simp [updV, e, h, show ¬ j < i + 1 by omega]
theorem g_mna (hx : p.tables.exec = Jvm.exec) (hb : c.code = cc) {own : String} {index : Nat} (hown : s.vm.findClass own = some m.cls) (hclink : (Cond.classLink own index "[[I").before args s = true) (hover : (Cond.arrayOver (.array .int)).before args s = true) (harr : (Cond.arrayClass .int).before args s = true) (hK : va_K D vwCl (g_T C) s) (hG : g_P D v ad B H) (hS : va_S (g_A B) H0 H locs) (hB : B ≤ H0.size)
    (co : g_k) (cr : Nat → g_k) {N K : Nat} (hcr : ∀ i j, cr i = cr j → i = j) (hco : ∀ i, cr i ≠ co) (hn0 : v co = none) (hnr : ∀ i, i < N → v (cr i) = none) (hN : N < 2 ^ 20) (hKb : K < 2 ^ 20) (hcells : cells + (1 + N) ≤ R.cells) (hslots : slots + (N + N * K) ≤ R.slots) (hdg : decode cc pc = .ok (.multianewarray index 2, 4))
    (kk : ∀ (h : Nat) (H1 : Heap), (∀ (v' : g_k → Option va_E) (ad' : g_k → Nat), v' co = some (.inl (C.2.1, N, .inr (.inr (.inr (.inr (fun i => if i < N then some (ad' (cr i)) else none)))))) → (∀ i, i < N → v' (cr i) = some (.inl (C.1, K, .inl (fun _ => 0)))) → (∀ c, c ≠ co → (∀ i, i < N → c ≠ cr i) → v' c = v c) → ad' co = h → (∀ i, i < N → ad' (cr i) = h + 1 + i) → (∀ c, c ≠ co → (∀ i, i < N → c ≠ cr i) → ad' c = ad c) → g_P D v' ad' B H1) → va_S (g_A B) H0 H1 locs →
      W p l e R s m args below meth c H1 locs (cells + 1 + N) (slots + N + N * K) Q (F0 m (pc + 4) ls (.ref h :: rest))) : W p l e R s m args below meth c H locs cells slots Q (F0 m pc ls (.int (nI K) :: .int (nI N) :: rest)) := by
  intro T hT Xs
  have zN : (nI N).toNatClampNeg = N := nI_clamp (by omega)
  have zK : (nI K).toNatClampNeg = K := nI_clamp (by omega)
  obtain ⟨vm₁, cA, comp, -, fA, fC, -, -, X', step⟩ := Xs.multianewarray2F hx hown hclink hover harr (g := F0 m pc ls (.int (nI K) :: .int (nI N) :: rest)) rfl (by rw [hb]; exact hdg) rfl (nI_pos (by omega)) (nI_pos (by omega)) (by rw [zN]; omega) (by rw [zK]; show K * 4 ≤ 536870912; omega) (by rw [zK]; omega) rfl rfl (by rw [zN]; exact hcells) (by rw [zN, zK]; exact hslots)
  rw [zN, zK] at X' step
  have hcA : C.2.1 = cA := Option.some.inj (((hK.2 1 _ rfl).2 : s.vm.findClass ("[" ++ (FieldType.array .int).toString) = some C.2.1).symm.trans fA)
  have hcI : C.1 = comp := Option.some.inj ((va_nm_int (hK.2 0 _ rfl).2).symm.trans fC)
  subst hcA
  subst hcI
  generalize hFd : Jvm.Free.Multi.fill (T.setVm vm₁) C.2.1 C.1 N K (defaultValue .int) N = F at X' step
  have hTh : (T.setVm vm₁).heap = H := hT
  obtain ⟨f1, f2, -, -⟩ := Jvm.Free.Multi.fill_facts (T.setVm vm₁) C.2.1 C.1 N K (defaultValue .int) N
  rw [hFd, hTh] at f1 f2
  have hold : ∀ x : Nat, x < H.size → F.heap[x]? = H[x]? := fun x hx => by
    have := Jvm.Free.Multi.fill_old (T.setVm vm₁) C.2.1 C.1 N K (defaultValue .int) (a := x) (by rw [hTh]; exact hx) N
    rw [hFd, hTh] at this
    exact this
  have hrow : ∀ j : Nat, j < N → F.heap[H.size + 1 + j]? = some (arrV C.1 K (fun _ => .int 0)) := fun j hj => by
    have := Jvm.Free.Multi.fill_inner (T.setVm vm₁) C.2.1 C.1 N K (defaultValue .int) N j hj
    rw [hFd, hTh] at this
    rw [this, ← arrV_new]
    rfl
  rw [g_outer] at f2
  obtain ⟨t, a1, b1⟩ := kk H.size F.heap (fun v' ad' q1 q2 q3 q4 q5 q6 => by
    obtain ⟨g1, g2, L, g3⟩ := hG
    have cas : ∀ (c : g_k), c = co ∨ (∃ i, i < N ∧ c = cr i) ∨ (c ≠ co ∧ ∀ i, i < N → c ≠ cr i) := fun c => by
      by_cases h1 : c = co
      · exact Or.inl h1
      · by_cases h2 : ∃ i, i < N ∧ c = cr i
        · exact Or.inr (Or.inl h2)
        · exact Or.inr (Or.inr ⟨h1, fun i hi h => h2 ⟨i, hi, h⟩⟩)
    have hlt : ∀ (c : g_k) (e : va_E), v c = some e → ad c < H.size := fun c e hc => (g1 c e hc).1.lt
    refine ⟨fun c e hc => ?_, fun c c' e e' hc hc' hq => ?_, co :: ((List.range N).map cr ++ L), fun c e hc => ?_⟩
    · rcases cas c with h | ⟨i, hi, h⟩ | ⟨h, h'⟩
      · subst h
        rw [q1] at hc
        cases hc
        rw [q4]
        refine ⟨?_, Nat.le_trans hB hS.1⟩
        show F.heap[H.size]? = some (vp_cell _ _)
        rw [f2, vp_cell_q]
        refine congrArg some (congrArg (arrV _ _) (funext fun j => ?_))
        by_cases hj : j < N
        · rw [if_pos hj, if_pos hj, q5 j hj]
        · rw [if_neg hj, if_neg hj]
      · subst h
        rw [q2 i hi] at hc
        cases hc
        rw [q5 i hi]
        exact ⟨hrow i hi, by have := hS.1; omega⟩
      · rw [q3 c h h'] at hc
        rw [q6 c h h']
        exact ⟨(g1 c e hc).1.kept (hold _ (hlt c e hc)), (g1 c e hc).2⟩
    · have low : ∀ c e, v' c = some e → c ≠ co → (∀ i, i < N → c ≠ cr i) → ad' c < H.size := fun c e hc h h' => by
        rw [q6 c h h']
        rw [q3 c h h'] at hc
        exact hlt c e hc
      rcases cas c with h | ⟨i, hi, h⟩ | ⟨h, h'⟩ <;> rcases cas c' with k | ⟨j, hj, k⟩ | ⟨k, k'⟩
      · rw [h, k]
      · rw [h, k, q4, q5 j hj] at hq
        omega
      · have := low c' e' hc' k k'
        rw [h, q4] at hq
        omega
      · rw [h, k, q4, q5 i hi] at hq
        omega
      · rw [h, k, q5 i hi, q5 j hj] at hq
        rw [h, k, show i = j by omega]
      · have := low c' e' hc' k k'
        rw [h, q5 i hi] at hq
        omega
      · have := low c e hc h h'
        rw [k, q4] at hq
        omega
      · have := low c e hc h h'
        rw [k, q5 j hj] at hq
        omega
      · rw [q6 c h h', q6 c' k k'] at hq
        rw [q3 c h h'] at hc
        rw [q3 c' k k'] at hc'
        exact g2 c c' e e' hc hc' hq
    · rcases cas c with h | ⟨i, hi, h⟩ | ⟨h, h'⟩
      · rw [h]
        exact List.mem_cons_self
      · rw [h]
        exact List.mem_cons_of_mem _ (List.mem_append_left _ (List.mem_map.mpr ⟨i, List.mem_range.mpr hi, rfl⟩))
      · rw [q3 c h h'] at hc
        exact List.mem_cons_of_mem _ (List.mem_append_right _ (g3 c e hc))) ⟨by have := hS.1; omega, fun x h1 h2 => (hold x (Nat.lt_of_lt_of_le h1 hS.1)).trans (hS.2.1 x h1 h2), hS.2.2⟩ F rfl X'
  refine ⟨t, step t ?_, b1⟩
  have e : T.heap.size = H.size := by rw [hT]
  rw [e]
  exact a1
end MNA
