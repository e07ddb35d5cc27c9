/-! What a minute does. -/
def at_c (g : g_k → Nat → Int32) (x : Int32) : Nat → Nat
  | 0 => 0
  | j + 1 => at_c g x j + if g (40, j, 0) 2 = x then 1 else 0
theorem at_c_le (g : g_k → Nat → Int32) (x : Int32) : ∀ n, at_c g x n ≤ n
  | 0 => Nat.le_refl 0
  | n + 1 => by
    have := at_c_le g x n
    rw [at_c]
    split <;> omega
/-- how many of the first messages are where they shall be -/
def cg (g : g_k → Nat → Int32) : Nat → Nat
  | 0 => 0
  | j + 1 => cg g j + if g (40, j, 0) 2 = g (40, j, 0) 0 then 1 else 0
theorem cg_le (g : g_k → Nat → Int32) : ∀ n, cg g n ≤ n
  | 0 => Nat.le_refl 0
  | n + 1 => by
    have := cg_le g n
    rw [cg]
    split <;> omega
theorem cg_cong {g g1 : g_k → Nat → Int32} : ∀ n, (∀ j, j < n → g1 (40, j, 0) = g (40, j, 0)) → cg g1 n = cg g n
  | 0, _ => rfl
  | n + 1, h => by rw [cg, cg, cg_cong n (fun j hj => h j (by omega)), h n (by omega)]
def wd (t : Nat) : Nat := if t < 8 then 0 else if t < 16 then 32 else if t < 32 then 64 else if t < 64 then 128 else if t < 128 then 256 else if t < 256 then 512 else if t < 512 then 1024 else 4 * t
theorem wd_ok {q t : Nat} (h : 8 * 2 ^ q ≤ t) : 4 * (8 * 2 ^ q) ≤ wd t := by
  have c6 : q < 6 ∨ 6 ≤ q := Nat.lt_or_ge q 6
  rcases c6 with c6 | c6
  · have : q = 0 ∨ q = 1 ∨ q = 2 ∨ q = 3 ∨ q = 4 ∨ q = 5 := by omega
    unfold wd
    rcases this with rfl | rfl | rfl | rfl | rfl | rfl <;> (simp at h ⊢; repeat' split) <;> omega
  · have : 2 ^ 6 ≤ 2 ^ q := Nat.pow_le_pow_right (by decide) c6
    have h9 : 512 ≤ t := by omega
    unfold wd
    repeat' split
    all_goals omega
def us (t : Nat) : Nat → Nat
  | 0 => 0
  | p + 1 => us t p + wd (t + p) * 20
/-- message j, from s0 to k: it was handed on h times, to N 1, N 2, .. at the minutes T 0, T 1, .. -/
def mokA (g : g_k → Nat → Int32) (ln : g_k → Nat) (n now j s0 k h : Nat) (N T : Nat → Nat) : Prop := (g (40, j, 0) 0 = nI k ∧ g (40, j, 0) 2 = nI (N h) ∧ g (40, j, 0) 5 = nI h ∧ (0 < h → g (40, j, 0) 3 = nI (T (h - 1) + 1)) ∧ ∃ b, b ≤ now ∧ g (40, j, 0) 4 = nI b) ∧ (h ≤ now ∧ h ≤ ln (41, j, 0) ∧ ln (42, j, 0) = ln (41, j, 0) ∧ ln (41, j, 0) ≤ 2 ^ 20 ∧ ∃ q, ln (41, j, 0) = 8 * 2 ^ q) ∧ N 0 = s0 ∧ N h < n ∧ (∀ i, i < h → g (41, j, 0) i = nI (N (i + 1)) ∧ g (42, j, 0) i = nI (T i) ∧ N i < n ∧ T i < now ∧ see g (N i) (N (i + 1)) (T i) = true ∧ N i ≠ k) ∧ ∀ i, i + 1 < h → T i < T (i + 1)
def mok (g : g_k → Nat → Int32) (ln : g_k → Nat) (n now j s0 k : Nat) : Prop := ∃ (h : Nat) (N T : Nat → Nat), mokA g ln n now j s0 k h N T
theorem see_20 {g g1 : g_k → Nat → Int32} (h : ∀ i, g1 (20, i, 0) = g (20, i, 0)) (a b t : Nat) : see g1 a b t = see g a b t := by
  unfold see
  rw [h]
theorem mokA_cong {g g1 : g_k → Nat → Int32} {ln ln1 : g_k → Nat} {n now j s0 k h : Nat} {N T : Nat → Nat} (hm : mokA g ln n now j s0 k h N T) (h20 : ∀ i, g1 (20, i, 0) = g (20, i, 0)) (h40 : g1 (40, j, 0) = g (40, j, 0)) (h41 : g1 (41, j, 0) = g (41, j, 0)) (h42 : g1 (42, j, 0) = g (42, j, 0)) (l41 : ln1 (41, j, 0) = ln (41, j, 0)) (l42 : ln1 (42, j, 0) = ln (42, j, 0)) : mokA g1 ln1 n now j s0 k h N T := by
  unfold mokA at hm ⊢
  rw [h40, h41, h42, l41, l42]
  refine ⟨hm.1, hm.2.1, hm.2.2.1, hm.2.2.2.1, fun i hi => ?_, hm.2.2.2.2.2⟩
  rw [see_20 h20]
  exact hm.2.2.2.2.1 i hi
theorem mok_cong {g g1 : g_k → Nat → Int32} {ln ln1 : g_k → Nat} {n now j s0 k : Nat} (hm : mok g ln n now j s0 k) (h20 : ∀ i, g1 (20, i, 0) = g (20, i, 0)) (h40 : g1 (40, j, 0) = g (40, j, 0)) (h41 : g1 (41, j, 0) = g (41, j, 0)) (h42 : g1 (42, j, 0) = g (42, j, 0)) (l41 : ln1 (41, j, 0) = ln (41, j, 0)) (l42 : ln1 (42, j, 0) = ln (42, j, 0)) : mok g1 ln1 n now j s0 k := by
  obtain ⟨h, N, T, hm⟩ := hm
  exact ⟨h, N, T, mokA_cong hm h20 h40 h41 h42 l41 l42⟩
theorem mok_now {g : g_k → Nat → Int32} {ln : g_k → Nat} {n now now' j s0 k : Nat} (hm : mok g ln n now j s0 k) (hle : now ≤ now') : mok g ln n now' j s0 k := by
  obtain ⟨h, N, T, ⟨a1, a2, a3, a4, b, b1, b2⟩, ⟨c1, c2⟩, d1, d2, d3, d4⟩ := hm
  refine ⟨h, N, T, ⟨a1, a2, a3, a4, b, by omega, b2⟩, ⟨by omega, c2⟩, d1, d2, fun i hi => ?_, d4⟩
  obtain ⟨e1, e2, e3, e4, e5, e6⟩ := d3 i hi
  exact ⟨e1, e2, e3, by omega, e5, e6⟩
/-- it waits: one more time blocked -/
theorem mok_blk {g g1 : g_k → Nat → Int32} {ln : g_k → Nat} {n now j s0 k b : Nat} (hm : mok g ln n now j s0 k) (hb : g (40, j, 0) 4 = nI b) (hb2 : b ≤ now) (h1 : ∀ c, c ≠ (40, j, 0) → g1 c = g c) (h2 : g1 (40, j, 0) = upd (g (40, j, 0)) 4 (nI (b + 1))) : mok g1 ln n (now + 1) j s0 k := by
  obtain ⟨h, N, T, ⟨a1, a2, a3, a4, _⟩, ⟨c1, c2⟩, d1, d2, d3, d4⟩ := hm
  have e20 : ∀ i, g1 (20, i, 0) = g (20, i, 0) := fun i => h1 _ (by intro h9; cases h9)
  refine ⟨h, N, T, ⟨?_, ?_, ?_, fun z => ?_, b + 1, by omega, ?_⟩, ⟨by omega, c2⟩, d1, d2, fun i hi => ?_, d4⟩
  · rw [h2, upd_ne _ _ (by decide)]; exact a1
  · rw [h2, upd_ne _ _ (by decide)]; exact a2
  · rw [h2, upd_ne _ _ (by decide)]; exact a3
  · rw [h2, upd_ne _ _ (by decide)]; exact a4 z
  · rw [h2, upd_self]
  · obtain ⟨e1, e2, e3, e4, e5, e6⟩ := d3 i hi
    rw [h1 (41, j, 0) (by intro h9; cases h9), h1 (42, j, 0) (by intro h9; cases h9), see_20 e20]
    exact ⟨e1, e2, e3, by omega, e5, e6⟩
/-- it is handed on -/
theorem mok_hand {g g1 : g_k → Nat → Int32} {ad ln ad1 ln1 : g_k → Nat} {n t j s0 k h o : Nat} {N T : Nat → Nat} (hm : mokA g ln n t j s0 k h N T) (hk : N h ≠ k) (ht : t < 2 ^ 19) (ho : o < n) (hs : see g (N h) o t = true) (hp : hand_P g ad ln j h o t g1 ad1 ln1) : mok g1 ln1 n (t + 1) j s0 k := by
  obtain ⟨⟨a1, a2, a3, a4, b, b1, b2⟩, ⟨c1, c2, c3, c4, q, c5⟩, d1, d2, d3, d4⟩ := hm
  obtain ⟨p1, p2, p3, p4, p5, p6, p7, p8, p9⟩ := hp
  have e20 : ∀ i, g1 (20, i, 0) = g (20, i, 0) := fun i => p1 _ (by intro h9; cases h9) (by intro h9; cases h9) (by intro h9; cases h9)
  have nN : ∀ i, i ≤ h → (fun i => if i = h + 1 then o else N i) i = N i := fun i hi => if_neg (by omega)
  have nT : ∀ i, i < h → (fun i => if i = h then t else T i) i = T i := fun i hi => if_neg (by omega)
  refine ⟨h + 1, fun i => if i = h + 1 then o else N i, fun i => if i = h then t else T i, ⟨?_, ?_, ?_, fun z => ?_, b, by omega, ?_⟩, ⟨by omega, p8, p7, ?_, ?_⟩, (nN 0 (Nat.zero_le h)).trans d1, ?_, fun i hi => ?_, fun i hi => ?_⟩
  · rw [p2, upd_ne _ _ (by decide), upd_ne _ _ (by decide), upd_ne _ _ (by decide)]; exact a1
  · rw [p2, upd_ne _ _ (by decide), upd_self]; simp
  · rw [p2, upd_ne _ _ (by decide), upd_ne _ _ (by decide), upd_self]
  · rw [p2, upd_self]; simp
  · rw [p2, upd_ne _ _ (by decide), upd_ne _ _ (by decide), upd_ne _ _ (by decide)]; exact b2
  · rcases p9 with z | ⟨z1, z2⟩ <;> omega
  · rcases p9 with z | ⟨z1, z2⟩
    · exact ⟨q, z.trans c5⟩
    · exact ⟨q + 1, by rw [z2, z1, c5, Nat.pow_succ]; omega⟩
  · simp only [if_true]; exact ho
  · rw [see_20 e20]
    rcases Nat.lt_or_eq_of_le (Nat.le_of_lt_succ hi) with h9 | h9
    · obtain ⟨e1, e2, e3, e4, e5, e6⟩ := d3 i h9
      rw [nN i (by omega), nN (i + 1) (by omega), nT i h9, (p3 i h9).1, (p3 i h9).2]
      exact ⟨e1, e2, e3, by omega, e5, e6⟩
    · subst h9
      rw [nN i (Nat.le_refl i), p4, p5]
      simp only [if_true]
      exact ⟨trivial, trivial, d2, by omega, hs, hk⟩
  · rw [nT i (by omega)]
    by_cases h9 : i + 1 = h
    · simp only [h9, if_true]
      exact (d3 i (by omega)).2.2.2.1
    · rw [nT (i + 1) (by omega)]
      exact d4 i (by omega)
/-- station i's relay is one that it sees at minute t; or it sees none -/
def rel_P (g : g_k → Nat → Int32) (n t i : Nat) : Prop := (g (30, i, 0) 1 = (-1) ∧ ∀ o, o < n → see g i o t = false) ∨ ∃ r, r < n ∧ g (30, i, 0) 1 = nI r ∧ see g i r t = true
def rlw_P (g : g_k → Nat → Int32) (n t i : Nat) : Prop := (g (30, i, 0) 1 = (-1) ∨ ∃ r, r < n ∧ g (30, i, 0) 1 = nI r) ∧ ∃ k, k ≤ t ∧ g (30, i, 0) 2 = nI k
theorem rel_cong {g g1 : g_k → Nat → Int32} {n t i : Nat} (h : rel_P g n t i) (h20 : ∀ i, g1 (20, i, 0) = g (20, i, 0)) (h30 : g1 (30, i, 0) = g (30, i, 0)) : rel_P g1 n t i := by
  unfold rel_P
  rw [h30]
  rcases h with ⟨a1, a2⟩ | ⟨r, a1, a2, a3⟩
  · exact Or.inl ⟨a1, fun o ho => by rw [see_20 h20]; exact a2 o ho⟩
  · exact Or.inr ⟨r, a1, a2, by rw [see_20 h20]; exact a3⟩
theorem rlw_cong {g g1 : g_k → Nat → Int32} {n t i : Nat} (h : rlw_P g n t i) (h30 : g1 (30, i, 0) = g (30, i, 0)) : rlw_P g1 n t i := by
  unfold rlw_P
  rw [h30]
  exact h
theorem rlw_of {g : g_k → Nat → Int32} {n t i k : Nat} (h : rel_P g n t i) (hk : k ≤ t) (h2 : g (30, i, 0) 2 = nI k) : rlw_P g n t i := ⟨by
  rcases h with ⟨a1, a2⟩ | ⟨r, a1, a2, a3⟩
  · exact Or.inl a1
  · exact Or.inr ⟨r, a1, a2⟩, k, hk, h2⟩

set_option maxHeartbeats 4000000 in
set_option maxRecDepth 100000 in
theorem c_messagesAt (l : Launch) {D : va_G} {C : g_C} {g : g_k → Nat → Int32} {ad ln : g_k → Nat} {ex : g_k → Option va_E} {B : Nat} {M : Nat} (hM : ln (5, 0, 0) = M) (hM20 : M ≤ 20) (hs : g (0, 0, 0) 7 = nI M) {x : Int32} : Met l yX5_messagesAt wsX5_messagesAt ({ frames := 0, cells := 0, slots := 0, locals := 0 } : Room) (va_Pc [.ref (ad (0, 0, 0)), .int x] (g_S D C (lay C g ad ln ex) ad B)) (vp_Si (fun r => r = nI (at_c g x M))) 0 0 (fun _ => False) := by
  refine Met.ofW (cc := cX5_messagesAt) (maxL := 4) (ret := (some .int)) (by decide) rfl ?_
  intro p e s m args below meth c s₁ B₀ hml hv
  obtain ⟨rfl, hG, hF⟩ := hv
  have hK := hF.1
  have hN := hF.2.1
  have hB := hF.2.2.2
  have hx := B₀.exec
  have hb := B₀.bytes
  have hr := B₀.returns
  have hts := atoms_spec (ws := wsX5_messagesAt) B₀.pre
  have hown : s.vm.findClass RX5 = some m.cls := findClass_of_methodNamed B₀.named
  have hlocks := B₀.notSynchronized
  have hS : va_S (g_A B) s.heap s.heap [] := va_S.rf
  have hi0 : ∀ w ∈ wsX00, w ∈ wsX5_messagesAt := by decide +kernel
  have hi5 : ∀ w ∈ wsX50, w ∈ wsX5_messagesAt := by decide +kernel
  have hl := lv_entry [.ref (ad (0, 0, 0)), .int x] (n := 4) (Nat.le_of_ble_eq_true rfl)
  rw [lg_entry_eq]
  generalize (lg_sl [.ref (ad (0, 0, 0)), .int x] ++ List.replicate (4 - (lg_sl [.ref (ad (0, 0, 0)), .int x]).length) Slot.unset).toArray = ls at hl ⊢
  have hl : lv_has ls 4 [(0, .ref (ad (0, 0, 0))), (1, .int x)] := hl
  refine lv_iconst (v := nI 0) hx hb dX5_messagesAt_0 (by decide) ?_
  refine lv_istore_n (lv' := [(2, .int (nI 0)), (0, .ref (ad (0, 0, 0))), (1, .int x)]) hx hb dX5_messagesAt_1 rfl hl (by decide) rfl (fun ls hl => ?_)
  refine lv_iconst (v := nI 0) hx hb dX5_messagesAt_2 (by decide) ?_
  refine lv_istore_n (lv' := [(3, .int (nI 0)), (2, .int (nI 0)), (0, .ref (ad (0, 0, 0))), (1, .int x)]) hx hb dX5_messagesAt_3 rfl hl (by decide) rfl (fun ls hl => ?_)
  have loop : ∀ (q j : Nat), j ≤ M → M < j + q → ∀ ls, lv_has ls 4 [(3, .int (nI j)), (2, .int (nI (at_c g x j))), (0, .ref (ad (0, 0, 0))), (1, .int x)] → W p l e (headSpec wsX5_messagesAt ({ frames := 0, cells := 0, slots := 0, locals := 0 } : Room)).room s m ([.ref (ad (0, 0, 0)), .int x]).toArray below meth c s.heap [] 0 0 (MQ below (vp_Si (fun r => r = nI (at_c g x M))) ([.ref (ad (0, 0, 0)), .int x]).toArray s 0 0 (fun _ => False)) (F0 m 4 ls []) := by
    intro q
    induction q with
    | zero => intro j h1 h2; exact absurd h2 (by omega)
    | succ q ih =>
      intro j h1 h2 ls hl
      refine lv_iload_n hx hb dX5_messagesAt_4 rfl (lv_at hl 0 rfl) ?_
      refine lv_aload_n hx hb dX5_messagesAt_5 rfl (lv_at hl 2 rfl) ?_
      refine g_get hx hb hts hi5 hown hK hG (lay_main) rfl 7 (by decide) (hts (.fieldLink RX5 48 "Satellitering" "sentCount" "I") (by decide +kernel)) rfl dX5_messagesAt_6 ?_
      refine lv_to (y := nI M) (hs) ?_
      refine lv_icmp_ge (tgt := 39) hx hb dX5_messagesAt_9 (by decide) (fun c_1 => ?_) (fun c_1 => ?_)
      · have hj : j = M := by have := (nI_leI (by omega) (by omega)).mp c_1; omega
        subst hj
        refine lv_iload_n hx hb dX5_messagesAt_39 rfl (lv_at hl 1 rfl) ?_
        exact W.iret (v := nI (at_c g x j)) hx hb hr (fun t9 ht9 hW9 => ⟨_, rfl, rfl, ht9⟩) (fun q h => nomatch h) dX5_messagesAt_40
      · have hj : j < M := Nat.lt_of_not_le (fun h9 => c_1 ((nI_leI (by omega) (by omega)).mpr h9))
        refine lv_iload_n hx hb dX5_messagesAt_12 rfl (lv_at hl 1 rfl) ?_
        refine lv_aload_n hx hb dX5_messagesAt_13 rfl (lv_at hl 2 rfl) ?_
        refine g_get hx hb hts hi5 hown hK hG (lay_main) rfl 4 (by decide) (hts (.fieldLink RX5 37 "Satellitering" "sent" "[LSatellitering$Message;") (by decide +kernel)) rfl dX5_messagesAt_14 ?_
        refine lv_iload_n hx hb dX5_messagesAt_17 rfl (lv_at hl 0 rfl) ?_
        refine o_sent hx hb hK hG (show j < ln (5, 0, 0) by omega) (show ln (5, 0, 0) ≤ 20 by omega) dX5_messagesAt_18 ?_
        refine g_getN hx hb hts hi0 hown hK hG (lay_msg (show j < ln (5, 0, 0) by omega)) rfl 2 (by decide) (va_Nw.use rfl hN.2.1) rfl dX5_messagesAt_19 ?_
        refine lv_iload_n hx hb dX5_messagesAt_22 rfl (lv_at hl 3 rfl) ?_
        refine lv_icmp_ne (tgt := 30) hx hb dX5_messagesAt_23 (by decide) (fun c_2 => ?_) (fun c_2 => ?_)
        · refine lv_iconst (v := nI 0) hx hb dX5_messagesAt_30 (by decide) ?_
          refine lv_iadd hx hb dX5_messagesAt_31 ?_
          refine lv_to (y := nI ((at_c g x j) + 0)) (nI_add (at_c g x j) 0) ?_
          refine lv_to (y := nI (at_c g x (j + 1))) (by rw [at_c, if_neg c_2]) ?_
          refine lv_istore_n (lv' := [(2, .int (nI (at_c g x (j + 1)))), (3, .int (nI j)), (0, .ref (ad (0, 0, 0))), (1, .int x)]) hx hb dX5_messagesAt_32 rfl hl (by decide) rfl (fun ls hl => ?_)
          refine lv_iinc (v := nI (j + 1)) (lv' := [(3, .int (nI (j + 1))), (2, .int (nI (at_c g x (j + 1)))), (0, .ref (ad (0, 0, 0))), (1, .int x)]) hx hb dX5_messagesAt_33 hl (k := 1) rfl (nI_add j 1) (by decide) rfl (fun ls hl => ?_)
          refine lv_goto (tgt := 4) hx hb dX5_messagesAt_36 (by decide) ?_
          exact ih (j + 1) (by omega) (by omega) ls (lv_sub hl [0, 1, 2, 3] rfl)
        · refine lv_iconst (v := nI 1) hx hb dX5_messagesAt_26 (by decide) ?_
          refine lv_goto (tgt := 31) hx hb dX5_messagesAt_27 (by decide) ?_
          refine lv_iadd hx hb dX5_messagesAt_31 ?_
          refine lv_to (y := nI ((at_c g x j) + 1)) (nI_add (at_c g x j) 1) ?_
          refine lv_to (y := nI (at_c g x (j + 1))) (by rw [at_c, if_pos c_2]) ?_
          refine lv_istore_n (lv' := [(2, .int (nI (at_c g x (j + 1)))), (3, .int (nI j)), (0, .ref (ad (0, 0, 0))), (1, .int x)]) hx hb dX5_messagesAt_32 rfl hl (by decide) rfl (fun ls hl => ?_)
          refine lv_iinc (v := nI (j + 1)) (lv' := [(3, .int (nI (j + 1))), (2, .int (nI (at_c g x (j + 1)))), (0, .ref (ad (0, 0, 0))), (1, .int x)]) hx hb dX5_messagesAt_33 hl (k := 1) rfl (nI_add j 1) (by decide) rfl (fun ls hl => ?_)
          refine lv_goto (tgt := 4) hx hb dX5_messagesAt_36 (by decide) ?_
          exact ih (j + 1) (by omega) (by omega) ls (lv_sub hl [0, 1, 2, 3] rfl)
  exact loop (M + 1) 0 (Nat.zero_le M) (by omega) ls (lv_sub hl [0, 1, 2, 3] rfl)

set_option maxHeartbeats 4000000 in
set_option maxRecDepth 100000 in
theorem c_load (l : Launch) {D : va_G} {C : g_C} {g : g_k → Nat → Int32} {ad ln : g_k → Nat} {ex : g_k → Option va_E} {B : Nat} {n : Nat} (hn : n ≤ 10) (hc : g (1, 0, 0) 4 = nI n) {M : Nat} (hM : ln (5, 0, 0) = M) (hM20 : M ≤ 20) (hs : g (0, 0, 0) 7 = nI M) {a : Nat} (ha : a < n) : Met l yX5_load wsX5_load ({ frames := 2, cells := 0, slots := 0, locals := 43 } : Room) (va_Pc [.ref (ad (0, 0, 0)), .int (nI a)] (g_S D C (lay C g ad ln ex) ad B)) (vp_Si (fun r => r = nI (at_c g (nI a) M))) 0 0 (fun _ => False) := by
  refine Met.ofW (cc := cX5_load) (maxL := 2) (ret := (some .int)) (by decide) rfl ?_
  intro p e s m args below meth c s₁ B₀ hml hv
  obtain ⟨rfl, hG, hF⟩ := hv
  have hK := hF.1
  have hN := hF.2.1
  have hB := hF.2.2.2
  have hx := B₀.exec
  have hb := B₀.bytes
  have hr := B₀.returns
  have hts := atoms_spec (ws := wsX5_load) B₀.pre
  have hown : s.vm.findClass RX5 = some m.cls := findClass_of_methodNamed B₀.named
  have hlocks := B₀.notSynchronized
  have hS : va_S (g_A B) s.heap s.heap [] := va_S.rf
  have hl := lv_entry [.ref (ad (0, 0, 0)), .int (nI a)] (n := 2) (Nat.le_of_ble_eq_true rfl)
  rw [lg_entry_eq]
  generalize (lg_sl [.ref (ad (0, 0, 0)), .int (nI a)] ++ List.replicate (2 - (lg_sl [.ref (ad (0, 0, 0)), .int (nI a)]).length) Slot.unset).toArray = ls at hl ⊢
  have hl : lv_has ls 2 [(0, .ref (ad (0, 0, 0))), (1, .int (nI a))] := hl
  refine lv_aload_n hx hb dX5_load_0 rfl (lv_at hl 0 rfl) ?_
  refine lv_iload_n hx hb dX5_load_1 rfl (lv_at hl 1 rfl) ?_
  refine va_csv (W.runV (As := [.int (nI a)]) (rest := []) ⟨hx, hb, hml, hown, hts⟩ (c_requireNode l hn hc ha) (cwV 1 hts gX5_load_X5_requireNode rfl rfl rfl (by decide +kernel) ⟨Nat.le_of_ble_eq_true rfl, Nat.le_of_ble_eq_true rfl⟩) (g_preV hF hG hS (lay_main) rfl) rfl rfl hl.1 rfl (lv_room (Nat.le_of_ble_eq_true rfl)) dX5_load_2 ⟨Nat.le_of_ble_eq_true rfl, Nat.le_of_ble_eq_true rfl⟩) (fun h_2 => ?_)
  refine lv_aload_n hx hb dX5_load_5 rfl (lv_at hl 0 rfl) ?_
  refine lv_iload_n hx hb dX5_load_6 rfl (lv_at hl 1 rfl) ?_
  refine vp_callSi (W.runV (As := [.int (nI a)]) (rest := []) ⟨hx, hb, hml, hown, hts⟩ (c_messagesAt l hM hM20 hs) (cwV 1 hts gX5_load_X5_messagesAt rfl rfl rfl (by decide +kernel) ⟨Nat.le_of_ble_eq_true rfl, Nat.le_of_ble_eq_true rfl⟩) (g_preV hF hG hS (lay_main) rfl) rfl rfl hl.1 rfl (lv_room (Nat.le_of_ble_eq_true rfl)) dX5_load_7 ⟨Nat.le_of_ble_eq_true rfl, Nat.le_of_ble_eq_true rfl⟩) (fun r_3 h_4 => ?_)
  exact W.iret (v := r_3) hx hb hr (fun t9 ht9 hW9 => ⟨_, rfl, h_4, ht9⟩) (fun q h => nomatch h) dX5_load_10

set_option maxHeartbeats 4000000 in
set_option maxRecDepth 100000 in
theorem c_isFull (l : Launch) {D : va_G} {C : g_C} {g : g_k → Nat → Int32} {ad ln : g_k → Nat} {ex : g_k → Option va_E} {B : Nat} {M : Nat} (hM : ln (5, 0, 0) = M) (hM20 : M ≤ 20) (hs : g (0, 0, 0) 7 = nI M) {a : Nat} (ha : a < 10) : Met l yX5_isFull wsX5_isFull ({ frames := 1, cells := 0, slots := 0, locals := 23 } : Room) (va_Pc [.ref (ad (0, 0, 0)), .int (nI a)] (g_S D C (lay C g ad ln ex) ad B)) (vp_Si (fun r => r = nI 0 ∨ r = nI 1)) 0 0 (fun _ => False) := by
  refine Met.ofW (cc := cX5_isFull) (maxL := 2) (ret := (some .boolean)) (by decide) rfl ?_
  intro p e s m args below meth c s₁ B₀ hml hv
  obtain ⟨rfl, hG, hF⟩ := hv
  have hK := hF.1
  have hN := hF.2.1
  have hB := hF.2.2.2
  have hx := B₀.exec
  have hb := B₀.bytes
  have hr := B₀.returns
  have hts := atoms_spec (ws := wsX5_isFull) B₀.pre
  have hown : s.vm.findClass RX5 = some m.cls := findClass_of_methodNamed B₀.named
  have hlocks := B₀.notSynchronized
  have hS : va_S (g_A B) s.heap s.heap [] := va_S.rf
  have hi5 : ∀ w ∈ wsX50, w ∈ wsX5_isFull := by decide +kernel
  have hl := lv_entry [.ref (ad (0, 0, 0)), .int (nI a)] (n := 2) (Nat.le_of_ble_eq_true rfl)
  rw [lg_entry_eq]
  generalize (lg_sl [.ref (ad (0, 0, 0)), .int (nI a)] ++ List.replicate (2 - (lg_sl [.ref (ad (0, 0, 0)), .int (nI a)]).length) Slot.unset).toArray = ls at hl ⊢
  have hl : lv_has ls 2 [(0, .ref (ad (0, 0, 0))), (1, .int (nI a))] := hl
  refine lv_aload_n hx hb dX5_isFull_0 rfl (lv_at hl 0 rfl) ?_
  refine g_get hx hb hts hi5 hown hK hG (lay_main) rfl 2 (by decide) (hts (.fieldLink RX5 27 "Satellitering" "stations" "[LSatellitering$Station;") (by decide +kernel)) rfl dX5_isFull_1 ?_
  refine lv_iload_n hx hb dX5_isFull_4 rfl (lv_at hl 1 rfl) ?_
  rcases Classical.em (ln (30, a, 0) = 1) with c_1 | c_1
  · refine o_stationY hx hb hK hG ha c_1 dX5_isFull_5 ?_
    refine lv_ifnonnull (tgt := 27) hx hb dX5_isFull_6 (by decide) ?_
    refine lv_iconst (v := nI 0) hx hb dX5_isFull_27 (by decide) ?_
    exact W.zret (v := nI 0) hx hb hr rfl (fun t9 ht9 hW9 => ⟨_, rfl, Or.inl rfl, ht9⟩) (fun q h => nomatch h) dX5_isFull_28
  · refine o_stationN hx hb hK hG ((show a < 10 by omega)) c_1 dX5_isFull_5 ?_
    refine lv_ifnonnullN hx hb dX5_isFull_6 ?_
    refine lv_aload_n hx hb dX5_isFull_9 rfl (lv_at hl 0 rfl) ?_
    refine lv_iload_n hx hb dX5_isFull_10 rfl (lv_at hl 1 rfl) ?_
    refine vp_callSi (W.runV (As := [.int (nI a)]) (rest := []) ⟨hx, hb, hml, hown, hts⟩ (c_messagesAt l hM hM20 hs) (cwV 1 hts gX5_isFull_X5_messagesAt rfl rfl rfl (by decide +kernel) ⟨Nat.le_of_ble_eq_true rfl, Nat.le_of_ble_eq_true rfl⟩) (g_preV hF hG hS (lay_main) rfl) rfl rfl hl.1 rfl (lv_room (Nat.le_of_ble_eq_true rfl)) dX5_isFull_11 ⟨Nat.le_of_ble_eq_true rfl, Nat.le_of_ble_eq_true rfl⟩) (fun r_2 h_3 => ?_)
    refine lv_aload_n hx hb dX5_isFull_14 rfl (lv_at hl 0 rfl) ?_
    refine g_get hx hb hts hi5 hown hK hG (lay_main) rfl 3 (by decide) (hts (.fieldLink RX5 31 "Satellitering" "capacities" "[I") (by decide +kernel)) rfl dX5_isFull_15 ?_
    refine lv_iload_n hx hb dX5_isFull_18 rfl (lv_at hl 1 rfl) ?_
    refine g_iald hx hb hK hG (lay_caps) ((show a < 10 by omega)) (by first | decide | omega) dX5_isFull_19 ?_
    refine lv_icmp_lt (tgt := 27) hx hb dX5_isFull_20 (by decide) (fun c_4 => ?_) (fun c_4 => ?_)
    · refine lv_iconst (v := nI 0) hx hb dX5_isFull_27 (by decide) ?_
      exact W.zret (v := nI 0) hx hb hr rfl (fun t9 ht9 hW9 => ⟨_, rfl, Or.inl rfl, ht9⟩) (fun q h => nomatch h) dX5_isFull_28
    · refine lv_iconst (v := nI 1) hx hb dX5_isFull_23 (by decide) ?_
      refine lv_goto (tgt := 28) hx hb dX5_isFull_24 (by decide) ?_
      exact W.zret (v := nI 1) hx hb hr rfl (fun t9 ht9 hW9 => ⟨_, rfl, Or.inr rfl, ht9⟩) (fun q h => nomatch h) dX5_isFull_28

set_option maxHeartbeats 4000000 in
set_option maxRecDepth 100000 in
theorem c_lookForRelay (l : Launch) {D : va_G} {C : g_C} {g : g_k → Nat → Int32} {ad ln : g_k → Nat} {ex : g_k → Option va_E} {B : Nat} {n : Nat} (hn : n ≤ 10) (hc : g (1, 0, 0) 4 = nI n) {i t kk : Nat} (hi9 : i < 10) (hlv : ln (30, i, 0) = 1) (hnow : g (0, 0, 0) 8 = nI t) (ht : t ≤ 1000000) (hrel : g (30, i, 0) 1 = (-1) ∨ ∃ r, r < n ∧ g (30, i, 0) 1 = nI r) (hkk : g (30, i, 0) 2 = nI kk) : Met l yX5_lookForRelay wsX5_lookForRelay ({ frames := 3, cells := 0, slots := 0, locals := 69 } : Room) (va_Pc [.ref (ad (0, 0, 0)), .int (nI i), .ref (ad (30, i, 0))] (g_S D C (lay C g ad ln ex) ad B)) (va_Qv (fun (g1 : g_k → Nat → Int32) => (∀ c, c ≠ (30, i, 0) → g1 c = g c) ∧ rel_P g1 n t i ∧ ∃ k, k ≤ kk + 1 ∧ g1 (30, i, 0) 2 = nI k ∧ (g (30, i, 0) 1 = (-1) → k = kk)) (fun g1 t => g_P D (lay C g1 ad ln ex) ad B t.heap) (g_A B)) 0 0 (g_A B) := by
  refine Met.ofW (cc := cX5_lookForRelay) (maxL := 7) (ret := none) (by decide) rfl ?_
  intro p e s m args below meth c s₁ B₀ hml hv
  obtain ⟨rfl, hG, hF⟩ := hv
  have hK := hF.1
  have hN := hF.2.1
  have hB := hF.2.2.2
  have hx := B₀.exec
  have hb := B₀.bytes
  have hr := B₀.returns
  have hts := atoms_spec (ws := wsX5_lookForRelay) B₀.pre
  have hown : s.vm.findClass RX5 = some m.cls := findClass_of_methodNamed B₀.named
  have hlocks := B₀.notSynchronized
  have hS : va_S (g_A B) s.heap s.heap [] := va_S.rf
  have hi2 : ∀ w ∈ wsX20, w ∈ wsX5_lookForRelay := by decide +kernel
  have hi3 : ∀ w ∈ wsX30, w ∈ wsX5_lookForRelay := by decide +kernel
  have hi5 : ∀ w ∈ wsX50, w ∈ wsX5_lookForRelay := by decide +kernel
  have hl := lv_entry [.ref (ad (0, 0, 0)), .int (nI i), .ref (ad (30, i, 0))] (n := 7) (Nat.le_of_ble_eq_true rfl)
  rw [lg_entry_eq]
  generalize (lg_sl [.ref (ad (0, 0, 0)), .int (nI i), .ref (ad (30, i, 0))] ++ List.replicate (7 - (lg_sl [.ref (ad (0, 0, 0)), .int (nI i), .ref (ad (30, i, 0))]).length) Slot.unset).toArray = ls at hl ⊢
  have hl : lv_has ls 7 [(0, .ref (ad (0, 0, 0))), (1, .int (nI i)), (2, .ref (ad (30, i, 0)))] := hl
  have rest : ∀ ls, lv_has ls 7 [(0, .ref (ad (0, 0, 0))), (1, .int (nI i)), (2, .ref (ad (30, i, 0)))] → W p l e (headSpec wsX5_lookForRelay ({ frames := 3, cells := 0, slots := 0, locals := 69 } : Room)).room s m ([.ref (ad (0, 0, 0)), .int (nI i), .ref (ad (30, i, 0))]).toArray below meth c s.heap [] 0 0 (MQ below (va_Qv (fun (g1 : g_k → Nat → Int32) => (∀ c, c ≠ (30, i, 0) → g1 c = g c) ∧ rel_P g1 n t i ∧ ∃ k, k ≤ kk + 1 ∧ g1 (30, i, 0) 2 = nI k ∧ (g (30, i, 0) 1 = (-1) → k = kk)) (fun g1 t => g_P D (lay C g1 ad ln ex) ad B t.heap) (g_A B)) ([.ref (ad (0, 0, 0)), .int (nI i), .ref (ad (30, i, 0))]).toArray s 0 0 (g_A B)) (F0 m 28 ls []) := by
    intro ls hl
    refine lv_iconst (v := (-1)) hx hb dX5_lookForRelay_28 (by decide) ?_
    refine lv_istore_n (lv' := [(3, .int (-1)), (0, .ref (ad (0, 0, 0))), (1, .int (nI i)), (2, .ref (ad (30, i, 0)))]) hx hb dX5_lookForRelay_29 rfl hl (by decide) rfl (fun ls hl => ?_)
    refine lv_iconst (v := nI 0) hx hb dX5_lookForRelay_30 (by decide) ?_
    refine lv_istore (lv' := [(4, .int (nI 0)), (3, .int (-1)), (0, .ref (ad (0, 0, 0))), (1, .int (nI i)), (2, .ref (ad (30, i, 0)))]) hx hb dX5_lookForRelay_31 hl (by decide) rfl (fun ls hl => ?_)
    refine lv_iconst (v := nI 0) hx hb dX5_lookForRelay_33 (by decide) ?_
    refine lv_istore (lv' := [(5, .int (nI 0)), (4, .int (nI 0)), (3, .int (-1)), (0, .ref (ad (0, 0, 0))), (1, .int (nI i)), (2, .ref (ad (30, i, 0)))]) hx hb dX5_lookForRelay_34 hl (by decide) rfl (fun ls hl => ?_)
    have loop : ∀ (k q L : Nat) (z : Int32), q ≤ n → n < q + k → L ≤ 360 → ((z = (-1) ∧ L = 0 ∧ ∀ o, o < q → see g i o t = false) ∨ ∃ o, o < n ∧ z = nI o ∧ 0 < L ∧ see g i o t = true) → ∀ ls, lv_has ls 7 [(5, .int (nI q)), (4, .int (nI L)), (3, .int z), (0, .ref (ad (0, 0, 0))), (1, .int (nI i)), (2, .ref (ad (30, i, 0)))] → W p l e (headSpec wsX5_lookForRelay ({ frames := 3, cells := 0, slots := 0, locals := 69 } : Room)).room s m ([.ref (ad (0, 0, 0)), .int (nI i), .ref (ad (30, i, 0))]).toArray below meth c s.heap [] 0 0 (MQ below (va_Qv (fun (g1 : g_k → Nat → Int32) => (∀ c, c ≠ (30, i, 0) → g1 c = g c) ∧ rel_P g1 n t i ∧ ∃ k, k ≤ kk + 1 ∧ g1 (30, i, 0) 2 = nI k ∧ (g (30, i, 0) 1 = (-1) → k = kk)) (fun g1 t => g_P D (lay C g1 ad ln ex) ad B t.heap) (g_A B)) ([.ref (ad (0, 0, 0)), .int (nI i), .ref (ad (30, i, 0))]).toArray s 0 0 (g_A B)) (F0 m 36 ls []) := by
      intro k
      induction k with
      | zero => intro q L z h1 h2; exact absurd h2 (by omega)
      | succ k ih =>
        intro q L z h1 h2 h3 h4 ls hl
        refine lv_iload hx hb dX5_lookForRelay_36 (lv_at hl 0 rfl) ?_
        refine lv_aload_n hx hb dX5_lookForRelay_38 rfl (lv_at hl 3 rfl) ?_
        refine g_get hx hb hts hi5 hown hK hG (lay_main) rfl 0 (by decide) (hts (.fieldLink RX5 12 "Satellitering" "sky" "LSatellitering$Sky;") (by decide +kernel)) rfl dX5_lookForRelay_39 ?_
        refine g_getN hx hb hts hi2 hown hK hG (lay_sky) rfl 4 (by decide) (va_Nw.use rfl hN.2.2.2.2.2.2.2.2.2.2.1) rfl dX5_lookForRelay_42 ?_
        refine lv_to (y := nI n) (hc) ?_
        refine lv_icmp_ge (tgt := 84) hx hb dX5_lookForRelay_45 (by decide) (fun c_1 => ?_) (fun c_1 => ?_)
        · have hq : n ≤ q := (nI_leI (by omega) (by omega)).mp c_1
          have hz : (z = (-1) ∧ ∀ o, o < n → see g i o t = false) ∨ ∃ o, o < n ∧ z = nI o ∧ see g i o t = true := by
            rcases h4 with ⟨a1, a2, a3⟩ | ⟨o, a1, a2, a3, a4⟩
            · exact Or.inl ⟨a1, fun o ho => a3 o (by omega)⟩
            · exact Or.inr ⟨o, a1, a2, a4⟩
          refine lv_iload_n hx hb dX5_lookForRelay_84 rfl (lv_at hl 2 rfl) ?_
          refine lv_iconst (v := (-1)) hx hb dX5_lookForRelay_85 (by decide) ?_
          refine lv_icmp_eq (tgt := 107) hx hb dX5_lookForRelay_86 (by decide) (fun c_2 => ?_) (fun c_2 => ?_)
          · refine lv_aload_n hx hb dX5_lookForRelay_107 rfl (lv_at hl 5 rfl) ?_
            refine lv_iload_n hx hb dX5_lookForRelay_108 rfl (lv_at hl 2 rfl) ?_
            refine o_putN hx hb hts hi3 tyX3 tyX3_ok nmX3 hown hK hG hS (cd := (30, i, 0)) (F_station ad i) (fun _ => lay_station (show i < 10 by omega) hlv) rfl 1 (by decide) (va_Nw.use rfl hN.2.2.2.2.2.2.2.1) rfl rfl (by simp [upd]) (by simp) dX5_lookForRelay_109 (fun H locs hG hS => ?_)
            have e20 : ∀ i, (g2 g (30, i, 0) 1 z) (20, i, 0) = g (20, i, 0) := fun i => by rw [g2_ne _ _ _ (by intro h9; cases h9)]
            exact W.vret hx hb hr (fun t9 ht9 hW9 => ⟨⟨(g2 g (30, i, 0) 1 z), rfl, ⟨fun c hc9 => by rw [g2_ne _ _ _ hc9], (by unfold rel_P; rcases hz with ⟨a1, a2⟩ | ⟨o, a1, a2, a3⟩; exact Or.inl ⟨by rw [g2_self, upd_self]; exact a1, fun o ho => by rw [see_20 (g := g) (g1 := (g2 g (30, i, 0) 1 z)) e20]; exact a2 o ho⟩; exact Or.inr ⟨o, a1, by rw [g2_self, upd_self]; exact a2, by rw [see_20 (g := g) (g1 := (g2 g (30, i, 0) 1 z)) e20]; exact a3⟩), kk, Nat.le_succ kk, (by rw [g2_self, upd_ne _ _ (by decide)]; exact hkk), fun _ => rfl⟩, by show g_P _ _ _ _ t9.heap; rw [ht9]; exact hG⟩, hS.F ht9⟩) hS.2.2 dX5_lookForRelay_112
          · refine lv_aload_n hx hb dX5_lookForRelay_89 rfl (lv_at hl 5 rfl) ?_
            refine g_getN hx hb hts hi3 hown hK hG (lay_station (show i < 10 by omega) hlv) rfl 1 (by decide) (va_Nw.use rfl hN.2.2.2.2.2.2.2.1) rfl dX5_lookForRelay_90 ?_
            refine lv_iconst (v := (-1)) hx hb dX5_lookForRelay_93 (by decide) ?_
            refine lv_icmp_eq (tgt := 107) hx hb dX5_lookForRelay_94 (by decide) (fun c_3 => ?_) (fun c_3 => ?_)
            · refine lv_aload_n hx hb dX5_lookForRelay_107 rfl (lv_at hl 5 rfl) ?_
              refine lv_iload_n hx hb dX5_lookForRelay_108 rfl (lv_at hl 2 rfl) ?_
              refine o_putN hx hb hts hi3 tyX3 tyX3_ok nmX3 hown hK hG hS (cd := (30, i, 0)) (F_station ad i) (fun _ => lay_station (show i < 10 by omega) hlv) rfl 1 (by decide) (va_Nw.use rfl hN.2.2.2.2.2.2.2.1) rfl rfl (by simp [upd]) (by simp) dX5_lookForRelay_109 (fun H locs hG hS => ?_)
              have e20 : ∀ i, (g2 g (30, i, 0) 1 z) (20, i, 0) = g (20, i, 0) := fun i => by rw [g2_ne _ _ _ (by intro h9; cases h9)]
              exact W.vret hx hb hr (fun t9 ht9 hW9 => ⟨⟨(g2 g (30, i, 0) 1 z), rfl, ⟨fun c hc9 => by rw [g2_ne _ _ _ hc9], (by unfold rel_P; rcases hz with ⟨a1, a2⟩ | ⟨o, a1, a2, a3⟩; exact Or.inl ⟨by rw [g2_self, upd_self]; exact a1, fun o ho => by rw [see_20 (g := g) (g1 := (g2 g (30, i, 0) 1 z)) e20]; exact a2 o ho⟩; exact Or.inr ⟨o, a1, by rw [g2_self, upd_self]; exact a2, by rw [see_20 (g := g) (g1 := (g2 g (30, i, 0) 1 z)) e20]; exact a3⟩), kk, Nat.le_succ kk, (by rw [g2_self, upd_ne _ _ (by decide)]; exact hkk), fun _ => rfl⟩, by show g_P _ _ _ _ t9.heap; rw [ht9]; exact hG⟩, hS.F ht9⟩) hS.2.2 dX5_lookForRelay_112
            · refine lv_aload_n hx hb dX5_lookForRelay_97 rfl (lv_at hl 5 rfl) ?_
              refine lv_dup hx hb dX5_lookForRelay_98 rfl ?_
              refine g_getN hx hb hts hi3 hown hK hG (lay_station (show i < 10 by omega) hlv) rfl 2 (by decide) (va_Nw.use rfl hN.2.2.2.2.2.2.2.2.1) rfl dX5_lookForRelay_99 ?_
              refine lv_to (y := nI kk) (hkk) ?_
              refine lv_iconst (v := nI 1) hx hb dX5_lookForRelay_102 (by decide) ?_
              refine lv_iadd hx hb dX5_lookForRelay_103 ?_
              refine lv_to (y := nI (kk + 1)) (nI_add kk 1) ?_
              refine o_putN hx hb hts hi3 tyX3 tyX3_ok nmX3 hown hK hG hS (cd := (30, i, 0)) (F_station ad i) (fun _ => lay_station (show i < 10 by omega) hlv) rfl 2 (by decide) (va_Nw.use rfl hN.2.2.2.2.2.2.2.2.1) rfl rfl (by simp [upd]) (by simp) dX5_lookForRelay_104 (fun H locs hG hS => ?_)
              refine lv_aload_n hx hb dX5_lookForRelay_107 rfl (lv_at hl 5 rfl) ?_
              refine lv_iload_n hx hb dX5_lookForRelay_108 rfl (lv_at hl 2 rfl) ?_
              refine o_putN hx hb hts hi3 tyX3 tyX3_ok nmX3 hown hK hG hS (cd := (30, i, 0)) (F_station ad i) (fun _ => lay_station (show i < 10 by omega) hlv) rfl 1 (by decide) (va_Nw.use rfl hN.2.2.2.2.2.2.2.1) rfl rfl (by simp [upd]) (by simp) dX5_lookForRelay_109 (fun H locs hG hS => ?_)
              have e20 : ∀ i, (g2 (g2 g (30, i, 0) 2 (nI (kk + 1))) (30, i, 0) 1 z) (20, i, 0) = g (20, i, 0) := fun i => by rw [g2_ne _ _ _ (by intro h9; cases h9), g2_ne _ _ _ (by intro h9; cases h9)]
              exact W.vret hx hb hr (fun t9 ht9 hW9 => ⟨⟨(g2 (g2 g (30, i, 0) 2 (nI (kk + 1))) (30, i, 0) 1 z), rfl, ⟨fun c hc9 => by rw [g2_ne _ _ _ hc9, g2_ne _ _ _ hc9], (by unfold rel_P; rcases hz with ⟨a1, a2⟩ | ⟨o, a1, a2, a3⟩; exact Or.inl ⟨by rw [g2_self, upd_self]; exact a1, fun o ho => by rw [see_20 (g := g) (g1 := (g2 (g2 g (30, i, 0) 2 (nI (kk + 1))) (30, i, 0) 1 z)) e20]; exact a2 o ho⟩; exact Or.inr ⟨o, a1, by rw [g2_self, upd_self]; exact a2, by rw [see_20 (g := g) (g1 := (g2 (g2 g (30, i, 0) 2 (nI (kk + 1))) (30, i, 0) 1 z)) e20]; exact a3⟩), kk + 1, Nat.le_refl _, (by rw [g2_self, upd_ne _ _ (by decide), g2_self, upd_self]), fun h9 => absurd h9 c_3⟩, by show g_P _ _ _ _ t9.heap; rw [ht9]; exact hG⟩, hS.F ht9⟩) hS.2.2 dX5_lookForRelay_112
        · have hq : q < n := Nat.lt_of_not_le (fun h9 => c_1 ((nI_leI (by omega) (by omega)).mpr h9))
          refine lv_aload_n hx hb dX5_lookForRelay_48 rfl (lv_at hl 3 rfl) ?_
          refine g_get hx hb hts hi5 hown hK hG (lay_main) rfl 0 (by decide) (hts (.fieldLink RX5 12 "Satellitering" "sky" "LSatellitering$Sky;") (by decide +kernel)) rfl dX5_lookForRelay_49 ?_
          refine lv_iload_n hx hb dX5_lookForRelay_52 rfl (lv_at hl 4 rfl) ?_
          refine lv_iload hx hb dX5_lookForRelay_53 (lv_at hl 0 rfl) ?_
          refine lv_aload_n hx hb dX5_lookForRelay_55 rfl (lv_at hl 3 rfl) ?_
          refine g_get hx hb hts hi5 hown hK hG (lay_main) rfl 8 (by decide) (hts (.fieldLink RX5 51 "Satellitering" "now" "I") (by decide +kernel)) rfl dX5_lookForRelay_56 ?_
          refine lv_to (y := nI t) (hnow) ?_
          refine vp_callSi (W.runV (As := [.int (nI i), .int (nI q), .int (nI t)]) (rest := []) ⟨hx, hb, hml, hown, hts⟩ (c_contactLength l (show i < 10 by omega) (show q < 32 by omega) (show t + 360 < 2 ^ 31 by omega)) (cwV 3 hts gX5_lookForRelay_X2_contactLength rfl rfl rfl (by decide +kernel) ⟨Nat.le_of_ble_eq_true rfl, Nat.le_of_ble_eq_true rfl⟩) (g_preV hF hG hS (lay_sky) rfl) rfl rfl hl.1 rfl (lv_room (Nat.le_of_ble_eq_true rfl)) dX5_lookForRelay_59 ⟨Nat.le_of_ble_eq_true rfl, Nat.le_of_ble_eq_true rfl⟩) (fun r_4 h_5 => ?_)
          obtain ⟨k0, k1, k2, k3, k4⟩ := h_5
          refine lv_to (y := nI k0) (k4) ?_
          refine lv_istore (lv' := [(6, .int (nI k0)), (5, .int (nI q)), (4, .int (nI L)), (3, .int z), (0, .ref (ad (0, 0, 0))), (1, .int (nI i)), (2, .ref (ad (30, i, 0)))]) hx hb dX5_lookForRelay_62 hl (by decide) rfl (fun ls hl => ?_)
          refine lv_iload hx hb dX5_lookForRelay_64 (lv_at hl 0 rfl) ?_
          refine lv_iload hx hb dX5_lookForRelay_66 (lv_at hl 2 rfl) ?_
          refine lv_icmp_le (tgt := 78) hx hb dX5_lookForRelay_68 (by decide) (fun c_6 => ?_) (fun c_6 => ?_)
          · have hle : k0 ≤ L := (nI_leI (by omega) (by omega)).mp c_6
            refine lv_iinc (v := nI (q + 1)) (lv' := [(5, .int (nI (q + 1))), (6, .int (nI k0)), (4, .int (nI L)), (3, .int z), (0, .ref (ad (0, 0, 0))), (1, .int (nI i)), (2, .ref (ad (30, i, 0)))]) hx hb dX5_lookForRelay_78 hl (k := 1) rfl (nI_add q 1) (by decide) rfl (fun ls hl => ?_)
            refine lv_goto (tgt := 36) hx hb dX5_lookForRelay_81 (by decide) ?_
            refine ih (q + 1) L z (by omega) (by omega) h3 ?_ ls (lv_sub hl [0, 2, 3, 4, 5, 6] rfl)
            rcases h4 with ⟨a1, a2, a3⟩ | a1
            · refine Or.inl ⟨a1, a2, fun o ho => ?_⟩
              rcases Nat.lt_or_eq_of_le (Nat.le_of_lt_succ ho) with h9 | h9
              · exact a3 o h9
              · rw [h9]; have h8 := k3 (by omega); rw [show k0 = 0 by omega] at h8; exact h8
            · exact Or.inr a1
          · have hgt : L < k0 := Nat.lt_of_not_le (fun h9 => c_6 ((nI_leI (by omega) (by omega)).mpr h9))
            refine lv_iload hx hb dX5_lookForRelay_71 (lv_at hl 0 rfl) ?_
            refine lv_istore (lv' := [(4, .int (nI k0)), (6, .int (nI k0)), (5, .int (nI q)), (3, .int z), (0, .ref (ad (0, 0, 0))), (1, .int (nI i)), (2, .ref (ad (30, i, 0)))]) hx hb dX5_lookForRelay_73 hl (by decide) rfl (fun ls hl => ?_)
            refine lv_iload hx hb dX5_lookForRelay_75 (lv_at hl 2 rfl) ?_
            refine lv_istore_n (lv' := [(3, .int (nI q)), (4, .int (nI k0)), (6, .int (nI k0)), (5, .int (nI q)), (0, .ref (ad (0, 0, 0))), (1, .int (nI i)), (2, .ref (ad (30, i, 0)))]) hx hb dX5_lookForRelay_77 rfl hl (by decide) rfl (fun ls hl => ?_)
            refine lv_iinc (v := nI (q + 1)) (lv' := [(5, .int (nI (q + 1))), (3, .int (nI q)), (4, .int (nI k0)), (6, .int (nI k0)), (0, .ref (ad (0, 0, 0))), (1, .int (nI i)), (2, .ref (ad (30, i, 0)))]) hx hb dX5_lookForRelay_78 hl (k := 3) rfl (nI_add q 1) (by decide) rfl (fun ls hl => ?_)
            refine lv_goto (tgt := 36) hx hb dX5_lookForRelay_81 (by decide) ?_
            exact ih (q + 1) k0 _ (by omega) (by omega) k1 (Or.inr ⟨q, hq, rfl, by omega, k2 0 (by omega)⟩) ls (lv_sub hl [0, 2, 1, 4, 5, 6] rfl)
    exact loop (n + 1) 0 0 _ (Nat.zero_le n) (by omega) (by decide) (Or.inl ⟨rfl, rfl, fun o ho => absurd ho (Nat.not_lt_zero o)⟩) ls (lv_sub hl [0, 1, 2, 3, 4, 5] rfl)
  refine lv_aload_n hx hb dX5_lookForRelay_0 rfl (lv_at hl 2 rfl) ?_
  refine g_getN hx hb hts hi3 hown hK hG (lay_station (show i < 10 by omega) hlv) rfl 1 (by decide) (va_Nw.use rfl hN.2.2.2.2.2.2.2.1) rfl dX5_lookForRelay_1 ?_
  refine lv_iconst (v := (-1)) hx hb dX5_lookForRelay_4 (by decide) ?_
  refine lv_icmp_eq (tgt := 28) hx hb dX5_lookForRelay_5 (by decide) (fun c_7 => ?_) (fun c_7 => ?_)
  · exact rest ls (lv_sub hl [0, 1, 2] rfl)
  · obtain ⟨r0, hr0, er0⟩ : ∃ r0, r0 < n ∧ g (30, i, 0) 1 = nI r0 := hrel.resolve_left c_7
    refine lv_aload_n hx hb dX5_lookForRelay_8 rfl (lv_at hl 0 rfl) ?_
    refine g_get hx hb hts hi5 hown hK hG (lay_main) rfl 0 (by decide) (hts (.fieldLink RX5 12 "Satellitering" "sky" "LSatellitering$Sky;") (by decide +kernel)) rfl dX5_lookForRelay_9 ?_
    refine lv_iload_n hx hb dX5_lookForRelay_12 rfl (lv_at hl 1 rfl) ?_
    refine lv_aload_n hx hb dX5_lookForRelay_13 rfl (lv_at hl 2 rfl) ?_
    refine g_getN hx hb hts hi3 hown hK hG (lay_station (show i < 10 by omega) hlv) rfl 1 (by decide) (va_Nw.use rfl hN.2.2.2.2.2.2.2.1) rfl dX5_lookForRelay_14 ?_
    refine lv_to (y := nI r0) (er0) ?_
    refine lv_aload_n hx hb dX5_lookForRelay_17 rfl (lv_at hl 0 rfl) ?_
    refine g_get hx hb hts hi5 hown hK hG (lay_main) rfl 8 (by decide) (hts (.fieldLink RX5 51 "Satellitering" "now" "I") (by decide +kernel)) rfl dX5_lookForRelay_18 ?_
    refine lv_to (y := nI t) (hnow) ?_
    refine vp_callSi (W.runV (As := [.int (nI i), .int (nI r0), .int (nI t)]) (rest := []) ⟨hx, hb, hml, hown, hts⟩ (c_inContact l (show i < 10 by omega) (show r0 < 32 by omega) (show t < 2 ^ 31 by omega)) (cwV 3 hts gX5_lookForRelay_X2_inContact rfl rfl rfl (by decide +kernel) ⟨Nat.le_of_ble_eq_true rfl, Nat.le_of_ble_eq_true rfl⟩) (g_preV hF hG hS (lay_sky) rfl) rfl rfl hl.1 rfl (lv_room (Nat.le_of_ble_eq_true rfl)) dX5_lookForRelay_21 ⟨Nat.le_of_ble_eq_true rfl, Nat.le_of_ble_eq_true rfl⟩) (fun r_8 h_9 => ?_)
    refine lv_if_eq (tgt := 28) hx hb dX5_lookForRelay_24 (by decide) (fun c_10 => ?_) (fun c_10 => ?_)
    · exact rest ls (lv_sub hl [0, 1, 2] rfl)
    · have hs : see g i r0 t = true := by
        by_cases h9 : see g i r0 t = true
        · exact h9
        · exact absurd (by rw [show r_8 = _ from h_9, if_neg h9]; exact nI_0) c_10
      exact W.vret hx hb hr (fun t9 ht9 hW9 => ⟨⟨g, rfl, ⟨fun _ _ => rfl, Or.inr ⟨r0, hr0, er0, hs⟩, kk, Nat.le_succ kk, hkk, fun _ => rfl⟩, by show g_P _ _ _ _ t9.heap; rw [ht9]; exact hG⟩, hS.F ht9⟩) hS.2.2 dX5_lookForRelay_27
