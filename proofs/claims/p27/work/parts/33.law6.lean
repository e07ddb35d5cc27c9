/-- the main loop's state -/
def ib_P (g : g_k → Nat → Int32) (ln : g_k → Nat) (S N M t : Nat) (src to : Nat → Nat) : Prop := g (1, 0, 0) 4 = nI N ∧ sk1 g N ∧ (∀ i, i < 10 → (ln (30, i, 0) = 1 ↔ i < S)) ∧ (∀ i, i < S → rlw_P g N t i) ∧ (∀ a b t, a < S → b < S → see g a b t = false) ∧ (∀ i, S ≤ i → i < N → ∃ c, 1 ≤ c ∧ c ≤ 9 ∧ g (4, 0, 0) i = nI c) ∧ ln (5, 0, 0) = M ∧ g (0, 0, 0) 7 = nI M ∧ g (0, 0, 0) 8 = nI t ∧ ∀ j, j < M → ln (43, j, 0) = to j ∧ to j < S ∧ src j < S ∧ src j ≠ to j ∧ mok g ln N t j (src j) (to j)
theorem ib_ia {g : g_k → Nat → Int32} {ln : g_k → Nat} {S N : Nat} {src to : Nat → Nat} (h : ia_P g ln S N) (hN : S < N) : ib_P g ln S N 0 0 src to := by
  obtain ⟨a1, a2, a3, a4, a5, a6, a7, a8, a9, a10, a11, a12⟩ := h
  exact ⟨a1, a2, fun i hi => by rw [a8 i hi]; omega, fun i hi => a10 i (by omega) hi, fun a b t ha hb => a11 a b t (by omega) (by omega) ha hb, a12, a7, a5, a6, fun j hj => absurd hj (Nat.not_lt_zero j)⟩
theorem ib_cg {g g1 : g_k → Nat → Int32} {ln : g_k → Nat} {S N M t : Nat} {src to : Nat → Nat} (h : ib_P g ln S N M t src to) (hg : ∀ c, c ≠ (10, 0, 0) → c ≠ (4, 0, 0) → g1 c = g c) (h4 : ∀ i, S ≤ i → i < N → ∃ c, 1 ≤ c ∧ c ≤ 9 ∧ g1 (4, 0, 0) i = nI c) : ib_P g1 ln S N M t src to := by
  obtain ⟨a1, a2, a3, a4, a5, a6, a7, a8, a9, a10⟩ := h
  have e20 : ∀ i, g1 (20, i, 0) = g (20, i, 0) := fun i => hg _ (k3 (Or.inl (by decide))) (k3 (Or.inl (by decide)))
  refine ⟨by rw [hg _ (by decide) (by decide)]; exact a1, sk1_cong a2 e20, a3, fun i hi => rlw_cong (a4 i hi) (hg _ (k3 (Or.inl (by decide))) (k3 (Or.inl (by decide)))), fun a b t ha hb => (see_20 (g := g) (g1 := g1) e20 a b t).trans (a5 a b t ha hb), h4, a7, by rw [hg _ (by decide) (by decide)]; exact a8, by rw [hg _ (by decide) (by decide)]; exact a9, fun j hj => ?_⟩
  obtain ⟨b1, b2, b3, b4, b5⟩ := a10 j hj
  exact ⟨b1, b2, b3, b4, mok_cong b5 e20 (hg _ (k3 (Or.inl (by decide))) (k3 (Or.inl (by decide)))) (hg _ (k3 (Or.inl (by decide))) (k3 (Or.inl (by decide)))) (hg _ (k3 (Or.inl (by decide))) (k3 (Or.inl (by decide)))) rfl rfl⟩
theorem ib_10 {g g1 : g_k → Nat → Int32} {ln : g_k → Nat} {S N M t : Nat} {src to : Nat → Nat} (h : ib_P g ln S N M t src to) (hg : ∀ c, c ≠ (10, 0, 0) → g1 c = g c) : ib_P g1 ln S N M t src to := ib_cg h (fun c c1 _ => hg c c1) (by rw [hg _ (by decide)]; exact h.2.2.2.2.2.1)
theorem ib_pass {g g1 : g_k → Nat → Int32} {ad ln ad1 ln1 : g_k → Nat} {S N M t t1 : Nat} {src to : Nat → Nat} {r : Int32} (h : ib_P g ln S N M t src to) (hp : pm_P g ad ln N S M t t1 src to r g1 ad1 ln1) : ib_P g1 ln1 S N M t1 src to := by
  obtain ⟨a1, a2, a3, a4, a5, a6, a7, a8, a9, a10⟩ := h
  obtain ⟨⟨f1, f2, f3⟩, p7, p8, pm, pr, -⟩ := hp
  have e20 : ∀ i, g1 (20, i, 0) = g (20, i, 0) := fun i => f1 _ (Or.inl (show (20 : Nat) < 30 by decide)) (k3 (Or.inl (by decide)))
  refine ⟨by rw [f1 _ (Or.inl (by decide)) (by decide)]; exact a1, sk1_cong a2 e20, fun i hi => by rw [f3 _ (show (30 : Nat) ≠ 31 by decide) (show (30 : Nat) ≠ 41 by decide) (show (30 : Nat) ≠ 42 by decide)]; exact a3 i hi, fun i hi => (pr i hi).2, fun a b t ha hb => (see_20 (g := g) (g1 := g1) e20 a b t).trans (a5 a b t ha hb), by rw [f1 _ (Or.inl (by decide)) (by decide)]; exact a6, by rw [f3 _ (by decide) (by decide) (by decide)]; exact a7, p7.trans a8, p8, fun j hj => ?_⟩
  obtain ⟨b1, b2, b3, b4, b5⟩ := a10 j hj
  exact ⟨by rw [f3 _ (show (43 : Nat) ≠ 31 by decide) (show (43 : Nat) ≠ 41 by decide) (show (43 : Nat) ≠ 42 by decide)]; exact b1, b2, b3, b4, pm j hj⟩
theorem ib_send {g : g_k → Nat → Int32} {ln : g_k → Nat} {S N M t : Nat} {src to : Nat → Nat} {a b : Nat} (h : ib_P g ln S N M t src to) (ha : a < S) (hb : b < S) (hab : a ≠ b) (hS : S ≤ N) : ib_P (g2 (g_send g M (nI a) (nI b)) (0, 0, 0) 7 (nI (M + 1))) (ln_send ln M b) S N (M + 1) t (va_up src M a) (va_up to M b) := by
  obtain ⟨a1, a2, a3, a4, a5, a6, a7, a8, a9, a10⟩ := h
  have e0 : ∀ c : g_k, c.1 < 40 → c ≠ (0, 0, 0) → g2 (g_send g M (nI a) (nI b)) (0, 0, 0) 7 (nI (M + 1)) c = g c := fun c hc h0 => (g2_ne _ _ _ h0).trans (g_send_ne g (fun z => by rw [z] at hc; exact absurd hc (show ¬ (40 : Nat) < 40 by decide)) (fun z => by rw [z] at hc; exact absurd hc (show ¬ (41 : Nat) < 40 by decide)) (fun z => by rw [z] at hc; exact absurd hc (show ¬ (42 : Nat) < 40 by decide)))
  have l0 : ∀ c : g_k, c.1 < 40 → c ≠ (5, 0, 0) → ln_send ln M b c = ln c := fun c hc h5 => ln_send_ne ln h5 (fun z => by rw [z] at hc; exact absurd hc (show ¬ (41 : Nat) < 40 by decide)) (fun z => by rw [z] at hc; exact absurd hc (show ¬ (42 : Nat) < 40 by decide)) (fun z => by rw [z] at hc; exact absurd hc (show ¬ (43 : Nat) < 40 by decide))
  have e20 : ∀ i, g2 (g_send g M (nI a) (nI b)) (0, 0, 0) 7 (nI (M + 1)) (20, i, 0) = g (20, i, 0) := fun i => e0 _ (show (20 : Nat) < 40 by decide) (k3 (Or.inl (by decide)))
  have eo : ∀ c : g_k, 40 ≤ c.1 → c.2.1 ≠ M → g2 (g_send g M (nI a) (nI b)) (0, 0, 0) 7 (nI (M + 1)) c = g c := fun c hc hM => (g2_ne _ _ _ (fun z => by rw [z] at hc; exact absurd hc (by decide))).trans (g_send_ne g (fun z => hM (by rw [z])) (fun z => hM (by rw [z])) (fun z => hM (by rw [z])))
  have lo : ∀ c : g_k, 40 ≤ c.1 → c.2.1 ≠ M → ln_send ln M b c = ln c := fun c hc hM => ln_send_ne ln (fun z => by rw [z] at hc; exact absurd hc (by decide)) (fun z => hM (by rw [z])) (fun z => hM (by rw [z])) (fun z => hM (by rw [z]))
  have e00 : g2 (g_send g M (nI a) (nI b)) (0, 0, 0) 7 (nI (M + 1)) (0, 0, 0) = upd (g (0, 0, 0)) 7 (nI (M + 1)) := by rw [g2_self, g_send_ne g (k3 (Or.inl (by decide))) (k3 (Or.inl (by decide))) (k3 (Or.inl (by decide)))]
  refine ⟨by rw [e0 _ (by decide) (by decide)]; exact a1, sk1_cong a2 e20, fun i hi => by rw [l0 _ (show (30 : Nat) < 40 by decide) (k3 (Or.inl (by decide)))]; exact a3 i hi, fun i hi => rlw_cong (a4 i hi) (e0 _ (show (30 : Nat) < 40 by decide) (k3 (Or.inl (by decide)))), fun a b t ha hb => (see_20 (g := g) e20 a b t).trans (a5 a b t ha hb), by rw [e0 _ (by decide) (by decide)]; exact a6, by simp [ln_send], by rw [e00, upd_self], by rw [e00, upd_ne _ _ (by decide)]; exact a9, fun j hj => ?_⟩
  by_cases q : j = M
  · subst q
    rw [va_up_self, va_up_self]
    refine ⟨by simp [ln_send], hb, ha, hab, 0, fun _ => a, fun _ => 0, ⟨?_, ?_, ?_, fun z => absurd z (Nat.lt_irrefl 0), 0, Nat.zero_le t, ?_⟩, ⟨Nat.zero_le t, Nat.zero_le _, ?_, ?_, 0, ?_⟩, rfl, (show a < N by omega), fun i hi => absurd hi (Nat.not_lt_zero i), fun i hi => absurd hi (Nat.not_lt_zero _)⟩
    · rw [g2_ne _ _ _ (k3 (Or.inl (by decide)))]; simp [g_send]
    · rw [g2_ne _ _ _ (k3 (Or.inl (by decide)))]; simp [g_send]
    · rw [g2_ne _ _ _ (k3 (Or.inl (by decide)))]; simp [g_send, nI_0]
    · rw [g2_ne _ _ _ (k3 (Or.inl (by decide)))]; simp [g_send, nI_0]
    · simp [ln_send]
    · simp [ln_send]
    · simp [ln_send]
  · rw [va_up_ne _ _ q, va_up_ne _ _ q]
    obtain ⟨b1, b2, b3, b4, b5⟩ := a10 j (by omega)
    exact ⟨by rw [lo _ (show (40 : Nat) ≤ 43 by decide) q]; exact b1, b2, b3, b4, mok_cong b5 e20 (eo _ (show (40 : Nat) ≤ 40 by decide) q) (eo _ (show (40 : Nat) ≤ 41 by decide) q) (eo _ (show (40 : Nat) ≤ 42 by decide) q) (lo _ (show (40 : Nat) ≤ 41 by decide) q) (lo _ (show (40 : Nat) ≤ 42 by decide) q)⟩
/-- minus c -/
def ngI (c : Nat) : Int32 := nI 0 - nI c
theorem ng_1 (c : Nat) : ngI c - nI 1 = ngI (c + 1) := by
  unfold ngI
  rw [← nI_add, Int32.sub_sub]
theorem ng_0 (c : Nat) : ngI c - nI 0 = ngI c := by
  rw [nI_0, Int32.sub_zero]
theorem ng_p (c x : Nat) : ngI c + nI x + nI 1 = ngI c + nI (x + 1) := by rw [Int32.add_assoc, nI_add]
theorem ng_p0 (c x : Nat) : ngI c + nI x + nI 0 = ngI c + nI x := by rw [nI_0, Int32.add_zero]
theorem ng_e (c q : Nat) : nI q = ngI c + nI (c + q) := by
  unfold ngI
  rw [nI_0, Int32.zero_sub, ← nI_add, ← Int32.add_assoc, Int32.add_left_neg, Int32.zero_add]
theorem b_cnt_mono {x y : Int32} : ∀ n, (∀ i, i < n → bt x i = true → bt y i = true) → b_cnt x n ≤ b_cnt y n
  | 0, _ => Nat.le_refl 0
  | n + 1, h => by
    have ih := b_cnt_mono n (fun i hi => h i (by omega))
    rw [b_cnt, b_cnt]
    by_cases q : bt x n = true
    · rw [if_pos q, if_pos (h n (by omega) q)]
      omega
    · rw [if_neg q]
      omega
theorem b_cnt_lim {x : Int32} {m : Nat} : ∀ n, (∀ i, i < n → bt x i = true → i < m) → b_cnt x n ≤ m
  | 0, _ => Nat.zero_le m
  | n + 1, h => by
    have ih := b_cnt_lim n (fun i hi => h i (by omega))
    have h2 := b_cnt_le x n
    rw [b_cnt]
    by_cases q : bt x n = true
    · have := h n (by omega) q
      rw [if_pos q]
      omega
    · rw [if_neg q]
      omega
theorem b_cnt_pos {x : Int32} {a : Nat} : ∀ n, a < n → bt x a = true → 1 ≤ b_cnt x n
  | 0, h, _ => absurd h (Nat.not_lt_zero a)
  | n + 1, h, ha => by
    rw [b_cnt]
    by_cases q : a = n
    · rw [← q, if_pos ha]
      omega
    · have := b_cnt_pos n (by omega) ha
      omega
theorem b_cnt_two {x : Int32} {a b : Nat} : ∀ n, a < n → b < n → a ≠ b → bt x a = true → bt x b = true → 2 ≤ b_cnt x n
  | 0, h, _, _, _, _ => absurd h (Nat.not_lt_zero a)
  | n + 1, h, h', hab, ha, hb => by
    rw [b_cnt]
    by_cases q : a = n
    · have := b_cnt_pos (x := x) n (show b < n by omega) hb
      rw [← q, if_pos ha, q]
      omega
    · by_cases q2 : b = n
      · have := b_cnt_pos (x := x) n (show a < n by omega) ha
        rw [← q2, if_pos hb, q2]
        omega
      · have := b_cnt_two n (by omega) (by omega) hab ha hb
        omega
theorem sp_mono {g : g_k → Nat → Int32} {n a t j k : Nat} (h : j ≤ k) : b_cnt (flI g n a t j) 10 ≤ b_cnt (flI g n a t k) 10 := b_cnt_mono 10 (fun i _ hx => fl_le k h hx)
theorem sp_lim {g : g_k → Nat → Int32} {n a t k : Nat} (hn : n ≤ 10) (hk : sk1 g n) (ha : a < n) : b_cnt (flI g n a t k) 10 ≤ n := b_cnt_lim 10 (fun i hi hx => fl_lt hn hk ha k i (by omega) hx)
theorem sp_one {g : g_k → Nat → Int32} {n a t : Nat} (ha : a < 10) : b_cnt (flI g n a t 0) 10 = 1 := by
  have : ∀ a, a < 10 → b_cnt (nI 1 <<< (nI a &&& 31)) 10 = 1 := by decide +kernel
  exact this a ha
