/-! Floods, and the earliest of all first: nothing of the machine. -/
/-- x, and what the nodes of x below n see at minute t -/
def flN (g : g_k → Nat → Int32) (t : Nat) (x : Int32) : Nat → Int32
  | 0 => x
  | k + 1 => if bt x k = true then flN g t x k ||| g (20, k, 0) (t % 360) else flN g t x k
theorem flN_bt (g : g_k → Nat → Int32) (t : Nat) (x : Int32) : ∀ n i : Nat, bt (flN g t x n) i = true ↔ (bt x i = true ∨ ∃ k, k < n ∧ bt x k = true ∧ see g k i t = true)
  | 0, i => by
    constructor
    · intro h
      exact Or.inl h
    · rintro (h | ⟨k, h1, -⟩)
      · exact h
      · exact absurd h1 (Nat.not_lt_zero k)
  | n + 1, i => by
    have ih := flN_bt g t x n i
    rw [flN]
    by_cases h : bt x n = true
    · rw [if_pos h, b_or, Bool.or_eq_true, ih]
      constructor
      · rintro ((h1 | ⟨k, h1, h2, h3⟩) | h1)
        · exact Or.inl h1
        · exact Or.inr ⟨k, by omega, h2, h3⟩
        · exact Or.inr ⟨n, by omega, h, h1⟩
      · rintro (h1 | ⟨k, h1, h2, h3⟩)
        · exact Or.inl (Or.inl h1)
        · by_cases hk : k = n
          · subst hk
            exact Or.inr h3
          · exact Or.inl (Or.inr ⟨k, by omega, h2, h3⟩)
    · rw [if_neg h, ih]
      constructor
      · rintro (h1 | ⟨k, h1, h2, h3⟩)
        · exact Or.inl h1
        · exact Or.inr ⟨k, by omega, h2, h3⟩
      · rintro (h1 | ⟨k, h1, h2, h3⟩)
        · exact Or.inl h1
        · by_cases hk : k = n
          · subst hk
            exact absurd h2 h
          · exact Or.inr ⟨k, by omega, h2, h3⟩
/-- where something can be k minutes after it was at a at minute t -/
def flI (g : g_k → Nat → Int32) (n a t : Nat) : Nat → Int32
  | 0 => nI 1 <<< (nI a &&& 31)
  | k + 1 => flN g (t + k) (flI g n a t k) n
def fl (g : g_k → Nat → Int32) (n a t k v : Nat) : Prop := bt (flI g n a t k) v = true
theorem fl_0 {g : g_k → Nat → Int32} {n a t v : Nat} (ha : a < 32) (hv : v < 32) : fl g n a t 0 v ↔ v = a := by
  unfold fl flI
  rw [b_bit ha hv]
  simp
theorem fl_s {g : g_k → Nat → Int32} {n a t k v : Nat} : fl g n a t (k + 1) v ↔ (fl g n a t k v ∨ ∃ u, u < n ∧ fl g n a t k u ∧ see g u v (t + k) = true) := flN_bt g (t + k) (flI g n a t k) n v
theorem fl_le {g : g_k → Nat → Int32} {n a t v j : Nat} : ∀ k : Nat, j ≤ k → fl g n a t j v → fl g n a t k v
  | 0, h, h2 => by
    have : j = 0 := by omega
    subst this
    exact h2
  | k + 1, h, h2 => by
    by_cases hj : j = k + 1
    · subst hj
      exact h2
    · exact fl_s.mpr (Or.inl (fl_le k (by omega) h2))
/-- from a minute later on -/
theorem fl_later {g : g_k → Nat → Int32} {n a t v : Nat} (ha : a < 32) : ∀ k : Nat, v < 32 → n ≤ 32 → fl g n a (t + 1) k v → fl g n a t (k + 1) v := by
  intro k
  induction k generalizing v with
  | zero =>
    intro hv _ h
    rw [fl_0 ha hv] at h
    subst h
    exact fl_le 1 (Nat.zero_le 1) ((fl_0 ha hv).mpr rfl)
  | succ k ih =>
    intro hv hn h
    rcases fl_s.mp h with h | ⟨u, h1, h2, h3⟩
    · exact fl_s.mpr (Or.inl (ih hv hn h))
    · refine fl_s.mpr (Or.inr ⟨u, h1, ih (by omega) hn h2, ?_⟩)
      rw [show t + (k + 1) = t + 1 + k by omega]
      exact h3
theorem see_ext {g g' : g_k → Nat → Int32} {a b t : Nat} (h : ∀ c, c ≠ (10, 0, 0) → g' c = g c) : see g' a b t = see g a b t := by
  unfold see
  rw [h (20, a, 0) (by intro h9; cases h9)]
theorem see_mod {g : g_k → Nat → Int32} {a b t j : Nat} : see g a b (t + j) = see g a b (t + j % 360) := by
  unfold see
  rw [Nat.add_mod t j, Nat.add_mod t (j % 360), Nat.mod_mod]
/-- what going on from f makes of r, the minute at which i is come to -/
def go_P (g : g_k → Nat → Int32) (f : Nat) (R : Nat → Nat) (i r : Nat) : Prop := r ≤ R i ∧ (∀ k, k < 360 → see g f i (R f + k) = true → r ≤ R f + k + 1) ∧ (r = R i ∨ ∃ k, k < 360 ∧ see g f i (R f + k) = true ∧ r = R f + k + 1)
/-- the invariant of the search: x says which nodes were gone on from, R when each is come to -/
def dj (g : g_k → Nat → Int32) (n a t : Nat) (x : Int32) (R : Nat → Nat) : Prop :=
  (∀ v, v < n → R v ≤ t + 400 → t ≤ R v ∧ fl g n a t (R v - t) v) ∧ (∀ u, u < n → bt x u = true → R u ≤ t + 400 ∧ ∀ k, k ≤ 400 → fl g n a t k u → R u ≤ t + k) ∧
  (∀ u v, u < n → v < n → bt x u = true → bt x v = false → ∀ s, R u ≤ s → see g u v s = true → R v ≤ s + 1) ∧ R a = t ∧ ∀ v, v < n → R v ≤ t + 401
theorem dj_key {g : g_k → Nat → Int32} {n a t m : Nat} {x : Int32} {R : Nat → Nat} (hn : n ≤ 32) (ha : a < n) (h : dj g n a t x R) (hm : m ≤ t + 401) (hv : ∀ v, v < n → bt x v = false → m ≤ R v) : ∀ k, t + k < m → ∀ v, v < n → bt x v = false → ¬ fl g n a t k v := by
  obtain ⟨h1, h2, h3, h4, h5⟩ := h
  intro k
  induction k with
  | zero =>
    intro hk v hvn hx hf
    rw [fl_0 (by omega) (by omega)] at hf
    subst hf
    have := hv v hvn hx
    omega
  | succ k ih =>
    intro hk v hvn hx hf
    rcases fl_s.mp hf with hf | ⟨u, u1, u2, u3⟩
    · exact ih (by omega) v hvn hx hf
    · by_cases hu : bt x u = true
      · have a1 := (h2 u u1 hu).2 k (by omega) u2
        have a2 := h3 u v u1 hvn hu hx (t + k) a1 u3
        have a3 := hv v hvn hx
        omega
      · exact ih (by omega) u u1 (eq_false_of_ne_true hu) u2
theorem dj_0 {g : g_k → Nat → Int32} {n a t : Nat} {R : Nat → Nat} (hn : n ≤ 32) (ha : a < n) (h : ∀ v, v < n → R v = if v = a then t else t + 401) : dj g n a t 0 R := by
  refine ⟨fun v hv hr => ?_, fun u _ hu => ?_, fun u v _ _ hu => ?_, by rw [h a ha, if_pos rfl], fun v hv => ?_⟩
  · by_cases hva : v = a
    · subst hva
      rw [h v hv, if_pos rfl]
      exact ⟨Nat.le_refl _, by rw [Nat.sub_self]; exact (fl_0 (by omega) (by omega)).mpr rfl⟩
    · rw [h v hv, if_neg hva] at hr
      omega
  · rw [b_0] at hu
    cases hu
  · rw [b_0] at hu
    cases hu
  · rw [h v hv]
    split <;> omega
/-- one more node was gone on from -/
theorem dj_go {g : g_k → Nat → Int32} {n a t f : Nat} {x y : Int32} {R R' : Nat → Nat} (hn : n ≤ 32) (ha : a < n) (h : dj g n a t x R) (hf : f < n) (hxf : bt x f = false) (hr : R f ≤ t + 400) (hmin : ∀ v, v < n → bt x v = false → R f ≤ R v)
    (hy : ∀ v, v < n → bt y v = (bt x v || decide (v = f))) (hin : ∀ v, v < n → bt y v = true → R' v = R v) (hout : ∀ v, v < n → bt y v = false → go_P g f R v (R' v)) : dj g n a t y R' := by
  have hex : ∀ k, k ≤ 400 → fl g n a t k f → R f ≤ t + k := fun k hk hfl => by
    rcases Nat.lt_or_ge (t + k) (R f) with q | q
    · exact absurd hfl (dj_key hn ha h (m := R f) (by omega) hmin k q f hf hxf)
    · exact q
  obtain ⟨h1, h2, h3, h4, h5⟩ := h
  have hyf : bt y f = true := by rw [hy f hf]; simp
  have sub : ∀ v, v < n → bt y v = false → bt x v = false ∧ v ≠ f := fun v hv q => by
    rw [hy v hv, Bool.or_eq_false_iff] at q
    exact ⟨q.1, by simpa using q.2⟩
  obtain ⟨f1, f2⟩ := h1 f hf hr
  refine ⟨fun v hv hrv => ?_, fun u hu hyu => ?_, fun u v hu hv hyu hyv s hs hsee => ?_, ?_, fun v hv => ?_⟩
  · by_cases q : bt y v = true
    · rw [hin v hv q] at hrv ⊢
      exact h1 v hv hrv
    · obtain ⟨p1, p2, p3⟩ := hout v hv (eq_false_of_ne_true q)
      rcases p3 with p3 | ⟨k, k1, k2, k3⟩
      · rw [p3] at hrv ⊢
        exact h1 v hv hrv
      · refine ⟨by omega, ?_⟩
        rw [k3, show R f + k + 1 - t = (R f + k - t) + 1 by omega]
        refine fl_s.mpr (Or.inr ⟨f, hf, fl_le _ (by omega) f2, ?_⟩)
        rw [show t + (R f + k - t) = R f + k by omega]
        exact k2
  · rw [hin u hu hyu]
    by_cases q : u = f
    · subst q
      exact ⟨hr, hex⟩
    · have : bt x u = true := by
        rw [hy u hu, Bool.or_eq_true] at hyu
        rcases hyu with z | z
        · exact z
        · exact absurd (by simpa using z) q
      exact h2 u hu this
  · rw [hin u hu hyu] at hs
    obtain ⟨p1, p2, p3⟩ := hout v hv hyv
    by_cases q : u = f
    · subst q
      have e : s = R u + (s - R u) := by omega
      rw [e, see_mod] at hsee
      have := p2 _ (Nat.mod_lt _ (by decide)) hsee
      have := Nat.mod_le (s - R u) 360
      omega
    · have hxu : bt x u = true := by
        rw [hy u hu, Bool.or_eq_true] at hyu
        rcases hyu with z | z
        · exact z
        · exact absurd (by simpa using z) q
      have := h3 u v hu hv hxu (sub v hv hyv).1 s hs hsee
      omega
  · by_cases q : bt y a = true
    · rw [hin a ha q]
      exact h4
    · obtain ⟨p1, p2, p3⟩ := hout a ha (eq_false_of_ne_true q)
      rcases p3 with p3 | ⟨k, k1, k2, k3⟩
      · rw [p3]
        exact h4
      · omega
  · by_cases q : bt y v = true
    · rw [hin v hv q]
      exact h5 v hv
    · have := (hout v hv (eq_false_of_ne_true q)).1
      have := h5 v hv
      omega
/-- how many of the first n nodes x holds -/
def b_cnt (x : Int32) : Nat → Nat
  | 0 => 0
  | n + 1 => b_cnt x n + if bt x n = true then 1 else 0
theorem b_cnt_le (x : Int32) : ∀ n, b_cnt x n ≤ n
  | 0 => Nat.le_refl 0
  | n + 1 => by
    have := b_cnt_le x n
    rw [b_cnt]
    split <;> omega
theorem b_cnt_all (x : Int32) : ∀ n, b_cnt x n = n → ∀ i, i < n → bt x i = true
  | 0, _, i, h => absurd h (Nat.not_lt_zero i)
  | n + 1, h, i, hi => by
    have h1 := b_cnt_le x n
    rw [b_cnt] at h
    by_cases hb : bt x n = true
    · rw [if_pos hb] at h
      by_cases e : i = n
      · subst e
        exact hb
      · exact b_cnt_all x n (by omega) i (by omega)
    · rw [if_neg hb] at h
      omega
theorem b_cnt_cong {x y : Int32} : ∀ n, (∀ i, i < n → bt x i = bt y i) → b_cnt x n = b_cnt y n
  | 0, _ => rfl
  | n + 1, h => by rw [b_cnt, b_cnt, b_cnt_cong n (fun i hi => h i (by omega)), h n (by omega)]
theorem b_cnt_add {x y : Int32} {f : Nat} (hf : bt x f = false) : ∀ n, (∀ i, i < n → bt y i = (bt x i || decide (i = f))) → b_cnt y n = b_cnt x n + if f < n then 1 else 0
  | 0, _ => by simp [b_cnt]
  | n + 1, h => by
    have ih := b_cnt_add hf n (fun i hi => h i (by omega))
    rw [b_cnt, b_cnt, ih, h n (by omega)]
    by_cases e : n = f
    · subst e
      simp [hf]
    · by_cases q : f < n
      · have : f < n + 1 := by omega
        simp [e, q, this]
        omega
      · have : ¬ f < n + 1 := by omega
        simp [e, q, this]
/-- the earliest arrival, as the answer of a search -/
def arr_P (g : g_k → Nat → Int32) (n a t b : Nat) (r : Int32) : Prop := (∃ k, k ≤ 400 ∧ fl g n a t k b ∧ (∀ j, j < k → ¬ fl g n a t j b) ∧ r = nI (t + k)) ∨ ((∀ j, j ≤ 400 → ¬ fl g n a t j b) ∧ r = (-1))
/-- the answer at the search's end -/
theorem dj_end {g : g_k → Nat → Int32} {n a t b : Nat} {x : Int32} {R : Nat → Nat} (hn : n ≤ 32) (ha : a < n) (hb : b < n) (h : dj g n a t x R) (hx : bt x b = true ∨ ∀ k, k ≤ 400 → fl g n a t k b → R b ≤ t + k) : (R b ≤ t + 400 ∧ ∃ k, k ≤ 400 ∧ fl g n a t k b ∧ (∀ j, j < k → ¬ fl g n a t j b) ∧ R b = t + k) ∨ (t + 401 ≤ R b ∧ ∀ j, j ≤ 400 → ¬ fl g n a t j b) := by
  have hk : ∀ k, k ≤ 400 → fl g n a t k b → R b ≤ t + k := by
    rcases hx with hx | hx
    · exact (h.2.1 b hb hx).2
    · exact hx
  rcases Nat.lt_or_ge (t + 400) (R b) with q | q
  · exact Or.inr ⟨q, fun j hj hf => by have := hk j hj hf; omega⟩
  · obtain ⟨a1, a2⟩ := h.1 b hb q
    exact Or.inl ⟨q, R b - t, by omega, a2, fun j hj hf => by have := hk j (by omega) hf; omega, by omega⟩
theorem arr_one {g : g_k → Nat → Int32} {n a t b : Nat} {r r' : Int32} (h : arr_P g n a t b r) (h' : arr_P g n a t b r') : r = r' := by
  rcases h with ⟨k, k1, k2, k3, k4⟩ | ⟨h1, h2⟩ <;> rcases h' with ⟨k', k1', k2', k3', k4'⟩ | ⟨h1', h2'⟩
  · rcases Nat.lt_trichotomy k k' with q | q | q
    · exact absurd k2 (k3' k q)
    · rw [k4, k4', q]
    · exact absurd k2' (k3 k' q)
  · exact absurd k2 (h1' k k1)
  · exact absurd k2' (h1 k' k1')
  · rw [h2, h2']
