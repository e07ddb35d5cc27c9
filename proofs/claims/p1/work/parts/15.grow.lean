/-! New cells: what a code holds elsewhere stays. -/
theorem g_P_mv {D : va_G} {v v' : g_k → Option va_E} {ad ad' : g_k → Nat} {B : Nat} {H : Heap} {tmp k : g_k} (h : g_P D v ad B H) (ht : v' tmp = none) (hk : v' k = v tmp) (ho : ∀ c, c ≠ k → c ≠ tmp → v' c = v c) (ha : ad' k = ad tmp) (hb : ∀ c, c ≠ k → c ≠ tmp → ad' c = ad c) : g_P D v' ad' B H := by
  obtain ⟨a1, a2, L, a3⟩ := h
  have key : ∀ (c : g_k) (e : va_E), v' c = some e → ∃ d, v d = some e ∧ ad' c = ad d ∧ (d = tmp ∧ c = k ∨ d = c ∧ c ≠ k ∧ c ≠ tmp) := fun c e hc => by
    by_cases q : c = k
    · subst q
      exact ⟨tmp, by rw [← hk]; exact hc, ha, Or.inl ⟨rfl, rfl⟩⟩
    · by_cases q2 : c = tmp
      · subst q2
        rw [ht] at hc
        cases hc
      · exact ⟨c, by rw [← ho c q q2]; exact hc, hb c q q2, Or.inr ⟨rfl, q, q2⟩⟩
  refine ⟨fun c e hc => ?_, fun c c' e e' hc hc' hq => ?_, k :: L, fun c e hc => ?_⟩
  · obtain ⟨d, d1, d2, -⟩ := key c e hc
    rw [d2]
    exact a1 d e d1
  · obtain ⟨d, d1, d2, d3⟩ := key c e hc
    obtain ⟨d', d1', d2', d3'⟩ := key c' e' hc'
    have hdd := a2 d d' e e' d1 d1' (by rw [← d2, ← d2', hq])
    rcases d3 with ⟨z1, z2⟩ | ⟨z1, z2, z3⟩ <;> rcases d3' with ⟨y1, y2⟩ | ⟨y1, y2, y3⟩
    · rw [z2, y2]
    · exact absurd (by rw [← y1, ← hdd, z1]) y3
    · exact absurd (by rw [← z1, hdd, y1]) z3
    · rw [← z1, ← y1, hdd]
  · obtain ⟨d, d1, d2, d3⟩ := key c e hc
    rcases d3 with ⟨z1, z2⟩ | ⟨z1, -, -⟩
    · rw [z2]
      exact List.mem_cons_self
    · rw [← z1]
      exact List.mem_cons_of_mem _ (a3 d e d1)
section CG
variable {C : g_C} {g g' : g_k → Nat → Int32} {ad ad' ln ln' : g_k → Nat} {ex : g_k → Option va_E}
theorem lay_cg (d : g_k) (hg : g' d = g d) (h1 : ∀ k, k ≤ 10 → ad' (k, 0, 0) = ad (k, 0, 0)) (h20 : ∀ i, ad' (20, i, 0) = ad (20, i, 0)) (hS : d = (3, 0, 0) → A_stations ad' ln' = A_stations ad ln) (hM : d = (5, 0, 0) → A_sent ad' ln' = A_sent ad ln)
    (hT : 30 ≤ d.1 → d.1 ≤ 35 → ln' (30, d.2.1, 0) = ln (30, d.2.1, 0) ∧ F_station ad' d.2.1 (g d) = F_station ad d.2.1 (g d) ∧ F_time ad' ln' d.2.1 (g d) = F_time ad ln d.2.1 (g d) ∧ A_left ad' d.2.1 = A_left ad d.2.1)
    (hH : 40 ≤ d.1 → d.1 ≤ 42 → d.2.2 = 0 → (d.2.1 < ln' (5, 0, 0) ↔ d.2.1 < ln (5, 0, 0))) (h40 : d.1 = 40 → d.2.2 = 0 → F_msg ad' ln' d.2.1 (g d) = F_msg ad ln d.2.1 (g d)) (h41 : d.1 = 41 → d.2.2 = 0 → ln' (41, d.2.1, 0) = ln (41, d.2.1, 0)) (h42 : d.1 = 42 → d.2.2 = 0 → ln' (42, d.2.1, 0) = ln (42, d.2.1, 0)) : lay C g' ad' ln' ex d = lay C g ad ln ex d := by
  by_cases d3 : d = (3, 0, 0)
  · subst d3
    rw [lay_stations, lay_stations, hS rfl]
  by_cases d5 : d = (5, 0, 0)
  · subst d5
    rw [lay_sent, lay_sent, hM rfl]
  have eMain : F_main ad' (g d) = F_main ad (g d) := by rw [F_main, F_main, h1 1 (by decide), h1 2 (by decide), h1 3 (by decide), h1 4 (by decide), h1 5 (by decide)]
  have eSky : F_sky ad' (g d) = F_sky ad (g d) := by rw [F_sky, F_sky, h1 6 (by decide), h1 7 (by decide), h1 8 (by decide), h1 9 (by decide)]
  have eSearch : F_search ad' = F_search ad := by rw [F_search, F_search, h1 1 (by decide), h1 10 (by decide)]
  have eSeen : A_seen ad' = A_seen ad := funext fun i => by simp only [A_seen, h20]
  unfold lay
  rw [hg, eMain, eSky, eSearch, eSeen]
  by_cases q1 : 30 ≤ d.1 ∧ d.1 ≤ 35
  · obtain ⟨t1, t2, t3, t4⟩ := hT q1.1 q1.2
    have n40 : ¬ d.1 = 40 := by omega
    have n41 : ¬ d.1 = 41 := by omega
    have n42 : ¬ d.1 = 42 := by omega
    rw [t1, t2, t3, t4]
    simp only [d3, d5, n40, n41, n42, false_and, if_false]
  · have n30 : ¬ d.1 = 30 := by omega
    have n31 : ¬ d.1 = 31 := by omega
    have n32 : ¬ d.1 = 32 := by omega
    have n33 : ¬ d.1 = 33 := by omega
    have n34 : ¬ d.1 = 34 := by omega
    have n35 : ¬ d.1 = 35 := by omega
    by_cases q2 : 40 ≤ d.1 ∧ d.1 ≤ 42
    · by_cases hz : d.2.2 = 0
      · have t1 := hH q2.1 q2.2 hz
        rcases (show d.1 = 40 ∨ d.1 = 41 ∨ d.1 = 42 by omega) with q | q | q
        · have m41 : ¬ d.1 = 41 := by omega
          have m42 : ¬ d.1 = 42 := by omega
          rw [h40 q hz]
          simp only [d3, d5, t1, n30, n31, n32, n33, n34, n35, m41, m42, false_and, if_false]
        · have m40 : ¬ d.1 = 40 := by omega
          have m42 : ¬ d.1 = 42 := by omega
          rw [h41 q hz]
          simp only [d3, d5, t1, n30, n31, n32, n33, n34, n35, m40, m42, false_and, if_false]
        · have m41 : ¬ d.1 = 41 := by omega
          have m40 : ¬ d.1 = 40 := by omega
          rw [h42 q hz]
          simp only [d3, d5, t1, n30, n31, n32, n33, n34, n35, m41, m40, false_and, if_false]
      · simp only [d3, d5, n30, n31, n32, n33, n34, n35, hz, and_false, false_and, if_false]
    · have n40 : ¬ d.1 = 40 := by omega
      have n41 : ¬ d.1 = 41 := by omega
      have n42 : ¬ d.1 = 42 := by omega
      simp only [d3, d5, n30, n31, n32, n33, n34, n35, n40, n41, n42, false_and, if_false]
theorem k3 {a b c x y z : Nat} (h : a ≠ x ∨ b ≠ y ∨ c ≠ z) : ((a, b, c) : g_k) ≠ (x, y, z) := fun e => by
  have e1 : a = x := congrArg (fun w : g_k => w.1) e
  have e2 : b = y := congrArg (fun w : g_k => w.2.1) e
  have e3 : c = z := congrArg (fun w : g_k => w.2.2) e
  omega
/-- a message's row of nodes grows -/
theorem lay_growN {D : va_G} {B : Nat} {H : Heap} {m q N : Nat} {f : Nat → Int32} (hm : m < ln (5, 0, 0)) (hG : g_P D (k_up (k_up (lay C g ad ln ex) (49, 0, 0) (some (.inl (C.1, N, .inl f)))) (40, m, 0) (some (.inr (0, (F_msg ad ln m (g (40, m, 0))).set 6 (.ref q))))) (k_up ad (49, 0, 0) q) B H) :
    g_P D (lay C (k_up g (41, m, 0) f) (k_up ad (41, m, 0) q) (k_up ln (41, m, 0) N) ex) (k_up ad (41, m, 0) q) B H := by
  have e5 : k_up ln (41, m, 0) N (5, 0, 0) = ln (5, 0, 0) := k_up_ne _ _ (k3 (Or.inl (by decide)))
  have na : ∀ k i j, k ≠ 41 → k_up ad (41, m, 0) q (k, i, j) = ad (k, i, j) := fun k i j h => k_up_ne _ _ (k3 (Or.inl h))
  have nl : ∀ k i j, k ≠ 41 → k_up ln (41, m, 0) N (k, i, j) = ln (k, i, j) := fun k i j h => k_up_ne _ _ (k3 (Or.inl h))
  refine g_P_mv (tmp := (49, 0, 0)) (k := (41, m, 0)) hG ?_ ?_ (fun c c1 c2 => ?_) ?_ (fun c c1 c2 => ?_)
  · simp [lay]
  · rw [lay_hopN (by rw [e5]; exact hm), k_up_self, k_up_self, k_up_ne _ _ (k3 (Or.inl (by decide))), k_up_self]
  · by_cases hc : c = (40, m, 0)
    · subst hc
      rw [lay_msg (by rw [e5]; exact hm), k_up_self, k_up_ne _ _ (k3 (Or.inl (by decide)))]
      simp only [F_msg, k_up_self, nl 43 _ _ (by decide), na 31 _ _ (by decide), na 42 _ _ (by decide)]
      rfl
    · rw [k_up_ne _ _ hc, k_up_ne _ _ c2]
      refine lay_cg c (k_up_ne _ _ c1) (fun k hk => na _ _ _ (by omega)) (fun i => na _ _ _ (by decide)) (fun _ => funext fun i => ?_) (fun _ => funext fun i => ?_) (fun h1 h2 => ⟨nl _ _ _ (by decide), ?_, ?_, funext fun i => ?_⟩) (fun _ _ _ => by rw [e5]) (fun h1 h2 => ?_) (fun h1 h2 => ?_) (fun h1 h2 => ?_)
      · simp only [A_stations, na 30 _ _ (by decide), nl 30 _ _ (by decide)]
      · simp only [A_sent, na 40 _ _ (by decide), e5]
      · simp only [F_station, na 31 _ _ (by decide)]
      · simp only [F_time, sc, sb, na 1 _ _ (by decide), na 32 _ _ (by decide), nl 31 _ _ (by decide)]
        split <;> simp only [na 33 _ _ (by decide), na 34 _ _ (by decide)]
      · simp only [A_left, na 35 _ _ (by decide)]
      · have hcm : c.2.1 ≠ m := fun z => hc (by rw [← h1, ← h2, ← z])
        have n2 : ∀ j, k_up ad (41, m, 0) q (41, c.2.1, j) = ad (41, c.2.1, j) := fun j => k_up_ne _ _ (k3 (Or.inr (Or.inl hcm)))
        simp only [F_msg, n2, nl 43 _ _ (by decide), na 31 _ _ (by decide), na 42 _ _ (by decide)]
      · have hcm : c.2.1 ≠ m := fun z => c1 (by rw [← h1, ← h2, ← z])
        exact k_up_ne _ _ (k3 (Or.inr (Or.inl hcm)))
      · exact nl _ _ _ (by decide)
  · rw [k_up_self, k_up_self]
  · rw [k_up_ne _ _ c1, k_up_ne _ _ c2]
/-- a message's row of minutes grows -/
theorem lay_growM {D : va_G} {B : Nat} {H : Heap} {m q N : Nat} {f : Nat → Int32} (hm : m < ln (5, 0, 0)) (hG : g_P D (k_up (k_up (lay C g ad ln ex) (49, 0, 0) (some (.inl (C.1, N, .inl f)))) (40, m, 0) (some (.inr (0, (F_msg ad ln m (g (40, m, 0))).set 7 (.ref q))))) (k_up ad (49, 0, 0) q) B H) :
    g_P D (lay C (k_up g (42, m, 0) f) (k_up ad (42, m, 0) q) (k_up ln (42, m, 0) N) ex) (k_up ad (42, m, 0) q) B H := by
  have e5 : k_up ln (42, m, 0) N (5, 0, 0) = ln (5, 0, 0) := k_up_ne _ _ (k3 (Or.inl (by decide)))
  have na : ∀ k i j, k ≠ 42 → k_up ad (42, m, 0) q (k, i, j) = ad (k, i, j) := fun k i j h => k_up_ne _ _ (k3 (Or.inl h))
  have nl : ∀ k i j, k ≠ 42 → k_up ln (42, m, 0) N (k, i, j) = ln (k, i, j) := fun k i j h => k_up_ne _ _ (k3 (Or.inl h))
  refine g_P_mv (tmp := (49, 0, 0)) (k := (42, m, 0)) hG ?_ ?_ (fun c c1 c2 => ?_) ?_ (fun c c1 c2 => ?_)
  · simp [lay]
  · rw [lay_hopM (by rw [e5]; exact hm), k_up_self, k_up_self, k_up_ne _ _ (k3 (Or.inl (by decide))), k_up_self]
  · by_cases hc : c = (40, m, 0)
    · subst hc
      rw [lay_msg (by rw [e5]; exact hm), k_up_self, k_up_ne _ _ (k3 (Or.inl (by decide)))]
      simp only [F_msg, k_up_self, nl 43 _ _ (by decide), na 31 _ _ (by decide), na 41 _ _ (by decide)]
      rfl
    · rw [k_up_ne _ _ hc, k_up_ne _ _ c2]
      refine lay_cg c (k_up_ne _ _ c1) (fun k hk => na _ _ _ (by omega)) (fun i => na _ _ _ (by decide)) (fun _ => funext fun i => ?_) (fun _ => funext fun i => ?_) (fun h1 h2 => ⟨nl _ _ _ (by decide), ?_, ?_, funext fun i => ?_⟩) (fun _ _ _ => by rw [e5]) (fun h1 h2 => ?_) (fun h1 h2 => ?_) (fun h1 h2 => ?_)
      · simp only [A_stations, na 30 _ _ (by decide), nl 30 _ _ (by decide)]
      · simp only [A_sent, na 40 _ _ (by decide), e5]
      · simp only [F_station, na 31 _ _ (by decide)]
      · simp only [F_time, sc, sb, na 1 _ _ (by decide), na 32 _ _ (by decide), nl 31 _ _ (by decide)]
        split <;> simp only [na 33 _ _ (by decide), na 34 _ _ (by decide)]
      · simp only [A_left, na 35 _ _ (by decide)]
      · have hcm : c.2.1 ≠ m := fun z => hc (by rw [← h1, ← h2, ← z])
        have n2 : ∀ j, k_up ad (42, m, 0) q (42, c.2.1, j) = ad (42, c.2.1, j) := fun j => k_up_ne _ _ (k3 (Or.inr (Or.inl hcm)))
        simp only [F_msg, n2, nl 43 _ _ (by decide), na 31 _ _ (by decide), na 41 _ _ (by decide)]
      · exact nl _ _ _ (by decide)
      · have hcm : c.2.1 ≠ m := fun z => c1 (by rw [← h1, ← h2, ← z])
        exact k_up_ne _ _ (k3 (Or.inr (Or.inl hcm)))
  · rw [k_up_self, k_up_self]
  · rw [k_up_ne _ _ c1, k_up_ne _ _ c2]
end CG
