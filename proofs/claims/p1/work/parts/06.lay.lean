/-! The system's state: g what ints a cell of a code holds, ad where the cell lies, ln which stations and messages are there and how long the rows of hops are; ex what else there is. -/
abbrev F_main (ad : g_k → Nat) (a : Nat → Int32) : List Value := [.ref (ad (1, 0, 0)), .ref (ad (2, 0, 0)), .ref (ad (3, 0, 0)), .ref (ad (4, 0, 0)), .ref (ad (5, 0, 0)), .int (a 5), .int (a 6), .int (a 7), .int (a 8)]
abbrev F_sky (ad : g_k → Nat) (a : Nat → Int32) : List Value := [.ref (ad (6, 0, 0)), .ref (ad (7, 0, 0)), .ref (ad (8, 0, 0)), .ref (ad (9, 0, 0)), .int (a 4)]
abbrev F_search (ad : g_k → Nat) : List Value := [.ref (ad (1, 0, 0)), .ref (ad (10, 0, 0))]
abbrev F_station (ad : g_k → Nat) (i : Nat) (a : Nat → Int32) : List Value := [.ref (ad (31, i, 0)), .int (a 1), .int (a 2)]
/-- which of its two rows a timetable calls soonest, which soonestBefore -/
def sc (ln : g_k → Nat) (i : Nat) : g_k := if ln (31, i, 0) = 1 then (34, i, 0) else (33, i, 0)
def sb (ln : g_k → Nat) (i : Nat) : g_k := if ln (31, i, 0) = 1 then (33, i, 0) else (34, i, 0)
abbrev F_time (ad ln : g_k → Nat) (i : Nat) (a : Nat → Int32) : List Value := [.ref (ad (1, 0, 0)), .int (a 1), .ref (ad (32, i, 0)), .ref (ad (sc ln i)), .ref (ad (sb ln i)), .int (a 5)]
abbrev F_msg (ad : g_k → Nat) (ln : g_k → Nat) (i : Nat) (a : Nat → Int32) : List Value := [.int (a 0), .ref (ad (31, ln (43, i, 0), 0)), .int (a 2), .int (a 3), .int (a 4), .int (a 5), .ref (ad (41, i, 0)), .ref (ad (42, i, 0))]
abbrev A_stations (ad ln : g_k → Nat) : Nat → Option Nat := fun i => if ln (30, i, 0) = 1 ∧ i < 10 then some (ad (30, i, 0)) else none
abbrev A_sent (ad ln : g_k → Nat) : Nat → Option Nat := fun i => if i < ln (5, 0, 0) then some (ad (40, i, 0)) else none
abbrev A_seen (ad : g_k → Nat) : Nat → Option Nat := fun i => if i < 10 then some (ad (20, i, 0)) else none
abbrev A_left (ad : g_k → Nat) (k : Nat) : Nat → Option Nat := fun i => if i < 10 then some (ad (35, k, i)) else none
def lay (C : g_C) (g : g_k → Nat → Int32) (ad ln : g_k → Nat) (ex : g_k → Option va_E) : g_k → Option va_E := fun c =>
  if c = (0, 0, 0) then some (.inr (5, F_main ad (g c)))
  else if c = (1, 0, 0) then some (.inr (2, F_sky ad (g c)))
  else if c = (2, 0, 0) then some (.inr (1, F_search ad))
  else if c = (3, 0, 0) then some (.inl (C.2.2.1, 10, .inr (.inr (.inr (.inr (A_stations ad ln))))))
  else if c = (4, 0, 0) then some (.inl (C.1, 10, .inl (g c)))
  else if c = (5, 0, 0) then some (.inl (C.2.2.2, 20, .inr (.inr (.inr (.inr (A_sent ad ln))))))
  else if c = (6, 0, 0) then some (.inl (C.1, 10, .inl (g c)))
  else if c = (7, 0, 0) then some (.inl (C.1, 10, .inl (g c)))
  else if c = (8, 0, 0) then some (.inl (C.1, 10, .inl (g c)))
  else if c = (9, 0, 0) then some (.inl (C.2.1, 10, .inr (.inr (.inr (.inr (A_seen ad))))))
  else if c = (10, 0, 0) then some (.inl (C.1, 10, .inl (g c)))
  else if c.1 = 20 ∧ c.2.1 < 10 ∧ c.2.2 = 0 then some (.inl (C.1, 360, .inl (g c)))
  else if c.1 = 30 ∧ c.2.1 < 10 ∧ c.2.2 = 0 ∧ ln (30, c.2.1, 0) = 1 then some (.inr (3, F_station ad c.2.1 (g c)))
  else if c.1 = 31 ∧ c.2.1 < 10 ∧ c.2.2 = 0 ∧ ln (30, c.2.1, 0) = 1 then some (.inr (4, F_time ad ln c.2.1 (g c)))
  else if c.1 = 32 ∧ c.2.1 < 10 ∧ c.2.2 = 0 ∧ ln (30, c.2.1, 0) = 1 then some (.inl (C.2.1, 10, .inr (.inr (.inr (.inr (A_left ad c.2.1))))))
  else if c.1 = 33 ∧ c.2.1 < 10 ∧ c.2.2 = 0 ∧ ln (30, c.2.1, 0) = 1 then some (.inl (C.1, 10, .inl (g c)))
  else if c.1 = 34 ∧ c.2.1 < 10 ∧ c.2.2 = 0 ∧ ln (30, c.2.1, 0) = 1 then some (.inl (C.1, 10, .inl (g c)))
  else if c.1 = 35 ∧ c.2.1 < 10 ∧ c.2.2 < 10 ∧ ln (30, c.2.1, 0) = 1 then some (.inl (C.1, 360, .inl (g c)))
  else if c.1 = 40 ∧ c.2.1 < ln (5, 0, 0) ∧ c.2.2 = 0 then some (.inr (0, F_msg ad ln c.2.1 (g c)))
  else if c.1 = 41 ∧ c.2.1 < ln (5, 0, 0) ∧ c.2.2 = 0 then some (.inl (C.1, ln (41, c.2.1, 0), .inl (g c)))
  else if c.1 = 42 ∧ c.2.1 < ln (5, 0, 0) ∧ c.2.2 = 0 then some (.inl (C.1, ln (42, c.2.1, 0), .inl (g c)))
  else if c.1 < 50 then none
  else ex c
section LAY
variable {C : g_C} {g g' : g_k → Nat → Int32} {ad ln : g_k → Nat} {ex : g_k → Option va_E}
theorem lay_main : lay C g ad ln ex (0, 0, 0) = some (.inr (5, F_main ad (g (0, 0, 0)))) := by simp [lay]
theorem lay_sky : lay C g ad ln ex (1, 0, 0) = some (.inr (2, F_sky ad (g (1, 0, 0)))) := by simp [lay]
theorem lay_search : lay C g ad ln ex (2, 0, 0) = some (.inr (1, F_search ad)) := by simp [lay]
theorem lay_stations : lay C g ad ln ex (3, 0, 0) = some (.inl (C.2.2.1, 10, .inr (.inr (.inr (.inr (A_stations ad ln)))))) := by simp [lay]
theorem lay_caps : lay C g ad ln ex (4, 0, 0) = some (.inl (C.1, 10, .inl (g (4, 0, 0)))) := by simp [lay]
theorem lay_sent : lay C g ad ln ex (5, 0, 0) = some (.inl (C.2.2.2, 20, .inr (.inr (.inr (.inr (A_sent ad ln)))))) := by simp [lay]
theorem lay_places : lay C g ad ln ex (6, 0, 0) = some (.inl (C.1, 10, .inl (g (6, 0, 0)))) := by simp [lay]
theorem lay_speeds : lay C g ad ln ex (7, 0, 0) = some (.inl (C.1, 10, .inl (g (7, 0, 0)))) := by simp [lay]
theorem lay_reaches : lay C g ad ln ex (8, 0, 0) = some (.inl (C.1, 10, .inl (g (8, 0, 0)))) := by simp [lay]
theorem lay_seen : lay C g ad ln ex (9, 0, 0) = some (.inl (C.2.1, 10, .inr (.inr (.inr (.inr (A_seen ad)))))) := by simp [lay]
theorem lay_reached : lay C g ad ln ex (10, 0, 0) = some (.inl (C.1, 10, .inl (g (10, 0, 0)))) := by simp [lay]
theorem lay_row {i : Nat} (hi : i < 10) : lay C g ad ln ex (20, i, 0) = some (.inl (C.1, 360, .inl (g (20, i, 0)))) := by simp [lay, hi]
theorem lay_station {i : Nat} (hi : i < 10) (hl : ln (30, i, 0) = 1) : lay C g ad ln ex (30, i, 0) = some (.inr (3, F_station ad i (g (30, i, 0)))) := by simp [lay, hi, hl]
theorem lay_time {i : Nat} (hi : i < 10) (hl : ln (30, i, 0) = 1) : lay C g ad ln ex (31, i, 0) = some (.inr (4, F_time ad ln i (g (31, i, 0)))) := by simp [lay, hi, hl]
theorem lay_left {i : Nat} (hi : i < 10) (hl : ln (30, i, 0) = 1) : lay C g ad ln ex (32, i, 0) = some (.inl (C.2.1, 10, .inr (.inr (.inr (.inr (A_left ad i)))))) := by simp [lay, hi, hl]
theorem lay_soon {i : Nat} (hi : i < 10) (hl : ln (30, i, 0) = 1) : lay C g ad ln ex (33, i, 0) = some (.inl (C.1, 10, .inl (g (33, i, 0)))) := by simp [lay, hi, hl]
theorem lay_soonB {i : Nat} (hi : i < 10) (hl : ln (30, i, 0) = 1) : lay C g ad ln ex (34, i, 0) = some (.inl (C.1, 10, .inl (g (34, i, 0)))) := by simp [lay, hi, hl]
theorem lay_sc {i : Nat} (hi : i < 10) (hl : ln (30, i, 0) = 1) : lay C g ad ln ex (sc ln i) = some (.inl (C.1, 10, .inl (g (sc ln i)))) := by
  unfold sc
  split
  · exact lay_soonB hi hl
  · exact lay_soon hi hl
theorem lay_sb {i : Nat} (hi : i < 10) (hl : ln (30, i, 0) = 1) : lay C g ad ln ex (sb ln i) = some (.inl (C.1, 10, .inl (g (sb ln i)))) := by
  unfold sb
  split
  · exact lay_soon hi hl
  · exact lay_soonB hi hl
theorem lay_leftrow {i j : Nat} (hi : i < 10) (hj : j < 10) (hl : ln (30, i, 0) = 1) : lay C g ad ln ex (35, i, j) = some (.inl (C.1, 360, .inl (g (35, i, j)))) := by simp [lay, hi, hl, hj]
theorem lay_msg {i : Nat} (hi : i < ln (5, 0, 0)) : lay C g ad ln ex (40, i, 0) = some (.inr (0, F_msg ad ln i (g (40, i, 0)))) := by simp [lay, hi]
theorem lay_hopN {i : Nat} (hi : i < ln (5, 0, 0)) : lay C g ad ln ex (41, i, 0) = some (.inl (C.1, ln (41, i, 0), .inl (g (41, i, 0)))) := by simp [lay, hi]
theorem lay_hopM {i : Nat} (hi : i < ln (5, 0, 0)) : lay C g ad ln ex (42, i, 0) = some (.inl (C.1, ln (42, i, 0), .inl (g (42, i, 0)))) := by simp [lay, hi]
theorem lay_ex {a i j : Nat} (ha : 50 ≤ a) : lay C g ad ln ex (a, i, j) = ex (a, i, j) := by
  have h0 : ¬ a < 50 := by omega
  have h : a ≠ 0 ∧ a ≠ 1 ∧ a ≠ 2 ∧ a ≠ 3 ∧ a ≠ 4 ∧ a ≠ 5 ∧ a ≠ 6 ∧ a ≠ 7 ∧ a ≠ 8 ∧ a ≠ 9 ∧ a ≠ 10 ∧ a ≠ 20 ∧ a ≠ 30 ∧ a ≠ 31 ∧ a ≠ 32 ∧ a ≠ 33 ∧ a ≠ 34 ∧ a ≠ 35 ∧ a ≠ 40 ∧ a ≠ 41 ∧ a ≠ 42 := by omega
  simp [lay, h, h0]
theorem lay_cong (c : g_k) (h : g c = g' c) : lay C g ad ln ex c = lay C g' ad ln ex c := by
  unfold lay
  rw [h]
/-- the cells of a code depend on few of ln's numbers -/
theorem lay_lcong {ln' : g_k → Nat} (d : g_k) (h : ∀ x : g_k, x.1 ≠ 31 → ln' x = ln x) (h2 : d.1 = 31 → d.2.2 = 0 → ln' (31, d.2.1, 0) = ln (31, d.2.1, 0)) : lay C g ad ln ex d = lay C g ad ln' ex d := by
  have e30 : ∀ i, ln' (30, i, 0) = ln (30, i, 0) := fun i => h _ (show (30 : Nat) ≠ 31 by decide)
  have e5 : ln' (5, 0, 0) = ln (5, 0, 0) := h _ (show (5 : Nat) ≠ 31 by decide)
  have e41 : ∀ i, ln' (41, i, 0) = ln (41, i, 0) := fun i => h _ (show (41 : Nat) ≠ 31 by decide)
  have e42 : ∀ i, ln' (42, i, 0) = ln (42, i, 0) := fun i => h _ (show (42 : Nat) ≠ 31 by decide)
  have e43 : ∀ i, ln' (43, i, 0) = ln (43, i, 0) := fun i => h _ (show (43 : Nat) ≠ 31 by decide)
  have eS : A_stations ad ln' = A_stations ad ln := funext fun i => by simp only [A_stations, e30]
  have eM : A_sent ad ln' = A_sent ad ln := funext fun i => by simp only [A_sent, e5]
  by_cases q : d.1 = 31 ∧ d.2.2 = 0
  · unfold lay
    simp only [eS, eM, F_time, F_msg, sc, sb, e30, e5, e41, e42, e43, h2 q.1 q.2]
  · have q2 : ¬ (d.1 = 31 ∧ d.2.1 < 10 ∧ d.2.2 = 0 ∧ ln (30, d.2.1, 0) = 1) := fun z => q ⟨z.1, z.2.2.1⟩
    unfold lay
    simp only [eS, eM, F_msg, e30, e5, e41, e42, e43, q2, if_false]
/-- the timetable's two rows change places -/
def sw (ln : g_k → Nat) (k : Nat) : g_k → Nat := k_up ln (31, k, 0) (if ln (31, k, 0) = 1 then 0 else 1)
theorem sw_ne (ln : g_k → Nat) {k : Nat} {c : g_k} (h : c ≠ (31, k, 0)) : sw ln k c = ln c := k_up_ne _ _ h
theorem sw_sc (ln : g_k → Nat) (k : Nat) : sc (sw ln k) k = sb ln k ∧ sb (sw ln k) k = sc ln k := by
  unfold sc sb sw
  rw [k_up_self]
  by_cases h : ln (31, k, 0) = 1
  · simp [h]
  · simp [h]
theorem lay_sw {k : Nat} {e : Option va_E} (hk : k < 10) (hl : ln (30, k, 0) = 1) : k_up (k_up (lay C g ad ln ex) (31, k, 0) e) (31, k, 0) (some (.inr (4, ((F_time ad ln k (g (31, k, 0))).set 3 (.ref (ad (sb ln k)))).set 4 (.ref (ad (sc ln k)))))) = lay C g ad (sw ln k) ex := by
  funext d
  by_cases hd : d = (31, k, 0)
  · subst hd
    rw [k_up_self, lay_time hk (by rw [sw_ne _ (by intro h; cases h)]; exact hl)]
    unfold F_time
    rw [(sw_sc ln k).1, (sw_sc ln k).2]
    rfl
  · rw [k_up_ne _ _ hd, k_up_ne _ _ hd]
    exact lay_lcong d (fun x hx => sw_ne _ (fun h => hx (by rw [h]))) (fun h31 h0 => sw_ne _ (fun h => hd (by
      have hk2 : d.2.1 = k := congrArg (fun z : g_k => z.2.1) h
      rw [← hk2, ← h31, ← h0])))
def g2 (g : g_k → Nat → Int32) (c : g_k) (k : Nat) (x : Int32) : g_k → Nat → Int32 := k_up g c (upd (g c) k x)
theorem g2_self (g : g_k → Nat → Int32) (c : g_k) (k : Nat) (x : Int32) : g2 g c k x c = upd (g c) k x := k_up_self _ _ _
theorem g2_ne (g : g_k → Nat → Int32) {c d : g_k} (k : Nat) (x : Int32) (h : d ≠ c) : g2 g c k x d = g d := k_up_ne _ _ h
theorem upd_self (f : Nat → Int32) (k : Nat) (x : Int32) : upd f k x k = x := by simp [upd]
theorem upd_ne (f : Nat → Int32) {k j : Nat} (x : Int32) (h : j ≠ k) : upd f k x j = f j := by simp [upd, h]
theorem lay_up {c : g_k} {k : Nat} {x : Int32} {e : va_E} (he : lay C (g2 g c k x) ad ln ex c = some e) : k_up (lay C g ad ln ex) c (some e) = lay C (g2 g c k x) ad ln ex := by
  funext d
  by_cases hd : d = c
  · subst hd
    rw [k_up_self, he]
  · rw [k_up_ne _ _ hd]
    exact lay_cong d (g2_ne g k x hd).symm
end LAY
section ORows
variable {p : Program} {l : Launch} {e : Env} {R : Room} {s : State} {m : MethodId} {args : Array Value} {below : List Frame} {meth : Method} {c : Code} {H : Heap} {locs : List Loc} {cells slots : Nat} {Q : State → Prop}
variable {cc : ByteArray} {pc : Nat} {ls : Array Slot} {rest : List Value} {D : va_G} {C : g_C} {g : g_k → Nat → Int32} {ad ln : g_k → Nat} {ex : g_k → Option va_E} {B : Nat} {H0 : Heap} {tys : List (ClassId × FieldType)}
/-- an int field is written -/
theorem o_put (hx : p.tables.exec = Jvm.exec) (hb : c.code = cc) {own Cn : String} {T : u_T} {N ci index : Nat} {Ts : List Cond} (hts : ∀ w ∈ Ts, w.before args s = true) (hin : ∀ w ∈ u_ws Cn T N, w ∈ Ts) (ty0 : Nat → FieldType) (hty : ∀ k, k < N → parseFieldDescriptor (T k).2.2.1 = some (ty0 k)) (hnm : ∀ a, a < N → ∀ b, b < N → a ≠ b → (T a).2.1 ≠ (T b).2.1) (hown : s.vm.findClass own = some m.cls) (hK : va_K D vwCl tys s) (hG : g_P D (lay C g ad ln ex) ad B H) (hS : va_S (g_A B) H0 H locs) {cd : g_k} (F : (Nat → Int32) → List Value) (hO : ∀ g, lay C g ad ln ex cd = some (.inr (ci, F (g cd)))) (hc : vwCl[ci]? = some (Cn, T, N)) (k : Nat) (hk : k < N) (hlink : (Cond.fieldLink own index (T k).1 (T k).2.1 (T k).2.2.1).before args s = true) (hfin : (T k).2.2.2 = false) {x : Int32} (hint : ty0 k = .int) (hF : (F (g cd)).set k (.int x) = F (upd (g cd) k x)) (hl : k < (F (g cd)).length) (hdg : decode cc pc = .ok (.putfield index, 3))
    (kk : ∀ (H1 : Heap) (locs1 : List Loc), g_P D (lay C (g2 g cd k x) ad ln ex) ad B H1 → va_S (g_A B) H0 H1 locs1 → W p l e R s m args below meth c H1 locs1 cells slots Q (F0 m (pc + 3) ls rest)) : W p l e R s m args below meth c H locs cells slots Q (F0 m pc ls (.int x :: .ref (ad cd) :: rest)) :=
  g_put hx hb hts hin ty0 hty hnm hown hK hG hS (hO g) hc k hk hlink hfin (by rw [hint]; rfl) (by rw [hint]; rfl) hl hdg (fun H1 locs1 p1 s1 => kk H1 locs1 (p1.to (by rw [hF]; exact lay_up (by rw [hO, g2_self])) rfl) s1)
theorem o_putN (hx : p.tables.exec = Jvm.exec) (hb : c.code = cc) {own Cn host : String} {T : u_T} {N ci index : Nat} {Ts : List Cond} (hts : ∀ w ∈ Ts, w.before args s = true) (hin : ∀ w ∈ u_ws Cn T N, w ∈ Ts) (ty0 : Nat → FieldType) (hty : ∀ k, k < N → parseFieldDescriptor (T k).2.2.1 = some (ty0 k)) (hnm : ∀ a, a < N → ∀ b, b < N → a ≠ b → (T a).2.1 ≠ (T b).2.1) (hown : s.vm.findClass own = some m.cls) (hK : va_K D vwCl tys s) (hG : g_P D (lay C g ad ln ex) ad B H) (hS : va_S (g_A B) H0 H locs) {cd : g_k} (F : (Nat → Int32) → List Value) (hO : ∀ g, lay C g ad ln ex cd = some (.inr (ci, F (g cd)))) (hc : vwCl[ci]? = some (Cn, T, N)) (k : Nat) (hk : k < N) (hlink : (Cond.fieldLinkNest own index (T k).1 (T k).2.1 (T k).2.2.1 host).before args s = true) (hfin : (T k).2.2.2 = false) {x : Int32} (hint : ty0 k = .int) (hF : (F (g cd)).set k (.int x) = F (upd (g cd) k x)) (hl : k < (F (g cd)).length) (hdg : decode cc pc = .ok (.putfield index, 3))
    (kk : ∀ (H1 : Heap) (locs1 : List Loc), g_P D (lay C (g2 g cd k x) ad ln ex) ad B H1 → va_S (g_A B) H0 H1 locs1 → W p l e R s m args below meth c H1 locs1 cells slots Q (F0 m (pc + 3) ls rest)) : W p l e R s m args below meth c H locs cells slots Q (F0 m pc ls (.int x :: .ref (ad cd) :: rest)) :=
  g_putN hx hb hts hin ty0 hty hnm hown hK hG hS (hO g) hc k hk hlink hfin (by rw [hint]; rfl) (by rw [hint]; rfl) hl hdg (fun H1 locs1 p1 s1 => kk H1 locs1 (p1.to (by rw [hF]; exact lay_up (by rw [hO, g2_self])) rfl) s1)
theorem o_iast (hx : p.tables.exec = Jvm.exec) (hb : c.code = cc) (hK : va_K D vwCl (g_T C) s) (hG : g_P D (lay C g ad ln ex) ad B H) (hS : va_S (g_A B) H0 H locs) {cd : g_k} {n : Nat} (hO : ∀ g, lay C g ad ln ex cd = some (.inl (C.1, n, .inl (g cd)))) {j : Nat} {x : Int32} (hj : j < n) (hn : n < 2 ^ 31) (hdg : decode cc pc = .ok (.iastore, 1))
    (kk : ∀ (H1 : Heap) (locs1 : List Loc), g_P D (lay C (g2 g cd j x) ad ln ex) ad B H1 → va_S (g_A B) H0 H1 locs1 → W p l e R s m args below meth c H1 locs1 cells slots Q (F0 m (pc + 1) ls rest)) : W p l e R s m args below meth c H locs cells slots Q (F0 m pc ls (.int x :: .int (nI j) :: .ref (ad cd) :: rest)) :=
  g_iast hx hb hK hG hS (hO g) hj hn hdg (fun H1 locs1 p1 s1 => kk H1 locs1 (p1.to (lay_up (by rw [hO, g2_self])) rfl) s1)
end ORows
section ORows2
variable {p : Program} {l : Launch} {e : Env} {R : Room} {s : State} {m : MethodId} {args : Array Value} {below : List Frame} {meth : Method} {c : Code} {H : Heap} {locs : List Loc} {cells slots : Nat} {Q : State → Prop}
variable {cc : ByteArray} {pc : Nat} {ls : Array Slot} {rest : List Value} {D : va_G} {C : g_C} {g : g_k → Nat → Int32} {ad ln : g_k → Nat} {ex : g_k → Option va_E} {B : Nat} {H0 : Heap}
theorem lv_to {x y : Int32} (h : x = y) (k : W p l e R s m args below meth c H locs cells slots Q (F0 m pc ls (.int y :: rest))) : W p l e R s m args below meth c H locs cells slots Q (F0 m pc ls (.int x :: rest)) := by
  subst h
  exact k
theorem o_seen (hx : p.tables.exec = Jvm.exec) (hb : c.code = cc) (hK : va_K D vwCl (g_T C) s) (hG : g_P D (lay C g ad ln ex) ad B H) {j : Nat} (hj : j < 10) (hdg : decode cc pc = .ok (.aaload, 1))
    (kk : W p l e R s m args below meth c H locs cells slots Q (F0 m (pc + 1) ls (.ref (ad (20, j, 0)) :: rest))) : W p l e R s m args below meth c H locs cells slots Q (F0 m pc ls (.int (nI j) :: .ref (ad (9, 0, 0)) :: rest)) :=
  g_aald hx hb 1 hK rfl rfl hG lay_seen hj (by decide) hdg (by rw [show va_rf (A_seen ad j) = .ref (ad (20, j, 0)) by simp [A_seen, hj, va_rf]]; exact kk)
theorem o_left (hx : p.tables.exec = Jvm.exec) (hb : c.code = cc) (hK : va_K D vwCl (g_T C) s) (hG : g_P D (lay C g ad ln ex) ad B H) {i j : Nat} (hi : i < 10) (hl : ln (30, i, 0) = 1) (hj : j < 10) (hdg : decode cc pc = .ok (.aaload, 1))
    (kk : W p l e R s m args below meth c H locs cells slots Q (F0 m (pc + 1) ls (.ref (ad (35, i, j)) :: rest))) : W p l e R s m args below meth c H locs cells slots Q (F0 m pc ls (.int (nI j) :: .ref (ad (32, i, 0)) :: rest)) :=
  g_aald hx hb 1 hK rfl rfl hG (lay_left hi hl) hj (by decide) hdg (by rw [show va_rf (A_left ad i j) = .ref (ad (35, i, j)) by simp [A_left, hj, va_rf]]; exact kk)
theorem o_sent (hx : p.tables.exec = Jvm.exec) (hb : c.code = cc) (hK : va_K D vwCl (g_T C) s) (hG : g_P D (lay C g ad ln ex) ad B H) {j : Nat} (hj : j < ln (5, 0, 0)) (h20 : ln (5, 0, 0) ≤ 20) (hdg : decode cc pc = .ok (.aaload, 1))
    (kk : W p l e R s m args below meth c H locs cells slots Q (F0 m (pc + 1) ls (.ref (ad (40, j, 0)) :: rest))) : W p l e R s m args below meth c H locs cells slots Q (F0 m pc ls (.int (nI j) :: .ref (ad (5, 0, 0)) :: rest)) :=
  g_aald hx hb 3 hK rfl rfl hG lay_sent (Nat.lt_of_lt_of_le hj h20) (by decide) hdg (by rw [show va_rf (A_sent ad ln j) = .ref (ad (40, j, 0)) by simp [A_sent, hj, va_rf]]; exact kk)
theorem o_stationY (hx : p.tables.exec = Jvm.exec) (hb : c.code = cc) (hK : va_K D vwCl (g_T C) s) (hG : g_P D (lay C g ad ln ex) ad B H) {i : Nat} (hi : i < 10) (hl : ln (30, i, 0) = 1) (hdg : decode cc pc = .ok (.aaload, 1))
    (kk : W p l e R s m args below meth c H locs cells slots Q (F0 m (pc + 1) ls (.ref (ad (30, i, 0)) :: rest))) : W p l e R s m args below meth c H locs cells slots Q (F0 m pc ls (.int (nI i) :: .ref (ad (3, 0, 0)) :: rest)) :=
  g_aald hx hb 2 hK rfl rfl hG lay_stations hi (by decide) hdg (by rw [show va_rf (A_stations ad ln i) = .ref (ad (30, i, 0)) by simp [A_stations, hi, hl, va_rf]]; exact kk)
theorem o_stationN (hx : p.tables.exec = Jvm.exec) (hb : c.code = cc) (hK : va_K D vwCl (g_T C) s) (hG : g_P D (lay C g ad ln ex) ad B H) {i : Nat} (hi : i < 10) (hl : ln (30, i, 0) ≠ 1) (hdg : decode cc pc = .ok (.aaload, 1))
    (kk : W p l e R s m args below meth c H locs cells slots Q (F0 m (pc + 1) ls (.null :: rest))) : W p l e R s m args below meth c H locs cells slots Q (F0 m pc ls (.int (nI i) :: .ref (ad (3, 0, 0)) :: rest)) :=
  g_aald hx hb 2 hK rfl rfl hG lay_stations hi (by decide) hdg (by rw [show va_rf (A_stations ad ln i) = .null by simp [A_stations, hl, va_rf]]; exact kk)
end ORows2
