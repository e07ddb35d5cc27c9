section
-- ===== PART A: goes FIRST, ahead of the names: the tables' words, and 'selects' of the private methods out of them =====
/-- a private method of a class that the tables say can be made, by its rows of tables_1 -/
def lw_okq (q : MethodName × Nat) : Prop := (q.1.cls ≠ "java/lang/invoke/MethodHandle" ∧ q.1.cls ≠ "java/lang/invoke/VarHandle") ∧ Cond.instantiable q.1.cls q.2 ∈ tables_1 ∧ Cond.privateMethod q.1 ∈ tables_1 ∧ Cond.instanceMethod q.1 ∈ tables_1
theorem lw_p0 : lw_okq (⟨"java/lang/Throwable", "fillInStackTrace", "(I)Ljava/lang/Throwable;"⟩, 6) := ⟨⟨by decide +kernel, by decide +kernel⟩, List.mem_of_getElem? (i := 171) (by decide +kernel), List.mem_of_getElem? (i := 169) (by decide +kernel), List.mem_of_getElem? (i := 170) (by decide +kernel)⟩
theorem lw_p1 : lw_okq (⟨"Satellitering$Sky", "markContacts", "(II)V"⟩, 5) := ⟨⟨by decide +kernel, by decide +kernel⟩, List.mem_of_getElem? (i := 27) (by decide +kernel), List.mem_of_getElem? (i := 221) (by decide +kernel), List.mem_of_getElem? (i := 222) (by decide +kernel)⟩
theorem lw_p2 : lw_okq (⟨"Satellitering$Sky", "commonReach", "(II)I"⟩, 5) := ⟨⟨by decide +kernel, by decide +kernel⟩, List.mem_of_getElem? (i := 27) (by decide +kernel), List.mem_of_getElem? (i := 225) (by decide +kernel), List.mem_of_getElem? (i := 226) (by decide +kernel)⟩
theorem lw_p3 : lw_okq (⟨"Satellitering", "lookForRelay", "(ILSatellitering$Station;)V"⟩, 9) := ⟨⟨by decide +kernel, by decide +kernel⟩, List.mem_of_getElem? (i := 19) (by decide +kernel), List.mem_of_getElem? (i := 289) (by decide +kernel), List.mem_of_getElem? (i := 290) (by decide +kernel)⟩
theorem lw_p4 : lw_okq (⟨"Satellitering", "requireNode", "(I)V"⟩, 9) := ⟨⟨by decide +kernel, by decide +kernel⟩, List.mem_of_getElem? (i := 19) (by decide +kernel), List.mem_of_getElem? (i := 322) (by decide +kernel), List.mem_of_getElem? (i := 323) (by decide +kernel)⟩
theorem lw_p5 : lw_okq (⟨"Satellitering", "requireTwoNodesAndMinute", "(III)V"⟩, 9) := ⟨⟨by decide +kernel, by decide +kernel⟩, List.mem_of_getElem? (i := 19) (by decide +kernel), List.mem_of_getElem? (i := 362) (by decide +kernel), List.mem_of_getElem? (i := 363) (by decide +kernel)⟩
theorem lw_p6 : lw_okq (⟨"Satellitering$Search", "earliestReached", "(II)I"⟩, 2) := ⟨⟨by decide +kernel, by decide +kernel⟩, List.mem_of_getElem? (i := 55) (by decide +kernel), List.mem_of_getElem? (i := 387) (by decide +kernel), List.mem_of_getElem? (i := 388) (by decide +kernel)⟩
theorem lw_p7 : lw_okq (⟨"Satellitering$Search", "goOnFrom", "(II)V"⟩, 2) := ⟨⟨by decide +kernel, by decide +kernel⟩, List.mem_of_getElem? (i := 55) (by decide +kernel), List.mem_of_getElem? (i := 391) (by decide +kernel), List.mem_of_getElem? (i := 392) (by decide +kernel)⟩
theorem lw_p8 : lw_okq (⟨"Satellitering$Search", "floodedNext", "(II)I"⟩, 2) := ⟨⟨by decide +kernel, by decide +kernel⟩, List.mem_of_getElem? (i := 55) (by decide +kernel), List.mem_of_getElem? (i := 410) (by decide +kernel), List.mem_of_getElem? (i := 411) (by decide +kernel)⟩
theorem lw_p9 : lw_okq (⟨"Satellitering", "requireStation", "(I)LSatellitering$Station;"⟩, 9) := ⟨⟨by decide +kernel, by decide +kernel⟩, List.mem_of_getElem? (i := 19) (by decide +kernel), List.mem_of_getElem? (i := 428) (by decide +kernel), List.mem_of_getElem? (i := 429) (by decide +kernel)⟩
theorem lw_p10 : lw_okq (⟨"Satellitering", "passOneMinute", "()I"⟩, 9) := ⟨⟨by decide +kernel, by decide +kernel⟩, List.mem_of_getElem? (i := 19) (by decide +kernel), List.mem_of_getElem? (i := 479) (by decide +kernel), List.mem_of_getElem? (i := 480) (by decide +kernel)⟩
theorem lw_p11 : lw_okq (⟨"Satellitering", "moveOn", "(LSatellitering$Message;)V"⟩, 9) := ⟨⟨by decide +kernel, by decide +kernel⟩, List.mem_of_getElem? (i := 19) (by decide +kernel), List.mem_of_getElem? (i := 487) (by decide +kernel), List.mem_of_getElem? (i := 488) (by decide +kernel)⟩
theorem lw_p12 : lw_okq (⟨"Satellitering$Timetable", "reckon", "()V"⟩, 6) := ⟨⟨by decide +kernel, by decide +kernel⟩, List.mem_of_getElem? (i := 246) (by decide +kernel), List.mem_of_getElem? (i := 495) (by decide +kernel), List.mem_of_getElem? (i := 496) (by decide +kernel)⟩
theorem lw_p13 : lw_okq (⟨"Satellitering$Timetable", "stepBack", "(I)V"⟩, 6) := ⟨⟨by decide +kernel, by decide +kernel⟩, List.mem_of_getElem? (i := 246) (by decide +kernel), List.mem_of_getElem? (i := 500) (by decide +kernel), List.mem_of_getElem? (i := 501) (by decide +kernel)⟩
theorem lw_p14 : lw_okq (⟨"Satellitering$Timetable", "soonestThrough", "(II)I"⟩, 6) := ⟨⟨by decide +kernel, by decide +kernel⟩, List.mem_of_getElem? (i := 246) (by decide +kernel), List.mem_of_getElem? (i := 505) (by decide +kernel), List.mem_of_getElem? (i := 506) (by decide +kernel)⟩
theorem lw_p15 : lw_okq (⟨"Satellitering$Timetable", "writeDown", "(I)V"⟩, 6) := ⟨⟨by decide +kernel, by decide +kernel⟩, List.mem_of_getElem? (i := 246) (by decide +kernel), List.mem_of_getElem? (i := 509) (by decide +kernel), List.mem_of_getElem? (i := 510) (by decide +kernel)⟩
def lw_privs_1 : List (MethodName × Nat) := [(⟨"java/lang/Throwable", "fillInStackTrace", "(I)Ljava/lang/Throwable;"⟩, 6), (⟨"Satellitering$Sky", "markContacts", "(II)V"⟩, 5), (⟨"Satellitering$Sky", "commonReach", "(II)I"⟩, 5), (⟨"Satellitering", "lookForRelay", "(ILSatellitering$Station;)V"⟩, 9), (⟨"Satellitering", "requireNode", "(I)V"⟩, 9), (⟨"Satellitering", "requireTwoNodesAndMinute", "(III)V"⟩, 9), (⟨"Satellitering$Search", "earliestReached", "(II)I"⟩, 2), (⟨"Satellitering$Search", "goOnFrom", "(II)V"⟩, 2), (⟨"Satellitering$Search", "floodedNext", "(II)I"⟩, 2), (⟨"Satellitering", "requireStation", "(I)LSatellitering$Station;"⟩, 9), (⟨"Satellitering", "passOneMinute", "()I"⟩, 9), (⟨"Satellitering", "moveOn", "(LSatellitering$Message;)V"⟩, 9), (⟨"Satellitering$Timetable", "reckon", "()V"⟩, 6), (⟨"Satellitering$Timetable", "stepBack", "(I)V"⟩, 6), (⟨"Satellitering$Timetable", "soonestThrough", "(II)I"⟩, 6), (⟨"Satellitering$Timetable", "writeDown", "(I)V"⟩, 6)]
theorem lw_r1 : ∀ q ∈ lw_privs_1, lw_okq q := List.forall_mem_cons.mpr ⟨lw_p0, List.forall_mem_cons.mpr ⟨lw_p1, List.forall_mem_cons.mpr ⟨lw_p2, List.forall_mem_cons.mpr ⟨lw_p3, List.forall_mem_cons.mpr ⟨lw_p4, List.forall_mem_cons.mpr ⟨lw_p5, List.forall_mem_cons.mpr ⟨lw_p6, List.forall_mem_cons.mpr ⟨lw_p7, List.forall_mem_cons.mpr ⟨lw_p8, List.forall_mem_cons.mpr ⟨lw_p9, List.forall_mem_cons.mpr ⟨lw_p10, List.forall_mem_cons.mpr ⟨lw_p11, List.forall_mem_cons.mpr ⟨lw_p12, List.forall_mem_cons.mpr ⟨lw_p13, List.forall_mem_cons.mpr ⟨lw_p14, List.forall_mem_cons.mpr ⟨lw_p15, fun _ h => absurd h List.not_mem_nil⟩⟩⟩⟩⟩⟩⟩⟩⟩⟩⟩⟩⟩⟩⟩⟩
theorem lw_p16 : lw_okq (⟨"Satellitering", "isFull", "(I)Z"⟩, 9) := ⟨⟨by decide +kernel, by decide +kernel⟩, List.mem_of_getElem? (i := 19) (by decide +kernel), List.mem_of_getElem? (i := 514) (by decide +kernel), List.mem_of_getElem? (i := 515) (by decide +kernel)⟩
theorem lw_p17 : lw_okq (⟨"Satellitering", "messagesAt", "(I)I"⟩, 9) := ⟨⟨by decide +kernel, by decide +kernel⟩, List.mem_of_getElem? (i := 19) (by decide +kernel), List.mem_of_getElem? (i := 518) (by decide +kernel), List.mem_of_getElem? (i := 519) (by decide +kernel)⟩
theorem lw_p18 : lw_okq (⟨"Satellitering", "requireMessage", "(I)LSatellitering$Message;"⟩, 9) := ⟨⟨by decide +kernel, by decide +kernel⟩, List.mem_of_getElem? (i := 19) (by decide +kernel), List.mem_of_getElem? (i := 547) (by decide +kernel), List.mem_of_getElem? (i := 548) (by decide +kernel)⟩
def lw_privs_2 : List (MethodName × Nat) := [(⟨"Satellitering", "isFull", "(I)Z"⟩, 9), (⟨"Satellitering", "messagesAt", "(I)I"⟩, 9), (⟨"Satellitering", "requireMessage", "(I)LSatellitering$Message;"⟩, 9)]
theorem lw_r2 : ∀ q ∈ lw_privs_2, lw_okq q := List.forall_mem_cons.mpr ⟨lw_p16, List.forall_mem_cons.mpr ⟨lw_p17, List.forall_mem_cons.mpr ⟨lw_p18, fun _ h => absurd h List.not_mem_nil⟩⟩⟩
def lw_privs : List (MethodName × Nat) := lw_privs_1 ++ (lw_privs_2)
def lw_tbl : List Cond := k2_sels lw_privs ++ tables_1
theorem lw_privs_ok : ∀ q ∈ lw_privs, lw_okq q := by
  show ∀ q ∈ lw_privs_1 ++ (lw_privs_2), lw_okq q
  exact List.forall_mem_append.mpr ⟨lw_r1, lw_r2⟩

/-! ===== BEGIN words of one list among another's, by their places ===== -/
theorem goodIn_r {big : List Cond} (ws : List Cond) (ps : List Nat) (hp : ws = ps.filterMap (fun i => big[i]?)) (h : ws.all goodWord = true) : GoodIn big ws := by
  intro w hw
  have h1 := List.all_eq_true.mp h w hw
  rw [hp] at hw
  obtain ⟨i, -, hi⟩ := List.mem_filterMap.mp hw
  have hm : w ∈ big := by first | exact List.mem_of_getElem? hi | exact List.getElem?_mem hi
  exact ⟨hm, good_of_word h1⟩
theorem goodIn_app {big a b : List Cond} (ha : GoodIn big a) (hb : GoodIn big b) : GoodIn big (a ++ b) := fun w h => (List.mem_append.mp h).elim (ha w) (hb w)
theorem goodIn_ca {big a b : List Cond} {c : Cond} (ha : GoodIn big (c :: a)) (hb : GoodIn big b) : GoodIn big (c :: (a ++ b)) := fun w h => (List.mem_cons.mp h).elim (fun e => ha w (List.mem_cons.mpr (Or.inl e))) (fun h => (List.mem_append.mp h).elim (fun h => ha w (List.mem_cons.mpr (Or.inr h))) (hb w))
theorem goodIn_sub {big ws : List Cond} (hm : ∀ w ∈ ws, w ∈ big) (h : ws.all goodWord = true) : GoodIn big ws := fun w hw => ⟨hm w hw, good_of_word (List.all_eq_true.mp h w hw)⟩
/-! ===== END ===== -/

/-! ===== BEGIN exceptions that leave a method, and their catching by the caller (launches without stack traces) ===== -/
section VXA
/-! The laws vx_back, vx_callV, vx_callS, vx_callSW, vx_throw0, vx_throwS follow proofs of the library, with one case more: JvmDerived/Free/Laws.lean (Back.of_free), Shelf42/LK1.lean (callV, callS), Shelf/KitTraced.lean (throwNew0V, throwNewS). -/
/-- where a method has thrown q: the class by its name, the cell, what was written, the world -/
def vx_T (XC : String → State → State → Prop) (st : State) (q : Addr) (t : State) (mc ms : Nat) (free : Addr → Prop) : Prop :=
  ∃ (E : String) (ce : Cell) (L : List Loc), XC E st t ∧ t.heap[q]? = some ce ∧ ce.vm = .none ∧ st.vm.findClass E = some ce.cls ∧ st.WarmedH t.vm ∧ st.sameButNew ({ t with vm := st.vm } : State) L mc ms ∧ ∀ z ∈ L, free z.base
def vx_Q (Qc : Array Value → State → Outcome → State → Prop) (XC : String → State → State → Prop) (mc ms : Nat) (free : Addr → Prop) : Array Value → State → Outcome → State → Prop := fun a st o t =>
  (Qc a st o t ∧ ∃ L, FrameEnd st o t L mc ms ∧ ∀ q ∈ L, free q.base) ∨ ∃ q, o = .threw q ∧ vx_T XC st q t mc ms free
/-- a callee that returns or throws -/
def vx_Met (l : Launch) (y : MethodName) (ws : List Cond) (rm : Room) (Pc : Array Value → State → Prop) (Qc : Array Value → State → Outcome → State → Prop) (XC : String → State → State → Prop) (mc ms : Nat) (free : Addr → Prop) : Prop :=
  MetFree l y (headSpec ws rm) Pc (fun _ _ _ _ _ => True) (vx_Q Qc XC mc ms free)
def vx_Post (XC : String → State → State → Prop) (mc ms : Nat) (free : Addr → Prop) : Pt → Array Value → Addr → Pt → Prop := fun A a q B =>
  ∃ (g : JFrame) (mk : MethodId) (t : State) (L : List Loc) (E : String) (ce : Cell), B.U.heap = t.heap ∧ B.U.vm = t.vm ∧ XC E (A.U.calling g mk a) t ∧ t.heap[q]? = some ce ∧ ce.vm = .none ∧ A.U.vm.findClass E = some ce.cls ∧ B.locs = A.locs ++ L ∧ (∀ z ∈ L, free z.base) ∧ B.cells = A.cells + mc ∧ B.slots = A.slots + ms
def vx_Back (l : Launch) (R : Room) (p : Program) (e : Env) (below : List Frame) (s : State) (sargs : Array Value) (y : MethodName) (len W9 : Nat)
    (Pre : Pt → Array Value → Prop) (Post : Pt → Array Value → Option Value → Pt → Prop) (PostX : Pt → Array Value → Addr → Pt → Prop) : Prop :=
  ∀ (m : MethodId) (meth : Method) (c : Code) (A : Pt) (g : JFrame) (ig : Instr) (mk : MethodId) (a : Array Value),
    Stand p l e R s m sargs below meth c A.U A.locs A.cells A.slots → g.method = m → g.locals.size = c.maxLocals → decode c.code g.pc = .ok (ig, len) →
    2 * g.monitorRoom + (g.stack.map fun v => v.category).sum ≤ W9 → A.U.methodNamed? y = some mk → Pre A a →
    (∃ (v : Option Value) (B : Pt), Stand p l e R s m sargs below meth c B.U B.locs B.cells B.slots ∧ Post A a v B ∧
      Steps p.tables e below (doInvoke e (A.U.setTop g) [] mk a).1 (B.U.setTop { g with pc := g.pc + len, stack := v.toList ++ g.stack })) ∨
    (∃ (q : Addr) (B : Pt), Stand p l e R s m sargs below meth c B.U B.locs B.cells B.slots ∧ PostX A a q B ∧
      Steps p.tables e below (doInvoke e (A.U.setTop g) [] mk a).1 ((B.U.setTop g).pushFrame (.throwing q)))
section Payer
variable {l : Launch} {R : Room} {p : Program} {e : Env} {below : List Frame} {s : State} {sargs : Array Value} {y : MethodName} {len W9 : Nat}
theorem vx_back {ws : List Cond} {rm : Room} {Pc : Array Value → State → Prop} {Qc : Array Value → State → Outcome → State → Prop} {XC : String → State → State → Prop} {mc ms : Nat} {free : Addr → Prop} {bytes : ByteArray} {maxL : Nat} {ret : Option FieldType}
    (hM : vx_Met l y ws rm Pc Qc XC mc ms free) (hblind : FrameBlind Pc) (hrc : rm.cells = mc) (hrs : rm.slots = ms)
    (hframes : rm.frames + 1 ≤ R.frames) (hlocals : W9 + (maxL + 11) + rm.locals ≤ R.locals)
    (hws : ∀ w ∈ ws, ∀ a' U, s.WarmedH U.vm → w.before a' U = true) (hcode : Cond.code y bytes maxL ret ∈ ws) (hinit : ∀ a' U, s.WarmedH U.vm → (Cond.initialized y.cls).before a' U = true) :
    vx_Back l R p e below s sargs y len W9 (PreOf R mc ms Pc) (PostOf Qc mc ms free) (vx_Post XC mc ms free) := by
  intro m meth c A g ig mk a X hg hsize hdg hW hn hp
  have h1 : (headSpec ws rm).pre.before a A.U = true := atoms_intro fun w hw => hws w hw _ _ X.warmed
  have h2 : (Cond.code y bytes maxL ret).before a A.U = true := hws _ hcode _ _ X.warmed
  have h3 : (Cond.initialized y.cls).before a A.U = true := hinit _ _ X.warmed
  have h4 : A.cells + (headSpec ws rm).room.cells ≤ R.cells := by rw [show (headSpec ws rm).room.cells = mc from hrc]; exact hp.1
  have h5 : A.slots + (headSpec ws rm).room.slots ≤ R.slots := by rw [show (headSpec ws rm).room.slots = ms from hrs]; exact hp.2.1
  have hPc : Pc a (A.U.calling g mk a) := hblind _ _ _ _ hp.2.2
  obtain ⟨U, Ls, c0, s0⟩ := A
  dsimp only [Pt.U, Pt.locs, Pt.cells, Pt.slots] at h1 h2 h3 h4 h5 X hn hPc ⊢
  obtain ⟨methY, cY, hmY, hcY, -, hlY, -, -, -, -⟩ := Cond.code_spec hn h2
  obtain ⟨kY, hkY, -⟩ := className_of_methodNamed hn
  have hinitY : kY.init = .initialized := Cond.initialized_spec (findClass_of_methodNamed hn) hkY h3
  have h : At U g.method c below := by rw [hg]; exact X.here
  have hlocals9 : W9 + (maxL + 11) + (headSpec ws rm).room.locals ≤ R.locals := hlocals
  have happ : (headSpec ws rm).appliesLoose y e.platform (U.calling g mk a) = true :=
    Spec.appliesLoose_calling (g := g) h hdg hn hkY hinitY
      (X.room_calling (g := g) (R' := (headSpec ws rm).room) hsize hmY hcY hframes (by rw [hlY]; omega) h4 h5) h1
  obtain ⟨mid, hmid⟩ := h.above
  have hfr : (U.setTop g).frames = (.java g :: mid) ++ below := by rw [State.frames_setTop' g h.top, hmid]; rfl
  obtain ⟨o, s₂, hsteps, -, hend, hq⟩ := Steps.callFree hM p X.admits X.cas X.clock (acts := []) hfr happ hPc trivial
  have hq' : vx_Q Qc XC mc ms free a (U.calling g mk a) o s₂ := hq
  rw [State.frames_setTop' g h.top] at hend
  obtain ⟨g₀, hg0⟩ := Option.isSome_iff_exists.mp h.top
  obtain ⟨r, hr⟩ := State.topJava?_eq_some.mp hg0
  have hr' : (({ U with heap := s₂.heap, slotsUsed := s₂.slotsUsed } : State).setVm s₂.vm).frames = .java g₀ :: r := hr
  rcases hq' with ⟨hqc, L, hfe, hL⟩ | ⟨q, rfl, E, ce, L, hx, hce, hcv, hcl, hW₂, hsm, hL⟩
  · obtain ⟨⟨v, rfl⟩, hW₂, e2, q2, q3, q4, q5, q6⟩ := id hfe
    have e3 : s₂ = ({ (U.calling g mk a).setFrames s₂.frames with heap := s₂.heap, slotsUsed := s₂.slotsUsed } : State).setVm s₂.vm := by
      have : s₂ = ({ s₂ with vm := (U.calling g mk a).vm } : State).setVm s₂.vm := rfl
      rw [e2] at this
      exact this
    obtain ⟨c₂, i₂, len₂, hc₂, hd₂, hf₂⟩ := hend
    have hW' : U.WarmedH s₂.vm := hW₂
    have hcc : c₂ = c := by
      have h1 : s₂.code? g.method = U.code? g.method := by
        rw [State.code?_eq, State.code?_eq, hW'.alike.method?]
      exact Option.some.inj (hc₂.symm.trans (h1.trans h.code))
    subst hcc
    have hlen : len₂ = len := by rw [hdg] at hd₂; cases hd₂; rfl
    subst hlen
    have hs₂ : s₂ = (({ U with heap := s₂.heap, slotsUsed := s₂.slotsUsed } : State).setVm s₂.vm).setTop { g with pc := g.pc + len₂, stack := v.toList ++ g.stack } := by
      refine e3.trans ?_
      rw [hf₂, State.calling_eq h.top, State.setFrames_setFrames, State.setTop_of_frames _ hr', hr]
      rfl
    have hsame : U.sameButNew ({ U with heap := s₂.heap, slotsUsed := s₂.slotsUsed } : State) L mc ms := by
      refine ⟨?_, q2, q3, q4, q5, q6⟩
      obtain ⟨t, ht, -⟩ := State.frames_cons hr
      show ({ U with heap := s₂.heap, slotsUsed := s₂.slotsUsed } : State) = { U.setFrames U.frames with heap := s₂.heap, slotsUsed := s₂.slotsUsed }
      rw [State.setFrames_self ht]
    subst hg
    refine Or.inl ⟨v, ⟨(({ U with heap := s₂.heap, slotsUsed := s₂.slotsUsed } : State).setVm s₂.vm), Ls ++ L, c0 + mc, s0 + ms⟩,
      ⟨X.admits, X.cas, X.clock, X.frames, X.room, X.hears, X.method, X.code, (X.here.setHeapUsed s₂.heap s₂.slotsUsed).setVm hW'.alike, X.tail, State.WarmedH.trans X.warmed hW', X.limits, X.bytes, X.same.trans (hsame.setVm s.vm)⟩,
      ⟨g, mk, s₂, L, rfl, rfl, hqc, rfl, hL, rfl, rfl⟩, ?_⟩
    show Steps p.tables e below _ ((({ U with heap := s₂.heap, slotsUsed := s₂.slotsUsed } : State).setVm s₂.vm).setTop { g with pc := g.pc + len₂, stack := v.toList ++ g.stack })
    rw [← hs₂]
    exact hsteps
  · obtain ⟨e2, q2, q3, q4, q5, q6⟩ := id hsm
    have e3 : s₂ = ({ (U.calling g mk a).setFrames s₂.frames with heap := s₂.heap, slotsUsed := s₂.slotsUsed } : State).setVm s₂.vm := by
      have : s₂ = ({ s₂ with vm := (U.calling g mk a).vm } : State).setVm s₂.vm := rfl
      rw [e2] at this
      exact this
    have hf₂ : s₂.frames = .throwing q :: .java g :: U.frames.tail := hend
    have hW' : U.WarmedH s₂.vm := hW₂
    have hs₂ : s₂ = ((({ U with heap := s₂.heap, slotsUsed := s₂.slotsUsed } : State).setVm s₂.vm).setTop g).pushFrame (.throwing q) := by
      refine e3.trans ?_
      rw [hf₂, State.calling_eq h.top, State.setFrames_setFrames, State.pushFrame, State.frames_setTop _ hr', State.setTop_of_frames _ hr', State.setFrames_setFrames, hr]
      rfl
    have hsame : U.sameButNew ({ U with heap := s₂.heap, slotsUsed := s₂.slotsUsed } : State) L mc ms := by
      refine ⟨?_, q2, q3, q4, q5, q6⟩
      obtain ⟨t, ht, -⟩ := State.frames_cons hr
      show ({ U with heap := s₂.heap, slotsUsed := s₂.slotsUsed } : State) = { U.setFrames U.frames with heap := s₂.heap, slotsUsed := s₂.slotsUsed }
      rw [State.setFrames_self ht]
    subst hg
    refine Or.inr ⟨q, ⟨(({ U with heap := s₂.heap, slotsUsed := s₂.slotsUsed } : State).setVm s₂.vm), Ls ++ L, c0 + mc, s0 + ms⟩,
      ⟨X.admits, X.cas, X.clock, X.frames, X.room, X.hears, X.method, X.code, (X.here.setHeapUsed s₂.heap s₂.slotsUsed).setVm hW'.alike, X.tail, State.WarmedH.trans X.warmed hW', X.limits, X.bytes, X.same.trans (hsame.setVm s.vm)⟩,
      ⟨g, mk, s₂, L, E, ce, rfl, rfl, hx, hce, hcv, hcl, rfl, hL, rfl, rfl⟩, ?_⟩
    show Steps p.tables e below _ (((({ U with heap := s₂.heap, slotsUsed := s₂.slotsUsed } : State).setVm s₂.vm).setTop g).pushFrame (.throwing q))
    rw [← hs₂]
    exact hsteps
end Payer
section Calls
variable {p : Program} {l : Launch} {e : Env} {R : Room} {s : State} {m : MethodId} {args : Array Value} {below : List Frame} {meth : Method} {c : Code} {T : State} {locs : List Loc} {cells slots : Nat}
theorem vx_callV (X : Stand p l e R s m args below meth c T locs cells slots) (hexec : p.tables.exec = Jvm.exec) {own C : String} {index : Nat} {y : MethodName} {bytes : ByteArray} {maxL : Nat} {ret : Option FieldType}
    (hown : s.vm.findClass own = some m.cls) (hlink : (Cond.methodLink own index y).before args s = true) (hinst : (Cond.instanceMethod y).before args s = true) (hsel : (Cond.selects C y y).before args s = true)
    (hcode : (Cond.code y bytes maxL ret).before args s = true) (hy : y.cls ≠ "java/lang/invoke/MethodHandle" ∧ y.cls ≠ "java/lang/invoke/VarHandle")
    {W9 : Nat} {Pre : Pt → Array Value → Prop} {Post : Pt → Array Value → Option Value → Pt → Prop} {PostX : Pt → Array Value → Addr → Pt → Prop} (hK : vx_Back l R p e below s args y 3 W9 Pre Post PostX)
    {b : Addr} {cellB : Cell} (hcell : T.heap[b]? = some cellB) (hobj : cellB.vm.isStatics = false) (hcls : s.vm.findClass C = some cellB.cls)
    {g : JFrame} (hg : g.method = m) (hsize : g.locals.size = c.maxLocals) {argsL rest : List Value} (hlen : ∀ sig, parseMethodDescriptor y.desc = some sig → argsL.length = sig.parameters.length)
    (hstack : g.stack = argsL.reverse ++ .ref b :: rest) (hW : 2 * g.monitorRoom + (rest.map fun v => v.category).sum ≤ W9) (hdg : decode c.code g.pc = .ok (.invokevirtual index, 3))
    (hpre : ∀ vm₁, s.WarmedH vm₁ → Pre ⟨T.setVm vm₁, locs, cells, slots⟩ (Value.ref b :: argsL).toArray) :
    (∃ (v : Option Value) (vm₁ : Vm) (B : Pt), s.WarmedH vm₁ ∧ Stand p l e R s m args below meth c B.U B.locs B.cells B.slots ∧ Post ⟨T.setVm vm₁, locs, cells, slots⟩ (Value.ref b :: argsL).toArray v B ∧
      ∀ target, Steps p.tables e below (B.U.setTop { g with pc := g.pc + 3, stack := v.toList ++ rest }) target → Steps p.tables e below (T.setTop g) target) ∨
    (∃ (q : Addr) (vm₁ : Vm) (B : Pt), s.WarmedH vm₁ ∧ Stand p l e R s m args below meth c B.U B.locs B.cells B.slots ∧ PostX ⟨T.setVm vm₁, locs, cells, slots⟩ (Value.ref b :: argsL).toArray q B ∧
      Steps p.tables e below (T.setTop g) ((B.U.setTop { g with stack := rest }).pushFrame (.throwing q))) := by
  obtain ⟨mk, methM, hnamed, hmethM, hstM, habM⟩ := Cond.instanceMethod_spec hinst
  obtain ⟨methM', cM, hmethM', -, -, -, -, -, -, hsigM⟩ := Cond.code_spec hnamed hcode
  cases hmethM.symm.trans hmethM'
  obtain ⟨c2, r2, m2, q1, q2, q3, q4, kP, hkP, hkPi⟩ := Cond.selects_spec hsel
  cases hcls.symm.trans q1
  cases (State.methodFound?_of_named hnamed hy).symm.trans q2
  cases hnamed.symm.trans q3
  have hselP : selectMethod e.platform s.vm cellB.cls mk = .method mk := by rw [Launch.admits_selectMethod X.admits]; exact q4
  obtain ⟨vm₁, X₁, hstep₁⟩ := X.invokevirtual hexec hown hlink hnamed hmethM hstM hkP hkPi hy (a := b) (cell := cellB) hcell
    (fun z h => by rw [h] at hobj; cases hobj) hselP hmethM habM hkP hkPi (g := g) hg (argsL := argsL) (rest := rest) (hlen _ hsigM) hstack hdg
  rcases hK m meth c ⟨T.setVm vm₁, locs, cells, slots⟩ { g with stack := rest } (.invokevirtual index) mk (Value.ref b :: argsL).toArray X₁ hg hsize hdg hW (X₁.named hnamed) (hpre vm₁ X₁.warmed) with ⟨v, B, X', hpost, hsteps⟩ | ⟨q, B, X', hpost, hsteps⟩
  · exact Or.inl ⟨v, vm₁, B, X₁.warmed, X', hpost, fun target h => hstep₁ _ fun acts => by rw [doInvoke_state]; exact hsteps.trans h⟩
  · exact Or.inr ⟨q, vm₁, B, X₁.warmed, X', hpost, hstep₁ _ fun acts => by rw [doInvoke_state]; exact hsteps⟩
theorem vx_callS (X : Stand p l e R s m args below meth c T locs cells slots) (hexec : p.tables.exec = Jvm.exec) {own : String} {index : Nat} {y : MethodName} {bytes : ByteArray} {maxL : Nat} {ret : Option FieldType}
    (hown : s.vm.findClass own = some m.cls) (hlink : (Cond.methodLink own index y).before args s = true) (hstat : (Cond.static y).before args s = true) (hinit : (Cond.initialized y.cls).before args s = true)
    (hcode : (Cond.code y bytes maxL ret).before args s = true) (hy : y.cls ≠ "java/lang/invoke/MethodHandle" ∧ y.cls ≠ "java/lang/invoke/VarHandle")
    {W9 : Nat} {Pre : Pt → Array Value → Prop} {Post : Pt → Array Value → Option Value → Pt → Prop} {PostX : Pt → Array Value → Addr → Pt → Prop} (hK : vx_Back l R p e below s args y 3 W9 Pre Post PostX)
    {g : JFrame} (hg : g.method = m) (hsize : g.locals.size = c.maxLocals) {argsL rest : List Value} (hlen : ∀ sig, parseMethodDescriptor y.desc = some sig → argsL.length = sig.parameters.length)
    (hstack : g.stack = argsL.reverse ++ rest) (hW : 2 * g.monitorRoom + (rest.map fun v => v.category).sum ≤ W9) (hdg : decode c.code g.pc = .ok (.invokestatic index, 3))
    (hpre : ∀ vm₁, s.WarmedH vm₁ → Pre ⟨T.setVm vm₁, locs, cells, slots⟩ argsL.toArray) :
    (∃ (v : Option Value) (vm₁ : Vm) (B : Pt), s.WarmedH vm₁ ∧ Stand p l e R s m args below meth c B.U B.locs B.cells B.slots ∧ Post ⟨T.setVm vm₁, locs, cells, slots⟩ argsL.toArray v B ∧
      ∀ target, Steps p.tables e below (B.U.setTop { g with pc := g.pc + 3, stack := v.toList ++ rest }) target → Steps p.tables e below (T.setTop g) target) ∨
    (∃ (q : Addr) (vm₁ : Vm) (B : Pt), s.WarmedH vm₁ ∧ Stand p l e R s m args below meth c B.U B.locs B.cells B.slots ∧ PostX ⟨T.setVm vm₁, locs, cells, slots⟩ argsL.toArray q B ∧
      Steps p.tables e below (T.setTop g) ((B.U.setTop { g with stack := rest }).pushFrame (.throwing q))) := by
  obtain ⟨mk, hnamed⟩ := Cond.code_named hcode
  obtain ⟨methM, cM, hmethM, -, -, -, -, -, -, hsigM⟩ := Cond.code_spec hnamed hcode
  have hstatic : methM.isStatic = true := Cond.static_spec hnamed hmethM hstat
  obtain ⟨kP, hkP, -⟩ := className_of_methodNamed hnamed
  have hinitP : kP.init = .initialized := Cond.initialized_spec (findClass_of_methodNamed hnamed) hkP hinit
  obtain ⟨vm₁, X₁, hstep₁⟩ := X.invokestatic hexec hown hlink hnamed hmethM hstatic hkP hinitP hy (g := g) hg (argsL := argsL) (rest := rest) (hlen _ hsigM) hstack hdg
  rcases hK m meth c ⟨T.setVm vm₁, locs, cells, slots⟩ { g with stack := rest } (.invokestatic index) mk argsL.toArray X₁ hg hsize hdg hW (X₁.named hnamed) (hpre vm₁ X₁.warmed) with ⟨v, B, X', hpost, hsteps⟩ | ⟨q, B, X', hpost, hsteps⟩
  · exact Or.inl ⟨v, vm₁, B, X₁.warmed, X', hpost, fun target h => hstep₁ _ fun acts => by rw [doInvoke_state]; exact hsteps.trans h⟩
  · exact Or.inr ⟨q, vm₁, B, X₁.warmed, X', hpost, hstep₁ _ fun acts => by rw [doInvoke_state]; exact hsteps⟩
end Calls
theorem vx_cls {s : State} {T : State} {vm₁ : Vm} {E : String} {k : ClassId} (hW : s.WarmedH vm₁) (h : (T.setVm vm₁).vm.findClass E = some k) : s.vm.findClass E = some k := by
  have h1 : vm₁.findClass E = some k := h
  rw [hW.alike.findClass] at h1
  exact h1
/-- the method's frame g, with q thrown over it -/
def vx_W (p : Program) (l : Launch) (e : Env) (R : Room) (s : State) (m : MethodId) (args : Array Value) (below : List Frame) (meth : Method) (c : Code) (H : Heap) (locs : List Loc) (cells slots : Nat) (Q : State → Prop) (g : JFrame) (q : Addr) : Prop :=
  ∀ T : State, T.heap = H → Stand p l e R s m args below meth c T locs cells slots → ∃ t, Steps p.tables e below ((T.setTop g).pushFrame (.throwing q)) t ∧ Q t
def vx_Run (p : Program) (l : Launch) (e : Env) (R : Room) (s : State) (m : MethodId) (args : Array Value) (below : List Frame) (meth : Method) (c : Code) (H : Heap) (locs : List Loc) (cells slots mc ms : Nat) (g : JFrame) (rest : List Value) (Qa : State → Outcome → State → Prop) (XC : String → State → State → Prop) (free : Addr → Prop) : Prop :=
  ∀ T : State, T.heap = H → Stand p l e R s m args below meth c T locs cells slots →
    (∃ (v : Option Value) (st₀ t T' : State) (L : List Loc), st₀.heap = H ∧ Stand p l e R s m args below meth c T' (locs ++ L) (cells + mc) (slots + ms) ∧ (∀ q ∈ L, free q.base) ∧ T'.heap = t.heap ∧ T'.vm = t.vm ∧ Qa st₀ (.returned v) t ∧
      Goes p e below T g T' { g with pc := g.pc + 3, stack := v.toList ++ rest }) ∨
    (∃ (q : Addr) (st₀ t T' : State) (L : List Loc) (E : String) (ce : Cell), st₀.heap = H ∧ Stand p l e R s m args below meth c T' (locs ++ L) (cells + mc) (slots + ms) ∧ (∀ z ∈ L, free z.base) ∧ T'.heap = t.heap ∧ T'.vm = t.vm ∧ XC E st₀ t ∧ t.heap[q]? = some ce ∧ ce.vm = .none ∧ s.vm.findClass E = some ce.cls ∧
      Steps p.tables e below (T.setTop g) ((T'.setTop { g with stack := rest }).pushFrame (.throwing q)))
def vx_X {S : Type} (px : S → Prop) (B : String → S → State → Prop) (A : Nat → Prop) : String → State → State → Prop := fun E st t => ∃ u : S, px u ∧ B E u t ∧ va_F A st t
section Runs
variable {p : Program} {l : Launch} {e : Env} {R : Room} {s : State} {m : MethodId} {args : Array Value} {below : List Frame} {meth : Method} {c : Code} {H : Heap} {locs : List Loc} {cells slots : Nat}
variable {y : MethodName} {bytes cc : ByteArray} {maxL nL mc ms n index : Nat} {ret : Option FieldType} {ws : List Cond} {rm : Room} {Pc : Array Value → State → Prop} {Qc : Array Value → State → Outcome → State → Prop} {XC : String → State → State → Prop} {free : Addr → Prop} {Ts : List Cond} {own C : String} {b : Addr} {As rest : List Value} {g : JFrame}
theorem vx_callBack (cb : CallB R s args own index y bytes maxL ret ws rm mc ms n) (hM : vx_Met l y ws rm Pc Qc XC mc ms free) (hbl : FrameBlind Pc) : vx_Back l R p e below s args y 3 8 (PreOf R mc ms Pc) (PostOf Qc mc ms free) (vx_Post XC mc ms free) := by
  obtain ⟨hrc, hrs, hfr, hlo, hws, hcw, -, hini, -⟩ := cb
  exact vx_back (bytes := bytes) (maxL := maxL) (ret := ret) hM hbl hrc hrs hfr hlo hws hcw (fun a' U hW => word_at hW (Or.inl (by first | rfl | simp [Cond.onTables, Cond.keeps, Cond.steady])) hini)
theorem vx_runV (S : CallFix p m c cc nL s args Ts own) (hM : vx_Met l y ws rm Pc Qc XC mc ms free) (cw : CallW R s args own C index y bytes maxL ret ws rm mc ms n) (hp : PreV s H C b Pc As)
    (hg : g.method = m) (hn : As.length = n) (hsize : g.locals.size = nL) (hstack : g.stack = As.reverse ++ .ref b :: rest) (hW : 2 * g.monitorRoom + (rest.map fun v => v.category).sum ≤ 8) (hdg : decode cc g.pc = .ok (.invokevirtual index, 3)) (hf : cells + mc ≤ R.cells ∧ slots + ms ≤ R.slots) :
    vx_Run p l e R s m args below meth c H locs cells slots mc ms g rest (Qc (Value.ref b :: As).toArray) XC free := by
  have hK : vx_Back l R p e below s args y 3 8 (PreOf R mc ms Pc) (PostOf Qc mc ms free) (vx_Post XC mc ms free) := vx_callBack cw.1 hM hp.1
  obtain ⟨⟨-, -, -, -, -, -, hcode, -, hy, hlen, hl⟩, hin, hse⟩ := cw
  obtain ⟨hx, hb, hml, ho, -⟩ := S
  obtain ⟨-, ⟨cellB, hcB, hoB, hclB⟩, hPc⟩ := hp
  intro T hT X
  rcases vx_callV X hx (C := C) (bytes := bytes) (maxL := maxL) (ret := ret) ho hl hin hse hcode hy hK (by rw [hT]; exact hcB) hoB hclB hg (hsize.trans hml.symm) (argsL := As) (rest := rest) (fun sig h => hn.trans (hlen sig h)) hstack hW (by rw [hb]; exact hdg)
    (fun vm₁ hW₁ => ⟨hf.1, hf.2, hPc (T.setVm vm₁) hT hW₁⟩) with ⟨v, vm₁, ⟨U', l2, c2, s2⟩, hW₁, X', ⟨g', mk, t, L, e1, e2, hq, h1, hL, h2, h3⟩, st⟩ | ⟨q, vm₁, ⟨U', l2, c2, s2⟩, hW₁, X', ⟨g', mk, t, L, E, ce, e1, e2, hq, hce, hcv, hcl, h1, hL, h2, h3⟩, st⟩
  · dsimp only [Pt.U, Pt.locs, Pt.cells, Pt.slots] at X' e1 e2 h1 h2 h3 st
    subst h1; subst h2; subst h3
    exact Or.inl ⟨v, (T.setVm vm₁).calling g' mk (Value.ref b :: As).toArray, t, U', L, hT, X', hL, e1, e2, hq, st⟩
  · dsimp only [Pt.U, Pt.locs, Pt.cells, Pt.slots] at X' e1 e2 h1 h2 h3 st hcl
    subst h1; subst h2; subst h3
    exact Or.inr ⟨q, (T.setVm vm₁).calling g' mk (Value.ref b :: As).toArray, t, U', L, E, ce, hT, X', hL, e1, e2, hq, hce, hcv, vx_cls hW₁ hcl, st⟩
theorem vx_runS (S : CallFix p m c cc nL s args Ts own) (hM : vx_Met l y ws rm Pc Qc XC mc ms free) (cw : CallB R s args own index y bytes maxL ret ws rm mc ms n ∧ (Cond.static y).before args s = true) (hp : PreS s H Pc As)
    (hg : g.method = m) (hn : As.length = n) (hsize : g.locals.size = nL) (hstack : g.stack = As.reverse ++ rest) (hW : 2 * g.monitorRoom + (rest.map fun v => v.category).sum ≤ 8) (hdg : decode cc g.pc = .ok (.invokestatic index, 3)) (hf : cells + mc ≤ R.cells ∧ slots + ms ≤ R.slots) :
    vx_Run p l e R s m args below meth c H locs cells slots mc ms g rest (Qc As.toArray) XC free := by
  have hK : vx_Back l R p e below s args y 3 8 (PreOf R mc ms Pc) (PostOf Qc mc ms free) (vx_Post XC mc ms free) := vx_callBack cw.1 hM hp.1
  obtain ⟨⟨-, -, -, -, -, -, hcode, hini, hy, hlen, hl⟩, hstt⟩ := cw
  obtain ⟨hx, hb, hml, ho, -⟩ := S
  intro T hT X
  rcases vx_callS X hx (bytes := bytes) (maxL := maxL) (ret := ret) ho hl hstt hini hcode hy hK hg (hsize.trans hml.symm) (argsL := As) (rest := rest) (fun sig h => hn.trans (hlen sig h)) hstack hW (by rw [hb]; exact hdg)
    (fun vm₁ hW₁ => ⟨hf.1, hf.2, hp.2 (T.setVm vm₁) hT hW₁⟩) with ⟨v, vm₁, ⟨U', l2, c2, s2⟩, hW₁, X', ⟨g', mk, t, L, e1, e2, hq, h1, hL, h2, h3⟩, st⟩ | ⟨q, vm₁, ⟨U', l2, c2, s2⟩, hW₁, X', ⟨g', mk, t, L, E, ce, e1, e2, hq, hce, hcv, hcl, h1, hL, h2, h3⟩, st⟩
  · dsimp only [Pt.U, Pt.locs, Pt.cells, Pt.slots] at X' e1 e2 h1 h2 h3 st
    subst h1; subst h2; subst h3
    exact Or.inl ⟨v, (T.setVm vm₁).calling g' mk As.toArray, t, U', L, hT, X', hL, e1, e2, hq, st⟩
  · dsimp only [Pt.U, Pt.locs, Pt.cells, Pt.slots] at X' e1 e2 h1 h2 h3 st hcl
    subst h1; subst h2; subst h3
    exact Or.inr ⟨q, (T.setVm vm₁).calling g' mk As.toArray, t, U', L, E, ce, hT, X', hL, e1, e2, hq, hce, hcv, vx_cls hW₁ hcl, st⟩
end Runs
section Rows
variable {p : Program} {l : Launch} {e : Env} {R : Room} {s : State} {m : MethodId} {args : Array Value} {below : List Frame} {meth : Method} {c : Code} {H : Heap} {locs : List Loc} {cells slots : Nat} {Q : State → Prop}
variable {mc ms : Nat} {free : Addr → Prop} {A0 A1 : Nat → Prop} {H0 : Heap} {a : Array Value} {pc : Nat} {ls : Array Slot} {st0 rest : List Value}
theorem vx_keep {st₀ t T' : State} {L : List Loc} (h0 : st₀.heap = H) (e1 : T'.heap = t.heap) (hS : va_S A0 H0 H locs) (hA : ∀ q, q < H.size → A1 q → A0 q) (hf : ∀ q, free q → A0 q) (hL : ∀ q ∈ L, free q.base) (hF : va_F A1 st₀ t) :
    H.size ≤ T'.heap.size ∧ (∀ q : Nat, q < H.size → ¬ A1 q → T'.heap[q]? = H[q]?) ∧ va_S A0 H0 T'.heap (locs ++ L) := by
  obtain ⟨hz, hk⟩ := hF
  rw [h0] at hz hk
  exact ⟨by rw [e1]; exact hz, fun q h1 h2 => by rw [e1]; exact hk q h1 h2,
    ⟨Nat.le_trans hS.1 (by rw [e1]; exact hz), fun q h1 h2 => by rw [e1, hk q (Nat.lt_of_lt_of_le h1 hS.1) (fun z => h2 (hA q (Nat.lt_of_lt_of_le h1 hS.1) z))]; exact hS.2.1 q h1 h2, fun q hq => by
      rcases List.mem_append.mp hq with h | h
      · exact hS.2.2 q h
      · exact hf _ (hL q h)⟩⟩
theorem vx_calli {S SX : Type} {post : Int32 → S → Prop} {px : SX → Prop} {B : S → State → Prop} {BX : String → SX → State → Prop} {AX : Nat → Prop} (hr : vx_Run p l e R s m args below meth c H locs cells slots mc ms (F0 m pc ls st0) rest (va_Qi post B A1 a) (vx_X px BX AX) free) (hS : va_S A0 H0 H locs) (hA : ∀ q, q < H.size → A1 q → A0 q) (hf : ∀ q, free q → A0 q) (hAX : ∀ q, q < H.size → AX q → A0 q)
    (kx : ∀ (E : String) (ce : Cell) (q9 : Addr) (u : SX) (t : State) (H1 : Heap) (locs1 : List Loc), t.heap = H1 → s.vm.Alike t.vm → px u → BX E u t → H.size ≤ H1.size → (∀ q : Nat, q < H.size → ¬ AX q → H1[q]? = H[q]?) → va_S A0 H0 H1 locs1 → H1[q9]? = some ce → ce.vm = .none → s.vm.findClass E = some ce.cls → vx_W p l e R s m args below meth c H1 locs1 (cells + mc) (slots + ms) Q (F0 m pc ls rest) q9)
    (kk : ∀ (r : Int32) (u : S) (t : State) (H1 : Heap) (locs1 : List Loc), t.heap = H1 → s.vm.Alike t.vm → post r u → B u t → H.size ≤ H1.size → (∀ q : Nat, q < H.size → ¬ A1 q → H1[q]? = H[q]?) → va_S A0 H0 H1 locs1 → W p l e R s m args below meth c H1 locs1 (cells + mc) (slots + ms) Q (F0 m (pc + 3) ls (.int r :: rest))) : W p l e R s m args below meth c H locs cells slots Q (F0 m pc ls st0) := by
  intro T hT X
  rcases hr T hT X with ⟨v, st₀, t, T', L, h0, X', hL, e1, e2, ⟨⟨r, u, hv, hp, hb⟩, hF⟩, st⟩ | ⟨q, st₀, t, T', L, E, ce, h0, X', hL, e1, e2, ⟨u, hp, hb, hF⟩, hce, hcv, hcl, st⟩
  · cases hv
    obtain ⟨k1, k2, k3⟩ := vx_keep h0 e1 hS hA hf hL hF
    obtain ⟨t2, a1, b1⟩ := kk r u t T'.heap (locs ++ L) e1.symm (by rw [← e2]; exact X'.warmed.alike) hp hb k1 k2 k3 T' rfl X'
    exact ⟨t2, st t2 a1, b1⟩
  · obtain ⟨k1, k2, k3⟩ := vx_keep h0 e1 hS hAX hf hL hF
    obtain ⟨t2, a1, b1⟩ := kx E ce q u t T'.heap (locs ++ L) e1.symm (by rw [← e2]; exact X'.warmed.alike) hp hb k1 k2 k3 (by rw [e1]; exact hce) hcv hcl T' rfl X'
    exact ⟨t2, st.trans a1, b1⟩
theorem vx_calll {S SX : Type} {post : Int64 → S → Prop} {px : SX → Prop} {B : S → State → Prop} {BX : String → SX → State → Prop} {AX : Nat → Prop} (hr : vx_Run p l e R s m args below meth c H locs cells slots mc ms (F0 m pc ls st0) rest (va_Ql post B A1 a) (vx_X px BX AX) free) (hS : va_S A0 H0 H locs) (hA : ∀ q, q < H.size → A1 q → A0 q) (hf : ∀ q, free q → A0 q) (hAX : ∀ q, q < H.size → AX q → A0 q)
    (kx : ∀ (E : String) (ce : Cell) (q9 : Addr) (u : SX) (t : State) (H1 : Heap) (locs1 : List Loc), t.heap = H1 → s.vm.Alike t.vm → px u → BX E u t → H.size ≤ H1.size → (∀ q : Nat, q < H.size → ¬ AX q → H1[q]? = H[q]?) → va_S A0 H0 H1 locs1 → H1[q9]? = some ce → ce.vm = .none → s.vm.findClass E = some ce.cls → vx_W p l e R s m args below meth c H1 locs1 (cells + mc) (slots + ms) Q (F0 m pc ls rest) q9)
    (kk : ∀ (r : Int64) (u : S) (t : State) (H1 : Heap) (locs1 : List Loc), t.heap = H1 → s.vm.Alike t.vm → post r u → B u t → H.size ≤ H1.size → (∀ q : Nat, q < H.size → ¬ A1 q → H1[q]? = H[q]?) → va_S A0 H0 H1 locs1 → W p l e R s m args below meth c H1 locs1 (cells + mc) (slots + ms) Q (F0 m (pc + 3) ls (.long r :: rest))) : W p l e R s m args below meth c H locs cells slots Q (F0 m pc ls st0) := by
  intro T hT X
  rcases hr T hT X with ⟨v, st₀, t, T', L, h0, X', hL, e1, e2, ⟨⟨r, u, hv, hp, hb⟩, hF⟩, st⟩ | ⟨q, st₀, t, T', L, E, ce, h0, X', hL, e1, e2, ⟨u, hp, hb, hF⟩, hce, hcv, hcl, st⟩
  · cases hv
    obtain ⟨k1, k2, k3⟩ := vx_keep h0 e1 hS hA hf hL hF
    obtain ⟨t2, a1, b1⟩ := kk r u t T'.heap (locs ++ L) e1.symm (by rw [← e2]; exact X'.warmed.alike) hp hb k1 k2 k3 T' rfl X'
    exact ⟨t2, st t2 a1, b1⟩
  · obtain ⟨k1, k2, k3⟩ := vx_keep h0 e1 hS hAX hf hL hF
    obtain ⟨t2, a1, b1⟩ := kx E ce q u t T'.heap (locs ++ L) e1.symm (by rw [← e2]; exact X'.warmed.alike) hp hb k1 k2 k3 (by rw [e1]; exact hce) hcv hcl T' rfl X'
    exact ⟨t2, st.trans a1, b1⟩
theorem vx_callf {S SX : Type} {post : UInt32 → S → Prop} {px : SX → Prop} {B : S → State → Prop} {BX : String → SX → State → Prop} {AX : Nat → Prop} (hr : vx_Run p l e R s m args below meth c H locs cells slots mc ms (F0 m pc ls st0) rest (va_Qf post B A1 a) (vx_X px BX AX) free) (hS : va_S A0 H0 H locs) (hA : ∀ q, q < H.size → A1 q → A0 q) (hf : ∀ q, free q → A0 q) (hAX : ∀ q, q < H.size → AX q → A0 q)
    (kx : ∀ (E : String) (ce : Cell) (q9 : Addr) (u : SX) (t : State) (H1 : Heap) (locs1 : List Loc), t.heap = H1 → s.vm.Alike t.vm → px u → BX E u t → H.size ≤ H1.size → (∀ q : Nat, q < H.size → ¬ AX q → H1[q]? = H[q]?) → va_S A0 H0 H1 locs1 → H1[q9]? = some ce → ce.vm = .none → s.vm.findClass E = some ce.cls → vx_W p l e R s m args below meth c H1 locs1 (cells + mc) (slots + ms) Q (F0 m pc ls rest) q9)
    (kk : ∀ (r : UInt32) (u : S) (t : State) (H1 : Heap) (locs1 : List Loc), t.heap = H1 → s.vm.Alike t.vm → post r u → B u t → H.size ≤ H1.size → (∀ q : Nat, q < H.size → ¬ A1 q → H1[q]? = H[q]?) → va_S A0 H0 H1 locs1 → W p l e R s m args below meth c H1 locs1 (cells + mc) (slots + ms) Q (F0 m (pc + 3) ls (.float r :: rest))) : W p l e R s m args below meth c H locs cells slots Q (F0 m pc ls st0) := by
  intro T hT X
  rcases hr T hT X with ⟨v, st₀, t, T', L, h0, X', hL, e1, e2, ⟨⟨r, u, hv, hp, hb⟩, hF⟩, st⟩ | ⟨q, st₀, t, T', L, E, ce, h0, X', hL, e1, e2, ⟨u, hp, hb, hF⟩, hce, hcv, hcl, st⟩
  · cases hv
    obtain ⟨k1, k2, k3⟩ := vx_keep h0 e1 hS hA hf hL hF
    obtain ⟨t2, a1, b1⟩ := kk r u t T'.heap (locs ++ L) e1.symm (by rw [← e2]; exact X'.warmed.alike) hp hb k1 k2 k3 T' rfl X'
    exact ⟨t2, st t2 a1, b1⟩
  · obtain ⟨k1, k2, k3⟩ := vx_keep h0 e1 hS hAX hf hL hF
    obtain ⟨t2, a1, b1⟩ := kx E ce q u t T'.heap (locs ++ L) e1.symm (by rw [← e2]; exact X'.warmed.alike) hp hb k1 k2 k3 (by rw [e1]; exact hce) hcv hcl T' rfl X'
    exact ⟨t2, st.trans a1, b1⟩
theorem vx_calld {S SX : Type} {post : UInt64 → S → Prop} {px : SX → Prop} {B : S → State → Prop} {BX : String → SX → State → Prop} {AX : Nat → Prop} (hr : vx_Run p l e R s m args below meth c H locs cells slots mc ms (F0 m pc ls st0) rest (va_Qd post B A1 a) (vx_X px BX AX) free) (hS : va_S A0 H0 H locs) (hA : ∀ q, q < H.size → A1 q → A0 q) (hf : ∀ q, free q → A0 q) (hAX : ∀ q, q < H.size → AX q → A0 q)
    (kx : ∀ (E : String) (ce : Cell) (q9 : Addr) (u : SX) (t : State) (H1 : Heap) (locs1 : List Loc), t.heap = H1 → s.vm.Alike t.vm → px u → BX E u t → H.size ≤ H1.size → (∀ q : Nat, q < H.size → ¬ AX q → H1[q]? = H[q]?) → va_S A0 H0 H1 locs1 → H1[q9]? = some ce → ce.vm = .none → s.vm.findClass E = some ce.cls → vx_W p l e R s m args below meth c H1 locs1 (cells + mc) (slots + ms) Q (F0 m pc ls rest) q9)
    (kk : ∀ (r : UInt64) (u : S) (t : State) (H1 : Heap) (locs1 : List Loc), t.heap = H1 → s.vm.Alike t.vm → post r u → B u t → H.size ≤ H1.size → (∀ q : Nat, q < H.size → ¬ A1 q → H1[q]? = H[q]?) → va_S A0 H0 H1 locs1 → W p l e R s m args below meth c H1 locs1 (cells + mc) (slots + ms) Q (F0 m (pc + 3) ls (.double r :: rest))) : W p l e R s m args below meth c H locs cells slots Q (F0 m pc ls st0) := by
  intro T hT X
  rcases hr T hT X with ⟨v, st₀, t, T', L, h0, X', hL, e1, e2, ⟨⟨r, u, hv, hp, hb⟩, hF⟩, st⟩ | ⟨q, st₀, t, T', L, E, ce, h0, X', hL, e1, e2, ⟨u, hp, hb, hF⟩, hce, hcv, hcl, st⟩
  · cases hv
    obtain ⟨k1, k2, k3⟩ := vx_keep h0 e1 hS hA hf hL hF
    obtain ⟨t2, a1, b1⟩ := kk r u t T'.heap (locs ++ L) e1.symm (by rw [← e2]; exact X'.warmed.alike) hp hb k1 k2 k3 T' rfl X'
    exact ⟨t2, st t2 a1, b1⟩
  · obtain ⟨k1, k2, k3⟩ := vx_keep h0 e1 hS hAX hf hL hF
    obtain ⟨t2, a1, b1⟩ := kx E ce q u t T'.heap (locs ++ L) e1.symm (by rw [← e2]; exact X'.warmed.alike) hp hb k1 k2 k3 (by rw [e1]; exact hce) hcv hcl T' rfl X'
    exact ⟨t2, st.trans a1, b1⟩
theorem vx_callv {S SX : Type} {post : S → Prop} {px : SX → Prop} {B : S → State → Prop} {BX : String → SX → State → Prop} {AX : Nat → Prop} (hr : vx_Run p l e R s m args below meth c H locs cells slots mc ms (F0 m pc ls st0) rest (va_Qv post B A1 a) (vx_X px BX AX) free) (hS : va_S A0 H0 H locs) (hA : ∀ q, q < H.size → A1 q → A0 q) (hf : ∀ q, free q → A0 q) (hAX : ∀ q, q < H.size → AX q → A0 q)
    (kx : ∀ (E : String) (ce : Cell) (q9 : Addr) (u : SX) (t : State) (H1 : Heap) (locs1 : List Loc), t.heap = H1 → s.vm.Alike t.vm → px u → BX E u t → H.size ≤ H1.size → (∀ q : Nat, q < H.size → ¬ AX q → H1[q]? = H[q]?) → va_S A0 H0 H1 locs1 → H1[q9]? = some ce → ce.vm = .none → s.vm.findClass E = some ce.cls → vx_W p l e R s m args below meth c H1 locs1 (cells + mc) (slots + ms) Q (F0 m pc ls rest) q9)
    (kk : ∀ (u : S) (t : State) (H1 : Heap) (locs1 : List Loc), t.heap = H1 → s.vm.Alike t.vm → post u → B u t → H.size ≤ H1.size → (∀ q : Nat, q < H.size → ¬ A1 q → H1[q]? = H[q]?) → va_S A0 H0 H1 locs1 → W p l e R s m args below meth c H1 locs1 (cells + mc) (slots + ms) Q (F0 m (pc + 3) ls (rest))) : W p l e R s m args below meth c H locs cells slots Q (F0 m pc ls st0) := by
  intro T hT X
  rcases hr T hT X with ⟨v, st₀, t, T', L, h0, X', hL, e1, e2, ⟨⟨u, hv, hp, hb⟩, hF⟩, st⟩ | ⟨q, st₀, t, T', L, E, ce, h0, X', hL, e1, e2, ⟨u, hp, hb, hF⟩, hce, hcv, hcl, st⟩
  · cases hv
    obtain ⟨k1, k2, k3⟩ := vx_keep h0 e1 hS hA hf hL hF
    obtain ⟨t2, a1, b1⟩ := kk u t T'.heap (locs ++ L) e1.symm (by rw [← e2]; exact X'.warmed.alike) hp hb k1 k2 k3 T' rfl X'
    exact ⟨t2, st t2 a1, b1⟩
  · obtain ⟨k1, k2, k3⟩ := vx_keep h0 e1 hS hAX hf hL hF
    obtain ⟨t2, a1, b1⟩ := kx E ce q u t T'.heap (locs ++ L) e1.symm (by rw [← e2]; exact X'.warmed.alike) hp hb k1 k2 k3 (by rw [e1]; exact hce) hcv hcl T' rfl X'
    exact ⟨t2, st.trans a1, b1⟩
/-- caught by the row x of this method's table; the rows ahead don't take it -/
theorem vx_catch {own name : String} {E : String} {ce : Cell} {q : Addr} (hown : s.vm.findClass own = some m.cls) (pre : List ExceptionTableEntry) (x : ExceptionTableEntry) (suf : List ExceptionTableEntry) (hsplit : c.exceptionTable.toList = pre ++ x :: suf)
    (hpass : ∀ z ∈ pre, covers z pc = false ∨ (z.catchType ≠ 0 ∧ ∃ nm : String, (Cond.classLink own z.catchType nm).before args s = true ∧ va_Nc E nm s)) (hx : covers x pc = true) (h0 : x.catchType ≠ 0)
    (hlink : (Cond.classLink own x.catchType name).before args s = true) (hcast : (Cond.castable E name).before args s = true) (hcell : H[q]? = some ce) (hv : ce.vm = .none) (hcl : s.vm.findClass E = some ce.cls)
    (kk : W p l e R s m args below meth c H locs cells slots Q (F0 m x.handlerPc ls [.ref q])) : vx_W p l e R s m args below meth c H locs cells slots Q (F0 m pc ls rest) q := by
  intro T hT X
  have hpl : e.platform.magicAccessors = ({} : Platform).magicAccessors := by rw [X.admits.platform]
  obtain ⟨c3, c4, hc3, hc4, hasg⟩ := Cond.castable_spec hcast
  cases Option.some.inj (hc3.symm.trans hcl)
  obtain ⟨c5, hc5, hcl5⟩ := Cond.classLink_spec hown hlink e.platform hpl
  cases Option.some.inj (hc4.symm.trans hc5)
  obtain ⟨vm', X', st⟩ := X.thenCaughtThrough q (g := F0 m pc ls rest) rfl (Steps.refl _) (by rw [hT]; exact hcell) (by rw [hv]; rfl) (by obtain ⟨k9, h9, -⟩ := Vm.findClass_spec hcl; exact ⟨k9, h9⟩) pre x suf hsplit
    (fun z hz => by
      rcases hpass z hz with h | ⟨hz0, nm, hl1, hn1⟩
      · exact Or.inl h
      · obtain ⟨c6, hc6, hcl6⟩ := Cond.classLink_spec hown hl1 e.platform hpl
        obtain ⟨a8, b8, h1, h2, h3⟩ := hn1
        cases Option.some.inj (h1.symm.trans hcl)
        cases Option.some.inj (h2.symm.trans hc6)
        exact Or.inr ⟨hz0, _, hcl6, h3⟩) hx (Or.inr ⟨h0, c4, hcl5, hasg⟩)
  obtain ⟨t, a1, b1⟩ := kk (T.setVm vm') hT X'
  exact ⟨t, st.trans a1, b1⟩
end Rows
section Ends
variable {p : Program} {l : Launch} {e : Env} {R : Room} {s : State} {m : MethodId} {args : Array Value} {below : List Frame} {meth : Method} {c : Code} {H : Heap} {locs : List Loc} {cells slots : Nat} {Q : State → Prop}
variable {mc ms : Nat} {free : Addr → Prop} {A0 A1 : Nat → Prop} {H0 : Heap} {a : Array Value} {ls : Array Slot} {st0 rest : List Value}
variable {Qc : Array Value → State → Outcome → State → Prop} {XC : String → State → State → Prop}
/-- what a body that may throw owes at its end -/
def vx_MQ (below : List Frame) (Qc : Array Value → State → Outcome → State → Prop) (XC : String → State → State → Prop) (a : Array Value) (s : State) (mc ms : Nat) (free : Addr → Prop) : State → Prop := fun t =>
  ∃ o, t.status = .running ∧ Ended t below o ∧ vx_Q Qc XC mc ms free a s o t
theorem vx_ret {g : JFrame} {mc ms : Nat} (k : W p l e R s m args below meth c H locs cells slots (MQ below Qc args s mc ms free) g) : W p l e R s m args below meth c H locs cells slots (vx_MQ below Qc XC args s mc ms free) g := by
  intro T hT X
  obtain ⟨t, a1, o, b1, b2, b3, b4⟩ := k T hT X
  exact ⟨t, a1, o, b1, b2, Or.inl ⟨b3, b4⟩⟩
/-- not caught here: it goes on to the caller -/
theorem vx_widen {g : JFrame} {q : Addr} {k n : Nat} (h1 : cells ≤ k) (h2 : slots ≤ n) (kk : vx_W p l e R s m args below meth c H locs k n Q g q) : vx_W p l e R s m args below meth c H locs cells slots Q g q := fun T hT X => kk T hT (stand_widen X h1 h2)
theorem vx_out {pc : Nat} {E : String} {ce : Cell} {q : Addr} {mc ms : Nat} (hout : ∀ x ∈ c.exceptionTable.toList, covers x pc = false) (hlocks : meth.locks = false) (hcell : H[q]? = some ce) (hv : ce.vm = .none) (hcl : s.vm.findClass E = some ce.cls)
    (hx : ∀ t : State, t.heap = H → s.vm.Alike t.vm → XC E s t) (hf : ∀ z ∈ locs, free z.base) (hc : cells ≤ mc) (hs : slots ≤ ms) :
    vx_W p l e R s m args below meth c H locs cells slots (vx_MQ below Qc XC args s mc ms free) (F0 m pc ls rest) q := by
  intro T hT X
  obtain ⟨st1, hrun, hend, hW, hsm⟩ := X.leaveThrown q (g := F0 m pc ls rest) rfl rfl rfl hout hlocks
  have hcell9 : (T.setFrames (.throwing q :: below)).heap[q]? = some ce := by
    show T.heap[q]? = some ce
    rw [hT]; exact hcell
  exact ⟨_, st1, .threw q, hrun, hend, Or.inr ⟨q, rfl, E, ce, locs, hx _ hT hW.alike, hcell9, hv, hcl, hW, hsm.mono hc hs, hf⟩⟩
theorem vx_frame {U : State} {k n : Nat} (h : s.sameButNew ({ U with vm := s.vm } : State) locs k n) : s.heap.size ≤ U.heap.size ∧ ∀ q : Nat, q < s.heap.size → (∀ z ∈ locs, z.base ≠ q) → U.heap[q]? = s.heap[q]? := by
  obtain ⟨-, h2, -, -, -, h6⟩ := h
  refine ⟨h2, fun q hq hz => ?_⟩
  obtain ⟨c9, e1, e2, e3, e4⟩ := h6 q _ (Array.getElem?_eq_getElem hq)
  have hs : c9.slots = (s.heap[q]).slots := Array.ext_getElem? fun i => e4 i fun hm => hz _ hm rfl
  have h9 : c9 = s.heap[q] := by
    rw [hs] at e2
    exact e2
  have e5 : U.heap[q]? = some c9 := e1
  rw [e5, h9, Array.getElem?_eq_getElem hq]
/-- the words of a throw but the four that speak of the heap -/
def vx_no (w : Cond) : Bool := decide (w ≠ .isRef (.static Bundle.tN "UNASSIGNED_STACK" Bundle.steD)) && decide (w ≠ .isRef (.static Bundle.tN "SUPPRESSED_SENTINEL" Bundle.listD)) && decide (w ≠ .laysStatic Bundle.tN "UNASSIGNED_STACK" Bundle.steD) && decide (w ≠ .laysStatic Bundle.tN "SUPPRESSED_SENTINEL" Bundle.listD)
def vx_at0 (own : String) (ic : Nat) (X : String) (names : List String) : List Cond := (Bundle.ownAtoms0 own ic X names).filter vx_no
def vx_atS (own : String) (ic : Nat) (X : String) (names : List String) : List Cond := (Bundle.ownAtoms own ic X names).filter vx_no
/-- a word that the tables alone decide, or a good one -/
def vx_ot (w : Cond) : Bool := w.onTables || goodWord w
theorem vx_ot_at {args a' : Array Value} {s U : State} {w : Cond} (hW : s.WarmedH U.vm) (hvm : s.vm = U.vm) (hg : vx_ot w = true) (h : w.before args s = true) : w.before a' U = true := by
  simp only [vx_ot, Bool.or_eq_true] at hg
  rcases hg with hg | hg
  · exact va_tabs hg hvm h
  · exact word_at hW (good_of_word hg) h
/-- a list's words: the good ones out of the method's own list, the others by premises of their own -/
theorem vx_hat {args : Array Value} {s : State} {L B : List Cond} (h1 : ∀ w ∈ L.filter goodWord, w.before args s = true) (h2 : ∀ w ∈ L.filter (fun w => !goodWord w), w ∈ B) (h3 : ∀ w ∈ B, w.before args s = true) : ∀ w ∈ L, w.before args s = true := by
  intro w hw
  by_cases g : goodWord w = true
  · exact h1 w (List.mem_filter.mpr ⟨hw, g⟩)
  · refine h3 w (h2 w (List.mem_filter.mpr ⟨hw, ?_⟩))
    show (!goodWord w) = true
    cases hgw : goodWord w
    · rfl
    · exact absurd hgw g
theorem vx_c {args : Array Value} {s : State} {w : Cond} {B : List Cond} (h : w.before args s = true) (t : ∀ w ∈ B, w.before args s = true) : ∀ w' ∈ w :: B, w'.before args s = true := fun w' h' => (List.mem_cons.mp h').elim (fun e => by rw [e]; exact h) (t w')
theorem vx_n {args : Array Value} {s : State} : ∀ w ∈ ([] : List Cond), w.before args s = true := fun _ h => nomatch h
theorem vx_own {args : Array Value} {s : State} {L : List Cond} (h1 : ∀ w ∈ L.filter vx_no, w.before args s = true)
    (hU : (Cond.isRef (.static Bundle.tN "UNASSIGNED_STACK" Bundle.steD)).before args s = true) (hN : (Cond.isRef (.static Bundle.tN "SUPPRESSED_SENTINEL" Bundle.listD)).before args s = true)
    (lU : (Cond.laysStatic Bundle.tN "UNASSIGNED_STACK" Bundle.steD).before args s = true) (lN : (Cond.laysStatic Bundle.tN "SUPPRESSED_SENTINEL" Bundle.listD).before args s = true) : ∀ w ∈ L, w.before args s = true := by
  intro w hw
  by_cases e1 : w = .isRef (.static Bundle.tN "UNASSIGNED_STACK" Bundle.steD)
  · rw [e1]; exact hU
  · by_cases e2 : w = .isRef (.static Bundle.tN "SUPPRESSED_SENTINEL" Bundle.listD)
    · rw [e2]; exact hN
    · by_cases e3 : w = .laysStatic Bundle.tN "UNASSIGNED_STACK" Bundle.steD
      · rw [e3]; exact lU
      · by_cases e4 : w = .laysStatic Bundle.tN "SUPPRESSED_SENTINEL" Bundle.listD
        · rw [e4]; exact lN
        · exact h1 w (List.mem_filter.mpr ⟨hw, by unfold vx_no; rw [decide_eq_true e1, decide_eq_true e2, decide_eq_true e3, decide_eq_true e4]; rfl⟩)
/-- where a static field lies, its class's statics cell in H -/
def vx_L (C n d : String) (A : Nat → Prop) (U : State) (H : Heap) : Prop := ∃ (c : ClassId) (k : Class) (i : Nat) (f : Field) (a : Nat) (cell : Cell), U.vm.findClass C = some c ∧ U.fieldFound? C n d = some (c, k, i, f) ∧ f.isStatic = true ∧ k.statics = some a ∧ H[a]? = some cell ∧ cell.vm.isStatics = true ∧ cell.cls = c ∧ f.slot < cell.slots.size ∧ k.staticTypes[f.slot]? = some f.type ∧ ¬ A a
theorem vx_L.moved {C n d : String} {A : Nat → Prop} {u U : State} {H : Heap} (hvm : u.vm.Alike U.vm) (h : vx_L C n d A u H) : vx_L C n d A U H := by
  obtain ⟨c, k, i, f, a, cell, h1, h2, h3, h4, h5, h6, h7, h8, h9, h10⟩ := h
  obtain ⟨k', hi', he⟩ := State.fieldFound?_setVm hvm h2
  exact ⟨c, k', i, f, a, cell, by rw [hvm.findClass]; exact h1, hi', h3, by rw [he]; exact h4, h5, h6, h7, h8, by rw [he]; exact h9, h10⟩
theorem vx_L.kept {C n d : String} {A : Nat → Prop} {U : State} {H H1 : Heap} (h : vx_L C n d A U H) (hq : ∀ a : Nat, a < H.size → ¬ A a → H1[a]? = H[a]?) : vx_L C n d A U H1 := by
  obtain ⟨c, k, i, f, a, cell, h1, h2, h3, h4, h5, h6, h7, h8, h9, h10⟩ := h
  exact ⟨c, k, i, f, a, cell, h1, h2, h3, h4, by rw [hq a (Array.getElem?_eq_some_iff.mp h5).1 h10]; exact h5, h6, h7, h8, h9, h10⟩
theorem vx_L.narrow {C n d : String} {A B : Nat → Prop} {U : State} {H : Heap} (h : vx_L C n d A U H) (hAB : ∀ q, B q → A q) : vx_L C n d B U H := by
  obtain ⟨c, k, i, f, a, cell, h1, h2, h3, h4, h5, h6, h7, h8, h9, h10⟩ := h
  exact ⟨c, k, i, f, a, cell, h1, h2, h3, h4, h5, h6, h7, h8, h9, fun z => h10 (hAB _ z)⟩
theorem vx_L.word {C n d : String} {A : Nat → Prop} {s : State} {args : Array Value} (h : vx_L C n d A s s.heap) : (Cond.laysStatic C n d).before args s = true := by
  obtain ⟨c, k, i, f, a, cell, h1, h2, h3, h4, h5, h6, h7, h8, h9, -⟩ := h
  show (Cond.laysStatic C n d).holds args s none s [] = true
  exact Cond.laysStatic_of h1 h2 h3 h4 h5 h6 h7 h8 h9
/-- .. and what it holds: null or some reference -/
def vx_Zq (C n d : String) (A : Nat → Prop) (U : State) (H : Heap) : Prop := va_Zq C n d A U H ∧ vx_L C n d A U H
theorem vx_Zq.moved {C n d : String} {A : Nat → Prop} {u U : State} {H : Heap} (hvm : u.vm.Alike U.vm) (h : vx_Zq C n d A u H) : vx_Zq C n d A U H := ⟨va_Zq.moved hvm h.1, vx_L.moved hvm h.2⟩
theorem vx_Zq.kept {C n d : String} {A : Nat → Prop} {U : State} {H H1 : Heap} (h : vx_Zq C n d A U H) (hq : ∀ a : Nat, a < H.size → ¬ A a → H1[a]? = H[a]?) : vx_Zq C n d A U H1 := ⟨va_Zq.kept h.1 hq, vx_L.kept h.2 hq⟩
theorem vx_Zq.narrow {C n d : String} {A B : Nat → Prop} {U : State} {H : Heap} (h : vx_Zq C n d A U H) (hAB : ∀ q, B q → A q) : vx_Zq C n d B U H := ⟨va_Zq.narrow h.1 hAB, vx_L.narrow h.2 hAB⟩
theorem vx_Zqof {args : Array Value} {s : State} {C n d : String} {A : Nat → Prop} (hl : (Cond.laysStatic C n d).before args s = true) (hini : (Cond.initialized C).before args s = true) (h : (Cond.isRef (.static C n d)).before args s = true) (hA : ∀ a : Nat, a < s.heap.size → ¬ A a) : vx_Zq C n d A s s.heap := by
  refine ⟨va_Zqof hl hini h hA, ?_⟩
  obtain ⟨c, k, i, f, a, cell, h1, h2, h3, h4, h5, h6, h7, h8, h9⟩ := Cond.laysStatic_spec hl
  exact ⟨c, k, i, f, a, cell, h1, h2, h3, h4, h5, h6, h7, h8, h9, hA a (Array.getElem?_eq_some_iff.mp h5).1⟩
theorem vx_isRef {C n d : String} {v : Value} {A : Nat → Prop} {s : State} {args : Array Value} (h : va_Z C n d v A s s.heap) (hv : v.isRef = true) : (Cond.isRef (.static C n d)).before args s = true := by
  obtain ⟨cf, kf, fi, f, a, cell, h1, h2, h3, h4, h5, h6, h7, -⟩ := h
  have he : (Term.static C n d).eval args s none [] s = some v := by
    simp [Term.eval, State.fieldNamed?, h1, h2, h4, h5, h6, h7]
  simp only [Cond.before, Cond.holds, Cond.value, he]
  cases v <;> simp_all [Value.isRef]
theorem vx_isRefq {C n d : String} {A : Nat → Prop} {s : State} {args : Array Value} (h : va_Zq C n d A s s.heap) : (Cond.isRef (.static C n d)).before args s = true := by
  rcases h with h | ⟨t, h⟩
  · exact vx_isRef h rfl
  · exact vx_isRef h rfl
/-- the same frame, seen from here: as if the method were called anew in this heap -/
theorem vx_rebase {T : State} (X : Stand p l e R s m args below meth c T locs cells slots) {R' : Room} (hf : R'.frames ≤ R.frames) (hl : R'.locals ≤ R.locals) (hc : cells + R'.cells ≤ R.cells) (hs : slots + R'.slots ≤ R.slots) :
    Stand p l e R' ((T.setVm s.vm).setFrames (.invoking m args :: below)) m args below meth c T [] 0 0 := by
  have htop : (T.setVm s.vm).topJava?.isSome := X.here.top
  have hF : ((T.setVm s.vm).setFrames (.invoking m args :: below)).frames = .invoking m args :: below := State.frames_setFrames _ (State.cur_lt_of_top htop)
  obtain ⟨g₀, hg0⟩ := Option.isSome_iff_exists.mp htop
  obtain ⟨r, hr⟩ := State.topJava?_eq_some.mp hg0
  have hl9 : e.platform.stackLimits (T.setVm s.vm).me = e.platform.stackLimits s.me := X.limits
  have hb9 : (T.setVm s.vm).me.stackBytes = s.me.stackBytes := X.bytes
  refine ⟨X.admits, X.cas, X.clock, hF, ?_, X.hears, X.method, X.code, X.here, X.tail, X.warmed, ?_, ?_, ?_⟩
  · have h := X.room
    have hU : ((T.setVm s.vm).setFrames (.invoking m args :: below)).localsInUse = s.localsInUse := by
      rw [State.localsInUse_invoking hF (meth := meth) (c := c) X.method X.code, State.localsInUse_invoking X.frames X.method X.code]
    simp only [State.hasRoom, Bool.and_eq_true, decide_eq_true_eq] at h ⊢
    obtain ⟨⟨⟨⟨h1, h2, h3, h4, h5, h6⟩, h7⟩, h8⟩, h9⟩ := h
    rw [X.frames, List.length_cons] at h2 h3
    have q1 := X.heapSize
    have q2 := X.used
    simp only [hF, hU, List.length_cons, State.stackLimits_setFrames, State.stackBytes_setFrames, hl9, hb9]
    refine ⟨⟨⟨⟨by omega, by omega, by omega, by omega, by omega, h6⟩, ?_⟩, ?_⟩, X.book⟩
    · show T.heap.size + R'.cells ≤ e.platform.maxCells
      omega
    · show T.slotsUsed + R'.slots ≤ e.platform.maxSlots
      omega
  · rw [State.stackLimits_setFrames]; rfl
  · rw [State.stackBytes_setFrames]; rfl
  · refine ⟨?_, Nat.le_refl _, Nat.le_refl _, ?_, ?_, fun a c9 h9 => ⟨c9, h9, rfl, rfl, fun _ _ => rfl⟩⟩
    · obtain ⟨t, ht, -⟩ := State.frames_cons hr
      show T.setVm s.vm = { ((T.setVm s.vm).setFrames (.invoking m args :: below)).setFrames (T.setVm s.vm).frames with heap := T.heap, slotsUsed := T.slotsUsed }
      rw [State.setFrames_setFrames, State.setFrames_self ht]
      rfl
    · show T.slotsUsed = T.slotsUsed + ((T.heap.toList.drop T.heap.size).map (·.slots.size)).sum
      rw [List.drop_eq_nil_of_le (Nat.le_of_eq Array.length_toList)]
      rfl
    · show ((T.heap.toList.drop T.heap.size).map (·.slots.size)).sum ≤ 0
      rw [List.drop_eq_nil_of_le (Nat.le_of_eq Array.length_toList)]
      exact Nat.le_refl _
/-- 'throw new E()': new; dup; invokespecial; athrow -/
theorem vx_throw0 {cc : ByteArray} {pc : Nat} (hexec : p.tables.exec = Jvm.exec) (hb : c.code = cc) (hl : l.stackTraces = false) {own cls : String} {names : List String} {ik ic mc ms : Nat} {A : Nat → Prop}
    (hown : s.vm.findClass own = some m.cls) (hcls : Bundle.fit cls = true) (hnames : ∀ n ∈ names, Bundle.fit n = true)
    (hk : (Cond.classLink own ik cls).before args s = true) (hini : (Cond.initialized cls).before args s = true) (hat : ∀ w ∈ vx_at0 own ic cls names, w.before args s = true)
    (hgood : ∀ w ∈ Cond.classLink own ik cls :: Cond.initialized cls :: vx_at0 own ic cls names, vx_ot w = true)
    (hU : vx_Zq Bundle.tN "UNASSIGNED_STACK" Bundle.steD A s s.heap) (hN : vx_Zq Bundle.tN "SUPPRESSED_SENTINEL" Bundle.listD A s s.heap) (hS : va_S A s.heap H locs) (hsize : ls.size = c.maxLocals)
    (d0 : decode cc pc = .ok (.new ik, 3)) (d3 : decode cc (pc + 3) = .ok (.dup, 1)) (d4 : decode cc (pc + 4) = .ok (.invokespecial ic, 3)) (d7 : decode cc (pc + 7) = .ok (.athrow, 1))
    (hout : ∀ x ∈ c.exceptionTable.toList, covers x (pc + 7) = false)
    (hRframes : names.length + 3 < R.frames) (hRlocals : (rest.map fun v => v.category).sum + (13 * (names.length + 1) + 42) ≤ R.locals) (hRcells : cells + 1 ≤ R.cells) (hRslots : slots + 6 ≤ R.slots) (hlocks : meth.locks = false)
    (hx : ∀ t : State, s.vm.Alike t.vm → H.size ≤ t.heap.size → (∀ q : Nat, q < H.size → t.heap[q]? = H[q]?) → XC cls s t)
    (hf : ∀ z ∈ locs, free z.base) (hc : cells + 1 ≤ mc) (hs : slots + 6 ≤ ms) :
    W p l e R s m args below meth c H locs cells slots (vx_MQ below Qc XC args s mc ms free) (F0 m pc ls rest) := by
  intro T hT X
  have htr : e.platform.stackTraces = false := (show e.platform.stackTraces = l.stackTraces by rw [X.admits.platform]).trans hl
  have Y := vx_rebase X (R' := { frames := R.frames, locals := R.locals, cells := 1, slots := 6 }) (Nat.le_refl _) (Nat.le_refl _) hRcells hRslots
  obtain ⟨s', hA⟩ : ∃ z, z = (T.setVm s.vm).setFrames (.invoking m args :: below) := ⟨_, rfl⟩
  rw [← hA] at Y
  have hvm : s'.vm = s.vm := by rw [hA]; rfl
  have hhp : s'.heap = H := by rw [hA]; exact hT
  have hW0 : s.WarmedH s'.vm := by rw [hvm]; exact State.WarmedH.refl s
  have hat' : ∀ w ∈ vx_at0 own ic cls names, w.before args s' = true := fun w hw => vx_ot_at hW0 hvm.symm (hgood w (List.mem_cons_of_mem _ (List.mem_cons_of_mem _ hw))) (hat w hw)
  have hk' : (Cond.classLink own ik cls).before args s' = true := vx_ot_at hW0 hvm.symm (hgood _ List.mem_cons_self) hk
  have hini' : (Cond.initialized cls).before args s' = true := vx_ot_at hW0 hvm.symm (hgood _ (List.mem_cons_of_mem _ List.mem_cons_self)) hini
  have hU' : vx_Zq Bundle.tN "UNASSIGNED_STACK" Bundle.steD A s' s'.heap := by rw [hhp]; exact vx_Zq.moved hW0.alike (hU.kept hS.2.1)
  have hN' : vx_Zq Bundle.tN "SUPPRESSED_SENTINEL" Bundle.listD A s' s'.heap := by rw [hhp]; exact vx_Zq.moved hW0.alike (hN.kept hS.2.1)
  have h : ∀ w ∈ Bundle.ownAtoms0 own ic cls names, w.before args s' = true := vx_own hat' (vx_isRefq hU'.1) (vx_isRefq hN'.1) hU'.2.word hN'.2.word
  have hown' : s'.vm.findClass own = some m.cls := by rw [hvm]; exact hown
  have hins : (Cond.instantiable cls 6).before args s' = true := h _ (by simp [Bundle.ownAtoms0])
  obtain ⟨vm₁, cX, kX, hfX, hkX, -, -, X₁, st1⟩ := Y.newCold hexec (own := own) (C := cls) (index := ik) (n := 6) hown' hk' hins hini'
    (g := F0 m pc ls rest) rfl (by rw [hb]; exact d0) (Nat.le_refl _) (Nat.le_refl _)
  generalize hT1 : (T.setVm vm₁).pushCell { cls := cX, slots := kX.instanceTypes.map defaultValue, vm := .none } = T1 at X₁ st1
  have hcat : (Value.ref T.heap.size).category = 1 := rfl
  have hcellA : T1.heap[T.heap.size]? = some (freshCell cX kX) := by rw [← hT1]; exact State.heap_pushCell_size _ _
  have d3' : decode c.code (pc + 3) = .ok (.dup, 1) := by rw [hb]; exact d3
  obtain ⟨U, hsteps, hrun, hend, hW, hsame, ce, hce, hO⟩ := X₁.ctorThrow0 hexec htr (own := own) (cls := cls) (names := names) (ic := ic) hown' hcls hnames h (fun x hx => nomatch hx) hfX hkX hcellA (by rw [hhp, hT]; exact Nat.le_refl _)
    (g := { method := m, pc := pc + 4, locals := ls, stack := .ref T.heap.size :: .ref T.heap.size :: rest, locked := none }) rfl hsize rfl rfl (rest := rest) rfl
    (by rw [hb]; exact d4) (by rw [hb]; exact d7) hout hRframes (by simp only [List.map_cons, List.sum_cons, hcat]; omega) hlocks
  obtain ⟨f1, f2⟩ := vx_frame hsame
  rw [hhp] at f1 f2
  have hWs : s.WarmedH U.vm := State.WarmedH.trans hW0 hW
  have hcl : s.vm.findClass cls = some ce.cls := by
    have h9 := hO.cls
    rw [hvm] at h9
    exact h9
  have hall : s.sameButNew ({ U with vm := s.vm } : State) locs mc ms := by
    subst hA
    obtain ⟨e1, e2⟩ := hsame
    rw [State.setFrames_setFrames] at e1
    have h2 : (T.setVm s.vm).sameButNew ({ U with vm := s.vm } : State) [] (0 + 1) (0 + 6) := ⟨e1, e2⟩
    have h3 := X.same.trans h2
    rw [List.append_nil] at h3
    exact h3.mono hc hs
  refine ⟨U, ?_, .threw T.heap.size, hrun, hend, Or.inr ⟨T.heap.size, rfl, cls, ce, locs, hx U hWs.alike f1 (fun q hq => f2 q hq (fun z hz => nomatch hz)), hce, hO.vm, hcl, hWs, hall, hf⟩⟩
  refine st1 _ ?_
  show Steps p.tables e below (T1.setTop { method := m, pc := pc + 3, locals := ls, stack := .ref T.heap.size :: rest, locked := none }) _
  jvm_step X₁.here [X₁.here.top, hexec, d3', Value.category]
  exact hsteps
/-- 'throw new E("text")': new; dup; ldc; invokespecial; athrow -/
theorem vx_throwS {cc : ByteArray} {pc : Nat} (hexec : p.tables.exec = Jvm.exec) (hb : c.code = cc) (hl : l.stackTraces = false) {own cls text : String} {names : List String} {ik is ic mc ms sa : Nat} {A : Nat → Prop}
    (hown : s.vm.findClass own = some m.cls) (hcls : Bundle.fit cls = true) (hnames : ∀ n ∈ names, Bundle.fit n = true)
    (hk : (Cond.classLink own ik cls).before args s = true) (hini : (Cond.initialized cls).before args s = true) (hstr : vk_R own is text sa s) (hat : ∀ w ∈ vx_atS own ic cls names, w.before args s = true)
    (hgood : ∀ w ∈ Cond.classLink own ik cls :: Cond.initialized cls :: vx_atS own ic cls names, vx_ot w = true)
    (hU : vx_Zq Bundle.tN "UNASSIGNED_STACK" Bundle.steD A s s.heap) (hN : vx_Zq Bundle.tN "SUPPRESSED_SENTINEL" Bundle.listD A s s.heap) (hS : va_S A s.heap H locs) (hsize : ls.size = c.maxLocals)
    (d0 : decode cc pc = .ok (.new ik, 3)) (d3 : decode cc (pc + 3) = .ok (.dup, 1)) (d4 : decode cc (pc + 4) = .ok (.ldc is, 2)) (d6 : decode cc (pc + 6) = .ok (.invokespecial ic, 3)) (d9 : decode cc (pc + 9) = .ok (.athrow, 1))
    (hout : ∀ x ∈ c.exceptionTable.toList, covers x (pc + 9) = false)
    (hRframes : names.length + 3 < R.frames) (hRlocals : (rest.map fun v => v.category).sum + (13 * (names.length + 1) + 43) ≤ R.locals) (hRcells : cells + 1 ≤ R.cells) (hRslots : slots + 6 ≤ R.slots) (hlocks : meth.locks = false)
    (hx : ∀ t : State, s.vm.Alike t.vm → H.size ≤ t.heap.size → (∀ q : Nat, q < H.size → t.heap[q]? = H[q]?) → XC cls s t)
    (hf : ∀ z ∈ locs, free z.base) (hc : cells + 1 ≤ mc) (hs : slots + 6 ≤ ms) :
    W p l e R s m args below meth c H locs cells slots (vx_MQ below Qc XC args s mc ms free) (F0 m pc ls rest) := by
  intro T hT X
  have htr : e.platform.stackTraces = false := (show e.platform.stackTraces = l.stackTraces by rw [X.admits.platform]).trans hl
  have Y := vx_rebase X (R' := { frames := R.frames, locals := R.locals, cells := 1, slots := 6 }) (Nat.le_refl _) (Nat.le_refl _) hRcells hRslots
  obtain ⟨s', hA⟩ : ∃ z, z = (T.setVm s.vm).setFrames (.invoking m args :: below) := ⟨_, rfl⟩
  rw [← hA] at Y
  have hvm : s'.vm = s.vm := by rw [hA]; rfl
  have hhp : s'.heap = H := by rw [hA]; exact hT
  have hW0 : s.WarmedH s'.vm := by rw [hvm]; exact State.WarmedH.refl s
  have hat' : ∀ w ∈ vx_atS own ic cls names, w.before args s' = true := fun w hw => vx_ot_at hW0 hvm.symm (hgood w (List.mem_cons_of_mem _ (List.mem_cons_of_mem _ hw))) (hat w hw)
  have hk' : (Cond.classLink own ik cls).before args s' = true := vx_ot_at hW0 hvm.symm (hgood _ List.mem_cons_self) hk
  have hini' : (Cond.initialized cls).before args s' = true := vx_ot_at hW0 hvm.symm (hgood _ (List.mem_cons_of_mem _ List.mem_cons_self)) hini
  have hU' : vx_Zq Bundle.tN "UNASSIGNED_STACK" Bundle.steD A s' s'.heap := by rw [hhp]; exact vx_Zq.moved hW0.alike (hU.kept hS.2.1)
  have hN' : vx_Zq Bundle.tN "SUPPRESSED_SENTINEL" Bundle.listD A s' s'.heap := by rw [hhp]; exact vx_Zq.moved hW0.alike (hN.kept hS.2.1)
  have h : ∀ w ∈ Bundle.ownAtoms own ic cls names, w.before args s' = true := vx_own hat' (vx_isRefq hU'.1) (vx_isRefq hN'.1) hU'.2.word hN'.2.word
  have hown' : s'.vm.findClass own = some m.cls := by rw [hvm]; exact hown
  have hins : (Cond.instantiable cls 6).before args s' = true := h _ (by simp [Bundle.ownAtoms])
  obtain ⟨vm₁, cX, kX, hfX, hkX, -, -, X₁, st1⟩ := Y.newCold hexec (own := own) (C := cls) (index := ik) (n := 6) hown' hk' hins hini'
    (g := F0 m pc ls rest) rfl (by rw [hb]; exact d0) (Nat.le_refl _) (Nat.le_refl _)
  generalize hT1 : (T.setVm vm₁).pushCell { cls := cX, slots := kX.instanceTypes.map defaultValue, vm := .none } = T1 at X₁ st1
  have hcat : (Value.ref T.heap.size).category = 1 := rfl
  have hcellA : T1.heap[T.heap.size]? = some (freshCell cX kX) := by rw [← hT1]; exact State.heap_pushCell_size _ _
  have d3' : decode c.code (pc + 3) = .ok (.dup, 1) := by rw [hb]; exact d3
  have d4' : decode c.code (pc + 4) = .ok (.ldc is, 2) := by rw [hb]; exact d4
  have hstr' : vk_R own is text sa s' := vk_R.warm hW0 hstr
  obtain ⟨U, hsteps, hrun, hend, hW, hsame, ce, hce, hO⟩ := X₁.ctorThrowS hexec htr (own := own) (cls := cls) (names := names) (ic := ic) hown' hcls hnames h (fun x hx => nomatch hx) hfX hkX hcellA (by rw [hhp, hT]; exact Nat.le_refl _) (msg := .ref sa) rfl
    (g := { method := m, pc := pc + 6, locals := ls, stack := .ref sa :: .ref T.heap.size :: .ref T.heap.size :: rest, locked := none }) rfl hsize rfl rfl (rest := rest) rfl
    (by rw [hb]; exact d6) (by rw [hb]; exact d9) hout hRframes (by simp only [List.map_cons, List.sum_cons, hcat]; omega) hlocks
  obtain ⟨f1, f2⟩ := vx_frame hsame
  rw [hhp] at f1 f2
  have hWs : s.WarmedH U.vm := State.WarmedH.trans hW0 hW
  have hcl : s.vm.findClass cls = some ce.cls := by
    have h9 := hO.cls
    rw [hvm] at h9
    exact h9
  have hall : s.sameButNew ({ U with vm := s.vm } : State) locs mc ms := by
    subst hA
    obtain ⟨e1, e2⟩ := hsame
    rw [State.setFrames_setFrames] at e1
    have h2 : (T.setVm s.vm).sameButNew ({ U with vm := s.vm } : State) [] (0 + 1) (0 + 6) := ⟨e1, e2⟩
    have h3 := X.same.trans h2
    rw [List.append_nil] at h3
    exact h3.mono hc hs
  refine ⟨U, ?_, .threw T.heap.size, hrun, hend, Or.inr ⟨T.heap.size, rfl, cls, ce, locs, hx U hWs.alike f1 (fun q hq => f2 q hq (fun z hz => nomatch hz)), hce, hO.vm, hcl, hWs, hall, hf⟩⟩
  refine st1 _ ?_
  show Steps p.tables e below (T1.setTop { method := m, pc := pc + 3, locals := ls, stack := .ref T.heap.size :: rest, locked := none }) _
  jvm_step X₁.here [X₁.here.top, hexec, d3', Value.category]
  exact X₁.ldcString hexec (own := own) (text := text) (index := is) (a := sa) hown' hstr'.1 hstr'.2
    (g := { method := m, pc := pc + 4, locals := ls, stack := .ref T.heap.size :: .ref T.heap.size :: rest, locked := none }) rfl d4' _ hsteps
/-- 'throw new E("text")', the text by a wide index -/
theorem vx_throwSW {cc : ByteArray} {pc : Nat} (hexec : p.tables.exec = Jvm.exec) (hb : c.code = cc) (hl : l.stackTraces = false) {own cls text : String} {names : List String} {ik is ic mc ms sa : Nat} {A : Nat → Prop}
    (hown : s.vm.findClass own = some m.cls) (hcls : Bundle.fit cls = true) (hnames : ∀ n ∈ names, Bundle.fit n = true)
    (hk : (Cond.classLink own ik cls).before args s = true) (hini : (Cond.initialized cls).before args s = true) (hstr : vk_R own is text sa s) (hat : ∀ w ∈ vx_atS own ic cls names, w.before args s = true)
    (hgood : ∀ w ∈ Cond.classLink own ik cls :: Cond.initialized cls :: vx_atS own ic cls names, vx_ot w = true)
    (hU : vx_Zq Bundle.tN "UNASSIGNED_STACK" Bundle.steD A s s.heap) (hN : vx_Zq Bundle.tN "SUPPRESSED_SENTINEL" Bundle.listD A s s.heap) (hS : va_S A s.heap H locs) (hsize : ls.size = c.maxLocals)
    (d0 : decode cc pc = .ok (.new ik, 3)) (d3 : decode cc (pc + 3) = .ok (.dup, 1)) (d4 : decode cc (pc + 4) = .ok (.ldc_w is, 3)) (d7 : decode cc (pc + 7) = .ok (.invokespecial ic, 3)) (d10 : decode cc (pc + 10) = .ok (.athrow, 1))
    (hout : ∀ x ∈ c.exceptionTable.toList, covers x (pc + 10) = false)
    (hRframes : names.length + 3 < R.frames) (hRlocals : (rest.map fun v => v.category).sum + (13 * (names.length + 1) + 43) ≤ R.locals) (hRcells : cells + 1 ≤ R.cells) (hRslots : slots + 6 ≤ R.slots) (hlocks : meth.locks = false)
    (hx : ∀ t : State, s.vm.Alike t.vm → H.size ≤ t.heap.size → (∀ q : Nat, q < H.size → t.heap[q]? = H[q]?) → XC cls s t)
    (hf : ∀ z ∈ locs, free z.base) (hc : cells + 1 ≤ mc) (hs : slots + 6 ≤ ms) :
    W p l e R s m args below meth c H locs cells slots (vx_MQ below Qc XC args s mc ms free) (F0 m pc ls rest) := by
  intro T hT X
  have htr : e.platform.stackTraces = false := (show e.platform.stackTraces = l.stackTraces by rw [X.admits.platform]).trans hl
  have Y := vx_rebase X (R' := { frames := R.frames, locals := R.locals, cells := 1, slots := 6 }) (Nat.le_refl _) (Nat.le_refl _) hRcells hRslots
  obtain ⟨s', hA⟩ : ∃ z, z = (T.setVm s.vm).setFrames (.invoking m args :: below) := ⟨_, rfl⟩
  rw [← hA] at Y
  have hvm : s'.vm = s.vm := by rw [hA]; rfl
  have hhp : s'.heap = H := by rw [hA]; exact hT
  have hW0 : s.WarmedH s'.vm := by rw [hvm]; exact State.WarmedH.refl s
  have hat' : ∀ w ∈ vx_atS own ic cls names, w.before args s' = true := fun w hw => vx_ot_at hW0 hvm.symm (hgood w (List.mem_cons_of_mem _ (List.mem_cons_of_mem _ hw))) (hat w hw)
  have hk' : (Cond.classLink own ik cls).before args s' = true := vx_ot_at hW0 hvm.symm (hgood _ List.mem_cons_self) hk
  have hini' : (Cond.initialized cls).before args s' = true := vx_ot_at hW0 hvm.symm (hgood _ (List.mem_cons_of_mem _ List.mem_cons_self)) hini
  have hU' : vx_Zq Bundle.tN "UNASSIGNED_STACK" Bundle.steD A s' s'.heap := by rw [hhp]; exact vx_Zq.moved hW0.alike (hU.kept hS.2.1)
  have hN' : vx_Zq Bundle.tN "SUPPRESSED_SENTINEL" Bundle.listD A s' s'.heap := by rw [hhp]; exact vx_Zq.moved hW0.alike (hN.kept hS.2.1)
  have h : ∀ w ∈ Bundle.ownAtoms own ic cls names, w.before args s' = true := vx_own hat' (vx_isRefq hU'.1) (vx_isRefq hN'.1) hU'.2.word hN'.2.word
  have hown' : s'.vm.findClass own = some m.cls := by rw [hvm]; exact hown
  have hins : (Cond.instantiable cls 6).before args s' = true := h _ (by simp [Bundle.ownAtoms])
  obtain ⟨vm₁, cX, kX, hfX, hkX, -, -, X₁, st1⟩ := Y.newCold hexec (own := own) (C := cls) (index := ik) (n := 6) hown' hk' hins hini'
    (g := F0 m pc ls rest) rfl (by rw [hb]; exact d0) (Nat.le_refl _) (Nat.le_refl _)
  generalize hT1 : (T.setVm vm₁).pushCell { cls := cX, slots := kX.instanceTypes.map defaultValue, vm := .none } = T1 at X₁ st1
  have hcat : (Value.ref T.heap.size).category = 1 := rfl
  have hcellA : T1.heap[T.heap.size]? = some (freshCell cX kX) := by rw [← hT1]; exact State.heap_pushCell_size _ _
  have d3' : decode c.code (pc + 3) = .ok (.dup, 1) := by rw [hb]; exact d3
  have d4' : decode c.code (pc + 4) = .ok (.ldc_w is, 3) := by rw [hb]; exact d4
  have hstr' : vk_R own is text sa s' := vk_R.warm hW0 hstr
  obtain ⟨U, hsteps, hrun, hend, hW, hsame, ce, hce, hO⟩ := X₁.ctorThrowS hexec htr (own := own) (cls := cls) (names := names) (ic := ic) hown' hcls hnames h (fun x hx => nomatch hx) hfX hkX hcellA (by rw [hhp, hT]; exact Nat.le_refl _) (msg := .ref sa) rfl
    (g := { method := m, pc := pc + 7, locals := ls, stack := .ref sa :: .ref T.heap.size :: .ref T.heap.size :: rest, locked := none }) rfl hsize rfl rfl (rest := rest) rfl
    (by rw [hb]; exact d7) (by rw [hb]; exact d10) hout hRframes (by simp only [List.map_cons, List.sum_cons, hcat]; omega) hlocks
  obtain ⟨f1, f2⟩ := vx_frame hsame
  rw [hhp] at f1 f2
  have hWs : s.WarmedH U.vm := State.WarmedH.trans hW0 hW
  have hcl : s.vm.findClass cls = some ce.cls := by
    have h9 := hO.cls
    rw [hvm] at h9
    exact h9
  have hall : s.sameButNew ({ U with vm := s.vm } : State) locs mc ms := by
    subst hA
    obtain ⟨e1, e2⟩ := hsame
    rw [State.setFrames_setFrames] at e1
    have h2 : (T.setVm s.vm).sameButNew ({ U with vm := s.vm } : State) [] (0 + 1) (0 + 6) := ⟨e1, e2⟩
    have h3 := X.same.trans h2
    rw [List.append_nil] at h3
    exact h3.mono hc hs
  refine ⟨U, ?_, .threw T.heap.size, hrun, hend, Or.inr ⟨T.heap.size, rfl, cls, ce, locs, hx U hWs.alike f1 (fun q hq => f2 q hq (fun z hz => nomatch hz)), hce, hO.vm, hcl, hWs, hall, hf⟩⟩
  refine st1 _ ?_
  show Steps p.tables e below (T1.setTop { method := m, pc := pc + 3, locals := ls, stack := .ref T.heap.size :: rest, locked := none }) _
  jvm_step X₁.here [X₁.here.top, hexec, d3', Value.category]
  exact X₁.ldcStringW hexec (own := own) (text := text) (index := is) (a := sa) hown' hstr'.1 hstr'.2
    (g := { method := m, pc := pc + 4, locals := ls, stack := .ref T.heap.size :: .ref T.heap.size :: rest, locked := none }) rfl d4' _ hsteps
end Ends
section Bodies
variable {l : Launch}
theorem vx_ofW {y : MethodName} {ws ws' : List Cond} {rm : Room} {Pc : Array Value → State → Prop} {Qc : Array Value → State → Outcome → State → Prop} {XC : String → State → State → Prop} {mc ms : Nat} {free : Addr → Prop} {cc : ByteArray} {maxL : Nat} {ret : Option FieldType}
    (hy : plainName y.cls = true) (hw : ws = Cond.code y cc maxL ret :: ws')
    (body : ∀ p e s m args below meth c s₁, BodyLoose p l y (headSpec ws rm) cc maxL ret e s m args below meth c s₁ → c.maxLocals = maxL → (∀ x ∈ c.exceptionTable.toList, False) → Pc args s →
      W p l e (headSpec ws rm).room s m args below meth c s.heap [] 0 0 (vx_MQ below Qc XC args s mc ms free) (entryFrame m args maxL)) : vx_Met l y ws rm Pc Qc XC mc ms free := by
  refine MetFree.of_bodyS (code := cc) (maxLocals := maxL) (ret := ret) hy ?_ ?_
  · intro args s m h hn
    obtain ⟨meth, c, h1, h2, h3, h4, h5, h6, -, -⟩ := Cond.code_spec hn (atoms_spec (ws := ws) h _ (by rw [hw]; exact List.mem_cons_self))
    exact ⟨meth, c, h1, h2, h3, h4, h5, h6⟩
  · intro p e s m args below meth c s₁ B hml hP _
    have hh0 : s₁.heap = s.heap := by rw [B.state]; rfl
    have ht : ∀ x ∈ c.exceptionTable.toList, False := by
      obtain ⟨meth9, c9, h1, h2, -, -, -, -, h7, -⟩ := Cond.code_spec B.named (atoms_spec (ws := ws) B.pre _ (by rw [hw]; exact List.mem_cons_self))
      cases Option.some.inj (h1.symm.trans B.method)
      cases Option.some.inj (h2.symm.trans (Stand.of_body B).code)
      intro x hx
      rw [Array.isEmpty_iff.mp h7] at hx
      cases hx
    obtain ⟨t, a1, o, b1, b2, b3⟩ := body p e s m args below meth c s₁ B hml ht hP s₁ hh0 (Stand.of_body B)
    exact ⟨t, o, a1, b1, b2, b3⟩
/-- the table of a body with handlers -/
theorem vx_table {p : Program} {x y : MethodName} {S : Spec} {cc bytes : ByteArray} {maxL maxL' : Nat} {ret ret' : Option FieldType} {e : Env} {s s₁ : State} {m : MethodId} {args : Array Value} {below : List Frame} {meth : Method} {c : Code} {hh : List (Nat × Nat × Nat × Nat)}
    (B : BodyLoose p l y S cc maxL ret e s m args below meth c s₁) (h : (Cond.codeWith y bytes maxL' ret' hh).before args s = true) : c.exceptionTable.toList = tableOf hh := by
  obtain ⟨m9, meth9, c9, hn9, h1, h2, -, -, h6, -⟩ := Cond.codeWith_spec h
  cases Option.some.inj (hn9.symm.trans B.named)
  cases Option.some.inj (h1.symm.trans B.method)
  cases Option.some.inj (h2.symm.trans (Stand.of_body B).code)
  rw [← h6, table_eq]
end Bodies
end VXA
/-! ===== END ===== -/
/-! ===== BEGIN a static call of a method with an exception table ===== -/
section VXS
variable {p : Program} {l : Launch} {e : Env} {R : Room} {s : State} {m : MethodId} {args : Array Value} {below : List Frame} {meth : Method} {c : Code} {T : State} {H : Heap} {locs : List Loc} {cells slots : Nat}
abbrev vx_CSW (R : Room) (s : State) (args : Array Value) (own : String) (index : Nat) (y : MethodName) (bytes : ByteArray) (maxL : Nat) (ret : Option FieldType) (hh : List (Nat × Nat × Nat × Nat)) (ws : List Cond) (rm : Room) (mc ms n : Nat) : Prop :=
  (rm.cells = mc ∧ rm.slots = ms ∧ rm.frames + 1 ≤ R.frames ∧ 8 + (maxL + 11) + rm.locals ≤ R.locals ∧ (∀ w ∈ ws, ∀ (a' : Array Value) (U : State), s.WarmedH U.vm → w.before a' U = true) ∧ Cond.codeWith y bytes maxL ret hh ∈ ws) ∧
  (Cond.codeWith y bytes maxL ret hh).before args s = true ∧ (Cond.initialized y.cls).before args s = true ∧ (y.cls ≠ "java/lang/invoke/MethodHandle" ∧ y.cls ≠ "java/lang/invoke/VarHandle") ∧
  (∀ sig, parseMethodDescriptor y.desc = some sig → n = sig.parameters.length) ∧ (Cond.methodLink own index y).before args s = true ∧ (Cond.static y).before args s = true
theorem vx_cwSW {own : String} {index maxL mc ms : Nat} {y : MethodName} {bytes : ByteArray} {ret : Option FieldType} {hh : List (Nat × Nat × Nat × Nat)} {Ts ws ws' : List Cond} {rm : Room} (n : Nat) (ht : ∀ w ∈ Ts, w.before args s = true) (hT : GoodIn Ts (va_wsS own index y ws)) (hw : ws = Cond.codeWith y bytes maxL ret hh :: ws') (hrc : rm.cells = mc) (hrs : rm.slots = ms)
    (hd : y.cls ≠ "java/lang/invoke/MethodHandle" ∧ y.cls ≠ "java/lang/invoke/VarHandle" ∧ (parseMethodDescriptor y.desc).map (fun d => d.parameters.length) = some n) (hR : rm.frames + 1 ≤ R.frames ∧ 8 + (maxL + 11) + rm.locals ≤ R.locals) :
    vx_CSW R s args own index y bytes maxL ret hh ws rm mc ms n := by
  have ok : ∀ w ∈ va_wsS own index y ws, w.before args s = true := fun w h => ht w (hT w h).1
  have hG : GoodIn Ts ws := fun w h => hT w (by unfold va_wsS; exact List.mem_append_right _ h)
  have hc : Cond.codeWith y bytes maxL ret hh ∈ ws := by rw [hw]; exact List.mem_cons_self
  refine ⟨⟨hrc, hrs, hR.1, hR.2, pay_in ht hG, hc⟩, ht _ (hG _ hc).1, ok _ (by simp [va_wsS]), ⟨hd.1, hd.2.1⟩, fun sig h => ?_, ok _ (by simp [va_wsS]), ok _ (by simp [va_wsS])⟩
  have h2 := hd.2.2
  rw [h] at h2
  exact (Option.some.inj h2).symm
theorem vx_callSW (X : Stand p l e R s m args below meth c T locs cells slots) (hexec : p.tables.exec = Jvm.exec) {own : String} {index : Nat} {y : MethodName} {bytes : ByteArray} {maxL : Nat} {ret : Option FieldType} {hh : List (Nat × Nat × Nat × Nat)}
    (hown : s.vm.findClass own = some m.cls) (hlink : (Cond.methodLink own index y).before args s = true) (hstat : (Cond.static y).before args s = true) (hinit : (Cond.initialized y.cls).before args s = true)
    (hcode : (Cond.codeWith y bytes maxL ret hh).before args s = true) (hy : y.cls ≠ "java/lang/invoke/MethodHandle" ∧ y.cls ≠ "java/lang/invoke/VarHandle")
    {W9 : Nat} {Pre : Pt → Array Value → Prop} {Post : Pt → Array Value → Option Value → Pt → Prop} (hK : Back l R p e below s args y 3 W9 Pre Post)
    {g : JFrame} (hg : g.method = m) (hsize : g.locals.size = c.maxLocals) {argsL rest : List Value} (hlen : ∀ sig, parseMethodDescriptor y.desc = some sig → argsL.length = sig.parameters.length)
    (hstack : g.stack = argsL.reverse ++ rest) (hW : 2 * g.monitorRoom + (rest.map fun v => v.category).sum ≤ W9) (hdg : decode c.code g.pc = .ok (.invokestatic index, 3))
    (hpre : ∀ vm₁, s.WarmedH vm₁ → Pre ⟨T.setVm vm₁, locs, cells, slots⟩ argsL.toArray) :
    ∃ (v : Option Value) (vm₁ : Vm) (B : Pt), s.WarmedH vm₁ ∧ Stand p l e R s m args below meth c B.U B.locs B.cells B.slots ∧ Post ⟨T.setVm vm₁, locs, cells, slots⟩ argsL.toArray v B ∧
      ∀ target, Steps p.tables e below (B.U.setTop { g with pc := g.pc + 3, stack := v.toList ++ rest }) target → Steps p.tables e below (T.setTop g) target := by
  obtain ⟨mk, methM, cM, hnamed, hmethM, -, -, -, -, -, -, hsigM⟩ := Cond.codeWith_spec hcode
  have hstatic : methM.isStatic = true := Cond.static_spec hnamed hmethM hstat
  obtain ⟨kP, hkP, -⟩ := className_of_methodNamed hnamed
  have hinitP : kP.init = .initialized := Cond.initialized_spec (findClass_of_methodNamed hnamed) hkP hinit
  obtain ⟨vm₁, X₁, hstep₁⟩ := X.invokestatic hexec hown hlink hnamed hmethM hstatic hkP hinitP hy (g := g) hg (argsL := argsL) (rest := rest) (hlen _ hsigM) hstack hdg
  obtain ⟨v, B, X', hpost, hsteps⟩ := hK m meth c ⟨T.setVm vm₁, locs, cells, slots⟩ { g with stack := rest } (.invokestatic index) mk argsL.toArray X₁ hg hsize hdg hW (X₁.named hnamed) (hpre vm₁ X₁.warmed)
  exact ⟨v, vm₁, B, X₁.warmed, X', hpost, fun target h => hstep₁ _ fun acts => by rw [doInvoke_state]; exact hsteps.trans h⟩
theorem vx_runSW {y : MethodName} {bytes cc : ByteArray} {maxL nL mc ms n index : Nat} {ret : Option FieldType} {hh : List (Nat × Nat × Nat × Nat)} {ws : List Cond} {rm : Room} {Pc : Array Value → State → Prop} {Qc : Array Value → State → Outcome → State → Prop} {free : Addr → Prop} {Ts : List Cond} {own : String} {As rest : List Value} {g : JFrame}
    (S : CallFix p m c cc nL s args Ts own) (hM : Met l y ws rm Pc Qc mc ms free) (cw : vx_CSW R s args own index y bytes maxL ret hh ws rm mc ms n) (hp : PreS s H Pc As)
    (hg : g.method = m) (hn : As.length = n) (hsize : g.locals.size = nL) (hstack : g.stack = As.reverse ++ rest) (hW : 2 * g.monitorRoom + (rest.map fun v => v.category).sum ≤ 8) (hdg : decode cc g.pc = .ok (.invokestatic index, 3)) (hf : cells + mc ≤ R.cells ∧ slots + ms ≤ R.slots) :
    va_Run p l e R s m args below meth c H locs cells slots mc ms g rest (Qc As.toArray) (free) := by
  obtain ⟨⟨hrc, hrs, hfr, hlo, hws, hcw⟩, hcode, hini, hy, hlen, hl, hstt⟩ := cw
  have hK : Back l R p e below s args y 3 8 (PreOf R mc ms Pc) (PostOf Qc mc ms free) := va_backW (hh := hh) (bytes := bytes) (maxL := maxL) (ret := ret) hM hp.1 hrc hrs hfr hlo hws hcw (fun a' U hW => word_at hW (Or.inl (by first | rfl | simp [Cond.onTables, Cond.keeps, Cond.steady])) hini)
  obtain ⟨hx, hb, hml, ho, -⟩ := S
  intro T hT X
  obtain ⟨v, vm₁, ⟨U', l2, c2, s2⟩, hW₁, X', ⟨g', mk, t, L, e1, e2, hq, h1, hL, h2, h3⟩, st⟩ := vx_callSW X hx (hh := hh) (bytes := bytes) (maxL := maxL) (ret := ret) ho hl hstt hini hcode hy hK hg (hsize.trans hml.symm) (argsL := As) (rest := rest) (fun sig h => hn.trans (hlen sig h)) hstack hW (by rw [hb]; exact hdg)
    (fun vm₁ hW₁ => ⟨hf.1, hf.2, hp.2 (T.setVm vm₁) hT hW₁⟩)
  dsimp only [Pt.U, Pt.locs, Pt.cells, Pt.slots] at X' e1 e2 h1 h2 h3 st
  subst h1; subst h2; subst h3
  exact ⟨v, (T.setVm vm₁).calling g' mk As.toArray, t, U', L, hT, X', hL, e1, e2, hq, st⟩
/-- not caught here, past rows that name other classes: it goes on to the caller -/
theorem vx_outP {p : Program} {l : Launch} {e : Env} {R : Room} {s : State} {m : MethodId} {args : Array Value} {below : List Frame} {meth : Method} {c : Code} {H : Heap} {locs : List Loc} {cells slots : Nat} {free : Addr → Prop} {ls : Array Slot} {rest : List Value} {Qc : Array Value → State → Outcome → State → Prop} {XC : String → State → State → Prop}
    {pc : Nat} {own E : String} {ce : Cell} {q : Addr} {mc ms : Nat} (hown : s.vm.findClass own = some m.cls) (hlocks : meth.locks = false)
    (hpass : ∀ z ∈ c.exceptionTable.toList, covers z pc = false ∨ (z.catchType ≠ 0 ∧ ∃ nm : String, (Cond.classLink own z.catchType nm).before args s = true ∧ va_Nc E nm s)) (hcell : H[q]? = some ce) (hv : ce.vm = .none) (hcl : s.vm.findClass E = some ce.cls)
    (hx : ∀ t : State, t.heap = H → s.vm.Alike t.vm → XC E s t) (hf : ∀ z ∈ locs, free z.base) (hc : cells ≤ mc) (hs : slots ≤ ms) :
    vx_W p l e R s m args below meth c H locs cells slots (vx_MQ below Qc XC args s mc ms free) (F0 m pc ls rest) q := by
  intro T hT X
  have hpl : e.platform.magicAccessors = ({} : Platform).magicAccessors := by rw [X.admits.platform]
  obtain ⟨vm', hW', X', st⟩ := X.outThrough hlocks q (g := F0 m pc ls rest) rfl rfl rfl (cell := ce) (by rw [hT]; exact hcell) (by rw [hv]; rfl)
    (by obtain ⟨k9, h9, -⟩ := Vm.findClass_spec hcl; exact ⟨k9, h9⟩) (fun z hz => by
      rcases hpass z hz with h | ⟨hz0, nm, hl1, hn1⟩
      · exact Or.inl h
      · obtain ⟨c6, hc6, hcl6⟩ := Cond.classLink_spec hown hl1 e.platform hpl
        obtain ⟨a8, b8, h1, h2, h3⟩ := hn1
        cases Option.some.inj (h1.symm.trans hcl)
        cases Option.some.inj (h2.symm.trans hc6)
        exact Or.inr ⟨hz0, _, hcl6, h3⟩)
  obtain ⟨g₀, hfr⟩ := X'.frames_eq
  have hcell9 : ((T.setVm vm').setFrames (.throwing q :: below)).heap[q]? = some ce := by
    show T.heap[q]? = some ce
    rw [hT]; exact hcell
  have hend : Ended ((T.setVm vm').setFrames (.throwing q :: below)) below (.threw q) := State.frames_setFrames _ (State.cur_lt_of_frames hfr)
  refine ⟨(T.setVm vm').setFrames (.throwing q :: below), ?_, .threw q, X'.here.running, hend, Or.inr ⟨q, rfl, E, ce, locs, hx _ hT (X'.ends _).1.alike, hcell9, hv, hcl, (X'.ends _).1, (X'.ends _).2.mono hc hs, hf⟩⟩
  rw [X.pushThrowing_eq]
  exact st
/-- a thing of a world lies in the heap -/
theorem vx_lt {D : va_G} {cl : List vw_C} {ws : va_W} {H1 : Heap} (h : va_P D cl ws H1) {k : Nat} {q : Nat × va_E} (hk : ws[k]? = some q) : q.1 < H1.size := (h k q hk).lt
end VXS
/-! ===== END ===== -/
/-! ===== BEGIN methods with a table of their own: called by a name, returning or throwing ===== -/
section VXH
/-! vx_backW, vx_callVX, vx_callSX, vx_callVW, vx_runVW, vx_runVX, vx_runSX, vx_ofWH follow the same proofs as their sisters above (Free/Laws.lean, Shelf42/LK1.lean); vx_outP calls Shelf42/NT130.lean (outThrough). -/
section
variable {l : Launch} {R : Room} {p : Program} {e : Env} {below : List Frame} {s : State} {sargs : Array Value} {y : MethodName} {len W9 : Nat}
theorem vx_backW {ws : List Cond} {rm : Room} {Pc : Array Value → State → Prop} {Qc : Array Value → State → Outcome → State → Prop} {XC : String → State → State → Prop} {mc ms : Nat} {free : Addr → Prop} {bytes : ByteArray} {maxL : Nat} {ret : Option FieldType} {hh : List (Nat × Nat × Nat × Nat)}
    (hM : vx_Met l y ws rm Pc Qc XC mc ms free) (hblind : FrameBlind Pc) (hrc : rm.cells = mc) (hrs : rm.slots = ms)
    (hframes : rm.frames + 1 ≤ R.frames) (hlocals : W9 + (maxL + 11) + rm.locals ≤ R.locals)
    (hws : ∀ w ∈ ws, ∀ a' U, s.WarmedH U.vm → w.before a' U = true) (hcode : Cond.codeWith y bytes maxL ret hh ∈ ws) (hinit : ∀ a' U, s.WarmedH U.vm → (Cond.initialized y.cls).before a' U = true) :
    vx_Back l R p e below s sargs y len W9 (PreOf R mc ms Pc) (PostOf Qc mc ms free) (vx_Post XC mc ms free) := by
  intro m meth c A g ig mk a X hg hsize hdg hW hn hp
  have h1 : (headSpec ws rm).pre.before a A.U = true := atoms_intro fun w hw => hws w hw _ _ X.warmed
  have h2 : (Cond.codeWith y bytes maxL ret hh).before a A.U = true := hws _ hcode _ _ X.warmed
  have h3 : (Cond.initialized y.cls).before a A.U = true := hinit _ _ X.warmed
  have h4 : A.cells + (headSpec ws rm).room.cells ≤ R.cells := by rw [show (headSpec ws rm).room.cells = mc from hrc]; exact hp.1
  have h5 : A.slots + (headSpec ws rm).room.slots ≤ R.slots := by rw [show (headSpec ws rm).room.slots = ms from hrs]; exact hp.2.1
  have hPc : Pc a (A.U.calling g mk a) := hblind _ _ _ _ hp.2.2
  obtain ⟨U, Ls, c0, s0⟩ := A
  dsimp only [Pt.U, Pt.locs, Pt.cells, Pt.slots] at h1 h2 h3 h4 h5 X hn hPc ⊢
  obtain ⟨m9, methY, cY, hn9, hmY, hcY, -, hlY, -⟩ := Cond.codeWith_spec h2
  cases Option.some.inj (hn9.symm.trans hn)
  obtain ⟨kY, hkY, -⟩ := className_of_methodNamed hn
  have hinitY : kY.init = .initialized := Cond.initialized_spec (findClass_of_methodNamed hn) hkY h3
  have h : At U g.method c below := by rw [hg]; exact X.here
  have hlocals9 : W9 + (maxL + 11) + (headSpec ws rm).room.locals ≤ R.locals := hlocals
  have happ : (headSpec ws rm).appliesLoose y e.platform (U.calling g mk a) = true :=
    Spec.appliesLoose_calling (g := g) h hdg hn hkY hinitY
      (X.room_calling (g := g) (R' := (headSpec ws rm).room) hsize hmY hcY hframes (by rw [hlY]; omega) h4 h5) h1
  obtain ⟨mid, hmid⟩ := h.above
  have hfr : (U.setTop g).frames = (.java g :: mid) ++ below := by rw [State.frames_setTop' g h.top, hmid]; rfl
  obtain ⟨o, s₂, hsteps, -, hend, hq⟩ := Steps.callFree hM p X.admits X.cas X.clock (acts := []) hfr happ hPc trivial
  have hq' : vx_Q Qc XC mc ms free a (U.calling g mk a) o s₂ := hq
  rw [State.frames_setTop' g h.top] at hend
  obtain ⟨g₀, hg0⟩ := Option.isSome_iff_exists.mp h.top
  obtain ⟨r, hr⟩ := State.topJava?_eq_some.mp hg0
  have hr' : (({ U with heap := s₂.heap, slotsUsed := s₂.slotsUsed } : State).setVm s₂.vm).frames = .java g₀ :: r := hr
  rcases hq' with ⟨hqc, L, hfe, hL⟩ | ⟨q, rfl, E, ce, L, hx, hce, hcv, hcl, hW₂, hsm, hL⟩
  · obtain ⟨⟨v, rfl⟩, hW₂, e2, q2, q3, q4, q5, q6⟩ := id hfe
    have e3 : s₂ = ({ (U.calling g mk a).setFrames s₂.frames with heap := s₂.heap, slotsUsed := s₂.slotsUsed } : State).setVm s₂.vm := by
      have : s₂ = ({ s₂ with vm := (U.calling g mk a).vm } : State).setVm s₂.vm := rfl
      rw [e2] at this
      exact this
    obtain ⟨c₂, i₂, len₂, hc₂, hd₂, hf₂⟩ := hend
    have hW' : U.WarmedH s₂.vm := hW₂
    have hcc : c₂ = c := by
      have h1 : s₂.code? g.method = U.code? g.method := by
        rw [State.code?_eq, State.code?_eq, hW'.alike.method?]
      exact Option.some.inj (hc₂.symm.trans (h1.trans h.code))
    subst hcc
    have hlen : len₂ = len := by rw [hdg] at hd₂; cases hd₂; rfl
    subst hlen
    have hs₂ : s₂ = (({ U with heap := s₂.heap, slotsUsed := s₂.slotsUsed } : State).setVm s₂.vm).setTop { g with pc := g.pc + len₂, stack := v.toList ++ g.stack } := by
      refine e3.trans ?_
      rw [hf₂, State.calling_eq h.top, State.setFrames_setFrames, State.setTop_of_frames _ hr', hr]
      rfl
    have hsame : U.sameButNew ({ U with heap := s₂.heap, slotsUsed := s₂.slotsUsed } : State) L mc ms := by
      refine ⟨?_, q2, q3, q4, q5, q6⟩
      obtain ⟨t, ht, -⟩ := State.frames_cons hr
      show ({ U with heap := s₂.heap, slotsUsed := s₂.slotsUsed } : State) = { U.setFrames U.frames with heap := s₂.heap, slotsUsed := s₂.slotsUsed }
      rw [State.setFrames_self ht]
    subst hg
    refine Or.inl ⟨v, ⟨(({ U with heap := s₂.heap, slotsUsed := s₂.slotsUsed } : State).setVm s₂.vm), Ls ++ L, c0 + mc, s0 + ms⟩,
      ⟨X.admits, X.cas, X.clock, X.frames, X.room, X.hears, X.method, X.code, (X.here.setHeapUsed s₂.heap s₂.slotsUsed).setVm hW'.alike, X.tail, State.WarmedH.trans X.warmed hW', X.limits, X.bytes, X.same.trans (hsame.setVm s.vm)⟩,
      ⟨g, mk, s₂, L, rfl, rfl, hqc, rfl, hL, rfl, rfl⟩, ?_⟩
    show Steps p.tables e below _ ((({ U with heap := s₂.heap, slotsUsed := s₂.slotsUsed } : State).setVm s₂.vm).setTop { g with pc := g.pc + len₂, stack := v.toList ++ g.stack })
    rw [← hs₂]
    exact hsteps
  · obtain ⟨e2, q2, q3, q4, q5, q6⟩ := id hsm
    have e3 : s₂ = ({ (U.calling g mk a).setFrames s₂.frames with heap := s₂.heap, slotsUsed := s₂.slotsUsed } : State).setVm s₂.vm := by
      have : s₂ = ({ s₂ with vm := (U.calling g mk a).vm } : State).setVm s₂.vm := rfl
      rw [e2] at this
      exact this
    have hf₂ : s₂.frames = .throwing q :: .java g :: U.frames.tail := hend
    have hW' : U.WarmedH s₂.vm := hW₂
    have hs₂ : s₂ = ((({ U with heap := s₂.heap, slotsUsed := s₂.slotsUsed } : State).setVm s₂.vm).setTop g).pushFrame (.throwing q) := by
      refine e3.trans ?_
      rw [hf₂, State.calling_eq h.top, State.setFrames_setFrames, State.pushFrame, State.frames_setTop _ hr', State.setTop_of_frames _ hr', State.setFrames_setFrames, hr]
      rfl
    have hsame : U.sameButNew ({ U with heap := s₂.heap, slotsUsed := s₂.slotsUsed } : State) L mc ms := by
      refine ⟨?_, q2, q3, q4, q5, q6⟩
      obtain ⟨t, ht, -⟩ := State.frames_cons hr
      show ({ U with heap := s₂.heap, slotsUsed := s₂.slotsUsed } : State) = { U.setFrames U.frames with heap := s₂.heap, slotsUsed := s₂.slotsUsed }
      rw [State.setFrames_self ht]
    subst hg
    refine Or.inr ⟨q, ⟨(({ U with heap := s₂.heap, slotsUsed := s₂.slotsUsed } : State).setVm s₂.vm), Ls ++ L, c0 + mc, s0 + ms⟩,
      ⟨X.admits, X.cas, X.clock, X.frames, X.room, X.hears, X.method, X.code, (X.here.setHeapUsed s₂.heap s₂.slotsUsed).setVm hW'.alike, X.tail, State.WarmedH.trans X.warmed hW', X.limits, X.bytes, X.same.trans (hsame.setVm s.vm)⟩,
      ⟨g, mk, s₂, L, E, ce, rfl, rfl, hx, hce, hcv, hcl, rfl, hL, rfl, rfl⟩, ?_⟩
    show Steps p.tables e below _ (((({ U with heap := s₂.heap, slotsUsed := s₂.slotsUsed } : State).setVm s₂.vm).setTop g).pushFrame (.throwing q))
    rw [← hs₂]
    exact hsteps
end
variable {p : Program} {l : Launch} {e : Env} {R : Room} {s : State} {m : MethodId} {args : Array Value} {below : List Frame} {meth : Method} {c : Code} {T : State} {H : Heap} {locs : List Loc} {cells slots : Nat}
theorem vx_callVX (X : Stand p l e R s m args below meth c T locs cells slots) (hexec : p.tables.exec = Jvm.exec) {own C : String} {index : Nat} {y : MethodName} {bytes : ByteArray} {maxL : Nat} {ret : Option FieldType} {hh : List (Nat × Nat × Nat × Nat)}
    (hown : s.vm.findClass own = some m.cls) (hlink : (Cond.methodLink own index y).before args s = true) (hinst : (Cond.instanceMethod y).before args s = true) (hsel : (Cond.selects C y y).before args s = true)
    (hcode : (Cond.codeWith y bytes maxL ret hh).before args s = true) (hy : y.cls ≠ "java/lang/invoke/MethodHandle" ∧ y.cls ≠ "java/lang/invoke/VarHandle")
    {W9 : Nat} {Pre : Pt → Array Value → Prop} {Post : Pt → Array Value → Option Value → Pt → Prop} {PostX : Pt → Array Value → Addr → Pt → Prop} (hK : vx_Back l R p e below s args y 3 W9 Pre Post PostX)
    {b : Addr} {cellB : Cell} (hcell : T.heap[b]? = some cellB) (hobj : cellB.vm.isStatics = false) (hcls : s.vm.findClass C = some cellB.cls)
    {g : JFrame} (hg : g.method = m) (hsize : g.locals.size = c.maxLocals) {argsL rest : List Value} (hlen : ∀ sig, parseMethodDescriptor y.desc = some sig → argsL.length = sig.parameters.length)
    (hstack : g.stack = argsL.reverse ++ .ref b :: rest) (hW : 2 * g.monitorRoom + (rest.map fun v => v.category).sum ≤ W9) (hdg : decode c.code g.pc = .ok (.invokevirtual index, 3))
    (hpre : ∀ vm₁, s.WarmedH vm₁ → Pre ⟨T.setVm vm₁, locs, cells, slots⟩ (Value.ref b :: argsL).toArray) :
    (∃ (v : Option Value) (vm₁ : Vm) (B : Pt), s.WarmedH vm₁ ∧ Stand p l e R s m args below meth c B.U B.locs B.cells B.slots ∧ Post ⟨T.setVm vm₁, locs, cells, slots⟩ (Value.ref b :: argsL).toArray v B ∧
      ∀ target, Steps p.tables e below (B.U.setTop { g with pc := g.pc + 3, stack := v.toList ++ rest }) target → Steps p.tables e below (T.setTop g) target) ∨
    (∃ (q : Addr) (vm₁ : Vm) (B : Pt), s.WarmedH vm₁ ∧ Stand p l e R s m args below meth c B.U B.locs B.cells B.slots ∧ PostX ⟨T.setVm vm₁, locs, cells, slots⟩ (Value.ref b :: argsL).toArray q B ∧
      Steps p.tables e below (T.setTop g) ((B.U.setTop { g with stack := rest }).pushFrame (.throwing q))) := by
  obtain ⟨mk, methM, hnamed, hmethM, hstM, habM⟩ := Cond.instanceMethod_spec hinst
  obtain ⟨m8, methM', cM, hn8, hmethM', -, -, -, -, -, -, hsigM⟩ := Cond.codeWith_spec hcode
  cases Option.some.inj (hn8.symm.trans hnamed)
  cases hmethM.symm.trans hmethM'
  obtain ⟨c2, r2, m2, q1, q2, q3, q4, kP, hkP, hkPi⟩ := Cond.selects_spec hsel
  cases hcls.symm.trans q1
  cases (State.methodFound?_of_named hnamed hy).symm.trans q2
  cases hnamed.symm.trans q3
  have hselP : selectMethod e.platform s.vm cellB.cls mk = .method mk := by rw [Launch.admits_selectMethod X.admits]; exact q4
  obtain ⟨vm₁, X₁, hstep₁⟩ := X.invokevirtual hexec hown hlink hnamed hmethM hstM hkP hkPi hy (a := b) (cell := cellB) hcell
    (fun z h => by rw [h] at hobj; cases hobj) hselP hmethM habM hkP hkPi (g := g) hg (argsL := argsL) (rest := rest) (hlen _ hsigM) hstack hdg
  rcases hK m meth c ⟨T.setVm vm₁, locs, cells, slots⟩ { g with stack := rest } (.invokevirtual index) mk (Value.ref b :: argsL).toArray X₁ hg hsize hdg hW (X₁.named hnamed) (hpre vm₁ X₁.warmed) with ⟨v, B, X', hpost, hsteps⟩ | ⟨q, B, X', hpost, hsteps⟩
  · exact Or.inl ⟨v, vm₁, B, X₁.warmed, X', hpost, fun target h => hstep₁ _ fun acts => by rw [doInvoke_state]; exact hsteps.trans h⟩
  · exact Or.inr ⟨q, vm₁, B, X₁.warmed, X', hpost, hstep₁ _ fun acts => by rw [doInvoke_state]; exact hsteps⟩
theorem vx_callSX (X : Stand p l e R s m args below meth c T locs cells slots) (hexec : p.tables.exec = Jvm.exec) {own : String} {index : Nat} {y : MethodName} {bytes : ByteArray} {maxL : Nat} {ret : Option FieldType} {hh : List (Nat × Nat × Nat × Nat)}
    (hown : s.vm.findClass own = some m.cls) (hlink : (Cond.methodLink own index y).before args s = true) (hstat : (Cond.static y).before args s = true) (hinit : (Cond.initialized y.cls).before args s = true)
    (hcode : (Cond.codeWith y bytes maxL ret hh).before args s = true) (hy : y.cls ≠ "java/lang/invoke/MethodHandle" ∧ y.cls ≠ "java/lang/invoke/VarHandle")
    {W9 : Nat} {Pre : Pt → Array Value → Prop} {Post : Pt → Array Value → Option Value → Pt → Prop} {PostX : Pt → Array Value → Addr → Pt → Prop} (hK : vx_Back l R p e below s args y 3 W9 Pre Post PostX)
    {g : JFrame} (hg : g.method = m) (hsize : g.locals.size = c.maxLocals) {argsL rest : List Value} (hlen : ∀ sig, parseMethodDescriptor y.desc = some sig → argsL.length = sig.parameters.length)
    (hstack : g.stack = argsL.reverse ++ rest) (hW : 2 * g.monitorRoom + (rest.map fun v => v.category).sum ≤ W9) (hdg : decode c.code g.pc = .ok (.invokestatic index, 3))
    (hpre : ∀ vm₁, s.WarmedH vm₁ → Pre ⟨T.setVm vm₁, locs, cells, slots⟩ argsL.toArray) :
    (∃ (v : Option Value) (vm₁ : Vm) (B : Pt), s.WarmedH vm₁ ∧ Stand p l e R s m args below meth c B.U B.locs B.cells B.slots ∧ Post ⟨T.setVm vm₁, locs, cells, slots⟩ argsL.toArray v B ∧
      ∀ target, Steps p.tables e below (B.U.setTop { g with pc := g.pc + 3, stack := v.toList ++ rest }) target → Steps p.tables e below (T.setTop g) target) ∨
    (∃ (q : Addr) (vm₁ : Vm) (B : Pt), s.WarmedH vm₁ ∧ Stand p l e R s m args below meth c B.U B.locs B.cells B.slots ∧ PostX ⟨T.setVm vm₁, locs, cells, slots⟩ argsL.toArray q B ∧
      Steps p.tables e below (T.setTop g) ((B.U.setTop { g with stack := rest }).pushFrame (.throwing q))) := by
  obtain ⟨mk, methM, cM, hnamed, hmethM, -, -, -, -, -, -, hsigM⟩ := Cond.codeWith_spec hcode
  have hstatic : methM.isStatic = true := Cond.static_spec hnamed hmethM hstat
  obtain ⟨kP, hkP, -⟩ := className_of_methodNamed hnamed
  have hinitP : kP.init = .initialized := Cond.initialized_spec (findClass_of_methodNamed hnamed) hkP hinit
  obtain ⟨vm₁, X₁, hstep₁⟩ := X.invokestatic hexec hown hlink hnamed hmethM hstatic hkP hinitP hy (g := g) hg (argsL := argsL) (rest := rest) (hlen _ hsigM) hstack hdg
  rcases hK m meth c ⟨T.setVm vm₁, locs, cells, slots⟩ { g with stack := rest } (.invokestatic index) mk argsL.toArray X₁ hg hsize hdg hW (X₁.named hnamed) (hpre vm₁ X₁.warmed) with ⟨v, B, X', hpost, hsteps⟩ | ⟨q, B, X', hpost, hsteps⟩
  · exact Or.inl ⟨v, vm₁, B, X₁.warmed, X', hpost, fun target h => hstep₁ _ fun acts => by rw [doInvoke_state]; exact hsteps.trans h⟩
  · exact Or.inr ⟨q, vm₁, B, X₁.warmed, X', hpost, hstep₁ _ fun acts => by rw [doInvoke_state]; exact hsteps⟩
theorem vx_callVW (X : Stand p l e R s m args below meth c T locs cells slots) (hexec : p.tables.exec = Jvm.exec) {own C : String} {index : Nat} {y : MethodName} {bytes : ByteArray} {maxL : Nat} {ret : Option FieldType} {hh : List (Nat × Nat × Nat × Nat)}
    (hown : s.vm.findClass own = some m.cls) (hlink : (Cond.methodLink own index y).before args s = true) (hinst : (Cond.instanceMethod y).before args s = true) (hsel : (Cond.selects C y y).before args s = true)
    (hcode : (Cond.codeWith y bytes maxL ret hh).before args s = true) (hy : y.cls ≠ "java/lang/invoke/MethodHandle" ∧ y.cls ≠ "java/lang/invoke/VarHandle")
    {W9 : Nat} {Pre : Pt → Array Value → Prop} {Post : Pt → Array Value → Option Value → Pt → Prop} (hK : Back l R p e below s args y 3 W9 Pre Post)
    {b : Addr} {cellB : Cell} (hcell : T.heap[b]? = some cellB) (hobj : cellB.vm.isStatics = false) (hcls : s.vm.findClass C = some cellB.cls)
    {g : JFrame} (hg : g.method = m) (hsize : g.locals.size = c.maxLocals) {argsL rest : List Value} (hlen : ∀ sig, parseMethodDescriptor y.desc = some sig → argsL.length = sig.parameters.length)
    (hstack : g.stack = argsL.reverse ++ .ref b :: rest) (hW : 2 * g.monitorRoom + (rest.map fun v => v.category).sum ≤ W9) (hdg : decode c.code g.pc = .ok (.invokevirtual index, 3))
    (hpre : ∀ vm₁, s.WarmedH vm₁ → Pre ⟨T.setVm vm₁, locs, cells, slots⟩ (Value.ref b :: argsL).toArray) :
    ∃ (v : Option Value) (vm₁ : Vm) (B : Pt), s.WarmedH vm₁ ∧ Stand p l e R s m args below meth c B.U B.locs B.cells B.slots ∧ Post ⟨T.setVm vm₁, locs, cells, slots⟩ (Value.ref b :: argsL).toArray v B ∧
      ∀ target, Steps p.tables e below (B.U.setTop { g with pc := g.pc + 3, stack := v.toList ++ rest }) target → Steps p.tables e below (T.setTop g) target := by
  obtain ⟨mk, methM, hnamed, hmethM, hstM, habM⟩ := Cond.instanceMethod_spec hinst
  obtain ⟨m8, methM', cM, hn8, hmethM', -, -, -, -, -, -, hsigM⟩ := Cond.codeWith_spec hcode
  cases Option.some.inj (hn8.symm.trans hnamed)
  cases hmethM.symm.trans hmethM'
  obtain ⟨c2, r2, m2, q1, q2, q3, q4, kP, hkP, hkPi⟩ := Cond.selects_spec hsel
  cases hcls.symm.trans q1
  cases (State.methodFound?_of_named hnamed hy).symm.trans q2
  cases hnamed.symm.trans q3
  have hselP : selectMethod e.platform s.vm cellB.cls mk = .method mk := by rw [Launch.admits_selectMethod X.admits]; exact q4
  obtain ⟨vm₁, X₁, hstep₁⟩ := X.invokevirtual hexec hown hlink hnamed hmethM hstM hkP hkPi hy (a := b) (cell := cellB) hcell
    (fun z h => by rw [h] at hobj; cases hobj) hselP hmethM habM hkP hkPi (g := g) hg (argsL := argsL) (rest := rest) (hlen _ hsigM) hstack hdg
  obtain ⟨v, B, X', hpost, hsteps⟩ := hK m meth c ⟨T.setVm vm₁, locs, cells, slots⟩ { g with stack := rest } (.invokevirtual index) mk (Value.ref b :: argsL).toArray X₁ hg hsize hdg hW (X₁.named hnamed) (hpre vm₁ X₁.warmed)
  exact ⟨v, vm₁, B, X₁.warmed, X', hpost, fun target h => hstep₁ _ fun acts => by rw [doInvoke_state]; exact hsteps.trans h⟩
abbrev vx_CVW (R : Room) (s : State) (args : Array Value) (own C : String) (index : Nat) (y : MethodName) (bytes : ByteArray) (maxL : Nat) (ret : Option FieldType) (hh : List (Nat × Nat × Nat × Nat)) (ws : List Cond) (rm : Room) (mc ms n : Nat) : Prop :=
  (rm.cells = mc ∧ rm.slots = ms ∧ rm.frames + 1 ≤ R.frames ∧ 8 + (maxL + 11) + rm.locals ≤ R.locals ∧ (∀ w ∈ ws, ∀ (a' : Array Value) (U : State), s.WarmedH U.vm → w.before a' U = true) ∧ Cond.codeWith y bytes maxL ret hh ∈ ws) ∧
  (Cond.codeWith y bytes maxL ret hh).before args s = true ∧ (Cond.initialized y.cls).before args s = true ∧ (y.cls ≠ "java/lang/invoke/MethodHandle" ∧ y.cls ≠ "java/lang/invoke/VarHandle") ∧
  (∀ sig, parseMethodDescriptor y.desc = some sig → n = sig.parameters.length) ∧ (Cond.methodLink own index y).before args s = true ∧ (Cond.instanceMethod y).before args s = true ∧ (Cond.selects C y y).before args s = true
theorem vx_cwVW {own C : String} {index maxL mc ms : Nat} {y : MethodName} {bytes : ByteArray} {ret : Option FieldType} {hh : List (Nat × Nat × Nat × Nat)} {Ts ws ws' : List Cond} {rm : Room} (n : Nat) (ht : ∀ w ∈ Ts, w.before args s = true) (hT : GoodIn Ts (wsV own index C y ws)) (hw : ws = Cond.codeWith y bytes maxL ret hh :: ws') (hrc : rm.cells = mc) (hrs : rm.slots = ms)
    (hd : y.cls = C ∧ y.cls ≠ "java/lang/invoke/MethodHandle" ∧ y.cls ≠ "java/lang/invoke/VarHandle" ∧ (parseMethodDescriptor y.desc).map (fun d => d.parameters.length) = some n) (hR : rm.frames + 1 ≤ R.frames ∧ 8 + (maxL + 11) + rm.locals ≤ R.locals) :
    vx_CVW R s args own C index y bytes maxL ret hh ws rm mc ms n := by
  obtain ⟨hC, hd⟩ := hd
  subst hC
  have ok : ∀ w ∈ wsV own index y.cls y ws, w.before args s = true := fun w h => ht w (hT w h).1
  have hG : GoodIn Ts ws := fun w h => hT w (by unfold wsV; exact List.mem_append_right _ h)
  have hc : Cond.codeWith y bytes maxL ret hh ∈ ws := by rw [hw]; exact List.mem_cons_self
  refine ⟨⟨hrc, hrs, hR.1, hR.2, pay_in ht hG, hc⟩, ht _ (hG _ hc).1, ok _ (by simp [wsV]), ⟨hd.1, hd.2.1⟩, fun sig h => ?_, ok _ (by simp [wsV]), ok _ (by simp [wsV]), ok _ (by simp [wsV])⟩
  have h2 := hd.2.2
  rw [h] at h2
  exact (Option.some.inj h2).symm
theorem vx_runVW {y : MethodName} {bytes cc : ByteArray} {maxL nL mc ms n index : Nat} {ret : Option FieldType} {hh : List (Nat × Nat × Nat × Nat)} {ws : List Cond} {rm : Room} {Pc : Array Value → State → Prop} {Qc : Array Value → State → Outcome → State → Prop} {free : Addr → Prop} {Ts : List Cond} {own C : String} {b : Addr} {As rest : List Value} {g : JFrame}
    (S : CallFix p m c cc nL s args Ts own) (hM : Met l y ws rm Pc Qc mc ms free) (cw : vx_CVW R s args own C index y bytes maxL ret hh ws rm mc ms n) (hp : PreV s H C b Pc As)
    (hg : g.method = m) (hn : As.length = n) (hsize : g.locals.size = nL) (hstack : g.stack = As.reverse ++ .ref b :: rest) (hW : 2 * g.monitorRoom + (rest.map fun v => v.category).sum ≤ 8) (hdg : decode cc g.pc = .ok (.invokevirtual index, 3)) (hf : cells + mc ≤ R.cells ∧ slots + ms ≤ R.slots) :
    va_Run p l e R s m args below meth c H locs cells slots mc ms g rest (Qc (Value.ref b :: As).toArray) free := by
  obtain ⟨⟨hrc, hrs, hfr, hlo, hws, hcw⟩, hcode, hini, hy, hlen, hl, hin, hse⟩ := cw
  have hK : Back l R p e below s args y 3 8 (PreOf R mc ms Pc) (PostOf Qc mc ms free) := va_backW (hh := hh) (bytes := bytes) (maxL := maxL) (ret := ret) hM hp.1 hrc hrs hfr hlo hws hcw (fun a' U hW => word_at hW (Or.inl (by first | rfl | simp [Cond.onTables, Cond.keeps, Cond.steady])) hini)
  obtain ⟨hx, hb, hml, ho, -⟩ := S
  obtain ⟨-, ⟨cellB, hcB, hoB, hclB⟩, hPc⟩ := hp
  intro T hT X
  obtain ⟨v, vm₁, ⟨U', l2, c2, s2⟩, hW₁, X', ⟨g', mk, t, L, e1, e2, hq, h1, hL, h2, h3⟩, st⟩ := vx_callVW X hx (C := C) (hh := hh) (bytes := bytes) (maxL := maxL) (ret := ret) ho hl hin hse hcode hy hK (by rw [hT]; exact hcB) hoB hclB hg (hsize.trans hml.symm) (argsL := As) (rest := rest) (fun sig h => hn.trans (hlen sig h)) hstack hW (by rw [hb]; exact hdg)
    (fun vm₁ hW₁ => ⟨hf.1, hf.2, hPc (T.setVm vm₁) hT hW₁⟩)
  dsimp only [Pt.U, Pt.locs, Pt.cells, Pt.slots] at X' e1 e2 h1 h2 h3 st
  subst h1; subst h2; subst h3
  exact ⟨v, (T.setVm vm₁).calling g' mk (Value.ref b :: As).toArray, t, U', L, hT, X', hL, e1, e2, hq, st⟩
section
variable {y : MethodName} {bytes cc : ByteArray} {maxL nL mc ms n index : Nat} {ret : Option FieldType} {ws : List Cond} {rm : Room} {Pc : Array Value → State → Prop} {Qc : Array Value → State → Outcome → State → Prop} {XC : String → State → State → Prop} {free : Addr → Prop} {Ts : List Cond} {own C : String} {b : Addr} {As rest : List Value} {g : JFrame}
theorem vx_runVX {hh : List (Nat × Nat × Nat × Nat)} (S : CallFix p m c cc nL s args Ts own) (hM : vx_Met l y ws rm Pc Qc XC mc ms free) (cw : vx_CVW R s args own C index y bytes maxL ret hh ws rm mc ms n) (hp : PreV s H C b Pc As)
    (hg : g.method = m) (hn : As.length = n) (hsize : g.locals.size = nL) (hstack : g.stack = As.reverse ++ .ref b :: rest) (hW : 2 * g.monitorRoom + (rest.map fun v => v.category).sum ≤ 8) (hdg : decode cc g.pc = .ok (.invokevirtual index, 3)) (hf : cells + mc ≤ R.cells ∧ slots + ms ≤ R.slots) :
    vx_Run p l e R s m args below meth c H locs cells slots mc ms g rest (Qc (Value.ref b :: As).toArray) XC free := by
  obtain ⟨⟨hrc, hrs, hfr, hlo, hws, hcw⟩, hcode, hini, hy, hlen, hl, hin, hse⟩ := cw
  have hK : vx_Back l R p e below s args y 3 8 (PreOf R mc ms Pc) (PostOf Qc mc ms free) (vx_Post XC mc ms free) := vx_backW (hh := hh) (bytes := bytes) (maxL := maxL) (ret := ret) hM hp.1 hrc hrs hfr hlo hws hcw (fun a' U hW => word_at hW (Or.inl (by first | rfl | simp [Cond.onTables, Cond.keeps, Cond.steady])) hini)
  obtain ⟨hx, hb, hml, ho, -⟩ := S
  obtain ⟨-, ⟨cellB, hcB, hoB, hclB⟩, hPc⟩ := hp
  intro T hT X
  rcases vx_callVX X hx (C := C) (hh := hh) (bytes := bytes) (maxL := maxL) (ret := ret) ho hl hin hse hcode hy hK (by rw [hT]; exact hcB) hoB hclB hg (hsize.trans hml.symm) (argsL := As) (rest := rest) (fun sig h => hn.trans (hlen sig h)) hstack hW (by rw [hb]; exact hdg)
    (fun vm₁ hW₁ => ⟨hf.1, hf.2, hPc (T.setVm vm₁) hT hW₁⟩) with ⟨v, vm₁, ⟨U', l2, c2, s2⟩, hW₁, X', ⟨g', mk, t, L, e1, e2, hq, h1, hL, h2, h3⟩, st⟩ | ⟨q, vm₁, ⟨U', l2, c2, s2⟩, hW₁, X', ⟨g', mk, t, L, E, ce, e1, e2, hq, hce, hcv, hcl, h1, hL, h2, h3⟩, st⟩
  · dsimp only [Pt.U, Pt.locs, Pt.cells, Pt.slots] at X' e1 e2 h1 h2 h3 st
    subst h1; subst h2; subst h3
    exact Or.inl ⟨v, (T.setVm vm₁).calling g' mk (Value.ref b :: As).toArray, t, U', L, hT, X', hL, e1, e2, hq, st⟩
  · dsimp only [Pt.U, Pt.locs, Pt.cells, Pt.slots] at X' e1 e2 h1 h2 h3 st hcl
    subst h1; subst h2; subst h3
    exact Or.inr ⟨q, (T.setVm vm₁).calling g' mk (Value.ref b :: As).toArray, t, U', L, E, ce, hT, X', hL, e1, e2, hq, hce, hcv, vx_cls hW₁ hcl, st⟩
theorem vx_runSX {hh : List (Nat × Nat × Nat × Nat)} (S : CallFix p m c cc nL s args Ts own) (hM : vx_Met l y ws rm Pc Qc XC mc ms free) (cw : vx_CSW R s args own index y bytes maxL ret hh ws rm mc ms n) (hp : PreS s H Pc As)
    (hg : g.method = m) (hn : As.length = n) (hsize : g.locals.size = nL) (hstack : g.stack = As.reverse ++ rest) (hW : 2 * g.monitorRoom + (rest.map fun v => v.category).sum ≤ 8) (hdg : decode cc g.pc = .ok (.invokestatic index, 3)) (hf : cells + mc ≤ R.cells ∧ slots + ms ≤ R.slots) :
    vx_Run p l e R s m args below meth c H locs cells slots mc ms g rest (Qc As.toArray) XC free := by
  obtain ⟨⟨hrc, hrs, hfr, hlo, hws, hcw⟩, hcode, hini, hy, hlen, hl, hstt⟩ := cw
  have hK : vx_Back l R p e below s args y 3 8 (PreOf R mc ms Pc) (PostOf Qc mc ms free) (vx_Post XC mc ms free) := vx_backW (hh := hh) (bytes := bytes) (maxL := maxL) (ret := ret) hM hp.1 hrc hrs hfr hlo hws hcw (fun a' U hW => word_at hW (Or.inl (by first | rfl | simp [Cond.onTables, Cond.keeps, Cond.steady])) hini)
  obtain ⟨hx, hb, hml, ho, -⟩ := S
  intro T hT X
  rcases vx_callSX X hx (hh := hh) (bytes := bytes) (maxL := maxL) (ret := ret) ho hl hstt hini hcode hy hK hg (hsize.trans hml.symm) (argsL := As) (rest := rest) (fun sig h => hn.trans (hlen sig h)) hstack hW (by rw [hb]; exact hdg)
    (fun vm₁ hW₁ => ⟨hf.1, hf.2, hp.2 (T.setVm vm₁) hT hW₁⟩) with ⟨v, vm₁, ⟨U', l2, c2, s2⟩, hW₁, X', ⟨g', mk, t, L, e1, e2, hq, h1, hL, h2, h3⟩, st⟩ | ⟨q, vm₁, ⟨U', l2, c2, s2⟩, hW₁, X', ⟨g', mk, t, L, E, ce, e1, e2, hq, hce, hcv, hcl, h1, hL, h2, h3⟩, st⟩
  · dsimp only [Pt.U, Pt.locs, Pt.cells, Pt.slots] at X' e1 e2 h1 h2 h3 st
    subst h1; subst h2; subst h3
    exact Or.inl ⟨v, (T.setVm vm₁).calling g' mk As.toArray, t, U', L, hT, X', hL, e1, e2, hq, st⟩
  · dsimp only [Pt.U, Pt.locs, Pt.cells, Pt.slots] at X' e1 e2 h1 h2 h3 st hcl
    subst h1; subst h2; subst h3
    exact Or.inr ⟨q, (T.setVm vm₁).calling g' mk As.toArray, t, U', L, E, ce, hT, X', hL, e1, e2, hq, hce, hcv, vx_cls hW₁ hcl, st⟩
end
end VXH
theorem vx_ofWH {l : Launch} {y : MethodName} {ws ws' : List Cond} {rm : Room} {Pc : Array Value → State → Prop} {Qc : Array Value → State → Outcome → State → Prop} {XC : String → State → State → Prop} {mc ms : Nat} {free : Addr → Prop} {cc : ByteArray} {maxL : Nat} {ret : Option FieldType} {hh : List (Nat × Nat × Nat × Nat)}
    (hy : plainName y.cls = true) (hw : ws = Cond.codeWith y cc maxL ret hh :: ws')
    (body : ∀ p e s m args below meth c s₁, BodyLoose p l y (headSpec ws rm) cc maxL ret e s m args below meth c s₁ → c.maxLocals = maxL → Pc args s →
      W p l e (headSpec ws rm).room s m args below meth c s.heap [] 0 0 (vx_MQ below Qc XC args s mc ms free) (entryFrame m args maxL)) : vx_Met l y ws rm Pc Qc XC mc ms free := by
  refine MetFree.of_bodyS (code := cc) (maxLocals := maxL) (ret := ret) hy ?_ ?_
  · intro args s m h hn
    obtain ⟨m9, meth, c, hn9, h1, h2, h3, h4, -, h5, h6, -⟩ := Cond.codeWith_spec (atoms_spec (ws := ws) h _ (by rw [hw]; exact List.mem_cons_self))
    cases hn.symm.trans hn9
    exact ⟨meth, c, h1, h2, h3, h4, h5, h6⟩
  · intro p e s m args below meth c s₁ B hml hP _
    have hh0 : s₁.heap = s.heap := by rw [B.state]; rfl
    obtain ⟨t, a1, o, b1, b2, b3⟩ := body p e s m args below meth c s₁ B hml hP s₁ hh0 (Stand.of_body B)
    exact ⟨t, o, a1, b1, b2, b3⟩
/-! ===== END ===== -/
end
section
/-! ===== BEGIN printed: names, fields, word lists, decode rows ===== -/
def RX0 : String := "Satellitering$Message"
def TX0 : u_T := fun k => match k with
  | 0 => ("Satellitering$Message", "goal", "I", true)
  | 1 => ("Satellitering$Message", "timetable", "LSatellitering$Timetable;", true)
  | 2 => ("Satellitering$Message", "node", "I", false)
  | 3 => ("Satellitering$Message", "since", "I", false)
  | 4 => ("Satellitering$Message", "blocks", "I", false)
  | 5 => ("Satellitering$Message", "hopCount", "I", false)
  | 6 => ("Satellitering$Message", "hopNodes", "[I", false)
  | _ => ("Satellitering$Message", "hopMinutes", "[I", false)
def tyX0 : Nat → FieldType := fun k => match k with
  | 0 => .int
  | 1 => .object "Satellitering$Timetable"
  | 2 => .int
  | 3 => .int
  | 4 => .int
  | 5 => .int
  | 6 => .array .int
  | _ => .array .int
abbrev wsX00 : List Cond := u_ws RX0 TX0 8
theorem nmX0 : ∀ a, a < 8 → ∀ b, b < 8 → a ≠ b → (TX0 a).2.1 ≠ (TX0 b).2.1 := by decide +kernel
theorem tyX0_ok : ∀ k, k < 8 → parseFieldDescriptor (TX0 k).2.2.1 = some (tyX0 k) := by decide +kernel
abbrev cX0_init : ByteArray := prog_2_method_1_code
def yX0_init : MethodName := ⟨RX0, "<init>", "(IILSatellitering$Timetable;)V"⟩
abbrev cX0_isAtGoal : ByteArray := prog_2_method_2_code
def yX0_isAtGoal : MethodName := ⟨RX0, "isAtGoal", "()Z"⟩
abbrev cX0_handTo : ByteArray := prog_2_method_3_code
def yX0_handTo : MethodName := ⟨RX0, "handTo", "(II)V"⟩
def RX1 : String := "Satellitering$Search"
def TX1 : u_T := fun k => match k with
  | 0 => ("Satellitering$Search", "sky", "LSatellitering$Sky;", true)
  | _ => ("Satellitering$Search", "reached", "[I", true)
def tyX1 : Nat → FieldType := fun k => match k with
  | 0 => .object "Satellitering$Sky"
  | _ => .array .int
abbrev wsX10 : List Cond := u_ws RX1 TX1 2
theorem nmX1 : ∀ a, a < 2 → ∀ b, b < 2 → a ≠ b → (TX1 a).2.1 ≠ (TX1 b).2.1 := by decide +kernel
theorem tyX1_ok : ∀ k, k < 2 → parseFieldDescriptor (TX1 k).2.2.1 = some (tyX1 k) := by decide +kernel
abbrev cX1_init : ByteArray := prog_3_method_1_code
def yX1_init : MethodName := ⟨RX1, "<init>", "(LSatellitering$Sky;)V"⟩
abbrev cX1_byContacts : ByteArray := prog_3_method_2_code
def yX1_byContacts : MethodName := ⟨RX1, "byContacts", "(III)I"⟩
abbrev cX1_earliestReached : ByteArray := prog_3_method_3_code
def yX1_earliestReached : MethodName := ⟨RX1, "earliestReached", "(II)I"⟩
abbrev cX1_goOnFrom : ByteArray := prog_3_method_4_code
def yX1_goOnFrom : MethodName := ⟨RX1, "goOnFrom", "(II)V"⟩
abbrev cX1_byFlooding : ByteArray := prog_3_method_5_code
def yX1_byFlooding : MethodName := ⟨RX1, "byFlooding", "(III)I"⟩
abbrev cX1_flooded : ByteArray := prog_3_method_6_code
def yX1_flooded : MethodName := ⟨RX1, "flooded", "(III)I"⟩
abbrev cX1_floodedNext : ByteArray := prog_3_method_7_code
def yX1_floodedNext : MethodName := ⟨RX1, "floodedNext", "(II)I"⟩
def RX2 : String := "Satellitering$Sky"
def TX2 : u_T := fun k => match k with
  | 0 => ("Satellitering$Sky", "places", "[I", true)
  | 1 => ("Satellitering$Sky", "speeds", "[I", true)
  | 2 => ("Satellitering$Sky", "reaches", "[I", true)
  | 3 => ("Satellitering$Sky", "seen", "[[I", true)
  | _ => ("Satellitering$Sky", "count", "I", false)
def tyX2 : Nat → FieldType := fun k => match k with
  | 0 => .array .int
  | 1 => .array .int
  | 2 => .array .int
  | 3 => .array (.array .int)
  | _ => .int
abbrev wsX20 : List Cond := u_ws RX2 TX2 5
theorem nmX2 : ∀ a, a < 5 → ∀ b, b < 5 → a ≠ b → (TX2 a).2.1 ≠ (TX2 b).2.1 := by decide +kernel
theorem tyX2_ok : ∀ k, k < 5 → parseFieldDescriptor (TX2 k).2.2.1 = some (tyX2 k) := by decide +kernel
abbrev cX2_init : ByteArray := prog_4_method_1_code
def yX2_init : MethodName := ⟨RX2, "<init>", "()V"⟩
abbrev cX2_addNode : ByteArray := prog_4_method_2_code
def yX2_addNode : MethodName := ⟨RX2, "addNode", "(III)I"⟩
abbrev cX2_markContacts : ByteArray := prog_4_method_3_code
def yX2_markContacts : MethodName := ⟨RX2, "markContacts", "(II)V"⟩
abbrev cX2_commonReach : ByteArray := prog_4_method_4_code
def yX2_commonReach : MethodName := ⟨RX2, "commonReach", "(II)I"⟩
abbrev cX2_distance : ByteArray := prog_4_method_5_code
def yX2_distance : MethodName := ⟨RX2, "distance", "(II)I"⟩
abbrev cX2_placeOf : ByteArray := prog_4_method_6_code
def yX2_placeOf : MethodName := ⟨RX2, "placeOf", "(II)I"⟩
abbrev cX2_seenFrom : ByteArray := prog_4_method_7_code
def yX2_seenFrom : MethodName := ⟨RX2, "seenFrom", "(II)I"⟩
abbrev cX2_inContact : ByteArray := prog_4_method_8_code
def yX2_inContact : MethodName := ⟨RX2, "inContact", "(III)Z"⟩
abbrev cX2_firstContact : ByteArray := prog_4_method_9_code
def yX2_firstContact : MethodName := ⟨RX2, "firstContact", "(III)I"⟩
abbrev cX2_contactLength : ByteArray := prog_4_method_10_code
def yX2_contactLength : MethodName := ⟨RX2, "contactLength", "(III)I"⟩
def RX3 : String := "Satellitering$Station"
def TX3 : u_T := fun k => match k with
  | 0 => ("Satellitering$Station", "timetable", "LSatellitering$Timetable;", true)
  | 1 => ("Satellitering$Station", "relay", "I", false)
  | _ => ("Satellitering$Station", "handoverCount", "I", false)
def tyX3 : Nat → FieldType := fun k => match k with
  | 0 => .object "Satellitering$Timetable"
  | 1 => .int
  | _ => .int
abbrev wsX30 : List Cond := u_ws RX3 TX3 3
theorem nmX3 : ∀ a, a < 3 → ∀ b, b < 3 → a ≠ b → (TX3 a).2.1 ≠ (TX3 b).2.1 := by decide +kernel
theorem tyX3_ok : ∀ k, k < 3 → parseFieldDescriptor (TX3 k).2.2.1 = some (tyX3 k) := by decide +kernel
abbrev cX3_init : ByteArray := prog_5_method_1_code
def yX3_init : MethodName := ⟨RX3, "<init>", "(LSatellitering$Timetable;)V"⟩
def RX4 : String := "Satellitering$Timetable"
def TX4 : u_T := fun k => match k with
  | 0 => ("Satellitering$Timetable", "sky", "LSatellitering$Sky;", true)
  | 1 => ("Satellitering$Timetable", "goal", "I", true)
  | 2 => ("Satellitering$Timetable", "left", "[[I", true)
  | 3 => ("Satellitering$Timetable", "soonest", "[I", false)
  | 4 => ("Satellitering$Timetable", "soonestBefore", "[I", false)
  | _ => ("Satellitering$Timetable", "nodesKnown", "I", false)
def tyX4 : Nat → FieldType := fun k => match k with
  | 0 => .object "Satellitering$Sky"
  | 1 => .int
  | 2 => .array (.array .int)
  | 3 => .array .int
  | 4 => .array .int
  | _ => .int
abbrev wsX40 : List Cond := u_ws RX4 TX4 6
theorem nmX4 : ∀ a, a < 6 → ∀ b, b < 6 → a ≠ b → (TX4 a).2.1 ≠ (TX4 b).2.1 := by decide +kernel
theorem tyX4_ok : ∀ k, k < 6 → parseFieldDescriptor (TX4 k).2.2.1 = some (tyX4 k) := by decide +kernel
abbrev cX4_init : ByteArray := prog_6_method_1_code
def yX4_init : MethodName := ⟨RX4, "<init>", "(LSatellitering$Sky;I)V"⟩
abbrev cX4_nextNode : ByteArray := prog_6_method_2_code
def yX4_nextNode : MethodName := ⟨RX4, "nextNode", "(II)I"⟩
abbrev cX4_reckon : ByteArray := prog_6_method_3_code
def yX4_reckon : MethodName := ⟨RX4, "reckon", "()V"⟩
abbrev cX4_stepBack : ByteArray := prog_6_method_4_code
def yX4_stepBack : MethodName := ⟨RX4, "stepBack", "(I)V"⟩
abbrev cX4_soonestThrough : ByteArray := prog_6_method_5_code
def yX4_soonestThrough : MethodName := ⟨RX4, "soonestThrough", "(II)I"⟩
abbrev cX4_writeDown : ByteArray := prog_6_method_6_code
def yX4_writeDown : MethodName := ⟨RX4, "writeDown", "(I)V"⟩
def RX5 : String := "Satellitering"
def TX5 : u_T := fun k => match k with
  | 0 => ("Satellitering", "sky", "LSatellitering$Sky;", true)
  | 1 => ("Satellitering", "search", "LSatellitering$Search;", true)
  | 2 => ("Satellitering", "stations", "[LSatellitering$Station;", true)
  | 3 => ("Satellitering", "capacities", "[I", true)
  | 4 => ("Satellitering", "sent", "[LSatellitering$Message;", true)
  | 5 => ("Satellitering", "stationCount", "I", false)
  | 6 => ("Satellitering", "relayCount", "I", false)
  | 7 => ("Satellitering", "sentCount", "I", false)
  | _ => ("Satellitering", "now", "I", false)
def tyX5 : Nat → FieldType := fun k => match k with
  | 0 => .object "Satellitering$Sky"
  | 1 => .object "Satellitering$Search"
  | 2 => .array (.object "Satellitering$Station")
  | 3 => .array .int
  | 4 => .array (.object "Satellitering$Message")
  | 5 => .int
  | 6 => .int
  | 7 => .int
  | _ => .int
abbrev wsX50 : List Cond := u_ws RX5 TX5 9
theorem nmX5 : ∀ a, a < 9 → ∀ b, b < 9 → a ≠ b → (TX5 a).2.1 ≠ (TX5 b).2.1 := by decide +kernel
theorem tyX5_ok : ∀ k, k < 9 → parseFieldDescriptor (TX5 k).2.2.1 = some (tyX5 k) := by decide +kernel
abbrev cX5_init : ByteArray := prog_1_method_1_code
def yX5_init : MethodName := ⟨RX5, "<init>", "()V"⟩
abbrev cX5_addStation : ByteArray := prog_1_method_2_code
def yX5_addStation : MethodName := ⟨RX5, "addStation", "(I)I"⟩
abbrev cX5_addRelay : ByteArray := prog_1_method_3_code
def yX5_addRelay : MethodName := ⟨RX5, "addRelay", "(IIII)I"⟩
abbrev cX5_setCapacity : ByteArray := prog_1_method_4_code
def yX5_setCapacity : MethodName := ⟨RX5, "setCapacity", "(II)I"⟩
abbrev cX5_nodes : ByteArray := prog_1_method_5_code
def yX5_nodes : MethodName := ⟨RX5, "nodes", "()I"⟩
abbrev cX5_placeAt : ByteArray := prog_1_method_6_code
def yX5_placeAt : MethodName := ⟨RX5, "placeAt", "(II)I"⟩
abbrev cX5_see : ByteArray := prog_1_method_7_code
def yX5_see : MethodName := ⟨RX5, "see", "(III)Z"⟩
abbrev cX5_nextContact : ByteArray := prog_1_method_8_code
def yX5_nextContact : MethodName := ⟨RX5, "nextContact", "(III)I"⟩
abbrev cX5_view : ByteArray := prog_1_method_9_code
def yX5_view : MethodName := ⟨RX5, "view", "(III)I"⟩
abbrev cX5_arrival : ByteArray := prog_1_method_10_code
def yX5_arrival : MethodName := ⟨RX5, "arrival", "(III)I"⟩
abbrev cX5_arrivalByFlooding : ByteArray := prog_1_method_11_code
def yX5_arrivalByFlooding : MethodName := ⟨RX5, "arrivalByFlooding", "(III)I"⟩
abbrev cX5_spread : ByteArray := prog_1_method_12_code
def yX5_spread : MethodName := ⟨RX5, "spread", "(III)I"⟩
abbrev cX5_send : ByteArray := prog_1_method_13_code
def yX5_send : MethodName := ⟨RX5, "send", "(II)I"⟩
abbrev cX5_pass : ByteArray := prog_1_method_14_code
def yX5_pass : MethodName := ⟨RX5, "pass", "(I)I"⟩
abbrev cX5_now : ByteArray := prog_1_method_15_code
def yX5_now : MethodName := ⟨RX5, "now", "()I"⟩
abbrev cX5_messages : ByteArray := prog_1_method_16_code
def yX5_messages : MethodName := ⟨RX5, "messages", "()I"⟩
abbrev cX5_nodeOf : ByteArray := prog_1_method_17_code
def yX5_nodeOf : MethodName := ⟨RX5, "nodeOf", "(I)I"⟩
abbrev cX5_arrivedAt : ByteArray := prog_1_method_18_code
def yX5_arrivedAt : MethodName := ⟨RX5, "arrivedAt", "(I)I"⟩
abbrev cX5_hops : ByteArray := prog_1_method_19_code
def yX5_hops : MethodName := ⟨RX5, "hops", "(I)I"⟩
abbrev cX5_hopNode : ByteArray := prog_1_method_20_code
def yX5_hopNode : MethodName := ⟨RX5, "hopNode", "(II)I"⟩
abbrev cX5_hopMinute : ByteArray := prog_1_method_21_code
def yX5_hopMinute : MethodName := ⟨RX5, "hopMinute", "(II)I"⟩
abbrev cX5_blocked : ByteArray := prog_1_method_22_code
def yX5_blocked : MethodName := ⟨RX5, "blocked", "(I)I"⟩
abbrev cX5_load : ByteArray := prog_1_method_23_code
def yX5_load : MethodName := ⟨RX5, "load", "(I)I"⟩
abbrev cX5_relayOf : ByteArray := prog_1_method_24_code
def yX5_relayOf : MethodName := ⟨RX5, "relayOf", "(I)I"⟩
abbrev cX5_handovers : ByteArray := prog_1_method_25_code
def yX5_handovers : MethodName := ⟨RX5, "handovers", "(I)I"⟩
abbrev cX5_passOneMinute : ByteArray := prog_1_method_26_code
def yX5_passOneMinute : MethodName := ⟨RX5, "passOneMinute", "()I"⟩
abbrev cX5_moveOn : ByteArray := prog_1_method_27_code
def yX5_moveOn : MethodName := ⟨RX5, "moveOn", "(LSatellitering$Message;)V"⟩
abbrev cX5_isFull : ByteArray := prog_1_method_28_code
def yX5_isFull : MethodName := ⟨RX5, "isFull", "(I)Z"⟩
abbrev cX5_messagesAt : ByteArray := prog_1_method_29_code
def yX5_messagesAt : MethodName := ⟨RX5, "messagesAt", "(I)I"⟩
abbrev cX5_lookForRelay : ByteArray := prog_1_method_30_code
def yX5_lookForRelay : MethodName := ⟨RX5, "lookForRelay", "(ILSatellitering$Station;)V"⟩
abbrev cX5_inRange : ByteArray := prog_1_method_31_code
def yX5_inRange : MethodName := ⟨RX5, "inRange", "(III)Z"⟩
abbrev cX5_requireArgument : ByteArray := prog_1_method_32_code
def yX5_requireArgument : MethodName := ⟨RX5, "requireArgument", "(Z)V"⟩
abbrev cX5_requireMinute : ByteArray := prog_1_method_33_code
def yX5_requireMinute : MethodName := ⟨RX5, "requireMinute", "(I)V"⟩
abbrev cX5_requireNode : ByteArray := prog_1_method_34_code
def yX5_requireNode : MethodName := ⟨RX5, "requireNode", "(I)V"⟩
abbrev cX5_requireTwoNodesAndMinute : ByteArray := prog_1_method_35_code
def yX5_requireTwoNodesAndMinute : MethodName := ⟨RX5, "requireTwoNodesAndMinute", "(III)V"⟩
abbrev cX5_requireStation : ByteArray := prog_1_method_36_code
def yX5_requireStation : MethodName := ⟨RX5, "requireStation", "(I)LSatellitering$Station;"⟩
abbrev cX5_requireMessage : ByteArray := prog_1_method_37_code
def yX5_requireMessage : MethodName := ⟨RX5, "requireMessage", "(I)LSatellitering$Message;"⟩
abbrev cX5_requireHop : ByteArray := prog_1_method_38_code
def yX5_requireHop : MethodName := ⟨RX5, "requireHop", "(LSatellitering$Message;I)V"⟩
def RX6 : String := "SatelliteringModel"
def TX6 : u_T := fun k => match k with
  | _ => ("", "", "", false)
def tyX6 : Nat → FieldType := fun k => match k with
  | _ => .int
abbrev wsX60 : List Cond := u_ws RX6 TX6 0
theorem nmX6 : ∀ a, a < 0 → ∀ b, b < 0 → a ≠ b → (TX6 a).2.1 ≠ (TX6 b).2.1 := by decide +kernel
theorem tyX6_ok : ∀ k, k < 0 → parseFieldDescriptor (TX6 k).2.2.1 = some (tyX6 k) := by decide +kernel
def RJx145de : String := "java/io/Serializable"
def TJx145de : u_T := fun k => match k with
  | _ => ("", "", "", false)
def tyJx145de : Nat → FieldType := fun k => match k with
  | _ => .int
abbrev wsJx145de0 : List Cond := u_ws RJx145de TJx145de 0
theorem nmJx145de : ∀ a, a < 0 → ∀ b, b < 0 → a ≠ b → (TJx145de a).2.1 ≠ (TJx145de b).2.1 := by decide +kernel
theorem tyJx145de_ok : ∀ k, k < 0 → parseFieldDescriptor (TJx145de k).2.2.1 = some (tyJx145de k) := by decide +kernel
def RJx8e188 : String := "java/lang/Cloneable"
def TJx8e188 : u_T := fun k => match k with
  | _ => ("", "", "", false)
def tyJx8e188 : Nat → FieldType := fun k => match k with
  | _ => .int
abbrev wsJx8e1880 : List Cond := u_ws RJx8e188 TJx8e188 0
theorem nmJx8e188 : ∀ a, a < 0 → ∀ b, b < 0 → a ≠ b → (TJx8e188 a).2.1 ≠ (TJx8e188 b).2.1 := by decide +kernel
theorem tyJx8e188_ok : ∀ k, k < 0 → parseFieldDescriptor (TJx8e188 k).2.2.1 = some (tyJx8e188 k) := by decide +kernel
def RJ6 : String := "java/lang/Integer"
def TJ6 : u_T := fun k => match k with
  | _ => ("", "", "", false)
def tyJ6 : Nat → FieldType := fun k => match k with
  | _ => .int
abbrev wsJ60 : List Cond := u_ws RJ6 TJ6 0
theorem nmJ6 : ∀ a, a < 0 → ∀ b, b < 0 → a ≠ b → (TJ6 a).2.1 ≠ (TJ6 b).2.1 := by decide +kernel
theorem tyJ6_ok : ∀ k, k < 0 → parseFieldDescriptor (TJ6 k).2.2.1 = some (tyJ6 k) := by decide +kernel
abbrev cJ6_bitCount_0f7a4 : ByteArray := prog_15_method_49_code
def yJ6_bitCount_0f7a4 : MethodName := ⟨RJ6, "bitCount", "(I)I"⟩
def RJ9 : String := "java/lang/Math"
def TJ9 : u_T := fun k => match k with
  | _ => ("", "", "", false)
def tyJ9 : Nat → FieldType := fun k => match k with
  | _ => .int
abbrev wsJ90 : List Cond := u_ws RJ9 TJ9 0
theorem nmJ9 : ∀ a, a < 0 → ∀ b, b < 0 → a ≠ b → (TJ9 a).2.1 ≠ (TJ9 b).2.1 := by decide +kernel
theorem tyJ9_ok : ∀ k, k < 0 → parseFieldDescriptor (TJ9 k).2.2.1 = some (tyJ9 k) := by decide +kernel
abbrev cJ9_floorMod_7cf53 : ByteArray := prog_16_method_50_code
def yJ9_floorMod_7cf53 : MethodName := ⟨RJ9, "floorMod", "(II)I"⟩
abbrev cJ9_abs_0f7a4 : ByteArray := prog_16_method_59_code
def yJ9_abs_0f7a4 : MethodName := ⟨RJ9, "abs", "(I)I"⟩
abbrev cJ9_min_7cf53 : ByteArray := prog_16_method_69_code
def yJ9_min_7cf53 : MethodName := ⟨RJ9, "min", "(II)I"⟩
def RJ0 : String := "java/lang/String"
def TJ0 : u_T := fun k => match k with
  | _ => ("", "", "", false)
def tyJ0 : Nat → FieldType := fun k => match k with
  | _ => .int
abbrev wsJ00 : List Cond := u_ws RJ0 TJ0 0
theorem nmJ0 : ∀ a, a < 0 → ∀ b, b < 0 → a ≠ b → (TJ0 a).2.1 ≠ (TJ0 b).2.1 := by decide +kernel
theorem tyJ0_ok : ∀ k, k < 0 → parseFieldDescriptor (TJ0 k).2.2.1 = some (tyJ0 k) := by decide +kernel
def RJ10 : String := "java/lang/System"
def TJ10 : u_T := fun k => match k with
  | _ => ("", "", "", false)
def tyJ10 : Nat → FieldType := fun k => match k with
  | _ => .int
abbrev wsJ100 : List Cond := u_ws RJ10 TJ10 0
theorem nmJ10 : ∀ a, a < 0 → ∀ b, b < 0 → a ≠ b → (TJ10 a).2.1 ≠ (TJ10 b).2.1 := by decide +kernel
theorem tyJ10_ok : ∀ k, k < 0 → parseFieldDescriptor (TJ10 k).2.2.1 = some (tyJ10 k) := by decide +kernel
def RJ7 : String := "java/util/Arrays"
def TJ7 : u_T := fun k => match k with
  | _ => ("", "", "", false)
def tyJ7 : Nat → FieldType := fun k => match k with
  | _ => .int
abbrev wsJ70 : List Cond := u_ws RJ7 TJ7 0
theorem nmJ7 : ∀ a, a < 0 → ∀ b, b < 0 → a ≠ b → (TJ7 a).2.1 ≠ (TJ7 b).2.1 := by decide +kernel
theorem tyJ7_ok : ∀ k, k < 0 → parseFieldDescriptor (TJ7 k).2.2.1 = some (tyJ7 k) := by decide +kernel
abbrev cJ7_fill_53178 : ByteArray := prog_21_method_103_code
def yJ7_fill_53178 : MethodName := ⟨RJ7, "fill", "([II)V"⟩
abbrev cJ7_copyOf_59c91 : ByteArray := prog_21_method_123_code
def yJ7_copyOf_59c91 : MethodName := ⟨RJ7, "copyOf", "([II)[I"⟩
def RL : String := "SatelliteringLaw"
def wsX0_init : List Cond := .code yX0_init cX0_init 4 none :: ([.methodLink RX0 1 objectInit, .instanceMethod objectInit, .code objectInit ⟨#[0xb1]⟩ 1 none, .fieldLink RX0 7 "Satellitering$Message" "since" "I", .fieldLink RX0 13 "Satellitering$Message" "blocks" "I", .fieldLink RX0 16 "Satellitering$Message" "hopCount" "I", .arrayClass .int, .fieldLink RX0 19 "Satellitering$Message" "hopNodes" "[I", .fieldLink RX0 23 "Satellitering$Message" "hopMinutes" "[I", .fieldLink RX0 26 "Satellitering$Message" "node" "I", .fieldLink RX0 29 "Satellitering$Message" "goal" "I", .fieldLink RX0 32 "Satellitering$Message" "timetable" "LSatellitering$Timetable;"] ++ wsX00)
def wsX0_isAtGoal : List Cond := .code yX0_isAtGoal cX0_isAtGoal 1 (some .boolean) :: ([.fieldLink RX0 26 "Satellitering$Message" "node" "I", .fieldLink RX0 29 "Satellitering$Message" "goal" "I"] ++ wsX00)
def wsJ7_copyOf_59c91 : List Cond := .code yJ7_copyOf_59c91 cJ7_copyOf_59c91 3 (some (.array .int)) :: ([.methodLink RJ7 316 ⟨"[I", "clone", "()Ljava/lang/Object;"⟩, .sameMethod "[I" "java/lang/Object" "clone" "()Ljava/lang/Object;", .native ⟨"java/lang/Object", "clone", "()Ljava/lang/Object;"⟩, .instanceMethod ⟨"java/lang/Object", "clone", "()Ljava/lang/Object;"⟩, .selects "[I" ⟨"[I", "clone", "()Ljava/lang/Object;"⟩ ⟨"java/lang/Object", "clone", "()Ljava/lang/Object;"⟩, .classLink RJ7 317 "[I", .arrayClass .int, .methodLink RJ7 304 Lib.Math.min.name, .static Lib.Math.min.name, .initialized "java/lang/Math", .code Lib.Math.min.name Lib.Math.min.code 2 (some .int), .methodLink RJ7 150 arraycopyName, .native arraycopyName, .static arraycopyName, .initialized "java/lang/System"])
def wsX0_handTo : List Cond := .code yX0_handTo cX0_handTo 3 none :: ([.fieldLink RX0 16 "Satellitering$Message" "hopCount" "I", .fieldLink RX0 19 "Satellitering$Message" "hopNodes" "[I", .fieldLink RX0 23 "Satellitering$Message" "hopMinutes" "[I", .fieldLink RX0 26 "Satellitering$Message" "node" "I", .fieldLink RX0 7 "Satellitering$Message" "since" "I", .methodLink RX0 36 yJ7_copyOf_59c91, .static yJ7_copyOf_59c91, .initialized RJ7, .code yJ7_copyOf_59c91 cJ7_copyOf_59c91 3 (some (.array .int)), .methodLink RJ7 316 ⟨"[I", "clone", "()Ljava/lang/Object;"⟩, .sameMethod "[I" "java/lang/Object" "clone" "()Ljava/lang/Object;", .native ⟨"java/lang/Object", "clone", "()Ljava/lang/Object;"⟩, .instanceMethod ⟨"java/lang/Object", "clone", "()Ljava/lang/Object;"⟩, .selects "[I" ⟨"[I", "clone", "()Ljava/lang/Object;"⟩ ⟨"java/lang/Object", "clone", "()Ljava/lang/Object;"⟩, .classLink RJ7 317 "[I", .arrayClass .int, .methodLink RJ7 304 Lib.Math.min.name, .static Lib.Math.min.name, .initialized "java/lang/Math", .code Lib.Math.min.name Lib.Math.min.code 2 (some .int), .methodLink RJ7 150 arraycopyName, .native arraycopyName, .static arraycopyName, .initialized "java/lang/System"] ++ wsX00)
def wsX1_init : List Cond := .code yX1_init cX1_init 2 none :: ([.methodLink RX1 3 objectInit, .instanceMethod objectInit, .code objectInit ⟨#[0xb1]⟩ 1 none, .arrayClass .int, .fieldLink RX1 9 "Satellitering$Search" "reached" "[I", .fieldLink RX1 15 "Satellitering$Search" "sky" "LSatellitering$Sky;"] ++ wsX10)
def wsJ7_fill_53178 : List Cond := .code yJ7_fill_53178 cJ7_fill_53178 4 none :: ([])
def wsX1_earliestReached : List Cond := .code yX1_earliestReached cX1_earliestReached 6 (some .int) :: ([.fieldLink RX1 15 "Satellitering$Search" "sky" "LSatellitering$Sky;", .fieldLink RX1 9 "Satellitering$Search" "reached" "[I"] ++ wsX10 ++ wsX20)
def wsX2_seenFrom : List Cond := .code yX2_seenFrom cX2_seenFrom 3 (some .int) :: ([.fieldLink RX2 23 "Satellitering$Sky" "seen" "[[I"] ++ wsX20)
def wsX2_inContact : List Cond := .code yX2_inContact cX2_inContact 4 (some .boolean) :: ([.methodLink RX2 56 yX2_seenFrom, .instanceMethod yX2_seenFrom, .selects RX2 yX2_seenFrom yX2_seenFrom, .initialized RX2, .code yX2_seenFrom cX2_seenFrom 3 (some .int), .fieldLink RX2 23 "Satellitering$Sky" "seen" "[[I"] ++ wsX20)
def wsX2_firstContact : List Cond := .code yX2_firstContact cX2_firstContact 5 (some .int) :: ([.methodLink RX2 59 yX2_inContact, .instanceMethod yX2_inContact, .selects RX2 yX2_inContact yX2_inContact, .initialized RX2, .code yX2_inContact cX2_inContact 4 (some .boolean), .methodLink RX2 56 yX2_seenFrom, .instanceMethod yX2_seenFrom, .selects RX2 yX2_seenFrom yX2_seenFrom, .code yX2_seenFrom cX2_seenFrom 3 (some .int), .fieldLink RX2 23 "Satellitering$Sky" "seen" "[[I"] ++ wsX20)
def wsX1_goOnFrom : List Cond := .code yX1_goOnFrom cX1_goOnFrom 5 none :: ([.fieldLink RX1 15 "Satellitering$Search" "sky" "LSatellitering$Sky;", .fieldLink RX1 9 "Satellitering$Search" "reached" "[I", .methodLink RX1 39 yX2_firstContact, .instanceMethod yX2_firstContact, .selects RX2 yX2_firstContact yX2_firstContact, .initialized RX2, .code yX2_firstContact cX2_firstContact 5 (some .int), .methodLink RX2 59 yX2_inContact, .instanceMethod yX2_inContact, .selects RX2 yX2_inContact yX2_inContact, .code yX2_inContact cX2_inContact 4 (some .boolean), .methodLink RX2 56 yX2_seenFrom, .instanceMethod yX2_seenFrom, .selects RX2 yX2_seenFrom yX2_seenFrom, .code yX2_seenFrom cX2_seenFrom 3 (some .int), .fieldLink RX2 23 "Satellitering$Sky" "seen" "[[I"] ++ wsX10 ++ wsX20)
def wsX1_byContacts_r1 : List Cond := [Cond.fieldLink RX1 9 "Satellitering$Search" "reached" "[I", Cond.fieldLink RX1 15 "Satellitering$Search" "sky" "LSatellitering$Sky;", Cond.methodLink RX1 19 yJ7_fill_53178, Cond.static yJ7_fill_53178, Cond.initialized RJ7, Cond.code yJ7_fill_53178 cJ7_fill_53178 4 none, Cond.methodLink RX1 31 yX1_earliestReached, Cond.instanceMethod yX1_earliestReached, Cond.selects RX1 yX1_earliestReached yX1_earliestReached, Cond.initialized RX1, Cond.code yX1_earliestReached cX1_earliestReached 6 (some .int), Cond.methodLink RX1 35 yX1_goOnFrom, Cond.instanceMethod yX1_goOnFrom, Cond.selects RX1 yX1_goOnFrom yX1_goOnFrom, Cond.code yX1_goOnFrom cX1_goOnFrom 5 none, Cond.methodLink RX1 39 yX2_firstContact, Cond.instanceMethod yX2_firstContact, Cond.selects RX2 yX2_firstContact yX2_firstContact, Cond.initialized RX2, Cond.code yX2_firstContact cX2_firstContact 5 (some .int), Cond.methodLink RX2 59 yX2_inContact, Cond.instanceMethod yX2_inContact, Cond.selects RX2 yX2_inContact yX2_inContact, Cond.code yX2_inContact cX2_inContact 4 (some .boolean)]
def wsX1_byContacts_r2 : List Cond := [Cond.methodLink RX2 56 yX2_seenFrom, Cond.instanceMethod yX2_seenFrom, Cond.selects RX2 yX2_seenFrom yX2_seenFrom, Cond.code yX2_seenFrom cX2_seenFrom 3 (some .int), Cond.fieldLink RX2 23 "Satellitering$Sky" "seen" "[[I"]
def wsX1_byContacts : List Cond := .code yX1_byContacts cX1_byContacts 8 (some .int) :: ((wsX1_byContacts_r1 ++ wsX1_byContacts_r2) ++ wsX10 ++ wsX20)
def wsX1_floodedNext : List Cond := .code yX1_floodedNext cX1_floodedNext 5 (some .int) :: ([.fieldLink RX1 15 "Satellitering$Search" "sky" "LSatellitering$Sky;", .methodLink RX1 46 yX2_seenFrom, .instanceMethod yX2_seenFrom, .selects RX2 yX2_seenFrom yX2_seenFrom, .initialized RX2, .code yX2_seenFrom cX2_seenFrom 3 (some .int), .fieldLink RX2 23 "Satellitering$Sky" "seen" "[[I"] ++ wsX10 ++ wsX20)
def wsX1_byFlooding : List Cond := .code yX1_byFlooding cX1_byFlooding 6 (some .int) :: ([.methodLink RX1 43 yX1_floodedNext, .instanceMethod yX1_floodedNext, .selects RX1 yX1_floodedNext yX1_floodedNext, .initialized RX1, .code yX1_floodedNext cX1_floodedNext 5 (some .int), .fieldLink RX1 15 "Satellitering$Search" "sky" "LSatellitering$Sky;", .methodLink RX1 46 yX2_seenFrom, .instanceMethod yX2_seenFrom, .selects RX2 yX2_seenFrom yX2_seenFrom, .initialized RX2, .code yX2_seenFrom cX2_seenFrom 3 (some .int), .fieldLink RX2 23 "Satellitering$Sky" "seen" "[[I"] ++ wsX10 ++ wsX20)
def wsX1_flooded : List Cond := .code yX1_flooded cX1_flooded 6 (some .int) :: ([.methodLink RX1 43 yX1_floodedNext, .instanceMethod yX1_floodedNext, .selects RX1 yX1_floodedNext yX1_floodedNext, .initialized RX1, .code yX1_floodedNext cX1_floodedNext 5 (some .int), .fieldLink RX1 15 "Satellitering$Search" "sky" "LSatellitering$Sky;", .methodLink RX1 46 yX2_seenFrom, .instanceMethod yX2_seenFrom, .selects RX2 yX2_seenFrom yX2_seenFrom, .initialized RX2, .code yX2_seenFrom cX2_seenFrom 3 (some .int), .fieldLink RX2 23 "Satellitering$Sky" "seen" "[[I"] ++ wsX10 ++ wsX20)
def wsX2_init : List Cond := .code yX2_init cX2_init 1 none :: ([.methodLink RX2 3 objectInit, .instanceMethod objectInit, .code objectInit ⟨#[0xb1]⟩ 1 none, .arrayClass .int, .fieldLink RX2 9 "Satellitering$Sky" "places" "[I", .fieldLink RX2 15 "Satellitering$Sky" "speeds" "[I", .fieldLink RX2 18 "Satellitering$Sky" "reaches" "[I", .classLink RX2 21 "[[I", .fieldLink RX2 23 "Satellitering$Sky" "seen" "[[I", .fieldLink RX2 26 "Satellitering$Sky" "count" "I"] ++ wsX20)
def wsX2_commonReach : List Cond := .code yX2_commonReach cX2_commonReach 3 (some .int) :: ([.fieldLink RX2 18 "Satellitering$Sky" "reaches" "[I", .methodLink RX2 44 Lib.Math.min.name, .static Lib.Math.min.name, .initialized "java/lang/Math", .code Lib.Math.min.name Lib.Math.min.code 2 (some .int)] ++ wsX20)
def wsJ9_floorMod_7cf53 : List Cond := .code yJ9_floorMod_7cf53 cJ9_floorMod_7cf53 3 (some .int) :: ([])
def wsX2_placeOf : List Cond := .code yX2_placeOf cX2_placeOf 3 (some .int) :: ([.fieldLink RX2 9 "Satellitering$Sky" "places" "[I", .fieldLink RX2 15 "Satellitering$Sky" "speeds" "[I", .methodLink RX2 53 yJ9_floorMod_7cf53, .static yJ9_floorMod_7cf53, .initialized RJ9, .code yJ9_floorMod_7cf53 cJ9_floorMod_7cf53 3 (some .int)] ++ wsX20)
def wsX2_distance : List Cond := .code yX2_distance cX2_distance 3 (some .int) :: ([.methodLink RX2 49 Lib.Math.abs.name, .static Lib.Math.abs.name, .initialized "java/lang/Math", .code Lib.Math.abs.name Lib.Math.abs.code 1 (some .int), .methodLink RX2 44 Lib.Math.min.name, .static Lib.Math.min.name, .code Lib.Math.min.name Lib.Math.min.code 2 (some .int)])
def wsX2_markContacts_r1 : List Cond := [Cond.fieldLink RX2 23 "Satellitering$Sky" "seen" "[[I", Cond.methodLink RX2 34 yX2_commonReach, Cond.instanceMethod yX2_commonReach, Cond.selects RX2 yX2_commonReach yX2_commonReach, Cond.initialized RX2, Cond.code yX2_commonReach cX2_commonReach 3 (some .int), Cond.fieldLink RX2 18 "Satellitering$Sky" "reaches" "[I", Cond.methodLink RX2 44 Lib.Math.min.name, Cond.static Lib.Math.min.name, Cond.initialized "java/lang/Math", Cond.code Lib.Math.min.name Lib.Math.min.code 2 (some .int), Cond.methodLink RX2 38 yX2_placeOf, Cond.instanceMethod yX2_placeOf, Cond.selects RX2 yX2_placeOf yX2_placeOf, Cond.code yX2_placeOf cX2_placeOf 3 (some .int), Cond.fieldLink RX2 9 "Satellitering$Sky" "places" "[I", Cond.fieldLink RX2 15 "Satellitering$Sky" "speeds" "[I", Cond.methodLink RX2 53 yJ9_floorMod_7cf53, Cond.static yJ9_floorMod_7cf53, Cond.initialized RJ9, Cond.code yJ9_floorMod_7cf53 cJ9_floorMod_7cf53 3 (some .int), Cond.methodLink RX2 41 yX2_distance, Cond.static yX2_distance, Cond.code yX2_distance cX2_distance 3 (some .int)]
def wsX2_markContacts_r2 : List Cond := [Cond.methodLink RX2 49 Lib.Math.abs.name, Cond.static Lib.Math.abs.name, Cond.code Lib.Math.abs.name Lib.Math.abs.code 1 (some .int)]
def wsX2_markContacts : List Cond := .code yX2_markContacts cX2_markContacts 5 none :: ((wsX2_markContacts_r1 ++ wsX2_markContacts_r2) ++ wsX20)
def wsX2_addNode_r1 : List Cond := [Cond.fieldLink RX2 26 "Satellitering$Sky" "count" "I", Cond.fieldLink RX2 9 "Satellitering$Sky" "places" "[I", Cond.fieldLink RX2 15 "Satellitering$Sky" "speeds" "[I", Cond.fieldLink RX2 18 "Satellitering$Sky" "reaches" "[I", Cond.methodLink RX2 30 yX2_markContacts, Cond.instanceMethod yX2_markContacts, Cond.selects RX2 yX2_markContacts yX2_markContacts, Cond.initialized RX2, Cond.code yX2_markContacts cX2_markContacts 5 none, Cond.fieldLink RX2 23 "Satellitering$Sky" "seen" "[[I", Cond.methodLink RX2 34 yX2_commonReach, Cond.instanceMethod yX2_commonReach, Cond.selects RX2 yX2_commonReach yX2_commonReach, Cond.code yX2_commonReach cX2_commonReach 3 (some .int), Cond.methodLink RX2 44 Lib.Math.min.name, Cond.static Lib.Math.min.name, Cond.initialized "java/lang/Math", Cond.code Lib.Math.min.name Lib.Math.min.code 2 (some .int), Cond.methodLink RX2 38 yX2_placeOf, Cond.instanceMethod yX2_placeOf, Cond.selects RX2 yX2_placeOf yX2_placeOf, Cond.code yX2_placeOf cX2_placeOf 3 (some .int), Cond.methodLink RX2 53 yJ9_floorMod_7cf53, Cond.static yJ9_floorMod_7cf53]
def wsX2_addNode_r2 : List Cond := [Cond.initialized RJ9, Cond.code yJ9_floorMod_7cf53 cJ9_floorMod_7cf53 3 (some .int), Cond.methodLink RX2 41 yX2_distance, Cond.static yX2_distance, Cond.code yX2_distance cX2_distance 3 (some .int), Cond.methodLink RX2 49 Lib.Math.abs.name, Cond.static Lib.Math.abs.name, Cond.code Lib.Math.abs.name Lib.Math.abs.code 1 (some .int)]
def wsX2_addNode : List Cond := .code yX2_addNode cX2_addNode 6 (some .int) :: ((wsX2_addNode_r1 ++ wsX2_addNode_r2) ++ wsX20)
def wsX2_contactLength : List Cond := .code yX2_contactLength cX2_contactLength 5 (some .int) :: ([.methodLink RX2 59 yX2_inContact, .instanceMethod yX2_inContact, .selects RX2 yX2_inContact yX2_inContact, .initialized RX2, .code yX2_inContact cX2_inContact 4 (some .boolean), .methodLink RX2 56 yX2_seenFrom, .instanceMethod yX2_seenFrom, .selects RX2 yX2_seenFrom yX2_seenFrom, .code yX2_seenFrom cX2_seenFrom 3 (some .int), .fieldLink RX2 23 "Satellitering$Sky" "seen" "[[I"] ++ wsX20)
def wsX3_init : List Cond := .code yX3_init cX3_init 2 none :: ([.methodLink RX3 3 objectInit, .instanceMethod objectInit, .code objectInit ⟨#[0xb1]⟩ 1 none, .fieldLink RX3 9 "Satellitering$Station" "relay" "I", .fieldLink RX3 15 "Satellitering$Station" "handoverCount" "I", .fieldLink RX3 18 "Satellitering$Station" "timetable" "LSatellitering$Timetable;"] ++ wsX30)
def wsX4_init : List Cond := .code yX4_init cX4_init 3 none :: ([.methodLink RX4 3 objectInit, .instanceMethod objectInit, .code objectInit ⟨#[0xb1]⟩ 1 none, .classLink RX4 9 "[[I", .arrayClass .int, .fieldLink RX4 11 "Satellitering$Timetable" "left" "[[I", .fieldLink RX4 16 "Satellitering$Timetable" "soonest" "[I", .fieldLink RX4 20 "Satellitering$Timetable" "soonestBefore" "[I", .fieldLink RX4 23 "Satellitering$Timetable" "nodesKnown" "I", .fieldLink RX4 27 "Satellitering$Timetable" "sky" "LSatellitering$Sky;", .fieldLink RX4 31 "Satellitering$Timetable" "goal" "I"] ++ wsX40)
def wsX4_soonestThrough : List Cond := .code yX4_soonestThrough cX4_soonestThrough 5 (some .int) :: ([.fieldLink RX4 16 "Satellitering$Timetable" "soonest" "[I", .fieldLink RX4 27 "Satellitering$Timetable" "sky" "LSatellitering$Sky;"] ++ wsX40 ++ wsX20)
def wsX4_stepBack : List Cond := .code yX4_stepBack cX4_stepBack 4 none :: ([.fieldLink RX4 27 "Satellitering$Timetable" "sky" "LSatellitering$Sky;", .fieldLink RX4 20 "Satellitering$Timetable" "soonestBefore" "[I", .fieldLink RX4 31 "Satellitering$Timetable" "goal" "I", .fieldLink RX4 16 "Satellitering$Timetable" "soonest" "[I", .methodLink RX4 59 yX2_seenFrom, .instanceMethod yX2_seenFrom, .selects RX2 yX2_seenFrom yX2_seenFrom, .initialized RX2, .code yX2_seenFrom cX2_seenFrom 3 (some .int), .fieldLink RX2 23 "Satellitering$Sky" "seen" "[[I", .methodLink RX4 63 yX4_soonestThrough, .instanceMethod yX4_soonestThrough, .selects RX4 yX4_soonestThrough yX4_soonestThrough, .initialized RX4, .code yX4_soonestThrough cX4_soonestThrough 5 (some .int)] ++ wsX40 ++ wsX20)
def wsX4_writeDown : List Cond := .code yX4_writeDown cX4_writeDown 4 none :: ([.fieldLink RX4 27 "Satellitering$Timetable" "sky" "LSatellitering$Sky;", .fieldLink RX4 16 "Satellitering$Timetable" "soonest" "[I", .fieldLink RX4 11 "Satellitering$Timetable" "left" "[[I"] ++ wsX40 ++ wsX20)
def wsX4_reckon_r1 : List Cond := [Cond.fieldLink RX4 16 "Satellitering$Timetable" "soonest" "[I", Cond.fieldLink RX4 27 "Satellitering$Timetable" "sky" "LSatellitering$Sky;", Cond.fieldLink RX4 23 "Satellitering$Timetable" "nodesKnown" "I", Cond.methodLink RX4 46 yJ7_fill_53178, Cond.static yJ7_fill_53178, Cond.initialized RJ7, Cond.code yJ7_fill_53178 cJ7_fill_53178 4 none, Cond.methodLink RX4 52 yX4_stepBack, Cond.instanceMethod yX4_stepBack, Cond.selects RX4 yX4_stepBack yX4_stepBack, Cond.initialized RX4, Cond.code yX4_stepBack cX4_stepBack 4 none, Cond.fieldLink RX4 20 "Satellitering$Timetable" "soonestBefore" "[I", Cond.fieldLink RX4 31 "Satellitering$Timetable" "goal" "I", Cond.methodLink RX4 59 yX2_seenFrom, Cond.instanceMethod yX2_seenFrom, Cond.selects RX2 yX2_seenFrom yX2_seenFrom, Cond.initialized RX2, Cond.code yX2_seenFrom cX2_seenFrom 3 (some .int), Cond.fieldLink RX2 23 "Satellitering$Sky" "seen" "[[I", Cond.methodLink RX4 63 yX4_soonestThrough, Cond.instanceMethod yX4_soonestThrough, Cond.selects RX4 yX4_soonestThrough yX4_soonestThrough, Cond.code yX4_soonestThrough cX4_soonestThrough 5 (some .int)]
def wsX4_reckon_r2 : List Cond := [Cond.methodLink RX4 56 yX4_writeDown, Cond.instanceMethod yX4_writeDown, Cond.selects RX4 yX4_writeDown yX4_writeDown, Cond.code yX4_writeDown cX4_writeDown 4 none, Cond.fieldLink RX4 11 "Satellitering$Timetable" "left" "[[I"]
def wsX4_reckon : List Cond := .code yX4_reckon cX4_reckon 3 none :: ((wsX4_reckon_r1 ++ wsX4_reckon_r2) ++ wsX40 ++ wsX20)
def wsX4_nextNode_r1 : List Cond := [Cond.fieldLink RX4 23 "Satellitering$Timetable" "nodesKnown" "I", Cond.fieldLink RX4 27 "Satellitering$Timetable" "sky" "LSatellitering$Sky;", Cond.fieldLink RX4 11 "Satellitering$Timetable" "left" "[[I", Cond.methodLink RX4 39 yX4_reckon, Cond.instanceMethod yX4_reckon, Cond.selects RX4 yX4_reckon yX4_reckon, Cond.initialized RX4, Cond.code yX4_reckon cX4_reckon 3 none, Cond.fieldLink RX4 16 "Satellitering$Timetable" "soonest" "[I", Cond.methodLink RX4 46 yJ7_fill_53178, Cond.static yJ7_fill_53178, Cond.initialized RJ7, Cond.code yJ7_fill_53178 cJ7_fill_53178 4 none, Cond.methodLink RX4 52 yX4_stepBack, Cond.instanceMethod yX4_stepBack, Cond.selects RX4 yX4_stepBack yX4_stepBack, Cond.code yX4_stepBack cX4_stepBack 4 none, Cond.fieldLink RX4 20 "Satellitering$Timetable" "soonestBefore" "[I", Cond.fieldLink RX4 31 "Satellitering$Timetable" "goal" "I", Cond.methodLink RX4 59 yX2_seenFrom, Cond.instanceMethod yX2_seenFrom, Cond.selects RX2 yX2_seenFrom yX2_seenFrom, Cond.initialized RX2, Cond.code yX2_seenFrom cX2_seenFrom 3 (some .int)]
def wsX4_nextNode_r2 : List Cond := [Cond.fieldLink RX2 23 "Satellitering$Sky" "seen" "[[I", Cond.methodLink RX4 63 yX4_soonestThrough, Cond.instanceMethod yX4_soonestThrough, Cond.selects RX4 yX4_soonestThrough yX4_soonestThrough, Cond.code yX4_soonestThrough cX4_soonestThrough 5 (some .int), Cond.methodLink RX4 56 yX4_writeDown, Cond.instanceMethod yX4_writeDown, Cond.selects RX4 yX4_writeDown yX4_writeDown, Cond.code yX4_writeDown cX4_writeDown 4 none, Cond.methodLink RX4 42 yX2_inContact, Cond.instanceMethod yX2_inContact, Cond.selects RX2 yX2_inContact yX2_inContact, Cond.code yX2_inContact cX2_inContact 4 (some .boolean), Cond.methodLink RX2 56 yX2_seenFrom]
def wsX4_nextNode : List Cond := .code yX4_nextNode cX4_nextNode 6 (some .int) :: ((wsX4_nextNode_r1 ++ wsX4_nextNode_r2) ++ wsX40 ++ wsX20)
def wsX5_init_r1 : List Cond := [Cond.methodLink RX5 3 objectInit, Cond.instanceMethod objectInit, Cond.code objectInit ⟨#[0xb1]⟩ 1 none, Cond.classLink RX5 9 RX2, Cond.instantiable RX2 5, Cond.initialized RX2, Cond.fieldLink RX5 12 "Satellitering" "sky" "LSatellitering$Sky;", Cond.classLink RX5 16 RX1, Cond.instantiable RX1 2, Cond.initialized RX1, Cond.fieldLink RX5 21 "Satellitering" "search" "LSatellitering$Search;", Cond.classLink RX5 25 RX3, Cond.fieldLink RX5 27 "Satellitering" "stations" "[LSatellitering$Station;", Cond.arrayClass .int, Cond.fieldLink RX5 31 "Satellitering" "capacities" "[I", Cond.classLink RX5 35 RX0, Cond.fieldLink RX5 37 "Satellitering" "sent" "[LSatellitering$Message;", Cond.fieldLink RX5 41 "Satellitering" "stationCount" "I", Cond.fieldLink RX5 45 "Satellitering" "relayCount" "I", Cond.fieldLink RX5 48 "Satellitering" "sentCount" "I", Cond.fieldLink RX5 51 "Satellitering" "now" "I", Cond.instanceMethod yX2_init, Cond.code yX2_init cX2_init 1 none, Cond.methodLink RX2 3 objectInit]
def wsX5_init_r2 : List Cond := [Cond.fieldLink RX2 9 "Satellitering$Sky" "places" "[I", Cond.fieldLink RX2 15 "Satellitering$Sky" "speeds" "[I", Cond.fieldLink RX2 18 "Satellitering$Sky" "reaches" "[I", Cond.classLink RX2 21 "[[I", Cond.fieldLink RX2 23 "Satellitering$Sky" "seen" "[[I", Cond.fieldLink RX2 26 "Satellitering$Sky" "count" "I", Cond.methodLink RX5 18 yX1_init, Cond.instanceMethod yX1_init, Cond.code yX1_init cX1_init 2 none, Cond.methodLink RX1 3 objectInit, Cond.fieldLink RX1 9 "Satellitering$Search" "reached" "[I", Cond.fieldLink RX1 15 "Satellitering$Search" "sky" "LSatellitering$Sky;"]
def wsX5_init : List Cond := .code yX5_init cX5_init 1 none :: ((wsX5_init_r1 ++ wsX5_init_r2) ++ wsX20 ++ wsX50 ++ wsX10)
def wsX5_inRange : List Cond := .code yX5_inRange cX5_inRange 3 (some .boolean) :: ([])
def wsX5_requireArgument : List Cond := .code yX5_requireArgument cX5_requireArgument 1 none :: ([.classLink RX5 214 "java/lang/IllegalArgumentException", .initialized "java/lang/IllegalArgumentException"] ++ (vx_atS RX5 218 "java/lang/IllegalArgumentException" ["java/lang/RuntimeException", "java/lang/Exception"]).filter goodWord)
def wsX5_lookForRelay : List Cond := .code yX5_lookForRelay cX5_lookForRelay 7 none :: ([.fieldLink RX5 12 "Satellitering" "sky" "LSatellitering$Sky;", .fieldLink RX5 51 "Satellitering" "now" "I", .methodLink RX5 110 yX2_inContact, .instanceMethod yX2_inContact, .selects RX2 yX2_inContact yX2_inContact, .initialized RX2, .code yX2_inContact cX2_inContact 4 (some .boolean), .methodLink RX2 56 yX2_seenFrom, .instanceMethod yX2_seenFrom, .selects RX2 yX2_seenFrom yX2_seenFrom, .code yX2_seenFrom cX2_seenFrom 3 (some .int), .fieldLink RX2 23 "Satellitering$Sky" "seen" "[[I", .methodLink RX5 116 yX2_contactLength, .instanceMethod yX2_contactLength, .selects RX2 yX2_contactLength yX2_contactLength, .code yX2_contactLength cX2_contactLength 5 (some .int), .methodLink RX2 59 yX2_inContact] ++ wsX30 ++ wsX50 ++ wsX20)
def wsX5_addStation_r1 : List Cond := [Cond.classLink RX5 62 "java/lang/IllegalStateException", Cond.initialized "java/lang/IllegalStateException", Cond.fieldLink RX5 41 "Satellitering" "stationCount" "I", Cond.fieldLink RX5 12 "Satellitering" "sky" "LSatellitering$Sky;", Cond.classLink RX5 25 RX3, Cond.instantiable RX3 3, Cond.initialized RX3, Cond.classLink RX5 73 RX4, Cond.instantiable RX4 6, Cond.initialized RX4, Cond.fieldLink RX5 27 "Satellitering" "stations" "[LSatellitering$Station;", Cond.methodLink RX5 54 yX5_inRange, Cond.static yX5_inRange, Cond.initialized RX5, Cond.code yX5_inRange cX5_inRange 3 (some .boolean), Cond.methodLink RX5 58 yX5_requireArgument, Cond.static yX5_requireArgument, Cond.code yX5_requireArgument cX5_requireArgument 1 none, Cond.classLink RX5 214 "java/lang/IllegalArgumentException", Cond.initialized "java/lang/IllegalArgumentException", Cond.methodLink RX5 69 yX2_addNode, Cond.instanceMethod yX2_addNode, Cond.selects RX2 yX2_addNode yX2_addNode, Cond.initialized RX2]
def wsX5_addStation_r2 : List Cond := [Cond.code yX2_addNode cX2_addNode 6 (some .int), Cond.fieldLink RX2 26 "Satellitering$Sky" "count" "I", Cond.fieldLink RX2 9 "Satellitering$Sky" "places" "[I", Cond.fieldLink RX2 15 "Satellitering$Sky" "speeds" "[I", Cond.fieldLink RX2 18 "Satellitering$Sky" "reaches" "[I", Cond.methodLink RX2 30 yX2_markContacts, Cond.instanceMethod yX2_markContacts, Cond.selects RX2 yX2_markContacts yX2_markContacts, Cond.code yX2_markContacts cX2_markContacts 5 none, Cond.fieldLink RX2 23 "Satellitering$Sky" "seen" "[[I", Cond.methodLink RX2 34 yX2_commonReach, Cond.instanceMethod yX2_commonReach, Cond.selects RX2 yX2_commonReach yX2_commonReach, Cond.code yX2_commonReach cX2_commonReach 3 (some .int), Cond.methodLink RX2 44 Lib.Math.min.name, Cond.static Lib.Math.min.name, Cond.initialized "java/lang/Math", Cond.code Lib.Math.min.name Lib.Math.min.code 2 (some .int), Cond.methodLink RX2 38 yX2_placeOf, Cond.instanceMethod yX2_placeOf, Cond.selects RX2 yX2_placeOf yX2_placeOf, Cond.code yX2_placeOf cX2_placeOf 3 (some .int), Cond.methodLink RX2 53 yJ9_floorMod_7cf53, Cond.static yJ9_floorMod_7cf53]
def wsX5_addStation_r3 : List Cond := [Cond.initialized RJ9, Cond.code yJ9_floorMod_7cf53 cJ9_floorMod_7cf53 3 (some .int), Cond.methodLink RX2 41 yX2_distance, Cond.static yX2_distance, Cond.code yX2_distance cX2_distance 3 (some .int), Cond.methodLink RX2 49 Lib.Math.abs.name, Cond.static Lib.Math.abs.name, Cond.code Lib.Math.abs.name Lib.Math.abs.code 1 (some .int), Cond.methodLink RX5 75 yX4_init, Cond.instanceMethod yX4_init, Cond.code yX4_init cX4_init 3 none, Cond.methodLink RX4 3 objectInit, Cond.instanceMethod objectInit, Cond.code objectInit ⟨#[0xb1]⟩ 1 none, Cond.classLink RX4 9 "[[I", Cond.arrayClass .int, Cond.fieldLink RX4 11 "Satellitering$Timetable" "left" "[[I", Cond.fieldLink RX4 16 "Satellitering$Timetable" "soonest" "[I", Cond.fieldLink RX4 20 "Satellitering$Timetable" "soonestBefore" "[I", Cond.fieldLink RX4 23 "Satellitering$Timetable" "nodesKnown" "I", Cond.fieldLink RX4 27 "Satellitering$Timetable" "sky" "LSatellitering$Sky;", Cond.fieldLink RX4 31 "Satellitering$Timetable" "goal" "I", Cond.methodLink RX5 78 yX3_init, Cond.instanceMethod yX3_init]
def wsX5_addStation_r4 : List Cond := [Cond.code yX3_init cX3_init 2 none, Cond.methodLink RX3 3 objectInit, Cond.fieldLink RX3 9 "Satellitering$Station" "relay" "I", Cond.fieldLink RX3 15 "Satellitering$Station" "handoverCount" "I", Cond.fieldLink RX3 18 "Satellitering$Station" "timetable" "LSatellitering$Timetable;", Cond.methodLink RX5 81 yX5_lookForRelay, Cond.instanceMethod yX5_lookForRelay, Cond.selects RX5 yX5_lookForRelay yX5_lookForRelay, Cond.code yX5_lookForRelay cX5_lookForRelay 7 none, Cond.fieldLink RX5 51 "Satellitering" "now" "I", Cond.methodLink RX5 110 yX2_inContact, Cond.instanceMethod yX2_inContact, Cond.selects RX2 yX2_inContact yX2_inContact, Cond.code yX2_inContact cX2_inContact 4 (some .boolean), Cond.methodLink RX2 56 yX2_seenFrom, Cond.instanceMethod yX2_seenFrom, Cond.selects RX2 yX2_seenFrom yX2_seenFrom, Cond.code yX2_seenFrom cX2_seenFrom 3 (some .int), Cond.methodLink RX5 116 yX2_contactLength, Cond.instanceMethod yX2_contactLength, Cond.selects RX2 yX2_contactLength yX2_contactLength, Cond.code yX2_contactLength cX2_contactLength 5 (some .int), Cond.methodLink RX2 59 yX2_inContact]
def wsX5_addStation : List Cond := .code yX5_addStation cX5_addStation 4 (some .int) :: ((wsX5_addStation_r1 ++ (wsX5_addStation_r2 ++ (wsX5_addStation_r3 ++ wsX5_addStation_r4))) ++ wsX50 ++ wsX30 ++ wsX40 ++ wsX20 ++ (vx_atS RX5 66 "java/lang/IllegalStateException" ["java/lang/RuntimeException", "java/lang/Exception"]).filter goodWord ++ (vx_atS RX5 218 "java/lang/IllegalArgumentException" ["java/lang/RuntimeException", "java/lang/Exception"]).filter goodWord)
def wsX5_addRelay_r1 : List Cond := [Cond.classLink RX5 62 "java/lang/IllegalStateException", Cond.initialized "java/lang/IllegalStateException", Cond.fieldLink RX5 45 "Satellitering" "relayCount" "I", Cond.fieldLink RX5 12 "Satellitering" "sky" "LSatellitering$Sky;", Cond.fieldLink RX5 31 "Satellitering" "capacities" "[I", Cond.methodLink RX5 54 yX5_inRange, Cond.static yX5_inRange, Cond.initialized RX5, Cond.code yX5_inRange cX5_inRange 3 (some .boolean), Cond.methodLink RX5 58 yX5_requireArgument, Cond.static yX5_requireArgument, Cond.code yX5_requireArgument cX5_requireArgument 1 none, Cond.classLink RX5 214 "java/lang/IllegalArgumentException", Cond.initialized "java/lang/IllegalArgumentException", Cond.methodLink RX5 69 yX2_addNode, Cond.instanceMethod yX2_addNode, Cond.selects RX2 yX2_addNode yX2_addNode, Cond.initialized RX2, Cond.code yX2_addNode cX2_addNode 6 (some .int), Cond.fieldLink RX2 26 "Satellitering$Sky" "count" "I", Cond.fieldLink RX2 9 "Satellitering$Sky" "places" "[I", Cond.fieldLink RX2 15 "Satellitering$Sky" "speeds" "[I", Cond.fieldLink RX2 18 "Satellitering$Sky" "reaches" "[I", Cond.methodLink RX2 30 yX2_markContacts]
def wsX5_addRelay_r2 : List Cond := [Cond.instanceMethod yX2_markContacts, Cond.selects RX2 yX2_markContacts yX2_markContacts, Cond.code yX2_markContacts cX2_markContacts 5 none, Cond.fieldLink RX2 23 "Satellitering$Sky" "seen" "[[I", Cond.methodLink RX2 34 yX2_commonReach, Cond.instanceMethod yX2_commonReach, Cond.selects RX2 yX2_commonReach yX2_commonReach, Cond.code yX2_commonReach cX2_commonReach 3 (some .int), Cond.methodLink RX2 44 Lib.Math.min.name, Cond.static Lib.Math.min.name, Cond.initialized "java/lang/Math", Cond.code Lib.Math.min.name Lib.Math.min.code 2 (some .int), Cond.methodLink RX2 38 yX2_placeOf, Cond.instanceMethod yX2_placeOf, Cond.selects RX2 yX2_placeOf yX2_placeOf, Cond.code yX2_placeOf cX2_placeOf 3 (some .int), Cond.methodLink RX2 53 yJ9_floorMod_7cf53, Cond.static yJ9_floorMod_7cf53, Cond.initialized RJ9, Cond.code yJ9_floorMod_7cf53 cJ9_floorMod_7cf53 3 (some .int), Cond.methodLink RX2 41 yX2_distance, Cond.static yX2_distance, Cond.code yX2_distance cX2_distance 3 (some .int), Cond.methodLink RX2 49 Lib.Math.abs.name]
def wsX5_addRelay_r3 : List Cond := [Cond.static Lib.Math.abs.name, Cond.code Lib.Math.abs.name Lib.Math.abs.code 1 (some .int)]
def wsX5_addRelay : List Cond := .code yX5_addRelay cX5_addRelay 6 (some .int) :: ((wsX5_addRelay_r1 ++ (wsX5_addRelay_r2 ++ wsX5_addRelay_r3)) ++ wsX50 ++ wsX20 ++ (vx_atS RX5 66 "java/lang/IllegalStateException" ["java/lang/RuntimeException", "java/lang/Exception"]).filter goodWord ++ (vx_atS RX5 218 "java/lang/IllegalArgumentException" ["java/lang/RuntimeException", "java/lang/Exception"]).filter goodWord)
def wsX5_requireNode : List Cond := .code yX5_requireNode cX5_requireNode 2 none :: ([.classLink RX5 91 "java/lang/IndexOutOfBoundsException", .initialized "java/lang/IndexOutOfBoundsException", .fieldLink RX5 12 "Satellitering" "sky" "LSatellitering$Sky;", .methodLink RX5 54 yX5_inRange, .static yX5_inRange, .initialized RX5, .code yX5_inRange cX5_inRange 3 (some .boolean)] ++ wsX50 ++ wsX20 ++ (vx_atS RX5 95 "java/lang/IndexOutOfBoundsException" ["java/lang/RuntimeException", "java/lang/Exception"]).filter goodWord)
def wsX5_setCapacity : List Cond := .code yX5_setCapacity cX5_setCapacity 4 (some .int) :: ([.classLink RX5 91 "java/lang/IndexOutOfBoundsException", .initialized "java/lang/IndexOutOfBoundsException", .fieldLink RX5 27 "Satellitering" "stations" "[LSatellitering$Station;", .fieldLink RX5 31 "Satellitering" "capacities" "[I", .methodLink RX5 87 yX5_requireNode, .instanceMethod yX5_requireNode, .selects RX5 yX5_requireNode yX5_requireNode, .initialized RX5, .code yX5_requireNode cX5_requireNode 2 none, .fieldLink RX5 12 "Satellitering" "sky" "LSatellitering$Sky;", .methodLink RX5 54 yX5_inRange, .static yX5_inRange, .code yX5_inRange cX5_inRange 3 (some .boolean), .methodLink RX5 58 yX5_requireArgument, .static yX5_requireArgument, .code yX5_requireArgument cX5_requireArgument 1 none, .classLink RX5 214 "java/lang/IllegalArgumentException", .initialized "java/lang/IllegalArgumentException"] ++ wsX50 ++ wsX20 ++ (vx_atS RX5 95 "java/lang/IndexOutOfBoundsException" ["java/lang/RuntimeException", "java/lang/Exception"]).filter goodWord ++ (vx_atS RX5 218 "java/lang/IllegalArgumentException" ["java/lang/RuntimeException", "java/lang/Exception"]).filter goodWord)
def wsX5_nodes : List Cond := .code yX5_nodes cX5_nodes 1 (some .int) :: ([.fieldLink RX5 12 "Satellitering" "sky" "LSatellitering$Sky;"] ++ wsX50 ++ wsX20)
def wsX5_requireMinute : List Cond := .code yX5_requireMinute cX5_requireMinute 1 none :: ([.constant RX5 147 (1000000), .methodLink RX5 54 yX5_inRange, .static yX5_inRange, .initialized RX5, .code yX5_inRange cX5_inRange 3 (some .boolean), .methodLink RX5 58 yX5_requireArgument, .static yX5_requireArgument, .code yX5_requireArgument cX5_requireArgument 1 none, .classLink RX5 214 "java/lang/IllegalArgumentException", .initialized "java/lang/IllegalArgumentException"] ++ (vx_atS RX5 218 "java/lang/IllegalArgumentException" ["java/lang/RuntimeException", "java/lang/Exception"]).filter goodWord)
def wsX5_placeAt_r1 : List Cond := [Cond.fieldLink RX5 12 "Satellitering" "sky" "LSatellitering$Sky;", Cond.methodLink RX5 87 yX5_requireNode, Cond.instanceMethod yX5_requireNode, Cond.selects RX5 yX5_requireNode yX5_requireNode, Cond.initialized RX5, Cond.code yX5_requireNode cX5_requireNode 2 none, Cond.classLink RX5 91 "java/lang/IndexOutOfBoundsException", Cond.initialized "java/lang/IndexOutOfBoundsException", Cond.methodLink RX5 54 yX5_inRange, Cond.static yX5_inRange, Cond.code yX5_inRange cX5_inRange 3 (some .boolean), Cond.methodLink RX5 99 yX5_requireMinute, Cond.static yX5_requireMinute, Cond.code yX5_requireMinute cX5_requireMinute 1 none, Cond.constant RX5 147 (1000000), Cond.methodLink RX5 58 yX5_requireArgument, Cond.static yX5_requireArgument, Cond.code yX5_requireArgument cX5_requireArgument 1 none, Cond.classLink RX5 214 "java/lang/IllegalArgumentException", Cond.initialized "java/lang/IllegalArgumentException", Cond.methodLink RX5 102 yX2_placeOf, Cond.instanceMethod yX2_placeOf, Cond.selects RX2 yX2_placeOf yX2_placeOf, Cond.initialized RX2]
def wsX5_placeAt_r2 : List Cond := [Cond.code yX2_placeOf cX2_placeOf 3 (some .int), Cond.fieldLink RX2 9 "Satellitering$Sky" "places" "[I", Cond.fieldLink RX2 15 "Satellitering$Sky" "speeds" "[I", Cond.methodLink RX2 53 yJ9_floorMod_7cf53, Cond.static yJ9_floorMod_7cf53, Cond.initialized RJ9, Cond.code yJ9_floorMod_7cf53 cJ9_floorMod_7cf53 3 (some .int)]
def wsX5_placeAt : List Cond := .code yX5_placeAt cX5_placeAt 3 (some .int) :: ((wsX5_placeAt_r1 ++ wsX5_placeAt_r2) ++ wsX50 ++ wsX20 ++ (vx_atS RX5 95 "java/lang/IndexOutOfBoundsException" ["java/lang/RuntimeException", "java/lang/Exception"]).filter goodWord ++ (vx_atS RX5 218 "java/lang/IllegalArgumentException" ["java/lang/RuntimeException", "java/lang/Exception"]).filter goodWord)
def wsX5_requireTwoNodesAndMinute : List Cond := .code yX5_requireTwoNodesAndMinute cX5_requireTwoNodesAndMinute 4 none :: ([.methodLink RX5 87 yX5_requireNode, .instanceMethod yX5_requireNode, .selects RX5 yX5_requireNode yX5_requireNode, .initialized RX5, .code yX5_requireNode cX5_requireNode 2 none, .classLink RX5 91 "java/lang/IndexOutOfBoundsException", .initialized "java/lang/IndexOutOfBoundsException", .fieldLink RX5 12 "Satellitering" "sky" "LSatellitering$Sky;", .methodLink RX5 54 yX5_inRange, .static yX5_inRange, .code yX5_inRange cX5_inRange 3 (some .boolean), .methodLink RX5 99 yX5_requireMinute, .static yX5_requireMinute, .code yX5_requireMinute cX5_requireMinute 1 none, .constant RX5 147 (1000000), .methodLink RX5 58 yX5_requireArgument, .static yX5_requireArgument, .code yX5_requireArgument cX5_requireArgument 1 none, .classLink RX5 214 "java/lang/IllegalArgumentException", .initialized "java/lang/IllegalArgumentException"] ++ wsX50 ++ wsX20 ++ (vx_atS RX5 95 "java/lang/IndexOutOfBoundsException" ["java/lang/RuntimeException", "java/lang/Exception"]).filter goodWord ++ (vx_atS RX5 218 "java/lang/IllegalArgumentException" ["java/lang/RuntimeException", "java/lang/Exception"]).filter goodWord)
def wsX5_see_r1 : List Cond := [Cond.fieldLink RX5 12 "Satellitering" "sky" "LSatellitering$Sky;", Cond.methodLink RX5 106 yX5_requireTwoNodesAndMinute, Cond.instanceMethod yX5_requireTwoNodesAndMinute, Cond.selects RX5 yX5_requireTwoNodesAndMinute yX5_requireTwoNodesAndMinute, Cond.initialized RX5, Cond.code yX5_requireTwoNodesAndMinute cX5_requireTwoNodesAndMinute 4 none, Cond.methodLink RX5 87 yX5_requireNode, Cond.instanceMethod yX5_requireNode, Cond.selects RX5 yX5_requireNode yX5_requireNode, Cond.code yX5_requireNode cX5_requireNode 2 none, Cond.classLink RX5 91 "java/lang/IndexOutOfBoundsException", Cond.initialized "java/lang/IndexOutOfBoundsException", Cond.methodLink RX5 54 yX5_inRange, Cond.static yX5_inRange, Cond.code yX5_inRange cX5_inRange 3 (some .boolean), Cond.methodLink RX5 99 yX5_requireMinute, Cond.static yX5_requireMinute, Cond.code yX5_requireMinute cX5_requireMinute 1 none, Cond.constant RX5 147 (1000000), Cond.methodLink RX5 58 yX5_requireArgument, Cond.static yX5_requireArgument, Cond.code yX5_requireArgument cX5_requireArgument 1 none, Cond.classLink RX5 214 "java/lang/IllegalArgumentException", Cond.initialized "java/lang/IllegalArgumentException"]
def wsX5_see_r2 : List Cond := [Cond.methodLink RX5 110 yX2_inContact, Cond.instanceMethod yX2_inContact, Cond.selects RX2 yX2_inContact yX2_inContact, Cond.initialized RX2, Cond.code yX2_inContact cX2_inContact 4 (some .boolean), Cond.methodLink RX2 56 yX2_seenFrom, Cond.instanceMethod yX2_seenFrom, Cond.selects RX2 yX2_seenFrom yX2_seenFrom, Cond.code yX2_seenFrom cX2_seenFrom 3 (some .int), Cond.fieldLink RX2 23 "Satellitering$Sky" "seen" "[[I"]
def wsX5_see : List Cond := .code yX5_see cX5_see 4 (some .boolean) :: ((wsX5_see_r1 ++ wsX5_see_r2) ++ wsX50 ++ wsX20 ++ (vx_atS RX5 95 "java/lang/IndexOutOfBoundsException" ["java/lang/RuntimeException", "java/lang/Exception"]).filter goodWord ++ (vx_atS RX5 218 "java/lang/IllegalArgumentException" ["java/lang/RuntimeException", "java/lang/Exception"]).filter goodWord)
def wsX5_nextContact_r1 : List Cond := [Cond.fieldLink RX5 12 "Satellitering" "sky" "LSatellitering$Sky;", Cond.methodLink RX5 106 yX5_requireTwoNodesAndMinute, Cond.instanceMethod yX5_requireTwoNodesAndMinute, Cond.selects RX5 yX5_requireTwoNodesAndMinute yX5_requireTwoNodesAndMinute, Cond.initialized RX5, Cond.code yX5_requireTwoNodesAndMinute cX5_requireTwoNodesAndMinute 4 none, Cond.methodLink RX5 87 yX5_requireNode, Cond.instanceMethod yX5_requireNode, Cond.selects RX5 yX5_requireNode yX5_requireNode, Cond.code yX5_requireNode cX5_requireNode 2 none, Cond.classLink RX5 91 "java/lang/IndexOutOfBoundsException", Cond.initialized "java/lang/IndexOutOfBoundsException", Cond.methodLink RX5 54 yX5_inRange, Cond.static yX5_inRange, Cond.code yX5_inRange cX5_inRange 3 (some .boolean), Cond.methodLink RX5 99 yX5_requireMinute, Cond.static yX5_requireMinute, Cond.code yX5_requireMinute cX5_requireMinute 1 none, Cond.constant RX5 147 (1000000), Cond.methodLink RX5 58 yX5_requireArgument, Cond.static yX5_requireArgument, Cond.code yX5_requireArgument cX5_requireArgument 1 none, Cond.classLink RX5 214 "java/lang/IllegalArgumentException", Cond.initialized "java/lang/IllegalArgumentException"]
def wsX5_nextContact_r2 : List Cond := [Cond.methodLink RX5 113 yX2_firstContact, Cond.instanceMethod yX2_firstContact, Cond.selects RX2 yX2_firstContact yX2_firstContact, Cond.initialized RX2, Cond.code yX2_firstContact cX2_firstContact 5 (some .int), Cond.methodLink RX2 59 yX2_inContact, Cond.instanceMethod yX2_inContact, Cond.selects RX2 yX2_inContact yX2_inContact, Cond.code yX2_inContact cX2_inContact 4 (some .boolean), Cond.methodLink RX2 56 yX2_seenFrom, Cond.instanceMethod yX2_seenFrom, Cond.selects RX2 yX2_seenFrom yX2_seenFrom, Cond.code yX2_seenFrom cX2_seenFrom 3 (some .int), Cond.fieldLink RX2 23 "Satellitering$Sky" "seen" "[[I"]
def wsX5_nextContact : List Cond := .code yX5_nextContact cX5_nextContact 4 (some .int) :: ((wsX5_nextContact_r1 ++ wsX5_nextContact_r2) ++ wsX50 ++ wsX20 ++ (vx_atS RX5 95 "java/lang/IndexOutOfBoundsException" ["java/lang/RuntimeException", "java/lang/Exception"]).filter goodWord ++ (vx_atS RX5 218 "java/lang/IllegalArgumentException" ["java/lang/RuntimeException", "java/lang/Exception"]).filter goodWord)
def wsX5_view_r1 : List Cond := [Cond.fieldLink RX5 12 "Satellitering" "sky" "LSatellitering$Sky;", Cond.methodLink RX5 106 yX5_requireTwoNodesAndMinute, Cond.instanceMethod yX5_requireTwoNodesAndMinute, Cond.selects RX5 yX5_requireTwoNodesAndMinute yX5_requireTwoNodesAndMinute, Cond.initialized RX5, Cond.code yX5_requireTwoNodesAndMinute cX5_requireTwoNodesAndMinute 4 none, Cond.methodLink RX5 87 yX5_requireNode, Cond.instanceMethod yX5_requireNode, Cond.selects RX5 yX5_requireNode yX5_requireNode, Cond.code yX5_requireNode cX5_requireNode 2 none, Cond.classLink RX5 91 "java/lang/IndexOutOfBoundsException", Cond.initialized "java/lang/IndexOutOfBoundsException", Cond.methodLink RX5 54 yX5_inRange, Cond.static yX5_inRange, Cond.code yX5_inRange cX5_inRange 3 (some .boolean), Cond.methodLink RX5 99 yX5_requireMinute, Cond.static yX5_requireMinute, Cond.code yX5_requireMinute cX5_requireMinute 1 none, Cond.constant RX5 147 (1000000), Cond.methodLink RX5 58 yX5_requireArgument, Cond.static yX5_requireArgument, Cond.code yX5_requireArgument cX5_requireArgument 1 none, Cond.classLink RX5 214 "java/lang/IllegalArgumentException", Cond.initialized "java/lang/IllegalArgumentException"]
def wsX5_view_r2 : List Cond := [Cond.methodLink RX5 116 yX2_contactLength, Cond.instanceMethod yX2_contactLength, Cond.selects RX2 yX2_contactLength yX2_contactLength, Cond.initialized RX2, Cond.code yX2_contactLength cX2_contactLength 5 (some .int), Cond.methodLink RX2 59 yX2_inContact, Cond.instanceMethod yX2_inContact, Cond.selects RX2 yX2_inContact yX2_inContact, Cond.code yX2_inContact cX2_inContact 4 (some .boolean), Cond.methodLink RX2 56 yX2_seenFrom, Cond.instanceMethod yX2_seenFrom, Cond.selects RX2 yX2_seenFrom yX2_seenFrom, Cond.code yX2_seenFrom cX2_seenFrom 3 (some .int), Cond.fieldLink RX2 23 "Satellitering$Sky" "seen" "[[I"]
def wsX5_view : List Cond := .code yX5_view cX5_view 4 (some .int) :: ((wsX5_view_r1 ++ wsX5_view_r2) ++ wsX50 ++ wsX20 ++ (vx_atS RX5 95 "java/lang/IndexOutOfBoundsException" ["java/lang/RuntimeException", "java/lang/Exception"]).filter goodWord ++ (vx_atS RX5 218 "java/lang/IllegalArgumentException" ["java/lang/RuntimeException", "java/lang/Exception"]).filter goodWord)
def wsX5_arrival_r1 : List Cond := [Cond.fieldLink RX5 21 "Satellitering" "search" "LSatellitering$Search;", Cond.methodLink RX5 106 yX5_requireTwoNodesAndMinute, Cond.instanceMethod yX5_requireTwoNodesAndMinute, Cond.selects RX5 yX5_requireTwoNodesAndMinute yX5_requireTwoNodesAndMinute, Cond.initialized RX5, Cond.code yX5_requireTwoNodesAndMinute cX5_requireTwoNodesAndMinute 4 none, Cond.methodLink RX5 87 yX5_requireNode, Cond.instanceMethod yX5_requireNode, Cond.selects RX5 yX5_requireNode yX5_requireNode, Cond.code yX5_requireNode cX5_requireNode 2 none, Cond.classLink RX5 91 "java/lang/IndexOutOfBoundsException", Cond.initialized "java/lang/IndexOutOfBoundsException", Cond.fieldLink RX5 12 "Satellitering" "sky" "LSatellitering$Sky;", Cond.methodLink RX5 54 yX5_inRange, Cond.static yX5_inRange, Cond.code yX5_inRange cX5_inRange 3 (some .boolean), Cond.methodLink RX5 99 yX5_requireMinute, Cond.static yX5_requireMinute, Cond.code yX5_requireMinute cX5_requireMinute 1 none, Cond.constant RX5 147 (1000000), Cond.methodLink RX5 58 yX5_requireArgument, Cond.static yX5_requireArgument, Cond.code yX5_requireArgument cX5_requireArgument 1 none, Cond.classLink RX5 214 "java/lang/IllegalArgumentException"]
def wsX5_arrival_r2 : List Cond := [Cond.initialized "java/lang/IllegalArgumentException", Cond.methodLink RX5 119 yX1_byContacts, Cond.instanceMethod yX1_byContacts, Cond.selects RX1 yX1_byContacts yX1_byContacts, Cond.initialized RX1, Cond.code yX1_byContacts cX1_byContacts 8 (some .int), Cond.fieldLink RX1 9 "Satellitering$Search" "reached" "[I", Cond.fieldLink RX1 15 "Satellitering$Search" "sky" "LSatellitering$Sky;", Cond.methodLink RX1 19 yJ7_fill_53178, Cond.static yJ7_fill_53178, Cond.initialized RJ7, Cond.code yJ7_fill_53178 cJ7_fill_53178 4 none, Cond.methodLink RX1 31 yX1_earliestReached, Cond.instanceMethod yX1_earliestReached, Cond.selects RX1 yX1_earliestReached yX1_earliestReached, Cond.code yX1_earliestReached cX1_earliestReached 6 (some .int), Cond.methodLink RX1 35 yX1_goOnFrom, Cond.instanceMethod yX1_goOnFrom, Cond.selects RX1 yX1_goOnFrom yX1_goOnFrom, Cond.code yX1_goOnFrom cX1_goOnFrom 5 none, Cond.methodLink RX1 39 yX2_firstContact, Cond.instanceMethod yX2_firstContact, Cond.selects RX2 yX2_firstContact yX2_firstContact, Cond.initialized RX2]
def wsX5_arrival_r3 : List Cond := [Cond.code yX2_firstContact cX2_firstContact 5 (some .int), Cond.methodLink RX2 59 yX2_inContact, Cond.instanceMethod yX2_inContact, Cond.selects RX2 yX2_inContact yX2_inContact, Cond.code yX2_inContact cX2_inContact 4 (some .boolean), Cond.methodLink RX2 56 yX2_seenFrom, Cond.instanceMethod yX2_seenFrom, Cond.selects RX2 yX2_seenFrom yX2_seenFrom, Cond.code yX2_seenFrom cX2_seenFrom 3 (some .int), Cond.fieldLink RX2 23 "Satellitering$Sky" "seen" "[[I"]
def wsX5_arrival : List Cond := .code yX5_arrival cX5_arrival 4 (some .int) :: ((wsX5_arrival_r1 ++ (wsX5_arrival_r2 ++ wsX5_arrival_r3)) ++ wsX50 ++ wsX20 ++ wsX10 ++ (vx_atS RX5 95 "java/lang/IndexOutOfBoundsException" ["java/lang/RuntimeException", "java/lang/Exception"]).filter goodWord ++ (vx_atS RX5 218 "java/lang/IllegalArgumentException" ["java/lang/RuntimeException", "java/lang/Exception"]).filter goodWord)
def wsX5_arrivalByFlooding_r1 : List Cond := [Cond.fieldLink RX5 21 "Satellitering" "search" "LSatellitering$Search;", Cond.methodLink RX5 106 yX5_requireTwoNodesAndMinute, Cond.instanceMethod yX5_requireTwoNodesAndMinute, Cond.selects RX5 yX5_requireTwoNodesAndMinute yX5_requireTwoNodesAndMinute, Cond.initialized RX5, Cond.code yX5_requireTwoNodesAndMinute cX5_requireTwoNodesAndMinute 4 none, Cond.methodLink RX5 87 yX5_requireNode, Cond.instanceMethod yX5_requireNode, Cond.selects RX5 yX5_requireNode yX5_requireNode, Cond.code yX5_requireNode cX5_requireNode 2 none, Cond.classLink RX5 91 "java/lang/IndexOutOfBoundsException", Cond.initialized "java/lang/IndexOutOfBoundsException", Cond.fieldLink RX5 12 "Satellitering" "sky" "LSatellitering$Sky;", Cond.methodLink RX5 54 yX5_inRange, Cond.static yX5_inRange, Cond.code yX5_inRange cX5_inRange 3 (some .boolean), Cond.methodLink RX5 99 yX5_requireMinute, Cond.static yX5_requireMinute, Cond.code yX5_requireMinute cX5_requireMinute 1 none, Cond.constant RX5 147 (1000000), Cond.methodLink RX5 58 yX5_requireArgument, Cond.static yX5_requireArgument, Cond.code yX5_requireArgument cX5_requireArgument 1 none, Cond.classLink RX5 214 "java/lang/IllegalArgumentException"]
def wsX5_arrivalByFlooding_r2 : List Cond := [Cond.initialized "java/lang/IllegalArgumentException", Cond.methodLink RX5 122 yX1_byFlooding, Cond.instanceMethod yX1_byFlooding, Cond.selects RX1 yX1_byFlooding yX1_byFlooding, Cond.initialized RX1, Cond.code yX1_byFlooding cX1_byFlooding 6 (some .int), Cond.methodLink RX1 43 yX1_floodedNext, Cond.instanceMethod yX1_floodedNext, Cond.selects RX1 yX1_floodedNext yX1_floodedNext, Cond.code yX1_floodedNext cX1_floodedNext 5 (some .int), Cond.fieldLink RX1 15 "Satellitering$Search" "sky" "LSatellitering$Sky;", Cond.methodLink RX1 46 yX2_seenFrom, Cond.instanceMethod yX2_seenFrom, Cond.selects RX2 yX2_seenFrom yX2_seenFrom, Cond.initialized RX2, Cond.code yX2_seenFrom cX2_seenFrom 3 (some .int), Cond.fieldLink RX2 23 "Satellitering$Sky" "seen" "[[I"]
def wsX5_arrivalByFlooding : List Cond := .code yX5_arrivalByFlooding cX5_arrivalByFlooding 4 (some .int) :: ((wsX5_arrivalByFlooding_r1 ++ wsX5_arrivalByFlooding_r2) ++ wsX50 ++ wsX20 ++ wsX10 ++ (vx_atS RX5 95 "java/lang/IndexOutOfBoundsException" ["java/lang/RuntimeException", "java/lang/Exception"]).filter goodWord ++ (vx_atS RX5 218 "java/lang/IllegalArgumentException" ["java/lang/RuntimeException", "java/lang/Exception"]).filter goodWord)
def wsJ6_bitCount_0f7a4 : List Cond := .code yJ6_bitCount_0f7a4 cJ6_bitCount_0f7a4 1 (some .int) :: ([.constant RJ6 265 (1431655765), .constant RJ6 266 (858993459), .constant RJ6 267 (252645135)])
def wsX5_spread_r1 : List Cond := [Cond.fieldLink RX5 21 "Satellitering" "search" "LSatellitering$Search;", Cond.methodLink RX5 87 yX5_requireNode, Cond.instanceMethod yX5_requireNode, Cond.selects RX5 yX5_requireNode yX5_requireNode, Cond.initialized RX5, Cond.code yX5_requireNode cX5_requireNode 2 none, Cond.classLink RX5 91 "java/lang/IndexOutOfBoundsException", Cond.initialized "java/lang/IndexOutOfBoundsException", Cond.fieldLink RX5 12 "Satellitering" "sky" "LSatellitering$Sky;", Cond.methodLink RX5 54 yX5_inRange, Cond.static yX5_inRange, Cond.code yX5_inRange cX5_inRange 3 (some .boolean), Cond.methodLink RX5 99 yX5_requireMinute, Cond.static yX5_requireMinute, Cond.code yX5_requireMinute cX5_requireMinute 1 none, Cond.constant RX5 147 (1000000), Cond.methodLink RX5 58 yX5_requireArgument, Cond.static yX5_requireArgument, Cond.code yX5_requireArgument cX5_requireArgument 1 none, Cond.classLink RX5 214 "java/lang/IllegalArgumentException", Cond.initialized "java/lang/IllegalArgumentException", Cond.methodLink RX5 125 yX1_flooded, Cond.instanceMethod yX1_flooded, Cond.selects RX1 yX1_flooded yX1_flooded]
def wsX5_spread_r2 : List Cond := [Cond.initialized RX1, Cond.code yX1_flooded cX1_flooded 6 (some .int), Cond.methodLink RX1 43 yX1_floodedNext, Cond.instanceMethod yX1_floodedNext, Cond.selects RX1 yX1_floodedNext yX1_floodedNext, Cond.code yX1_floodedNext cX1_floodedNext 5 (some .int), Cond.fieldLink RX1 15 "Satellitering$Search" "sky" "LSatellitering$Sky;", Cond.methodLink RX1 46 yX2_seenFrom, Cond.instanceMethod yX2_seenFrom, Cond.selects RX2 yX2_seenFrom yX2_seenFrom, Cond.initialized RX2, Cond.code yX2_seenFrom cX2_seenFrom 3 (some .int), Cond.fieldLink RX2 23 "Satellitering$Sky" "seen" "[[I", Cond.methodLink RX5 128 yJ6_bitCount_0f7a4, Cond.static yJ6_bitCount_0f7a4, Cond.initialized RJ6, Cond.code yJ6_bitCount_0f7a4 cJ6_bitCount_0f7a4 1 (some .int), Cond.constant RJ6 265 (1431655765), Cond.constant RJ6 266 (858993459), Cond.constant RJ6 267 (252645135)]
def wsX5_spread : List Cond := .code yX5_spread cX5_spread 4 (some .int) :: ((wsX5_spread_r1 ++ wsX5_spread_r2) ++ wsX50 ++ wsX20 ++ wsX10 ++ (vx_atS RX5 95 "java/lang/IndexOutOfBoundsException" ["java/lang/RuntimeException", "java/lang/Exception"]).filter goodWord ++ (vx_atS RX5 218 "java/lang/IllegalArgumentException" ["java/lang/RuntimeException", "java/lang/Exception"]).filter goodWord)
def wsX5_requireStation : List Cond := .code yX5_requireStation cX5_requireStation 3 (some (.object "Satellitering$Station")) :: ([.classLink RX5 91 "java/lang/IndexOutOfBoundsException", .initialized "java/lang/IndexOutOfBoundsException", .fieldLink RX5 27 "Satellitering" "stations" "[LSatellitering$Station;", .methodLink RX5 87 yX5_requireNode, .instanceMethod yX5_requireNode, .selects RX5 yX5_requireNode yX5_requireNode, .initialized RX5, .code yX5_requireNode cX5_requireNode 2 none, .fieldLink RX5 12 "Satellitering" "sky" "LSatellitering$Sky;", .methodLink RX5 54 yX5_inRange, .static yX5_inRange, .code yX5_inRange cX5_inRange 3 (some .boolean)] ++ wsX50 ++ wsX20 ++ (vx_atS RX5 95 "java/lang/IndexOutOfBoundsException" ["java/lang/RuntimeException", "java/lang/Exception"]).filter goodWord)
def wsX5_send_r1 : List Cond := [Cond.classLink RX5 62 "java/lang/IllegalStateException", Cond.initialized "java/lang/IllegalStateException", Cond.fieldLink RX5 48 "Satellitering" "sentCount" "I", Cond.fieldLink RX5 37 "Satellitering" "sent" "[LSatellitering$Message;", Cond.classLink RX5 35 RX0, Cond.instantiable RX0 8, Cond.initialized RX0, Cond.methodLink RX5 134 yX5_requireStation, Cond.instanceMethod yX5_requireStation, Cond.selects RX5 yX5_requireStation yX5_requireStation, Cond.initialized RX5, Cond.code yX5_requireStation cX5_requireStation 3 (some (.object "Satellitering$Station")), Cond.classLink RX5 91 "java/lang/IndexOutOfBoundsException", Cond.initialized "java/lang/IndexOutOfBoundsException", Cond.fieldLink RX5 27 "Satellitering" "stations" "[LSatellitering$Station;", Cond.methodLink RX5 87 yX5_requireNode, Cond.instanceMethod yX5_requireNode, Cond.selects RX5 yX5_requireNode yX5_requireNode, Cond.code yX5_requireNode cX5_requireNode 2 none, Cond.fieldLink RX5 12 "Satellitering" "sky" "LSatellitering$Sky;", Cond.methodLink RX5 54 yX5_inRange, Cond.static yX5_inRange, Cond.code yX5_inRange cX5_inRange 3 (some .boolean), Cond.methodLink RX5 58 yX5_requireArgument]
def wsX5_send_r2 : List Cond := [Cond.static yX5_requireArgument, Cond.code yX5_requireArgument cX5_requireArgument 1 none, Cond.classLink RX5 214 "java/lang/IllegalArgumentException", Cond.initialized "java/lang/IllegalArgumentException", Cond.methodLink RX5 144 yX0_init, Cond.instanceMethod yX0_init, Cond.code yX0_init cX0_init 4 none, Cond.methodLink RX0 1 objectInit, Cond.instanceMethod objectInit, Cond.code objectInit ⟨#[0xb1]⟩ 1 none, Cond.fieldLink RX0 7 "Satellitering$Message" "since" "I", Cond.fieldLink RX0 13 "Satellitering$Message" "blocks" "I", Cond.fieldLink RX0 16 "Satellitering$Message" "hopCount" "I", Cond.arrayClass .int, Cond.fieldLink RX0 19 "Satellitering$Message" "hopNodes" "[I", Cond.fieldLink RX0 23 "Satellitering$Message" "hopMinutes" "[I", Cond.fieldLink RX0 26 "Satellitering$Message" "node" "I", Cond.fieldLink RX0 29 "Satellitering$Message" "goal" "I", Cond.fieldLink RX0 32 "Satellitering$Message" "timetable" "LSatellitering$Timetable;"]
def wsX5_send : List Cond := .code yX5_send cX5_send 5 (some .int) :: ((wsX5_send_r1 ++ wsX5_send_r2) ++ wsX50 ++ wsX00 ++ wsX30 ++ wsX20 ++ (vx_atS RX5 66 "java/lang/IllegalStateException" ["java/lang/RuntimeException", "java/lang/Exception"]).filter goodWord ++ (vx_atS RX5 95 "java/lang/IndexOutOfBoundsException" ["java/lang/RuntimeException", "java/lang/Exception"]).filter goodWord ++ (vx_atS RX5 218 "java/lang/IllegalArgumentException" ["java/lang/RuntimeException", "java/lang/Exception"]).filter goodWord)
def wsX5_messagesAt : List Cond := .code yX5_messagesAt cX5_messagesAt 4 (some .int) :: ([.fieldLink RX5 48 "Satellitering" "sentCount" "I", .fieldLink RX5 37 "Satellitering" "sent" "[LSatellitering$Message;"] ++ wsX50 ++ wsX00)
def wsX5_isFull : List Cond := .code yX5_isFull cX5_isFull 2 (some .boolean) :: ([.fieldLink RX5 27 "Satellitering" "stations" "[LSatellitering$Station;", .fieldLink RX5 31 "Satellitering" "capacities" "[I", .methodLink RX5 189 yX5_messagesAt, .instanceMethod yX5_messagesAt, .selects RX5 yX5_messagesAt yX5_messagesAt, .initialized RX5, .code yX5_messagesAt cX5_messagesAt 4 (some .int), .fieldLink RX5 48 "Satellitering" "sentCount" "I", .fieldLink RX5 37 "Satellitering" "sent" "[LSatellitering$Message;"] ++ wsX50 ++ wsX00)
def wsX5_moveOn_r1 : List Cond := [Cond.fieldLink RX5 51 "Satellitering" "now" "I", Cond.methodLink RX5 203 yX4_nextNode, Cond.instanceMethod yX4_nextNode, Cond.selects RX4 yX4_nextNode yX4_nextNode, Cond.initialized RX4, Cond.code yX4_nextNode cX4_nextNode 6 (some .int), Cond.fieldLink RX4 23 "Satellitering$Timetable" "nodesKnown" "I", Cond.fieldLink RX4 27 "Satellitering$Timetable" "sky" "LSatellitering$Sky;", Cond.fieldLink RX4 11 "Satellitering$Timetable" "left" "[[I", Cond.methodLink RX4 39 yX4_reckon, Cond.instanceMethod yX4_reckon, Cond.selects RX4 yX4_reckon yX4_reckon, Cond.code yX4_reckon cX4_reckon 3 none, Cond.fieldLink RX4 16 "Satellitering$Timetable" "soonest" "[I", Cond.methodLink RX4 46 yJ7_fill_53178, Cond.static yJ7_fill_53178, Cond.initialized RJ7, Cond.code yJ7_fill_53178 cJ7_fill_53178 4 none, Cond.methodLink RX4 52 yX4_stepBack, Cond.instanceMethod yX4_stepBack, Cond.selects RX4 yX4_stepBack yX4_stepBack, Cond.code yX4_stepBack cX4_stepBack 4 none, Cond.fieldLink RX4 20 "Satellitering$Timetable" "soonestBefore" "[I", Cond.fieldLink RX4 31 "Satellitering$Timetable" "goal" "I"]
def wsX5_moveOn_r2 : List Cond := [Cond.methodLink RX4 59 yX2_seenFrom, Cond.instanceMethod yX2_seenFrom, Cond.selects RX2 yX2_seenFrom yX2_seenFrom, Cond.initialized RX2, Cond.code yX2_seenFrom cX2_seenFrom 3 (some .int), Cond.fieldLink RX2 23 "Satellitering$Sky" "seen" "[[I", Cond.methodLink RX4 63 yX4_soonestThrough, Cond.instanceMethod yX4_soonestThrough, Cond.selects RX4 yX4_soonestThrough yX4_soonestThrough, Cond.code yX4_soonestThrough cX4_soonestThrough 5 (some .int), Cond.methodLink RX4 56 yX4_writeDown, Cond.instanceMethod yX4_writeDown, Cond.selects RX4 yX4_writeDown yX4_writeDown, Cond.code yX4_writeDown cX4_writeDown 4 none, Cond.methodLink RX4 42 yX2_inContact, Cond.instanceMethod yX2_inContact, Cond.selects RX2 yX2_inContact yX2_inContact, Cond.code yX2_inContact cX2_inContact 4 (some .boolean), Cond.methodLink RX2 56 yX2_seenFrom, Cond.methodLink RX5 206 yX5_isFull, Cond.instanceMethod yX5_isFull, Cond.selects RX5 yX5_isFull yX5_isFull, Cond.initialized RX5, Cond.code yX5_isFull cX5_isFull 2 (some .boolean)]
def wsX5_moveOn_r3 : List Cond := [Cond.fieldLink RX5 27 "Satellitering" "stations" "[LSatellitering$Station;", Cond.fieldLink RX5 31 "Satellitering" "capacities" "[I", Cond.methodLink RX5 189 yX5_messagesAt, Cond.instanceMethod yX5_messagesAt, Cond.selects RX5 yX5_messagesAt yX5_messagesAt, Cond.code yX5_messagesAt cX5_messagesAt 4 (some .int), Cond.fieldLink RX5 48 "Satellitering" "sentCount" "I", Cond.fieldLink RX5 37 "Satellitering" "sent" "[LSatellitering$Message;", Cond.methodLink RX5 210 yX0_handTo, Cond.instanceMethod yX0_handTo, Cond.selects RX0 yX0_handTo yX0_handTo, Cond.initialized RX0, Cond.code yX0_handTo cX0_handTo 3 none, Cond.fieldLink RX0 16 "Satellitering$Message" "hopCount" "I", Cond.fieldLink RX0 19 "Satellitering$Message" "hopNodes" "[I", Cond.fieldLink RX0 23 "Satellitering$Message" "hopMinutes" "[I", Cond.fieldLink RX0 26 "Satellitering$Message" "node" "I", Cond.fieldLink RX0 7 "Satellitering$Message" "since" "I", Cond.methodLink RX0 36 yJ7_copyOf_59c91, Cond.static yJ7_copyOf_59c91, Cond.code yJ7_copyOf_59c91 cJ7_copyOf_59c91 3 (some (.array .int)), Cond.methodLink RJ7 316 ⟨"[I", "clone", "()Ljava/lang/Object;"⟩, Cond.sameMethod "[I" "java/lang/Object" "clone" "()Ljava/lang/Object;", Cond.native ⟨"java/lang/Object", "clone", "()Ljava/lang/Object;"⟩]
def wsX5_moveOn_r4 : List Cond := [Cond.instanceMethod ⟨"java/lang/Object", "clone", "()Ljava/lang/Object;"⟩, Cond.selects "[I" ⟨"[I", "clone", "()Ljava/lang/Object;"⟩ ⟨"java/lang/Object", "clone", "()Ljava/lang/Object;"⟩, Cond.classLink RJ7 317 "[I", Cond.arrayClass .int, Cond.methodLink RJ7 304 Lib.Math.min.name, Cond.static Lib.Math.min.name, Cond.initialized "java/lang/Math", Cond.code Lib.Math.min.name Lib.Math.min.code 2 (some .int), Cond.methodLink RJ7 150 arraycopyName, Cond.native arraycopyName, Cond.static arraycopyName, Cond.initialized "java/lang/System"]
def wsX5_moveOn : List Cond := .code yX5_moveOn cX5_moveOn 3 none :: ((wsX5_moveOn_r1 ++ (wsX5_moveOn_r2 ++ (wsX5_moveOn_r3 ++ wsX5_moveOn_r4))) ++ wsX00 ++ wsX50 ++ wsX40 ++ wsX20)
def wsX5_passOneMinute_r1 : List Cond := [Cond.fieldLink RX5 48 "Satellitering" "sentCount" "I", Cond.fieldLink RX5 37 "Satellitering" "sent" "[LSatellitering$Message;", Cond.fieldLink RX5 51 "Satellitering" "now" "I", Cond.fieldLink RX5 12 "Satellitering" "sky" "LSatellitering$Sky;", Cond.fieldLink RX5 27 "Satellitering" "stations" "[LSatellitering$Station;", Cond.methodLink RX5 161 yX0_isAtGoal, Cond.instanceMethod yX0_isAtGoal, Cond.selects RX0 yX0_isAtGoal yX0_isAtGoal, Cond.initialized RX0, Cond.code yX0_isAtGoal cX0_isAtGoal 1 (some .boolean), Cond.fieldLink RX0 26 "Satellitering$Message" "node" "I", Cond.fieldLink RX0 29 "Satellitering$Message" "goal" "I", Cond.methodLink RX5 198 yX5_moveOn, Cond.instanceMethod yX5_moveOn, Cond.selects RX5 yX5_moveOn yX5_moveOn, Cond.initialized RX5, Cond.code yX5_moveOn cX5_moveOn 3 none, Cond.methodLink RX5 203 yX4_nextNode, Cond.instanceMethod yX4_nextNode, Cond.selects RX4 yX4_nextNode yX4_nextNode, Cond.initialized RX4, Cond.code yX4_nextNode cX4_nextNode 6 (some .int), Cond.fieldLink RX4 23 "Satellitering$Timetable" "nodesKnown" "I", Cond.fieldLink RX4 27 "Satellitering$Timetable" "sky" "LSatellitering$Sky;"]
def wsX5_passOneMinute_r2 : List Cond := [Cond.fieldLink RX4 11 "Satellitering$Timetable" "left" "[[I", Cond.methodLink RX4 39 yX4_reckon, Cond.instanceMethod yX4_reckon, Cond.selects RX4 yX4_reckon yX4_reckon, Cond.code yX4_reckon cX4_reckon 3 none, Cond.fieldLink RX4 16 "Satellitering$Timetable" "soonest" "[I", Cond.methodLink RX4 46 yJ7_fill_53178, Cond.static yJ7_fill_53178, Cond.initialized RJ7, Cond.code yJ7_fill_53178 cJ7_fill_53178 4 none, Cond.methodLink RX4 52 yX4_stepBack, Cond.instanceMethod yX4_stepBack, Cond.selects RX4 yX4_stepBack yX4_stepBack, Cond.code yX4_stepBack cX4_stepBack 4 none, Cond.fieldLink RX4 20 "Satellitering$Timetable" "soonestBefore" "[I", Cond.fieldLink RX4 31 "Satellitering$Timetable" "goal" "I", Cond.methodLink RX4 59 yX2_seenFrom, Cond.instanceMethod yX2_seenFrom, Cond.selects RX2 yX2_seenFrom yX2_seenFrom, Cond.initialized RX2, Cond.code yX2_seenFrom cX2_seenFrom 3 (some .int), Cond.fieldLink RX2 23 "Satellitering$Sky" "seen" "[[I", Cond.methodLink RX4 63 yX4_soonestThrough, Cond.instanceMethod yX4_soonestThrough]
def wsX5_passOneMinute_r3 : List Cond := [Cond.selects RX4 yX4_soonestThrough yX4_soonestThrough, Cond.code yX4_soonestThrough cX4_soonestThrough 5 (some .int), Cond.methodLink RX4 56 yX4_writeDown, Cond.instanceMethod yX4_writeDown, Cond.selects RX4 yX4_writeDown yX4_writeDown, Cond.code yX4_writeDown cX4_writeDown 4 none, Cond.methodLink RX4 42 yX2_inContact, Cond.instanceMethod yX2_inContact, Cond.selects RX2 yX2_inContact yX2_inContact, Cond.code yX2_inContact cX2_inContact 4 (some .boolean), Cond.methodLink RX2 56 yX2_seenFrom, Cond.methodLink RX5 206 yX5_isFull, Cond.instanceMethod yX5_isFull, Cond.selects RX5 yX5_isFull yX5_isFull, Cond.code yX5_isFull cX5_isFull 2 (some .boolean), Cond.fieldLink RX5 31 "Satellitering" "capacities" "[I", Cond.methodLink RX5 189 yX5_messagesAt, Cond.instanceMethod yX5_messagesAt, Cond.selects RX5 yX5_messagesAt yX5_messagesAt, Cond.code yX5_messagesAt cX5_messagesAt 4 (some .int), Cond.methodLink RX5 210 yX0_handTo, Cond.instanceMethod yX0_handTo, Cond.selects RX0 yX0_handTo yX0_handTo, Cond.code yX0_handTo cX0_handTo 3 none]
def wsX5_passOneMinute_r4 : List Cond := [Cond.fieldLink RX0 16 "Satellitering$Message" "hopCount" "I", Cond.fieldLink RX0 19 "Satellitering$Message" "hopNodes" "[I", Cond.fieldLink RX0 23 "Satellitering$Message" "hopMinutes" "[I", Cond.fieldLink RX0 7 "Satellitering$Message" "since" "I", Cond.methodLink RX0 36 yJ7_copyOf_59c91, Cond.static yJ7_copyOf_59c91, Cond.code yJ7_copyOf_59c91 cJ7_copyOf_59c91 3 (some (.array .int)), Cond.methodLink RJ7 316 ⟨"[I", "clone", "()Ljava/lang/Object;"⟩, Cond.sameMethod "[I" "java/lang/Object" "clone" "()Ljava/lang/Object;", Cond.native ⟨"java/lang/Object", "clone", "()Ljava/lang/Object;"⟩, Cond.instanceMethod ⟨"java/lang/Object", "clone", "()Ljava/lang/Object;"⟩, Cond.selects "[I" ⟨"[I", "clone", "()Ljava/lang/Object;"⟩ ⟨"java/lang/Object", "clone", "()Ljava/lang/Object;"⟩, Cond.classLink RJ7 317 "[I", Cond.arrayClass .int, Cond.methodLink RJ7 304 Lib.Math.min.name, Cond.static Lib.Math.min.name, Cond.initialized "java/lang/Math", Cond.code Lib.Math.min.name Lib.Math.min.code 2 (some .int), Cond.methodLink RJ7 150 arraycopyName, Cond.native arraycopyName, Cond.static arraycopyName, Cond.initialized "java/lang/System", Cond.methodLink RX5 81 yX5_lookForRelay, Cond.instanceMethod yX5_lookForRelay]
def wsX5_passOneMinute_r5 : List Cond := [Cond.selects RX5 yX5_lookForRelay yX5_lookForRelay, Cond.code yX5_lookForRelay cX5_lookForRelay 7 none, Cond.methodLink RX5 110 yX2_inContact, Cond.methodLink RX5 116 yX2_contactLength, Cond.instanceMethod yX2_contactLength, Cond.selects RX2 yX2_contactLength yX2_contactLength, Cond.code yX2_contactLength cX2_contactLength 5 (some .int), Cond.methodLink RX2 59 yX2_inContact]
def wsX5_passOneMinute : List Cond := .code yX5_passOneMinute cX5_passOneMinute 4 (some .int) :: ((wsX5_passOneMinute_r1 ++ (wsX5_passOneMinute_r2 ++ (wsX5_passOneMinute_r3 ++ (wsX5_passOneMinute_r4 ++ wsX5_passOneMinute_r5)))) ++ wsX50 ++ wsX20 ++ wsX00 ++ wsX40 ++ wsX30)
def wsX5_pass_r1 : List Cond := [Cond.classLink RX5 62 "java/lang/IllegalStateException", Cond.initialized "java/lang/IllegalStateException", Cond.fieldLink RX5 51 "Satellitering" "now" "I", Cond.constant RX5 147 (1000000), Cond.methodLink RX5 54 yX5_inRange, Cond.static yX5_inRange, Cond.initialized RX5, Cond.code yX5_inRange cX5_inRange 3 (some .boolean), Cond.methodLink RX5 58 yX5_requireArgument, Cond.static yX5_requireArgument, Cond.code yX5_requireArgument cX5_requireArgument 1 none, Cond.classLink RX5 214 "java/lang/IllegalArgumentException", Cond.initialized "java/lang/IllegalArgumentException", Cond.methodLink RX5 150 yX5_passOneMinute, Cond.instanceMethod yX5_passOneMinute, Cond.selects RX5 yX5_passOneMinute yX5_passOneMinute, Cond.code yX5_passOneMinute cX5_passOneMinute 4 (some .int), Cond.fieldLink RX5 48 "Satellitering" "sentCount" "I", Cond.fieldLink RX5 37 "Satellitering" "sent" "[LSatellitering$Message;", Cond.fieldLink RX5 12 "Satellitering" "sky" "LSatellitering$Sky;", Cond.fieldLink RX5 27 "Satellitering" "stations" "[LSatellitering$Station;", Cond.methodLink RX5 161 yX0_isAtGoal, Cond.instanceMethod yX0_isAtGoal, Cond.selects RX0 yX0_isAtGoal yX0_isAtGoal]
def wsX5_pass_r2 : List Cond := [Cond.initialized RX0, Cond.code yX0_isAtGoal cX0_isAtGoal 1 (some .boolean), Cond.fieldLink RX0 26 "Satellitering$Message" "node" "I", Cond.fieldLink RX0 29 "Satellitering$Message" "goal" "I", Cond.methodLink RX5 198 yX5_moveOn, Cond.instanceMethod yX5_moveOn, Cond.selects RX5 yX5_moveOn yX5_moveOn, Cond.code yX5_moveOn cX5_moveOn 3 none, Cond.methodLink RX5 203 yX4_nextNode, Cond.instanceMethod yX4_nextNode, Cond.selects RX4 yX4_nextNode yX4_nextNode, Cond.initialized RX4, Cond.code yX4_nextNode cX4_nextNode 6 (some .int), Cond.fieldLink RX4 23 "Satellitering$Timetable" "nodesKnown" "I", Cond.fieldLink RX4 27 "Satellitering$Timetable" "sky" "LSatellitering$Sky;", Cond.fieldLink RX4 11 "Satellitering$Timetable" "left" "[[I", Cond.methodLink RX4 39 yX4_reckon, Cond.instanceMethod yX4_reckon, Cond.selects RX4 yX4_reckon yX4_reckon, Cond.code yX4_reckon cX4_reckon 3 none, Cond.fieldLink RX4 16 "Satellitering$Timetable" "soonest" "[I", Cond.methodLink RX4 46 yJ7_fill_53178, Cond.static yJ7_fill_53178, Cond.initialized RJ7]
def wsX5_pass_r3 : List Cond := [Cond.code yJ7_fill_53178 cJ7_fill_53178 4 none, Cond.methodLink RX4 52 yX4_stepBack, Cond.instanceMethod yX4_stepBack, Cond.selects RX4 yX4_stepBack yX4_stepBack, Cond.code yX4_stepBack cX4_stepBack 4 none, Cond.fieldLink RX4 20 "Satellitering$Timetable" "soonestBefore" "[I", Cond.fieldLink RX4 31 "Satellitering$Timetable" "goal" "I", Cond.methodLink RX4 59 yX2_seenFrom, Cond.instanceMethod yX2_seenFrom, Cond.selects RX2 yX2_seenFrom yX2_seenFrom, Cond.initialized RX2, Cond.code yX2_seenFrom cX2_seenFrom 3 (some .int), Cond.fieldLink RX2 23 "Satellitering$Sky" "seen" "[[I", Cond.methodLink RX4 63 yX4_soonestThrough, Cond.instanceMethod yX4_soonestThrough, Cond.selects RX4 yX4_soonestThrough yX4_soonestThrough, Cond.code yX4_soonestThrough cX4_soonestThrough 5 (some .int), Cond.methodLink RX4 56 yX4_writeDown, Cond.instanceMethod yX4_writeDown, Cond.selects RX4 yX4_writeDown yX4_writeDown, Cond.code yX4_writeDown cX4_writeDown 4 none, Cond.methodLink RX4 42 yX2_inContact, Cond.instanceMethod yX2_inContact, Cond.selects RX2 yX2_inContact yX2_inContact]
def wsX5_pass_r4 : List Cond := [Cond.code yX2_inContact cX2_inContact 4 (some .boolean), Cond.methodLink RX2 56 yX2_seenFrom, Cond.methodLink RX5 206 yX5_isFull, Cond.instanceMethod yX5_isFull, Cond.selects RX5 yX5_isFull yX5_isFull, Cond.code yX5_isFull cX5_isFull 2 (some .boolean), Cond.fieldLink RX5 31 "Satellitering" "capacities" "[I", Cond.methodLink RX5 189 yX5_messagesAt, Cond.instanceMethod yX5_messagesAt, Cond.selects RX5 yX5_messagesAt yX5_messagesAt, Cond.code yX5_messagesAt cX5_messagesAt 4 (some .int), Cond.methodLink RX5 210 yX0_handTo, Cond.instanceMethod yX0_handTo, Cond.selects RX0 yX0_handTo yX0_handTo, Cond.code yX0_handTo cX0_handTo 3 none, Cond.fieldLink RX0 16 "Satellitering$Message" "hopCount" "I", Cond.fieldLink RX0 19 "Satellitering$Message" "hopNodes" "[I", Cond.fieldLink RX0 23 "Satellitering$Message" "hopMinutes" "[I", Cond.fieldLink RX0 7 "Satellitering$Message" "since" "I", Cond.methodLink RX0 36 yJ7_copyOf_59c91, Cond.static yJ7_copyOf_59c91, Cond.code yJ7_copyOf_59c91 cJ7_copyOf_59c91 3 (some (.array .int)), Cond.methodLink RJ7 316 ⟨"[I", "clone", "()Ljava/lang/Object;"⟩, Cond.sameMethod "[I" "java/lang/Object" "clone" "()Ljava/lang/Object;"]
def wsX5_pass_r5 : List Cond := [Cond.native ⟨"java/lang/Object", "clone", "()Ljava/lang/Object;"⟩, Cond.instanceMethod ⟨"java/lang/Object", "clone", "()Ljava/lang/Object;"⟩, Cond.selects "[I" ⟨"[I", "clone", "()Ljava/lang/Object;"⟩ ⟨"java/lang/Object", "clone", "()Ljava/lang/Object;"⟩, Cond.classLink RJ7 317 "[I", Cond.arrayClass .int, Cond.methodLink RJ7 304 Lib.Math.min.name, Cond.static Lib.Math.min.name, Cond.initialized "java/lang/Math", Cond.code Lib.Math.min.name Lib.Math.min.code 2 (some .int), Cond.methodLink RJ7 150 arraycopyName, Cond.native arraycopyName, Cond.static arraycopyName, Cond.initialized "java/lang/System", Cond.methodLink RX5 81 yX5_lookForRelay, Cond.instanceMethod yX5_lookForRelay, Cond.selects RX5 yX5_lookForRelay yX5_lookForRelay, Cond.code yX5_lookForRelay cX5_lookForRelay 7 none, Cond.methodLink RX5 110 yX2_inContact, Cond.methodLink RX5 116 yX2_contactLength, Cond.instanceMethod yX2_contactLength, Cond.selects RX2 yX2_contactLength yX2_contactLength, Cond.code yX2_contactLength cX2_contactLength 5 (some .int), Cond.methodLink RX2 59 yX2_inContact]
def wsX5_pass : List Cond := .code yX5_pass cX5_pass 4 (some .int) :: ((wsX5_pass_r1 ++ (wsX5_pass_r2 ++ (wsX5_pass_r3 ++ (wsX5_pass_r4 ++ wsX5_pass_r5)))) ++ wsX50 ++ wsX20 ++ wsX00 ++ wsX40 ++ wsX30 ++ (vx_atS RX5 66 "java/lang/IllegalStateException" ["java/lang/RuntimeException", "java/lang/Exception"]).filter goodWord ++ (vx_atS RX5 218 "java/lang/IllegalArgumentException" ["java/lang/RuntimeException", "java/lang/Exception"]).filter goodWord)
def wsX5_now : List Cond := .code yX5_now cX5_now 1 (some .int) :: ([.fieldLink RX5 51 "Satellitering" "now" "I"] ++ wsX50)
def wsX5_messages : List Cond := .code yX5_messages cX5_messages 1 (some .int) :: ([.fieldLink RX5 48 "Satellitering" "sentCount" "I"] ++ wsX50)
def wsX5_requireMessage : List Cond := .code yX5_requireMessage cX5_requireMessage 2 (some (.object "Satellitering$Message")) :: ([.classLink RX5 91 "java/lang/IndexOutOfBoundsException", .initialized "java/lang/IndexOutOfBoundsException", .fieldLink RX5 48 "Satellitering" "sentCount" "I", .fieldLink RX5 37 "Satellitering" "sent" "[LSatellitering$Message;", .methodLink RX5 54 yX5_inRange, .static yX5_inRange, .initialized RX5, .code yX5_inRange cX5_inRange 3 (some .boolean)] ++ wsX50 ++ (vx_atS RX5 95 "java/lang/IndexOutOfBoundsException" ["java/lang/RuntimeException", "java/lang/Exception"]).filter goodWord)
def wsX5_nodeOf : List Cond := .code yX5_nodeOf cX5_nodeOf 2 (some .int) :: ([.methodLink RX5 154 yX5_requireMessage, .instanceMethod yX5_requireMessage, .selects RX5 yX5_requireMessage yX5_requireMessage, .initialized RX5, .code yX5_requireMessage cX5_requireMessage 2 (some (.object "Satellitering$Message")), .classLink RX5 91 "java/lang/IndexOutOfBoundsException", .initialized "java/lang/IndexOutOfBoundsException", .fieldLink RX5 48 "Satellitering" "sentCount" "I", .fieldLink RX5 37 "Satellitering" "sent" "[LSatellitering$Message;", .methodLink RX5 54 yX5_inRange, .static yX5_inRange, .code yX5_inRange cX5_inRange 3 (some .boolean)] ++ wsX00 ++ wsX50 ++ (vx_atS RX5 95 "java/lang/IndexOutOfBoundsException" ["java/lang/RuntimeException", "java/lang/Exception"]).filter goodWord)
def wsX5_arrivedAt : List Cond := .code yX5_arrivedAt cX5_arrivedAt 3 (some .int) :: ([.classLink RX5 165 "java/util/NoSuchElementException", .initialized "java/util/NoSuchElementException", .methodLink RX5 154 yX5_requireMessage, .instanceMethod yX5_requireMessage, .selects RX5 yX5_requireMessage yX5_requireMessage, .initialized RX5, .code yX5_requireMessage cX5_requireMessage 2 (some (.object "Satellitering$Message")), .classLink RX5 91 "java/lang/IndexOutOfBoundsException", .initialized "java/lang/IndexOutOfBoundsException", .fieldLink RX5 48 "Satellitering" "sentCount" "I", .fieldLink RX5 37 "Satellitering" "sent" "[LSatellitering$Message;", .methodLink RX5 54 yX5_inRange, .static yX5_inRange, .code yX5_inRange cX5_inRange 3 (some .boolean), .methodLink RX5 161 yX0_isAtGoal, .instanceMethod yX0_isAtGoal, .selects RX0 yX0_isAtGoal yX0_isAtGoal, .initialized RX0, .code yX0_isAtGoal cX0_isAtGoal 1 (some .boolean), .fieldLink RX0 26 "Satellitering$Message" "node" "I", .fieldLink RX0 29 "Satellitering$Message" "goal" "I"] ++ wsX00 ++ wsX50 ++ (vx_atS RX5 169 "java/util/NoSuchElementException" ["java/lang/RuntimeException", "java/lang/Exception"]).filter goodWord ++ (vx_atS RX5 95 "java/lang/IndexOutOfBoundsException" ["java/lang/RuntimeException", "java/lang/Exception"]).filter goodWord)
def wsX5_hops : List Cond := .code yX5_hops cX5_hops 2 (some .int) :: ([.methodLink RX5 154 yX5_requireMessage, .instanceMethod yX5_requireMessage, .selects RX5 yX5_requireMessage yX5_requireMessage, .initialized RX5, .code yX5_requireMessage cX5_requireMessage 2 (some (.object "Satellitering$Message")), .classLink RX5 91 "java/lang/IndexOutOfBoundsException", .initialized "java/lang/IndexOutOfBoundsException", .fieldLink RX5 48 "Satellitering" "sentCount" "I", .fieldLink RX5 37 "Satellitering" "sent" "[LSatellitering$Message;", .methodLink RX5 54 yX5_inRange, .static yX5_inRange, .code yX5_inRange cX5_inRange 3 (some .boolean)] ++ wsX00 ++ wsX50 ++ (vx_atS RX5 95 "java/lang/IndexOutOfBoundsException" ["java/lang/RuntimeException", "java/lang/Exception"]).filter goodWord)
def wsX5_requireHop : List Cond := .code yX5_requireHop cX5_requireHop 2 none :: ([.classLink RX5 91 "java/lang/IndexOutOfBoundsException", .initialized "java/lang/IndexOutOfBoundsException", .methodLink RX5 54 yX5_inRange, .static yX5_inRange, .initialized RX5, .code yX5_inRange cX5_inRange 3 (some .boolean)] ++ wsX00 ++ (vx_atS RX5 95 "java/lang/IndexOutOfBoundsException" ["java/lang/RuntimeException", "java/lang/Exception"]).filter goodWord)
def wsX5_hopNode : List Cond := .code yX5_hopNode cX5_hopNode 4 (some .int) :: ([.methodLink RX5 154 yX5_requireMessage, .instanceMethod yX5_requireMessage, .selects RX5 yX5_requireMessage yX5_requireMessage, .initialized RX5, .code yX5_requireMessage cX5_requireMessage 2 (some (.object "Satellitering$Message")), .classLink RX5 91 "java/lang/IndexOutOfBoundsException", .initialized "java/lang/IndexOutOfBoundsException", .fieldLink RX5 48 "Satellitering" "sentCount" "I", .fieldLink RX5 37 "Satellitering" "sent" "[LSatellitering$Message;", .methodLink RX5 54 yX5_inRange, .static yX5_inRange, .code yX5_inRange cX5_inRange 3 (some .boolean), .methodLink RX5 176 yX5_requireHop, .static yX5_requireHop, .code yX5_requireHop cX5_requireHop 2 none] ++ wsX00 ++ wsX50 ++ (vx_atS RX5 95 "java/lang/IndexOutOfBoundsException" ["java/lang/RuntimeException", "java/lang/Exception"]).filter goodWord)
def wsX5_hopMinute : List Cond := .code yX5_hopMinute cX5_hopMinute 4 (some .int) :: ([.methodLink RX5 154 yX5_requireMessage, .instanceMethod yX5_requireMessage, .selects RX5 yX5_requireMessage yX5_requireMessage, .initialized RX5, .code yX5_requireMessage cX5_requireMessage 2 (some (.object "Satellitering$Message")), .classLink RX5 91 "java/lang/IndexOutOfBoundsException", .initialized "java/lang/IndexOutOfBoundsException", .fieldLink RX5 48 "Satellitering" "sentCount" "I", .fieldLink RX5 37 "Satellitering" "sent" "[LSatellitering$Message;", .methodLink RX5 54 yX5_inRange, .static yX5_inRange, .code yX5_inRange cX5_inRange 3 (some .boolean), .methodLink RX5 176 yX5_requireHop, .static yX5_requireHop, .code yX5_requireHop cX5_requireHop 2 none] ++ wsX00 ++ wsX50 ++ (vx_atS RX5 95 "java/lang/IndexOutOfBoundsException" ["java/lang/RuntimeException", "java/lang/Exception"]).filter goodWord)
def wsX5_blocked : List Cond := .code yX5_blocked cX5_blocked 2 (some .int) :: ([.methodLink RX5 154 yX5_requireMessage, .instanceMethod yX5_requireMessage, .selects RX5 yX5_requireMessage yX5_requireMessage, .initialized RX5, .code yX5_requireMessage cX5_requireMessage 2 (some (.object "Satellitering$Message")), .classLink RX5 91 "java/lang/IndexOutOfBoundsException", .initialized "java/lang/IndexOutOfBoundsException", .fieldLink RX5 48 "Satellitering" "sentCount" "I", .fieldLink RX5 37 "Satellitering" "sent" "[LSatellitering$Message;", .methodLink RX5 54 yX5_inRange, .static yX5_inRange, .code yX5_inRange cX5_inRange 3 (some .boolean)] ++ wsX00 ++ wsX50 ++ (vx_atS RX5 95 "java/lang/IndexOutOfBoundsException" ["java/lang/RuntimeException", "java/lang/Exception"]).filter goodWord)
def wsX5_load : List Cond := .code yX5_load cX5_load 2 (some .int) :: ([.methodLink RX5 87 yX5_requireNode, .instanceMethod yX5_requireNode, .selects RX5 yX5_requireNode yX5_requireNode, .initialized RX5, .code yX5_requireNode cX5_requireNode 2 none, .classLink RX5 91 "java/lang/IndexOutOfBoundsException", .initialized "java/lang/IndexOutOfBoundsException", .fieldLink RX5 12 "Satellitering" "sky" "LSatellitering$Sky;", .methodLink RX5 54 yX5_inRange, .static yX5_inRange, .code yX5_inRange cX5_inRange 3 (some .boolean), .methodLink RX5 189 yX5_messagesAt, .instanceMethod yX5_messagesAt, .selects RX5 yX5_messagesAt yX5_messagesAt, .code yX5_messagesAt cX5_messagesAt 4 (some .int), .fieldLink RX5 48 "Satellitering" "sentCount" "I", .fieldLink RX5 37 "Satellitering" "sent" "[LSatellitering$Message;"] ++ wsX50 ++ wsX20 ++ wsX00 ++ (vx_atS RX5 95 "java/lang/IndexOutOfBoundsException" ["java/lang/RuntimeException", "java/lang/Exception"]).filter goodWord)
def wsX5_relayOf : List Cond := .code yX5_relayOf cX5_relayOf 2 (some .int) :: ([.methodLink RX5 134 yX5_requireStation, .instanceMethod yX5_requireStation, .selects RX5 yX5_requireStation yX5_requireStation, .initialized RX5, .code yX5_requireStation cX5_requireStation 3 (some (.object "Satellitering$Station")), .classLink RX5 91 "java/lang/IndexOutOfBoundsException", .initialized "java/lang/IndexOutOfBoundsException", .fieldLink RX5 27 "Satellitering" "stations" "[LSatellitering$Station;", .methodLink RX5 87 yX5_requireNode, .instanceMethod yX5_requireNode, .selects RX5 yX5_requireNode yX5_requireNode, .code yX5_requireNode cX5_requireNode 2 none, .fieldLink RX5 12 "Satellitering" "sky" "LSatellitering$Sky;", .methodLink RX5 54 yX5_inRange, .static yX5_inRange, .code yX5_inRange cX5_inRange 3 (some .boolean)] ++ wsX30 ++ wsX50 ++ wsX20 ++ (vx_atS RX5 95 "java/lang/IndexOutOfBoundsException" ["java/lang/RuntimeException", "java/lang/Exception"]).filter goodWord)
def wsX5_handovers : List Cond := .code yX5_handovers cX5_handovers 2 (some .int) :: ([.methodLink RX5 134 yX5_requireStation, .instanceMethod yX5_requireStation, .selects RX5 yX5_requireStation yX5_requireStation, .initialized RX5, .code yX5_requireStation cX5_requireStation 3 (some (.object "Satellitering$Station")), .classLink RX5 91 "java/lang/IndexOutOfBoundsException", .initialized "java/lang/IndexOutOfBoundsException", .fieldLink RX5 27 "Satellitering" "stations" "[LSatellitering$Station;", .methodLink RX5 87 yX5_requireNode, .instanceMethod yX5_requireNode, .selects RX5 yX5_requireNode yX5_requireNode, .code yX5_requireNode cX5_requireNode 2 none, .fieldLink RX5 12 "Satellitering" "sky" "LSatellitering$Sky;", .methodLink RX5 54 yX5_inRange, .static yX5_inRange, .code yX5_inRange cX5_inRange 3 (some .boolean)] ++ wsX30 ++ wsX50 ++ wsX20 ++ (vx_atS RX5 95 "java/lang/IndexOutOfBoundsException" ["java/lang/RuntimeException", "java/lang/Exception"]).filter goodWord)
def wsJ9_abs_0f7a4 : List Cond := .code yJ9_abs_0f7a4 cJ9_abs_0f7a4 1 (some .int) :: ([])
def wsJ9_min_7cf53 : List Cond := .code yJ9_min_7cf53 cJ9_min_7cf53 2 (some .int) :: ([])
theorem dX0_init_0 : decode cX0_init 0 = .ok (.aload_n 0, 1) := by decide +kernel
theorem dX0_init_1 : decode cX0_init 1 = .ok (.invokespecial 1, 3) := by decide +kernel
theorem dX0_init_4 : decode cX0_init 4 = .ok (.aload_n 0, 1) := by decide +kernel
theorem dX0_init_5 : decode cX0_init 5 = .ok (.iconst 0, 1) := by decide +kernel
theorem dX0_init_6 : decode cX0_init 6 = .ok (.putfield 7, 3) := by decide +kernel
theorem dX0_init_9 : decode cX0_init 9 = .ok (.aload_n 0, 1) := by decide +kernel
theorem dX0_init_10 : decode cX0_init 10 = .ok (.iconst 0, 1) := by decide +kernel
theorem dX0_init_11 : decode cX0_init 11 = .ok (.putfield 13, 3) := by decide +kernel
theorem dX0_init_14 : decode cX0_init 14 = .ok (.aload_n 0, 1) := by decide +kernel
theorem dX0_init_15 : decode cX0_init 15 = .ok (.iconst 0, 1) := by decide +kernel
theorem dX0_init_16 : decode cX0_init 16 = .ok (.putfield 16, 3) := by decide +kernel
theorem dX0_init_19 : decode cX0_init 19 = .ok (.aload_n 0, 1) := by decide +kernel
theorem dX0_init_20 : decode cX0_init 20 = .ok (.bipush 8, 2) := by decide +kernel
theorem dX0_init_22 : decode cX0_init 22 = .ok (.newarray .int, 2) := by decide +kernel
theorem dX0_init_24 : decode cX0_init 24 = .ok (.putfield 19, 3) := by decide +kernel
theorem dX0_init_27 : decode cX0_init 27 = .ok (.aload_n 0, 1) := by decide +kernel
theorem dX0_init_28 : decode cX0_init 28 = .ok (.bipush 8, 2) := by decide +kernel
theorem dX0_init_30 : decode cX0_init 30 = .ok (.newarray .int, 2) := by decide +kernel
theorem dX0_init_32 : decode cX0_init 32 = .ok (.putfield 23, 3) := by decide +kernel
theorem dX0_init_35 : decode cX0_init 35 = .ok (.aload_n 0, 1) := by decide +kernel
theorem dX0_init_36 : decode cX0_init 36 = .ok (.iload_n 1, 1) := by decide +kernel
theorem dX0_init_37 : decode cX0_init 37 = .ok (.putfield 26, 3) := by decide +kernel
theorem dX0_init_40 : decode cX0_init 40 = .ok (.aload_n 0, 1) := by decide +kernel
theorem dX0_init_41 : decode cX0_init 41 = .ok (.iload_n 2, 1) := by decide +kernel
theorem dX0_init_42 : decode cX0_init 42 = .ok (.putfield 29, 3) := by decide +kernel
theorem dX0_init_45 : decode cX0_init 45 = .ok (.aload_n 0, 1) := by decide +kernel
theorem dX0_init_46 : decode cX0_init 46 = .ok (.aload_n 3, 1) := by decide +kernel
theorem dX0_init_47 : decode cX0_init 47 = .ok (.putfield 32, 3) := by decide +kernel
theorem dX0_init_50 : decode cX0_init 50 = .ok (.return_, 1) := by decide +kernel
theorem dX0_isAtGoal_0 : decode cX0_isAtGoal 0 = .ok (.aload_n 0, 1) := by decide +kernel
theorem dX0_isAtGoal_1 : decode cX0_isAtGoal 1 = .ok (.getfield 26, 3) := by decide +kernel
theorem dX0_isAtGoal_4 : decode cX0_isAtGoal 4 = .ok (.aload_n 0, 1) := by decide +kernel
theorem dX0_isAtGoal_5 : decode cX0_isAtGoal 5 = .ok (.getfield 29, 3) := by decide +kernel
theorem dX0_isAtGoal_8 : decode cX0_isAtGoal 8 = .ok (.if_icmp .ne 7, 3) := by decide +kernel
theorem dX0_isAtGoal_11 : decode cX0_isAtGoal 11 = .ok (.iconst 1, 1) := by decide +kernel
theorem dX0_isAtGoal_12 : decode cX0_isAtGoal 12 = .ok (.goto 4, 3) := by decide +kernel
theorem dX0_isAtGoal_15 : decode cX0_isAtGoal 15 = .ok (.iconst 0, 1) := by decide +kernel
theorem dX0_isAtGoal_16 : decode cX0_isAtGoal 16 = .ok (.ireturn, 1) := by decide +kernel
set_option maxRecDepth 20000 in
theorem ggX0_handTo_J7_copyOf_59c91 : GoodIn wsX0_handTo wsJ7_copyOf_59c91 := goodIn_r _ [9, 10, 11, 12, 13, 14, 15, 16, 17, 18, 19, 20, 21, 22, 23, 24] (by decide +kernel) (by decide +kernel)
set_option maxRecDepth 20000 in
theorem gX0_handTo_J7_copyOf_59c91 : GoodIn wsX0_handTo (va_wsS RX0 36 yJ7_copyOf_59c91 wsJ7_copyOf_59c91) := goodIn_app (goodIn_of _ (by decide +kernel)) ggX0_handTo_J7_copyOf_59c91
theorem dX0_handTo_0 : decode cX0_handTo 0 = .ok (.aload_n 0, 1) := by decide +kernel
theorem dX0_handTo_1 : decode cX0_handTo 1 = .ok (.getfield 16, 3) := by decide +kernel
theorem dX0_handTo_4 : decode cX0_handTo 4 = .ok (.aload_n 0, 1) := by decide +kernel
theorem dX0_handTo_5 : decode cX0_handTo 5 = .ok (.getfield 19, 3) := by decide +kernel
theorem dX0_handTo_8 : decode cX0_handTo 8 = .ok (.arraylength, 1) := by decide +kernel
theorem dX0_handTo_9 : decode cX0_handTo 9 = .ok (.if_icmp .lt 37, 3) := by decide +kernel
theorem dX0_handTo_12 : decode cX0_handTo 12 = .ok (.aload_n 0, 1) := by decide +kernel
theorem dX0_handTo_13 : decode cX0_handTo 13 = .ok (.aload_n 0, 1) := by decide +kernel
theorem dX0_handTo_14 : decode cX0_handTo 14 = .ok (.getfield 19, 3) := by decide +kernel
theorem dX0_handTo_17 : decode cX0_handTo 17 = .ok (.iconst 2, 1) := by decide +kernel
theorem dX0_handTo_18 : decode cX0_handTo 18 = .ok (.aload_n 0, 1) := by decide +kernel
theorem dX0_handTo_19 : decode cX0_handTo 19 = .ok (.getfield 16, 3) := by decide +kernel
theorem dX0_handTo_22 : decode cX0_handTo 22 = .ok (.imul, 1) := by decide +kernel
theorem dX0_handTo_23 : decode cX0_handTo 23 = .ok (.invokestatic 36, 3) := by decide +kernel
theorem dX0_handTo_26 : decode cX0_handTo 26 = .ok (.putfield 19, 3) := by decide +kernel
theorem dX0_handTo_29 : decode cX0_handTo 29 = .ok (.aload_n 0, 1) := by decide +kernel
theorem dX0_handTo_30 : decode cX0_handTo 30 = .ok (.aload_n 0, 1) := by decide +kernel
theorem dX0_handTo_31 : decode cX0_handTo 31 = .ok (.getfield 23, 3) := by decide +kernel
theorem dX0_handTo_34 : decode cX0_handTo 34 = .ok (.iconst 2, 1) := by decide +kernel
theorem dX0_handTo_35 : decode cX0_handTo 35 = .ok (.aload_n 0, 1) := by decide +kernel
theorem dX0_handTo_36 : decode cX0_handTo 36 = .ok (.getfield 16, 3) := by decide +kernel
theorem dX0_handTo_39 : decode cX0_handTo 39 = .ok (.imul, 1) := by decide +kernel
theorem dX0_handTo_40 : decode cX0_handTo 40 = .ok (.invokestatic 36, 3) := by decide +kernel
theorem dX0_handTo_43 : decode cX0_handTo 43 = .ok (.putfield 23, 3) := by decide +kernel
theorem dX0_handTo_46 : decode cX0_handTo 46 = .ok (.aload_n 0, 1) := by decide +kernel
theorem dX0_handTo_47 : decode cX0_handTo 47 = .ok (.getfield 19, 3) := by decide +kernel
theorem dX0_handTo_50 : decode cX0_handTo 50 = .ok (.aload_n 0, 1) := by decide +kernel
theorem dX0_handTo_51 : decode cX0_handTo 51 = .ok (.getfield 16, 3) := by decide +kernel
theorem dX0_handTo_54 : decode cX0_handTo 54 = .ok (.iload_n 1, 1) := by decide +kernel
theorem dX0_handTo_55 : decode cX0_handTo 55 = .ok (.iastore, 1) := by decide +kernel
theorem dX0_handTo_56 : decode cX0_handTo 56 = .ok (.aload_n 0, 1) := by decide +kernel
theorem dX0_handTo_57 : decode cX0_handTo 57 = .ok (.getfield 23, 3) := by decide +kernel
theorem dX0_handTo_60 : decode cX0_handTo 60 = .ok (.aload_n 0, 1) := by decide +kernel
theorem dX0_handTo_61 : decode cX0_handTo 61 = .ok (.getfield 16, 3) := by decide +kernel
theorem dX0_handTo_64 : decode cX0_handTo 64 = .ok (.iload_n 2, 1) := by decide +kernel
theorem dX0_handTo_65 : decode cX0_handTo 65 = .ok (.iastore, 1) := by decide +kernel
theorem dX0_handTo_66 : decode cX0_handTo 66 = .ok (.aload_n 0, 1) := by decide +kernel
theorem dX0_handTo_67 : decode cX0_handTo 67 = .ok (.dup, 1) := by decide +kernel
theorem dX0_handTo_68 : decode cX0_handTo 68 = .ok (.getfield 16, 3) := by decide +kernel
theorem dX0_handTo_71 : decode cX0_handTo 71 = .ok (.iconst 1, 1) := by decide +kernel
theorem dX0_handTo_72 : decode cX0_handTo 72 = .ok (.iadd, 1) := by decide +kernel
theorem dX0_handTo_73 : decode cX0_handTo 73 = .ok (.putfield 16, 3) := by decide +kernel
theorem dX0_handTo_76 : decode cX0_handTo 76 = .ok (.aload_n 0, 1) := by decide +kernel
theorem dX0_handTo_77 : decode cX0_handTo 77 = .ok (.iload_n 1, 1) := by decide +kernel
theorem dX0_handTo_78 : decode cX0_handTo 78 = .ok (.putfield 26, 3) := by decide +kernel
theorem dX0_handTo_81 : decode cX0_handTo 81 = .ok (.aload_n 0, 1) := by decide +kernel
theorem dX0_handTo_82 : decode cX0_handTo 82 = .ok (.iload_n 2, 1) := by decide +kernel
theorem dX0_handTo_83 : decode cX0_handTo 83 = .ok (.iconst 1, 1) := by decide +kernel
theorem dX0_handTo_84 : decode cX0_handTo 84 = .ok (.iadd, 1) := by decide +kernel
theorem dX0_handTo_85 : decode cX0_handTo 85 = .ok (.putfield 7, 3) := by decide +kernel
theorem dX0_handTo_88 : decode cX0_handTo 88 = .ok (.return_, 1) := by decide +kernel
theorem dX1_init_0 : decode cX1_init 0 = .ok (.aload_n 0, 1) := by decide +kernel
theorem dX1_init_1 : decode cX1_init 1 = .ok (.invokespecial 3, 3) := by decide +kernel
theorem dX1_init_4 : decode cX1_init 4 = .ok (.aload_n 0, 1) := by decide +kernel
theorem dX1_init_5 : decode cX1_init 5 = .ok (.bipush 10, 2) := by decide +kernel
theorem dX1_init_7 : decode cX1_init 7 = .ok (.newarray .int, 2) := by decide +kernel
theorem dX1_init_9 : decode cX1_init 9 = .ok (.putfield 9, 3) := by decide +kernel
theorem dX1_init_12 : decode cX1_init 12 = .ok (.aload_n 0, 1) := by decide +kernel
theorem dX1_init_13 : decode cX1_init 13 = .ok (.aload_n 1, 1) := by decide +kernel
theorem dX1_init_14 : decode cX1_init 14 = .ok (.putfield 15, 3) := by decide +kernel
theorem dX1_init_17 : decode cX1_init 17 = .ok (.return_, 1) := by decide +kernel
set_option maxRecDepth 20000 in
theorem ggX1_byContacts_J7_fill_53178 : GoodIn wsX1_byContacts wsJ7_fill_53178 := goodIn_r _ [6] (by decide +kernel) (by decide +kernel)
set_option maxRecDepth 20000 in
theorem gX1_byContacts_J7_fill_53178 : GoodIn wsX1_byContacts (va_wsS RX1 19 yJ7_fill_53178 wsJ7_fill_53178) := goodIn_app (goodIn_of _ (by decide +kernel)) ggX1_byContacts_J7_fill_53178
set_option maxRecDepth 20000 in
theorem ggX1_byContacts_X1_earliestReached : GoodIn wsX1_byContacts wsX1_earliestReached := goodIn_r _ [11, 2, 1, 30, 31, 32, 33, 34, 35, 36] (by decide +kernel) (by decide +kernel)
set_option maxRecDepth 20000 in
theorem gX1_byContacts_X1_earliestReached : GoodIn wsX1_byContacts (wsV RX1 31 RX1 yX1_earliestReached wsX1_earliestReached) := goodIn_app (goodIn_of _ (by decide +kernel)) ggX1_byContacts_X1_earliestReached
set_option maxRecDepth 20000 in
theorem ggX1_byContacts_X1_goOnFrom : GoodIn wsX1_byContacts wsX1_goOnFrom := goodIn_r _ [15, 2, 1, 16, 17, 18, 19, 20, 21, 22, 23, 24, 25, 26, 27, 28, 29, 30, 31, 32, 33, 34, 35, 36] (by decide +kernel) (by decide +kernel)
set_option maxRecDepth 20000 in
theorem gX1_byContacts_X1_goOnFrom : GoodIn wsX1_byContacts (wsV RX1 35 RX1 yX1_goOnFrom wsX1_goOnFrom) := goodIn_app (goodIn_of _ (by decide +kernel)) ggX1_byContacts_X1_goOnFrom
theorem dX1_byContacts_0 : decode cX1_byContacts 0 = .ok (.iload_n 3, 1) := by decide +kernel
theorem dX1_byContacts_1 : decode cX1_byContacts 1 = .ok (.sipush 400, 3) := by decide +kernel
theorem dX1_byContacts_4 : decode cX1_byContacts 4 = .ok (.iadd, 1) := by decide +kernel
theorem dX1_byContacts_5 : decode cX1_byContacts 5 = .ok (.iconst 1, 1) := by decide +kernel
theorem dX1_byContacts_6 : decode cX1_byContacts 6 = .ok (.iadd, 1) := by decide +kernel
theorem dX1_byContacts_7 : decode cX1_byContacts 7 = .ok (.istore 4, 2) := by decide +kernel
theorem dX1_byContacts_9 : decode cX1_byContacts 9 = .ok (.aload_n 0, 1) := by decide +kernel
theorem dX1_byContacts_10 : decode cX1_byContacts 10 = .ok (.getfield 9, 3) := by decide +kernel
theorem dX1_byContacts_13 : decode cX1_byContacts 13 = .ok (.iload 4, 2) := by decide +kernel
theorem dX1_byContacts_15 : decode cX1_byContacts 15 = .ok (.invokestatic 19, 3) := by decide +kernel
theorem dX1_byContacts_18 : decode cX1_byContacts 18 = .ok (.aload_n 0, 1) := by decide +kernel
theorem dX1_byContacts_19 : decode cX1_byContacts 19 = .ok (.getfield 9, 3) := by decide +kernel
theorem dX1_byContacts_22 : decode cX1_byContacts 22 = .ok (.iload_n 1, 1) := by decide +kernel
theorem dX1_byContacts_23 : decode cX1_byContacts 23 = .ok (.iload_n 3, 1) := by decide +kernel
theorem dX1_byContacts_24 : decode cX1_byContacts 24 = .ok (.iastore, 1) := by decide +kernel
theorem dX1_byContacts_25 : decode cX1_byContacts 25 = .ok (.iconst 0, 1) := by decide +kernel
theorem dX1_byContacts_26 : decode cX1_byContacts 26 = .ok (.istore 5, 2) := by decide +kernel
theorem dX1_byContacts_28 : decode cX1_byContacts 28 = .ok (.iconst 0, 1) := by decide +kernel
theorem dX1_byContacts_29 : decode cX1_byContacts 29 = .ok (.istore 6, 2) := by decide +kernel
theorem dX1_byContacts_31 : decode cX1_byContacts 31 = .ok (.iload 6, 2) := by decide +kernel
theorem dX1_byContacts_33 : decode cX1_byContacts 33 = .ok (.aload_n 0, 1) := by decide +kernel
theorem dX1_byContacts_34 : decode cX1_byContacts 34 = .ok (.getfield 15, 3) := by decide +kernel
theorem dX1_byContacts_37 : decode cX1_byContacts 37 = .ok (.getfield 25, 3) := by decide +kernel
theorem dX1_byContacts_40 : decode cX1_byContacts 40 = .ok (.if_icmp .ge 51, 3) := by decide +kernel
theorem dX1_byContacts_43 : decode cX1_byContacts 43 = .ok (.aload_n 0, 1) := by decide +kernel
theorem dX1_byContacts_44 : decode cX1_byContacts 44 = .ok (.iload 5, 2) := by decide +kernel
theorem dX1_byContacts_46 : decode cX1_byContacts 46 = .ok (.iload 4, 2) := by decide +kernel
theorem dX1_byContacts_48 : decode cX1_byContacts 48 = .ok (.invokevirtual 31, 3) := by decide +kernel
theorem dX1_byContacts_51 : decode cX1_byContacts 51 = .ok (.istore 7, 2) := by decide +kernel
theorem dX1_byContacts_53 : decode cX1_byContacts 53 = .ok (.iload 7, 2) := by decide +kernel
theorem dX1_byContacts_55 : decode cX1_byContacts 55 = .ok (.iconst (-1), 1) := by decide +kernel
theorem dX1_byContacts_56 : decode cX1_byContacts 56 = .ok (.if_icmp .eq 35, 3) := by decide +kernel
theorem dX1_byContacts_59 : decode cX1_byContacts 59 = .ok (.iload 7, 2) := by decide +kernel
theorem dX1_byContacts_61 : decode cX1_byContacts 61 = .ok (.iload_n 2, 1) := by decide +kernel
theorem dX1_byContacts_62 : decode cX1_byContacts 62 = .ok (.if_icmp .ne 6, 3) := by decide +kernel
theorem dX1_byContacts_65 : decode cX1_byContacts 65 = .ok (.goto 26, 3) := by decide +kernel
theorem dX1_byContacts_68 : decode cX1_byContacts 68 = .ok (.iload 5, 2) := by decide +kernel
theorem dX1_byContacts_70 : decode cX1_byContacts 70 = .ok (.iconst 1, 1) := by decide +kernel
theorem dX1_byContacts_71 : decode cX1_byContacts 71 = .ok (.iload 7, 2) := by decide +kernel
theorem dX1_byContacts_73 : decode cX1_byContacts 73 = .ok (.ishl, 1) := by decide +kernel
theorem dX1_byContacts_74 : decode cX1_byContacts 74 = .ok (.ior, 1) := by decide +kernel
theorem dX1_byContacts_75 : decode cX1_byContacts 75 = .ok (.istore 5, 2) := by decide +kernel
theorem dX1_byContacts_77 : decode cX1_byContacts 77 = .ok (.aload_n 0, 1) := by decide +kernel
theorem dX1_byContacts_78 : decode cX1_byContacts 78 = .ok (.iload 7, 2) := by decide +kernel
theorem dX1_byContacts_80 : decode cX1_byContacts 80 = .ok (.iload 5, 2) := by decide +kernel
theorem dX1_byContacts_82 : decode cX1_byContacts 82 = .ok (.invokevirtual 35, 3) := by decide +kernel
theorem dX1_byContacts_85 : decode cX1_byContacts 85 = .ok (.iinc 6 1, 3) := by decide +kernel
theorem dX1_byContacts_88 : decode cX1_byContacts 88 = .ok (.goto (-57), 3) := by decide +kernel
theorem dX1_byContacts_91 : decode cX1_byContacts 91 = .ok (.aload_n 0, 1) := by decide +kernel
theorem dX1_byContacts_92 : decode cX1_byContacts 92 = .ok (.getfield 9, 3) := by decide +kernel
theorem dX1_byContacts_95 : decode cX1_byContacts 95 = .ok (.iload_n 2, 1) := by decide +kernel
theorem dX1_byContacts_96 : decode cX1_byContacts 96 = .ok (.iaload, 1) := by decide +kernel
theorem dX1_byContacts_97 : decode cX1_byContacts 97 = .ok (.iload 4, 2) := by decide +kernel
theorem dX1_byContacts_99 : decode cX1_byContacts 99 = .ok (.if_icmp .ge 12, 3) := by decide +kernel
theorem dX1_byContacts_102 : decode cX1_byContacts 102 = .ok (.aload_n 0, 1) := by decide +kernel
theorem dX1_byContacts_103 : decode cX1_byContacts 103 = .ok (.getfield 9, 3) := by decide +kernel
theorem dX1_byContacts_106 : decode cX1_byContacts 106 = .ok (.iload_n 2, 1) := by decide +kernel
theorem dX1_byContacts_107 : decode cX1_byContacts 107 = .ok (.iaload, 1) := by decide +kernel
theorem dX1_byContacts_108 : decode cX1_byContacts 108 = .ok (.goto 4, 3) := by decide +kernel
theorem dX1_byContacts_111 : decode cX1_byContacts 111 = .ok (.iconst (-1), 1) := by decide +kernel
theorem dX1_byContacts_112 : decode cX1_byContacts 112 = .ok (.ireturn, 1) := by decide +kernel
theorem dX1_earliestReached_0 : decode cX1_earliestReached 0 = .ok (.iconst (-1), 1) := by decide +kernel
theorem dX1_earliestReached_1 : decode cX1_earliestReached 1 = .ok (.istore_n 3, 1) := by decide +kernel
theorem dX1_earliestReached_2 : decode cX1_earliestReached 2 = .ok (.iload_n 2, 1) := by decide +kernel
theorem dX1_earliestReached_3 : decode cX1_earliestReached 3 = .ok (.istore 4, 2) := by decide +kernel
theorem dX1_earliestReached_5 : decode cX1_earliestReached 5 = .ok (.iconst 0, 1) := by decide +kernel
theorem dX1_earliestReached_6 : decode cX1_earliestReached 6 = .ok (.istore 5, 2) := by decide +kernel
theorem dX1_earliestReached_8 : decode cX1_earliestReached 8 = .ok (.iload 5, 2) := by decide +kernel
theorem dX1_earliestReached_10 : decode cX1_earliestReached 10 = .ok (.aload_n 0, 1) := by decide +kernel
theorem dX1_earliestReached_11 : decode cX1_earliestReached 11 = .ok (.getfield 15, 3) := by decide +kernel
theorem dX1_earliestReached_14 : decode cX1_earliestReached 14 = .ok (.getfield 25, 3) := by decide +kernel
theorem dX1_earliestReached_17 : decode cX1_earliestReached 17 = .ok (.if_icmp .ge 42, 3) := by decide +kernel
theorem dX1_earliestReached_20 : decode cX1_earliestReached 20 = .ok (.iload_n 1, 1) := by decide +kernel
theorem dX1_earliestReached_21 : decode cX1_earliestReached 21 = .ok (.iload 5, 2) := by decide +kernel
theorem dX1_earliestReached_23 : decode cX1_earliestReached 23 = .ok (.ishr, 1) := by decide +kernel
theorem dX1_earliestReached_24 : decode cX1_earliestReached 24 = .ok (.iconst 1, 1) := by decide +kernel
theorem dX1_earliestReached_25 : decode cX1_earliestReached 25 = .ok (.iand, 1) := by decide +kernel
theorem dX1_earliestReached_26 : decode cX1_earliestReached 26 = .ok (.ifCond .ne 27, 3) := by decide +kernel
theorem dX1_earliestReached_29 : decode cX1_earliestReached 29 = .ok (.aload_n 0, 1) := by decide +kernel
theorem dX1_earliestReached_30 : decode cX1_earliestReached 30 = .ok (.getfield 9, 3) := by decide +kernel
theorem dX1_earliestReached_33 : decode cX1_earliestReached 33 = .ok (.iload 5, 2) := by decide +kernel
theorem dX1_earliestReached_35 : decode cX1_earliestReached 35 = .ok (.iaload, 1) := by decide +kernel
theorem dX1_earliestReached_36 : decode cX1_earliestReached 36 = .ok (.iload 4, 2) := by decide +kernel
theorem dX1_earliestReached_38 : decode cX1_earliestReached 38 = .ok (.if_icmp .ge 15, 3) := by decide +kernel
theorem dX1_earliestReached_41 : decode cX1_earliestReached 41 = .ok (.aload_n 0, 1) := by decide +kernel
theorem dX1_earliestReached_42 : decode cX1_earliestReached 42 = .ok (.getfield 9, 3) := by decide +kernel
theorem dX1_earliestReached_45 : decode cX1_earliestReached 45 = .ok (.iload 5, 2) := by decide +kernel
theorem dX1_earliestReached_47 : decode cX1_earliestReached 47 = .ok (.iaload, 1) := by decide +kernel
theorem dX1_earliestReached_48 : decode cX1_earliestReached 48 = .ok (.istore 4, 2) := by decide +kernel
theorem dX1_earliestReached_50 : decode cX1_earliestReached 50 = .ok (.iload 5, 2) := by decide +kernel
theorem dX1_earliestReached_52 : decode cX1_earliestReached 52 = .ok (.istore_n 3, 1) := by decide +kernel
theorem dX1_earliestReached_53 : decode cX1_earliestReached 53 = .ok (.iinc 5 1, 3) := by decide +kernel
theorem dX1_earliestReached_56 : decode cX1_earliestReached 56 = .ok (.goto (-48), 3) := by decide +kernel
theorem dX1_earliestReached_59 : decode cX1_earliestReached 59 = .ok (.iload_n 3, 1) := by decide +kernel
theorem dX1_earliestReached_60 : decode cX1_earliestReached 60 = .ok (.ireturn, 1) := by decide +kernel
set_option maxRecDepth 20000 in
theorem ggX1_goOnFrom_X2_firstContact : GoodIn wsX1_goOnFrom wsX2_firstContact := goodIn_r _ [7, 8, 9, 10, 6, 11, 12, 13, 14, 15, 16, 19, 20, 21, 22, 23] (by decide +kernel) (by decide +kernel)
set_option maxRecDepth 20000 in
theorem gX1_goOnFrom_X2_firstContact : GoodIn wsX1_goOnFrom (wsV RX1 39 RX2 yX2_firstContact wsX2_firstContact) := goodIn_app (goodIn_of _ (by decide +kernel)) ggX1_goOnFrom_X2_firstContact
theorem dX1_goOnFrom_0 : decode cX1_goOnFrom 0 = .ok (.iconst 0, 1) := by decide +kernel
theorem dX1_goOnFrom_1 : decode cX1_goOnFrom 1 = .ok (.istore_n 3, 1) := by decide +kernel
theorem dX1_goOnFrom_2 : decode cX1_goOnFrom 2 = .ok (.iload_n 3, 1) := by decide +kernel
theorem dX1_goOnFrom_3 : decode cX1_goOnFrom 3 = .ok (.aload_n 0, 1) := by decide +kernel
theorem dX1_goOnFrom_4 : decode cX1_goOnFrom 4 = .ok (.getfield 15, 3) := by decide +kernel
theorem dX1_goOnFrom_7 : decode cX1_goOnFrom 7 = .ok (.getfield 25, 3) := by decide +kernel
theorem dX1_goOnFrom_10 : decode cX1_goOnFrom 10 = .ok (.if_icmp .ge 63, 3) := by decide +kernel
theorem dX1_goOnFrom_13 : decode cX1_goOnFrom 13 = .ok (.iload_n 2, 1) := by decide +kernel
theorem dX1_goOnFrom_14 : decode cX1_goOnFrom 14 = .ok (.iload_n 3, 1) := by decide +kernel
theorem dX1_goOnFrom_15 : decode cX1_goOnFrom 15 = .ok (.ishr, 1) := by decide +kernel
theorem dX1_goOnFrom_16 : decode cX1_goOnFrom 16 = .ok (.iconst 1, 1) := by decide +kernel
theorem dX1_goOnFrom_17 : decode cX1_goOnFrom 17 = .ok (.iand, 1) := by decide +kernel
theorem dX1_goOnFrom_18 : decode cX1_goOnFrom 18 = .ok (.ifCond .ne 49, 3) := by decide +kernel
theorem dX1_goOnFrom_21 : decode cX1_goOnFrom 21 = .ok (.aload_n 0, 1) := by decide +kernel
theorem dX1_goOnFrom_22 : decode cX1_goOnFrom 22 = .ok (.getfield 15, 3) := by decide +kernel
theorem dX1_goOnFrom_25 : decode cX1_goOnFrom 25 = .ok (.iload_n 1, 1) := by decide +kernel
theorem dX1_goOnFrom_26 : decode cX1_goOnFrom 26 = .ok (.iload_n 3, 1) := by decide +kernel
theorem dX1_goOnFrom_27 : decode cX1_goOnFrom 27 = .ok (.aload_n 0, 1) := by decide +kernel
theorem dX1_goOnFrom_28 : decode cX1_goOnFrom 28 = .ok (.getfield 9, 3) := by decide +kernel
theorem dX1_goOnFrom_31 : decode cX1_goOnFrom 31 = .ok (.iload_n 1, 1) := by decide +kernel
theorem dX1_goOnFrom_32 : decode cX1_goOnFrom 32 = .ok (.iaload, 1) := by decide +kernel
theorem dX1_goOnFrom_33 : decode cX1_goOnFrom 33 = .ok (.invokevirtual 39, 3) := by decide +kernel
theorem dX1_goOnFrom_36 : decode cX1_goOnFrom 36 = .ok (.istore 4, 2) := by decide +kernel
theorem dX1_goOnFrom_38 : decode cX1_goOnFrom 38 = .ok (.iload 4, 2) := by decide +kernel
theorem dX1_goOnFrom_40 : decode cX1_goOnFrom 40 = .ok (.iconst (-1), 1) := by decide +kernel
theorem dX1_goOnFrom_41 : decode cX1_goOnFrom 41 = .ok (.if_icmp .eq 26, 3) := by decide +kernel
theorem dX1_goOnFrom_44 : decode cX1_goOnFrom 44 = .ok (.iload 4, 2) := by decide +kernel
theorem dX1_goOnFrom_46 : decode cX1_goOnFrom 46 = .ok (.iconst 1, 1) := by decide +kernel
theorem dX1_goOnFrom_47 : decode cX1_goOnFrom 47 = .ok (.iadd, 1) := by decide +kernel
theorem dX1_goOnFrom_48 : decode cX1_goOnFrom 48 = .ok (.aload_n 0, 1) := by decide +kernel
theorem dX1_goOnFrom_49 : decode cX1_goOnFrom 49 = .ok (.getfield 9, 3) := by decide +kernel
theorem dX1_goOnFrom_52 : decode cX1_goOnFrom 52 = .ok (.iload_n 3, 1) := by decide +kernel
theorem dX1_goOnFrom_53 : decode cX1_goOnFrom 53 = .ok (.iaload, 1) := by decide +kernel
theorem dX1_goOnFrom_54 : decode cX1_goOnFrom 54 = .ok (.if_icmp .ge 13, 3) := by decide +kernel
theorem dX1_goOnFrom_57 : decode cX1_goOnFrom 57 = .ok (.aload_n 0, 1) := by decide +kernel
theorem dX1_goOnFrom_58 : decode cX1_goOnFrom 58 = .ok (.getfield 9, 3) := by decide +kernel
theorem dX1_goOnFrom_61 : decode cX1_goOnFrom 61 = .ok (.iload_n 3, 1) := by decide +kernel
theorem dX1_goOnFrom_62 : decode cX1_goOnFrom 62 = .ok (.iload 4, 2) := by decide +kernel
theorem dX1_goOnFrom_64 : decode cX1_goOnFrom 64 = .ok (.iconst 1, 1) := by decide +kernel
theorem dX1_goOnFrom_65 : decode cX1_goOnFrom 65 = .ok (.iadd, 1) := by decide +kernel
theorem dX1_goOnFrom_66 : decode cX1_goOnFrom 66 = .ok (.iastore, 1) := by decide +kernel
theorem dX1_goOnFrom_67 : decode cX1_goOnFrom 67 = .ok (.iinc 3 1, 3) := by decide +kernel
theorem dX1_goOnFrom_70 : decode cX1_goOnFrom 70 = .ok (.goto (-68), 3) := by decide +kernel
theorem dX1_goOnFrom_73 : decode cX1_goOnFrom 73 = .ok (.return_, 1) := by decide +kernel
set_option maxRecDepth 20000 in
theorem ggX1_byFlooding_X1_floodedNext : GoodIn wsX1_byFlooding wsX1_floodedNext := goodIn_r _ [5, 6, 7, 8, 9, 10, 11, 12, 13, 14, 15, 16, 17, 18, 19] (by decide +kernel) (by decide +kernel)
set_option maxRecDepth 20000 in
theorem gX1_byFlooding_X1_floodedNext : GoodIn wsX1_byFlooding (wsV RX1 43 RX1 yX1_floodedNext wsX1_floodedNext) := goodIn_app (goodIn_of _ (by decide +kernel)) ggX1_byFlooding_X1_floodedNext
theorem dX1_byFlooding_0 : decode cX1_byFlooding 0 = .ok (.iconst 1, 1) := by decide +kernel
theorem dX1_byFlooding_1 : decode cX1_byFlooding 1 = .ok (.iload_n 1, 1) := by decide +kernel
theorem dX1_byFlooding_2 : decode cX1_byFlooding 2 = .ok (.ishl, 1) := by decide +kernel
theorem dX1_byFlooding_3 : decode cX1_byFlooding 3 = .ok (.istore 4, 2) := by decide +kernel
theorem dX1_byFlooding_5 : decode cX1_byFlooding 5 = .ok (.iconst 0, 1) := by decide +kernel
theorem dX1_byFlooding_6 : decode cX1_byFlooding 6 = .ok (.istore 5, 2) := by decide +kernel
theorem dX1_byFlooding_8 : decode cX1_byFlooding 8 = .ok (.iload 5, 2) := by decide +kernel
theorem dX1_byFlooding_10 : decode cX1_byFlooding 10 = .ok (.sipush 400, 3) := by decide +kernel
theorem dX1_byFlooding_13 : decode cX1_byFlooding 13 = .ok (.if_icmp .gt 35, 3) := by decide +kernel
theorem dX1_byFlooding_16 : decode cX1_byFlooding 16 = .ok (.iload 4, 2) := by decide +kernel
theorem dX1_byFlooding_18 : decode cX1_byFlooding 18 = .ok (.iload_n 2, 1) := by decide +kernel
theorem dX1_byFlooding_19 : decode cX1_byFlooding 19 = .ok (.ishr, 1) := by decide +kernel
theorem dX1_byFlooding_20 : decode cX1_byFlooding 20 = .ok (.iconst 1, 1) := by decide +kernel
theorem dX1_byFlooding_21 : decode cX1_byFlooding 21 = .ok (.iand, 1) := by decide +kernel
theorem dX1_byFlooding_22 : decode cX1_byFlooding 22 = .ok (.ifCond .eq 8, 3) := by decide +kernel
theorem dX1_byFlooding_25 : decode cX1_byFlooding 25 = .ok (.iload_n 3, 1) := by decide +kernel
theorem dX1_byFlooding_26 : decode cX1_byFlooding 26 = .ok (.iload 5, 2) := by decide +kernel
theorem dX1_byFlooding_28 : decode cX1_byFlooding 28 = .ok (.iadd, 1) := by decide +kernel
theorem dX1_byFlooding_29 : decode cX1_byFlooding 29 = .ok (.ireturn, 1) := by decide +kernel
theorem dX1_byFlooding_30 : decode cX1_byFlooding 30 = .ok (.aload_n 0, 1) := by decide +kernel
theorem dX1_byFlooding_31 : decode cX1_byFlooding 31 = .ok (.iload 4, 2) := by decide +kernel
theorem dX1_byFlooding_33 : decode cX1_byFlooding 33 = .ok (.iload_n 3, 1) := by decide +kernel
theorem dX1_byFlooding_34 : decode cX1_byFlooding 34 = .ok (.iload 5, 2) := by decide +kernel
theorem dX1_byFlooding_36 : decode cX1_byFlooding 36 = .ok (.iadd, 1) := by decide +kernel
theorem dX1_byFlooding_37 : decode cX1_byFlooding 37 = .ok (.invokevirtual 43, 3) := by decide +kernel
theorem dX1_byFlooding_40 : decode cX1_byFlooding 40 = .ok (.istore 4, 2) := by decide +kernel
theorem dX1_byFlooding_42 : decode cX1_byFlooding 42 = .ok (.iinc 5 1, 3) := by decide +kernel
theorem dX1_byFlooding_45 : decode cX1_byFlooding 45 = .ok (.goto (-37), 3) := by decide +kernel
theorem dX1_byFlooding_48 : decode cX1_byFlooding 48 = .ok (.iconst (-1), 1) := by decide +kernel
theorem dX1_byFlooding_49 : decode cX1_byFlooding 49 = .ok (.ireturn, 1) := by decide +kernel
set_option maxRecDepth 20000 in
theorem ggX1_flooded_X1_floodedNext : GoodIn wsX1_flooded wsX1_floodedNext := goodIn_r _ [5, 6, 7, 8, 9, 10, 11, 12, 13, 14, 15, 16, 17, 18, 19] (by decide +kernel) (by decide +kernel)
set_option maxRecDepth 20000 in
theorem gX1_flooded_X1_floodedNext : GoodIn wsX1_flooded (wsV RX1 43 RX1 yX1_floodedNext wsX1_floodedNext) := goodIn_app (goodIn_of _ (by decide +kernel)) ggX1_flooded_X1_floodedNext
theorem dX1_flooded_0 : decode cX1_flooded 0 = .ok (.iconst 1, 1) := by decide +kernel
theorem dX1_flooded_1 : decode cX1_flooded 1 = .ok (.iload_n 1, 1) := by decide +kernel
theorem dX1_flooded_2 : decode cX1_flooded 2 = .ok (.ishl, 1) := by decide +kernel
theorem dX1_flooded_3 : decode cX1_flooded 3 = .ok (.istore 4, 2) := by decide +kernel
theorem dX1_flooded_5 : decode cX1_flooded 5 = .ok (.iconst 0, 1) := by decide +kernel
theorem dX1_flooded_6 : decode cX1_flooded 6 = .ok (.istore 5, 2) := by decide +kernel
theorem dX1_flooded_8 : decode cX1_flooded 8 = .ok (.iload 5, 2) := by decide +kernel
theorem dX1_flooded_10 : decode cX1_flooded 10 = .ok (.iload_n 3, 1) := by decide +kernel
theorem dX1_flooded_11 : decode cX1_flooded 11 = .ok (.if_icmp .ge 21, 3) := by decide +kernel
theorem dX1_flooded_14 : decode cX1_flooded 14 = .ok (.aload_n 0, 1) := by decide +kernel
theorem dX1_flooded_15 : decode cX1_flooded 15 = .ok (.iload 4, 2) := by decide +kernel
theorem dX1_flooded_17 : decode cX1_flooded 17 = .ok (.iload_n 2, 1) := by decide +kernel
theorem dX1_flooded_18 : decode cX1_flooded 18 = .ok (.iload 5, 2) := by decide +kernel
theorem dX1_flooded_20 : decode cX1_flooded 20 = .ok (.iadd, 1) := by decide +kernel
theorem dX1_flooded_21 : decode cX1_flooded 21 = .ok (.invokevirtual 43, 3) := by decide +kernel
theorem dX1_flooded_24 : decode cX1_flooded 24 = .ok (.istore 4, 2) := by decide +kernel
theorem dX1_flooded_26 : decode cX1_flooded 26 = .ok (.iinc 5 1, 3) := by decide +kernel
theorem dX1_flooded_29 : decode cX1_flooded 29 = .ok (.goto (-21), 3) := by decide +kernel
theorem dX1_flooded_32 : decode cX1_flooded 32 = .ok (.iload 4, 2) := by decide +kernel
theorem dX1_flooded_34 : decode cX1_flooded 34 = .ok (.ireturn, 1) := by decide +kernel
set_option maxRecDepth 20000 in
theorem ggX1_floodedNext_X2_seenFrom : GoodIn wsX1_floodedNext wsX2_seenFrom := goodIn_r _ [6, 7, 10, 11, 12, 13, 14] (by decide +kernel) (by decide +kernel)
set_option maxRecDepth 20000 in
theorem gX1_floodedNext_X2_seenFrom : GoodIn wsX1_floodedNext (wsV RX1 46 RX2 yX2_seenFrom wsX2_seenFrom) := goodIn_app (goodIn_of _ (by decide +kernel)) ggX1_floodedNext_X2_seenFrom
theorem dX1_floodedNext_0 : decode cX1_floodedNext 0 = .ok (.iload_n 1, 1) := by decide +kernel
theorem dX1_floodedNext_1 : decode cX1_floodedNext 1 = .ok (.istore_n 3, 1) := by decide +kernel
theorem dX1_floodedNext_2 : decode cX1_floodedNext 2 = .ok (.iconst 0, 1) := by decide +kernel
theorem dX1_floodedNext_3 : decode cX1_floodedNext 3 = .ok (.istore 4, 2) := by decide +kernel
theorem dX1_floodedNext_5 : decode cX1_floodedNext 5 = .ok (.iload 4, 2) := by decide +kernel
theorem dX1_floodedNext_7 : decode cX1_floodedNext 7 = .ok (.aload_n 0, 1) := by decide +kernel
theorem dX1_floodedNext_8 : decode cX1_floodedNext 8 = .ok (.getfield 15, 3) := by decide +kernel
theorem dX1_floodedNext_11 : decode cX1_floodedNext 11 = .ok (.getfield 25, 3) := by decide +kernel
theorem dX1_floodedNext_14 : decode cX1_floodedNext 14 = .ok (.if_icmp .ge 31, 3) := by decide +kernel
theorem dX1_floodedNext_17 : decode cX1_floodedNext 17 = .ok (.iload_n 1, 1) := by decide +kernel
theorem dX1_floodedNext_18 : decode cX1_floodedNext 18 = .ok (.iload 4, 2) := by decide +kernel
theorem dX1_floodedNext_20 : decode cX1_floodedNext 20 = .ok (.ishr, 1) := by decide +kernel
theorem dX1_floodedNext_21 : decode cX1_floodedNext 21 = .ok (.iconst 1, 1) := by decide +kernel
theorem dX1_floodedNext_22 : decode cX1_floodedNext 22 = .ok (.iand, 1) := by decide +kernel
theorem dX1_floodedNext_23 : decode cX1_floodedNext 23 = .ok (.ifCond .eq 16, 3) := by decide +kernel
theorem dX1_floodedNext_26 : decode cX1_floodedNext 26 = .ok (.iload_n 3, 1) := by decide +kernel
theorem dX1_floodedNext_27 : decode cX1_floodedNext 27 = .ok (.aload_n 0, 1) := by decide +kernel
theorem dX1_floodedNext_28 : decode cX1_floodedNext 28 = .ok (.getfield 15, 3) := by decide +kernel
theorem dX1_floodedNext_31 : decode cX1_floodedNext 31 = .ok (.iload 4, 2) := by decide +kernel
theorem dX1_floodedNext_33 : decode cX1_floodedNext 33 = .ok (.iload_n 2, 1) := by decide +kernel
theorem dX1_floodedNext_34 : decode cX1_floodedNext 34 = .ok (.invokevirtual 46, 3) := by decide +kernel
theorem dX1_floodedNext_37 : decode cX1_floodedNext 37 = .ok (.ior, 1) := by decide +kernel
theorem dX1_floodedNext_38 : decode cX1_floodedNext 38 = .ok (.istore_n 3, 1) := by decide +kernel
theorem dX1_floodedNext_39 : decode cX1_floodedNext 39 = .ok (.iinc 4 1, 3) := by decide +kernel
theorem dX1_floodedNext_42 : decode cX1_floodedNext 42 = .ok (.goto (-37), 3) := by decide +kernel
theorem dX1_floodedNext_45 : decode cX1_floodedNext 45 = .ok (.iload_n 3, 1) := by decide +kernel
theorem dX1_floodedNext_46 : decode cX1_floodedNext 46 = .ok (.ireturn, 1) := by decide +kernel
theorem dX2_init_0 : decode cX2_init 0 = .ok (.aload_n 0, 1) := by decide +kernel
theorem dX2_init_1 : decode cX2_init 1 = .ok (.invokespecial 3, 3) := by decide +kernel
theorem dX2_init_4 : decode cX2_init 4 = .ok (.aload_n 0, 1) := by decide +kernel
theorem dX2_init_5 : decode cX2_init 5 = .ok (.bipush 10, 2) := by decide +kernel
theorem dX2_init_7 : decode cX2_init 7 = .ok (.newarray .int, 2) := by decide +kernel
theorem dX2_init_9 : decode cX2_init 9 = .ok (.putfield 9, 3) := by decide +kernel
theorem dX2_init_12 : decode cX2_init 12 = .ok (.aload_n 0, 1) := by decide +kernel
theorem dX2_init_13 : decode cX2_init 13 = .ok (.bipush 10, 2) := by decide +kernel
theorem dX2_init_15 : decode cX2_init 15 = .ok (.newarray .int, 2) := by decide +kernel
theorem dX2_init_17 : decode cX2_init 17 = .ok (.putfield 15, 3) := by decide +kernel
theorem dX2_init_20 : decode cX2_init 20 = .ok (.aload_n 0, 1) := by decide +kernel
theorem dX2_init_21 : decode cX2_init 21 = .ok (.bipush 10, 2) := by decide +kernel
theorem dX2_init_23 : decode cX2_init 23 = .ok (.newarray .int, 2) := by decide +kernel
theorem dX2_init_25 : decode cX2_init 25 = .ok (.putfield 18, 3) := by decide +kernel
theorem dX2_init_28 : decode cX2_init 28 = .ok (.aload_n 0, 1) := by decide +kernel
theorem dX2_init_29 : decode cX2_init 29 = .ok (.bipush 10, 2) := by decide +kernel
theorem dX2_init_31 : decode cX2_init 31 = .ok (.sipush 360, 3) := by decide +kernel
theorem dX2_init_34 : decode cX2_init 34 = .ok (.multianewarray 21 2, 4) := by decide +kernel
theorem dX2_init_38 : decode cX2_init 38 = .ok (.putfield 23, 3) := by decide +kernel
theorem dX2_init_41 : decode cX2_init 41 = .ok (.aload_n 0, 1) := by decide +kernel
theorem dX2_init_42 : decode cX2_init 42 = .ok (.iconst 0, 1) := by decide +kernel
theorem dX2_init_43 : decode cX2_init 43 = .ok (.putfield 26, 3) := by decide +kernel
theorem dX2_init_46 : decode cX2_init 46 = .ok (.return_, 1) := by decide +kernel
set_option maxRecDepth 20000 in
theorem ggX2_addNode_X2_markContacts : GoodIn wsX2_addNode wsX2_markContacts := goodIn_r _ [9, 10, 11, 12, 13, 8, 14, 4, 15, 16, 17, 18, 19, 20, 21, 22, 2, 3, 23, 24, 25, 26, 27, 28, 29, 30, 31, 32, 33, 34, 35, 36, 37] (by decide +kernel) (by decide +kernel)
set_option maxRecDepth 20000 in
theorem gX2_addNode_X2_markContacts : GoodIn wsX2_addNode (wsV RX2 30 RX2 yX2_markContacts wsX2_markContacts) := goodIn_app (goodIn_of _ (by decide +kernel)) ggX2_addNode_X2_markContacts
theorem dX2_addNode_0 : decode cX2_addNode 0 = .ok (.aload_n 0, 1) := by decide +kernel
theorem dX2_addNode_1 : decode cX2_addNode 1 = .ok (.getfield 26, 3) := by decide +kernel
theorem dX2_addNode_4 : decode cX2_addNode 4 = .ok (.istore 4, 2) := by decide +kernel
theorem dX2_addNode_6 : decode cX2_addNode 6 = .ok (.aload_n 0, 1) := by decide +kernel
theorem dX2_addNode_7 : decode cX2_addNode 7 = .ok (.getfield 9, 3) := by decide +kernel
theorem dX2_addNode_10 : decode cX2_addNode 10 = .ok (.iload 4, 2) := by decide +kernel
theorem dX2_addNode_12 : decode cX2_addNode 12 = .ok (.iload_n 1, 1) := by decide +kernel
theorem dX2_addNode_13 : decode cX2_addNode 13 = .ok (.iastore, 1) := by decide +kernel
theorem dX2_addNode_14 : decode cX2_addNode 14 = .ok (.aload_n 0, 1) := by decide +kernel
theorem dX2_addNode_15 : decode cX2_addNode 15 = .ok (.getfield 15, 3) := by decide +kernel
theorem dX2_addNode_18 : decode cX2_addNode 18 = .ok (.iload 4, 2) := by decide +kernel
theorem dX2_addNode_20 : decode cX2_addNode 20 = .ok (.iload_n 2, 1) := by decide +kernel
theorem dX2_addNode_21 : decode cX2_addNode 21 = .ok (.iastore, 1) := by decide +kernel
theorem dX2_addNode_22 : decode cX2_addNode 22 = .ok (.aload_n 0, 1) := by decide +kernel
theorem dX2_addNode_23 : decode cX2_addNode 23 = .ok (.getfield 18, 3) := by decide +kernel
theorem dX2_addNode_26 : decode cX2_addNode 26 = .ok (.iload 4, 2) := by decide +kernel
theorem dX2_addNode_28 : decode cX2_addNode 28 = .ok (.iload_n 3, 1) := by decide +kernel
theorem dX2_addNode_29 : decode cX2_addNode 29 = .ok (.iastore, 1) := by decide +kernel
theorem dX2_addNode_30 : decode cX2_addNode 30 = .ok (.aload_n 0, 1) := by decide +kernel
theorem dX2_addNode_31 : decode cX2_addNode 31 = .ok (.dup, 1) := by decide +kernel
theorem dX2_addNode_32 : decode cX2_addNode 32 = .ok (.getfield 26, 3) := by decide +kernel
theorem dX2_addNode_35 : decode cX2_addNode 35 = .ok (.iconst 1, 1) := by decide +kernel
theorem dX2_addNode_36 : decode cX2_addNode 36 = .ok (.iadd, 1) := by decide +kernel
theorem dX2_addNode_37 : decode cX2_addNode 37 = .ok (.putfield 26, 3) := by decide +kernel
theorem dX2_addNode_40 : decode cX2_addNode 40 = .ok (.iconst 0, 1) := by decide +kernel
theorem dX2_addNode_41 : decode cX2_addNode 41 = .ok (.istore 5, 2) := by decide +kernel
theorem dX2_addNode_43 : decode cX2_addNode 43 = .ok (.iload 5, 2) := by decide +kernel
theorem dX2_addNode_45 : decode cX2_addNode 45 = .ok (.iload 4, 2) := by decide +kernel
theorem dX2_addNode_47 : decode cX2_addNode 47 = .ok (.if_icmp .ge 17, 3) := by decide +kernel
theorem dX2_addNode_50 : decode cX2_addNode 50 = .ok (.aload_n 0, 1) := by decide +kernel
theorem dX2_addNode_51 : decode cX2_addNode 51 = .ok (.iload 4, 2) := by decide +kernel
theorem dX2_addNode_53 : decode cX2_addNode 53 = .ok (.iload 5, 2) := by decide +kernel
theorem dX2_addNode_55 : decode cX2_addNode 55 = .ok (.invokevirtual 30, 3) := by decide +kernel
theorem dX2_addNode_58 : decode cX2_addNode 58 = .ok (.iinc 5 1, 3) := by decide +kernel
theorem dX2_addNode_61 : decode cX2_addNode 61 = .ok (.goto (-18), 3) := by decide +kernel
theorem dX2_addNode_64 : decode cX2_addNode 64 = .ok (.iload 4, 2) := by decide +kernel
theorem dX2_addNode_66 : decode cX2_addNode 66 = .ok (.ireturn, 1) := by decide +kernel
set_option maxRecDepth 20000 in
theorem ggX2_markContacts_X2_commonReach : GoodIn wsX2_markContacts wsX2_commonReach := goodIn_r _ [6, 7, 8, 9, 10, 11, 28, 29, 30, 31, 32] (by decide +kernel) (by decide +kernel)
set_option maxRecDepth 20000 in
theorem gX2_markContacts_X2_commonReach : GoodIn wsX2_markContacts (wsV RX2 34 RX2 yX2_commonReach wsX2_commonReach) := goodIn_app (goodIn_of _ (by decide +kernel)) ggX2_markContacts_X2_commonReach
set_option maxRecDepth 20000 in
theorem ggX2_markContacts_X2_placeOf : GoodIn wsX2_markContacts wsX2_placeOf := goodIn_r _ [15, 16, 17, 18, 19, 20, 21, 28, 29, 30, 31, 32] (by decide +kernel) (by decide +kernel)
set_option maxRecDepth 20000 in
theorem gX2_markContacts_X2_placeOf : GoodIn wsX2_markContacts (wsV RX2 38 RX2 yX2_placeOf wsX2_placeOf) := goodIn_app (goodIn_of _ (by decide +kernel)) ggX2_markContacts_X2_placeOf
set_option maxRecDepth 20000 in
theorem ggX2_markContacts_X2_distance : GoodIn wsX2_markContacts wsX2_distance := goodIn_r _ [24, 25, 26, 10, 27, 8, 9, 11] (by decide +kernel) (by decide +kernel)
set_option maxRecDepth 20000 in
theorem gX2_markContacts_X2_distance : GoodIn wsX2_markContacts (va_wsS RX2 41 yX2_distance wsX2_distance) := goodIn_app (goodIn_of _ (by decide +kernel)) ggX2_markContacts_X2_distance
theorem dX2_markContacts_0 : decode cX2_markContacts 0 = .ok (.aload_n 0, 1) := by decide +kernel
theorem dX2_markContacts_1 : decode cX2_markContacts 1 = .ok (.iload_n 1, 1) := by decide +kernel
theorem dX2_markContacts_2 : decode cX2_markContacts 2 = .ok (.iload_n 2, 1) := by decide +kernel
theorem dX2_markContacts_3 : decode cX2_markContacts 3 = .ok (.invokevirtual 34, 3) := by decide +kernel
theorem dX2_markContacts_6 : decode cX2_markContacts 6 = .ok (.istore_n 3, 1) := by decide +kernel
theorem dX2_markContacts_7 : decode cX2_markContacts 7 = .ok (.iconst 0, 1) := by decide +kernel
theorem dX2_markContacts_8 : decode cX2_markContacts 8 = .ok (.istore 4, 2) := by decide +kernel
theorem dX2_markContacts_10 : decode cX2_markContacts 10 = .ok (.iload 4, 2) := by decide +kernel
theorem dX2_markContacts_12 : decode cX2_markContacts 12 = .ok (.sipush 360, 3) := by decide +kernel
theorem dX2_markContacts_15 : decode cX2_markContacts 15 = .ok (.if_icmp .ge 60, 3) := by decide +kernel
theorem dX2_markContacts_18 : decode cX2_markContacts 18 = .ok (.aload_n 0, 1) := by decide +kernel
theorem dX2_markContacts_19 : decode cX2_markContacts 19 = .ok (.iload_n 1, 1) := by decide +kernel
theorem dX2_markContacts_20 : decode cX2_markContacts 20 = .ok (.iload 4, 2) := by decide +kernel
theorem dX2_markContacts_22 : decode cX2_markContacts 22 = .ok (.invokevirtual 38, 3) := by decide +kernel
theorem dX2_markContacts_25 : decode cX2_markContacts 25 = .ok (.aload_n 0, 1) := by decide +kernel
theorem dX2_markContacts_26 : decode cX2_markContacts 26 = .ok (.iload_n 2, 1) := by decide +kernel
theorem dX2_markContacts_27 : decode cX2_markContacts 27 = .ok (.iload 4, 2) := by decide +kernel
theorem dX2_markContacts_29 : decode cX2_markContacts 29 = .ok (.invokevirtual 38, 3) := by decide +kernel
theorem dX2_markContacts_32 : decode cX2_markContacts 32 = .ok (.invokestatic 41, 3) := by decide +kernel
theorem dX2_markContacts_35 : decode cX2_markContacts 35 = .ok (.iload_n 3, 1) := by decide +kernel
theorem dX2_markContacts_36 : decode cX2_markContacts 36 = .ok (.if_icmp .gt 33, 3) := by decide +kernel
theorem dX2_markContacts_39 : decode cX2_markContacts 39 = .ok (.aload_n 0, 1) := by decide +kernel
theorem dX2_markContacts_40 : decode cX2_markContacts 40 = .ok (.getfield 23, 3) := by decide +kernel
theorem dX2_markContacts_43 : decode cX2_markContacts 43 = .ok (.iload_n 1, 1) := by decide +kernel
theorem dX2_markContacts_44 : decode cX2_markContacts 44 = .ok (.aaload, 1) := by decide +kernel
theorem dX2_markContacts_45 : decode cX2_markContacts 45 = .ok (.iload 4, 2) := by decide +kernel
theorem dX2_markContacts_47 : decode cX2_markContacts 47 = .ok (.dup2, 1) := by decide +kernel
theorem dX2_markContacts_48 : decode cX2_markContacts 48 = .ok (.iaload, 1) := by decide +kernel
theorem dX2_markContacts_49 : decode cX2_markContacts 49 = .ok (.iconst 1, 1) := by decide +kernel
theorem dX2_markContacts_50 : decode cX2_markContacts 50 = .ok (.iload_n 2, 1) := by decide +kernel
theorem dX2_markContacts_51 : decode cX2_markContacts 51 = .ok (.ishl, 1) := by decide +kernel
theorem dX2_markContacts_52 : decode cX2_markContacts 52 = .ok (.ior, 1) := by decide +kernel
theorem dX2_markContacts_53 : decode cX2_markContacts 53 = .ok (.iastore, 1) := by decide +kernel
theorem dX2_markContacts_54 : decode cX2_markContacts 54 = .ok (.aload_n 0, 1) := by decide +kernel
theorem dX2_markContacts_55 : decode cX2_markContacts 55 = .ok (.getfield 23, 3) := by decide +kernel
theorem dX2_markContacts_58 : decode cX2_markContacts 58 = .ok (.iload_n 2, 1) := by decide +kernel
theorem dX2_markContacts_59 : decode cX2_markContacts 59 = .ok (.aaload, 1) := by decide +kernel
theorem dX2_markContacts_60 : decode cX2_markContacts 60 = .ok (.iload 4, 2) := by decide +kernel
theorem dX2_markContacts_62 : decode cX2_markContacts 62 = .ok (.dup2, 1) := by decide +kernel
theorem dX2_markContacts_63 : decode cX2_markContacts 63 = .ok (.iaload, 1) := by decide +kernel
theorem dX2_markContacts_64 : decode cX2_markContacts 64 = .ok (.iconst 1, 1) := by decide +kernel
theorem dX2_markContacts_65 : decode cX2_markContacts 65 = .ok (.iload_n 1, 1) := by decide +kernel
theorem dX2_markContacts_66 : decode cX2_markContacts 66 = .ok (.ishl, 1) := by decide +kernel
theorem dX2_markContacts_67 : decode cX2_markContacts 67 = .ok (.ior, 1) := by decide +kernel
theorem dX2_markContacts_68 : decode cX2_markContacts 68 = .ok (.iastore, 1) := by decide +kernel
theorem dX2_markContacts_69 : decode cX2_markContacts 69 = .ok (.iinc 4 1, 3) := by decide +kernel
theorem dX2_markContacts_72 : decode cX2_markContacts 72 = .ok (.goto (-62), 3) := by decide +kernel
theorem dX2_markContacts_75 : decode cX2_markContacts 75 = .ok (.return_, 1) := by decide +kernel
theorem dX2_commonReach_0 : decode cX2_commonReach 0 = .ok (.aload_n 0, 1) := by decide +kernel
theorem dX2_commonReach_1 : decode cX2_commonReach 1 = .ok (.getfield 18, 3) := by decide +kernel
theorem dX2_commonReach_4 : decode cX2_commonReach 4 = .ok (.iload_n 1, 1) := by decide +kernel
theorem dX2_commonReach_5 : decode cX2_commonReach 5 = .ok (.iaload, 1) := by decide +kernel
theorem dX2_commonReach_6 : decode cX2_commonReach 6 = .ok (.iconst (-1), 1) := by decide +kernel
theorem dX2_commonReach_7 : decode cX2_commonReach 7 = .ok (.if_icmp .ne 10, 3) := by decide +kernel
theorem dX2_commonReach_10 : decode cX2_commonReach 10 = .ok (.aload_n 0, 1) := by decide +kernel
theorem dX2_commonReach_11 : decode cX2_commonReach 11 = .ok (.getfield 18, 3) := by decide +kernel
theorem dX2_commonReach_14 : decode cX2_commonReach 14 = .ok (.iload_n 2, 1) := by decide +kernel
theorem dX2_commonReach_15 : decode cX2_commonReach 15 = .ok (.iaload, 1) := by decide +kernel
theorem dX2_commonReach_16 : decode cX2_commonReach 16 = .ok (.ireturn, 1) := by decide +kernel
theorem dX2_commonReach_17 : decode cX2_commonReach 17 = .ok (.aload_n 0, 1) := by decide +kernel
theorem dX2_commonReach_18 : decode cX2_commonReach 18 = .ok (.getfield 18, 3) := by decide +kernel
theorem dX2_commonReach_21 : decode cX2_commonReach 21 = .ok (.iload_n 2, 1) := by decide +kernel
theorem dX2_commonReach_22 : decode cX2_commonReach 22 = .ok (.iaload, 1) := by decide +kernel
theorem dX2_commonReach_23 : decode cX2_commonReach 23 = .ok (.iconst (-1), 1) := by decide +kernel
theorem dX2_commonReach_24 : decode cX2_commonReach 24 = .ok (.if_icmp .ne 10, 3) := by decide +kernel
theorem dX2_commonReach_27 : decode cX2_commonReach 27 = .ok (.aload_n 0, 1) := by decide +kernel
theorem dX2_commonReach_28 : decode cX2_commonReach 28 = .ok (.getfield 18, 3) := by decide +kernel
theorem dX2_commonReach_31 : decode cX2_commonReach 31 = .ok (.iload_n 1, 1) := by decide +kernel
theorem dX2_commonReach_32 : decode cX2_commonReach 32 = .ok (.iaload, 1) := by decide +kernel
theorem dX2_commonReach_33 : decode cX2_commonReach 33 = .ok (.ireturn, 1) := by decide +kernel
theorem dX2_commonReach_34 : decode cX2_commonReach 34 = .ok (.aload_n 0, 1) := by decide +kernel
theorem dX2_commonReach_35 : decode cX2_commonReach 35 = .ok (.getfield 18, 3) := by decide +kernel
theorem dX2_commonReach_38 : decode cX2_commonReach 38 = .ok (.iload_n 1, 1) := by decide +kernel
theorem dX2_commonReach_39 : decode cX2_commonReach 39 = .ok (.iaload, 1) := by decide +kernel
theorem dX2_commonReach_40 : decode cX2_commonReach 40 = .ok (.aload_n 0, 1) := by decide +kernel
theorem dX2_commonReach_41 : decode cX2_commonReach 41 = .ok (.getfield 18, 3) := by decide +kernel
theorem dX2_commonReach_44 : decode cX2_commonReach 44 = .ok (.iload_n 2, 1) := by decide +kernel
theorem dX2_commonReach_45 : decode cX2_commonReach 45 = .ok (.iaload, 1) := by decide +kernel
theorem dX2_commonReach_46 : decode cX2_commonReach 46 = .ok (.invokestatic 44, 3) := by decide +kernel
theorem dX2_commonReach_49 : decode cX2_commonReach 49 = .ok (.ireturn, 1) := by decide +kernel
theorem dX2_distance_0 : decode cX2_distance 0 = .ok (.iload_n 0, 1) := by decide +kernel
theorem dX2_distance_1 : decode cX2_distance 1 = .ok (.iload_n 1, 1) := by decide +kernel
theorem dX2_distance_2 : decode cX2_distance 2 = .ok (.isub, 1) := by decide +kernel
theorem dX2_distance_3 : decode cX2_distance 3 = .ok (.invokestatic 49, 3) := by decide +kernel
theorem dX2_distance_6 : decode cX2_distance 6 = .ok (.istore_n 2, 1) := by decide +kernel
theorem dX2_distance_7 : decode cX2_distance 7 = .ok (.iload_n 2, 1) := by decide +kernel
theorem dX2_distance_8 : decode cX2_distance 8 = .ok (.sipush 360, 3) := by decide +kernel
theorem dX2_distance_11 : decode cX2_distance 11 = .ok (.iload_n 2, 1) := by decide +kernel
theorem dX2_distance_12 : decode cX2_distance 12 = .ok (.isub, 1) := by decide +kernel
theorem dX2_distance_13 : decode cX2_distance 13 = .ok (.invokestatic 44, 3) := by decide +kernel
theorem dX2_distance_16 : decode cX2_distance 16 = .ok (.ireturn, 1) := by decide +kernel
set_option maxRecDepth 20000 in
theorem ggX2_placeOf_J9_floorMod_7cf53 : GoodIn wsX2_placeOf wsJ9_floorMod_7cf53 := goodIn_r _ [6] (by decide +kernel) (by decide +kernel)
set_option maxRecDepth 20000 in
theorem gX2_placeOf_J9_floorMod_7cf53 : GoodIn wsX2_placeOf (va_wsS RX2 53 yJ9_floorMod_7cf53 wsJ9_floorMod_7cf53) := goodIn_app (goodIn_of _ (by decide +kernel)) ggX2_placeOf_J9_floorMod_7cf53
theorem dX2_placeOf_0 : decode cX2_placeOf 0 = .ok (.aload_n 0, 1) := by decide +kernel
theorem dX2_placeOf_1 : decode cX2_placeOf 1 = .ok (.getfield 9, 3) := by decide +kernel
theorem dX2_placeOf_4 : decode cX2_placeOf 4 = .ok (.iload_n 1, 1) := by decide +kernel
theorem dX2_placeOf_5 : decode cX2_placeOf 5 = .ok (.iaload, 1) := by decide +kernel
theorem dX2_placeOf_6 : decode cX2_placeOf 6 = .ok (.iload_n 2, 1) := by decide +kernel
theorem dX2_placeOf_7 : decode cX2_placeOf 7 = .ok (.aload_n 0, 1) := by decide +kernel
theorem dX2_placeOf_8 : decode cX2_placeOf 8 = .ok (.getfield 15, 3) := by decide +kernel
theorem dX2_placeOf_11 : decode cX2_placeOf 11 = .ok (.iload_n 1, 1) := by decide +kernel
theorem dX2_placeOf_12 : decode cX2_placeOf 12 = .ok (.iaload, 1) := by decide +kernel
theorem dX2_placeOf_13 : decode cX2_placeOf 13 = .ok (.imul, 1) := by decide +kernel
theorem dX2_placeOf_14 : decode cX2_placeOf 14 = .ok (.iadd, 1) := by decide +kernel
theorem dX2_placeOf_15 : decode cX2_placeOf 15 = .ok (.sipush 360, 3) := by decide +kernel
theorem dX2_placeOf_18 : decode cX2_placeOf 18 = .ok (.invokestatic 53, 3) := by decide +kernel
theorem dX2_placeOf_21 : decode cX2_placeOf 21 = .ok (.ireturn, 1) := by decide +kernel
theorem dX2_seenFrom_0 : decode cX2_seenFrom 0 = .ok (.aload_n 0, 1) := by decide +kernel
theorem dX2_seenFrom_1 : decode cX2_seenFrom 1 = .ok (.getfield 23, 3) := by decide +kernel
theorem dX2_seenFrom_4 : decode cX2_seenFrom 4 = .ok (.iload_n 1, 1) := by decide +kernel
theorem dX2_seenFrom_5 : decode cX2_seenFrom 5 = .ok (.aaload, 1) := by decide +kernel
theorem dX2_seenFrom_6 : decode cX2_seenFrom 6 = .ok (.iload_n 2, 1) := by decide +kernel
theorem dX2_seenFrom_7 : decode cX2_seenFrom 7 = .ok (.sipush 360, 3) := by decide +kernel
theorem dX2_seenFrom_10 : decode cX2_seenFrom 10 = .ok (.irem, 1) := by decide +kernel
theorem dX2_seenFrom_11 : decode cX2_seenFrom 11 = .ok (.iaload, 1) := by decide +kernel
theorem dX2_seenFrom_12 : decode cX2_seenFrom 12 = .ok (.ireturn, 1) := by decide +kernel
set_option maxRecDepth 20000 in
theorem ggX2_inContact_X2_seenFrom : GoodIn wsX2_inContact wsX2_seenFrom := goodIn_r _ [5, 6, 7, 8, 9, 10, 11] (by decide +kernel) (by decide +kernel)
set_option maxRecDepth 20000 in
theorem gX2_inContact_X2_seenFrom : GoodIn wsX2_inContact (wsV RX2 56 RX2 yX2_seenFrom wsX2_seenFrom) := goodIn_app (goodIn_of _ (by decide +kernel)) ggX2_inContact_X2_seenFrom
theorem dX2_inContact_0 : decode cX2_inContact 0 = .ok (.aload_n 0, 1) := by decide +kernel
theorem dX2_inContact_1 : decode cX2_inContact 1 = .ok (.iload_n 1, 1) := by decide +kernel
theorem dX2_inContact_2 : decode cX2_inContact 2 = .ok (.iload_n 3, 1) := by decide +kernel
theorem dX2_inContact_3 : decode cX2_inContact 3 = .ok (.invokevirtual 56, 3) := by decide +kernel
theorem dX2_inContact_6 : decode cX2_inContact 6 = .ok (.iload_n 2, 1) := by decide +kernel
theorem dX2_inContact_7 : decode cX2_inContact 7 = .ok (.ishr, 1) := by decide +kernel
theorem dX2_inContact_8 : decode cX2_inContact 8 = .ok (.iconst 1, 1) := by decide +kernel
theorem dX2_inContact_9 : decode cX2_inContact 9 = .ok (.iand, 1) := by decide +kernel
theorem dX2_inContact_10 : decode cX2_inContact 10 = .ok (.ifCond .eq 7, 3) := by decide +kernel
theorem dX2_inContact_13 : decode cX2_inContact 13 = .ok (.iconst 1, 1) := by decide +kernel
theorem dX2_inContact_14 : decode cX2_inContact 14 = .ok (.goto 4, 3) := by decide +kernel
theorem dX2_inContact_17 : decode cX2_inContact 17 = .ok (.iconst 0, 1) := by decide +kernel
theorem dX2_inContact_18 : decode cX2_inContact 18 = .ok (.ireturn, 1) := by decide +kernel
set_option maxRecDepth 20000 in
theorem ggX2_firstContact_X2_inContact : GoodIn wsX2_firstContact wsX2_inContact := goodIn_r _ [5, 6, 7, 8, 4, 9, 10, 11, 12, 13, 14, 15] (by decide +kernel) (by decide +kernel)
set_option maxRecDepth 20000 in
theorem gX2_firstContact_X2_inContact : GoodIn wsX2_firstContact (wsV RX2 59 RX2 yX2_inContact wsX2_inContact) := goodIn_app (goodIn_of _ (by decide +kernel)) ggX2_firstContact_X2_inContact
theorem dX2_firstContact_0 : decode cX2_firstContact 0 = .ok (.iconst 0, 1) := by decide +kernel
theorem dX2_firstContact_1 : decode cX2_firstContact 1 = .ok (.istore 4, 2) := by decide +kernel
theorem dX2_firstContact_3 : decode cX2_firstContact 3 = .ok (.iload 4, 2) := by decide +kernel
theorem dX2_firstContact_5 : decode cX2_firstContact 5 = .ok (.sipush 360, 3) := by decide +kernel
theorem dX2_firstContact_8 : decode cX2_firstContact 8 = .ok (.if_icmp .ge 27, 3) := by decide +kernel
theorem dX2_firstContact_11 : decode cX2_firstContact 11 = .ok (.aload_n 0, 1) := by decide +kernel
theorem dX2_firstContact_12 : decode cX2_firstContact 12 = .ok (.iload_n 1, 1) := by decide +kernel
theorem dX2_firstContact_13 : decode cX2_firstContact 13 = .ok (.iload_n 2, 1) := by decide +kernel
theorem dX2_firstContact_14 : decode cX2_firstContact 14 = .ok (.iload_n 3, 1) := by decide +kernel
theorem dX2_firstContact_15 : decode cX2_firstContact 15 = .ok (.iload 4, 2) := by decide +kernel
theorem dX2_firstContact_17 : decode cX2_firstContact 17 = .ok (.iadd, 1) := by decide +kernel
theorem dX2_firstContact_18 : decode cX2_firstContact 18 = .ok (.invokevirtual 59, 3) := by decide +kernel
theorem dX2_firstContact_21 : decode cX2_firstContact 21 = .ok (.ifCond .eq 8, 3) := by decide +kernel
theorem dX2_firstContact_24 : decode cX2_firstContact 24 = .ok (.iload_n 3, 1) := by decide +kernel
theorem dX2_firstContact_25 : decode cX2_firstContact 25 = .ok (.iload 4, 2) := by decide +kernel
theorem dX2_firstContact_27 : decode cX2_firstContact 27 = .ok (.iadd, 1) := by decide +kernel
theorem dX2_firstContact_28 : decode cX2_firstContact 28 = .ok (.ireturn, 1) := by decide +kernel
theorem dX2_firstContact_29 : decode cX2_firstContact 29 = .ok (.iinc 4 1, 3) := by decide +kernel
theorem dX2_firstContact_32 : decode cX2_firstContact 32 = .ok (.goto (-29), 3) := by decide +kernel
theorem dX2_firstContact_35 : decode cX2_firstContact 35 = .ok (.iconst (-1), 1) := by decide +kernel
theorem dX2_firstContact_36 : decode cX2_firstContact 36 = .ok (.ireturn, 1) := by decide +kernel
set_option maxRecDepth 20000 in
theorem ggX2_contactLength_X2_inContact : GoodIn wsX2_contactLength wsX2_inContact := goodIn_r _ [5, 6, 7, 8, 4, 9, 10, 11, 12, 13, 14, 15] (by decide +kernel) (by decide +kernel)
set_option maxRecDepth 20000 in
theorem gX2_contactLength_X2_inContact : GoodIn wsX2_contactLength (wsV RX2 59 RX2 yX2_inContact wsX2_inContact) := goodIn_app (goodIn_of _ (by decide +kernel)) ggX2_contactLength_X2_inContact
theorem dX2_contactLength_0 : decode cX2_contactLength 0 = .ok (.iconst 0, 1) := by decide +kernel
theorem dX2_contactLength_1 : decode cX2_contactLength 1 = .ok (.istore 4, 2) := by decide +kernel
theorem dX2_contactLength_3 : decode cX2_contactLength 3 = .ok (.iload 4, 2) := by decide +kernel
theorem dX2_contactLength_5 : decode cX2_contactLength 5 = .ok (.sipush 360, 3) := by decide +kernel
theorem dX2_contactLength_8 : decode cX2_contactLength 8 = .ok (.if_icmp .ge 25, 3) := by decide +kernel
theorem dX2_contactLength_11 : decode cX2_contactLength 11 = .ok (.aload_n 0, 1) := by decide +kernel
theorem dX2_contactLength_12 : decode cX2_contactLength 12 = .ok (.iload_n 1, 1) := by decide +kernel
theorem dX2_contactLength_13 : decode cX2_contactLength 13 = .ok (.iload_n 2, 1) := by decide +kernel
theorem dX2_contactLength_14 : decode cX2_contactLength 14 = .ok (.iload_n 3, 1) := by decide +kernel
theorem dX2_contactLength_15 : decode cX2_contactLength 15 = .ok (.iload 4, 2) := by decide +kernel
theorem dX2_contactLength_17 : decode cX2_contactLength 17 = .ok (.iadd, 1) := by decide +kernel
theorem dX2_contactLength_18 : decode cX2_contactLength 18 = .ok (.invokevirtual 59, 3) := by decide +kernel
theorem dX2_contactLength_21 : decode cX2_contactLength 21 = .ok (.ifCond .ne 6, 3) := by decide +kernel
theorem dX2_contactLength_24 : decode cX2_contactLength 24 = .ok (.iload 4, 2) := by decide +kernel
theorem dX2_contactLength_26 : decode cX2_contactLength 26 = .ok (.ireturn, 1) := by decide +kernel
theorem dX2_contactLength_27 : decode cX2_contactLength 27 = .ok (.iinc 4 1, 3) := by decide +kernel
theorem dX2_contactLength_30 : decode cX2_contactLength 30 = .ok (.goto (-27), 3) := by decide +kernel
theorem dX2_contactLength_33 : decode cX2_contactLength 33 = .ok (.sipush 360, 3) := by decide +kernel
theorem dX2_contactLength_36 : decode cX2_contactLength 36 = .ok (.ireturn, 1) := by decide +kernel
theorem dX3_init_0 : decode cX3_init 0 = .ok (.aload_n 0, 1) := by decide +kernel
theorem dX3_init_1 : decode cX3_init 1 = .ok (.invokespecial 3, 3) := by decide +kernel
theorem dX3_init_4 : decode cX3_init 4 = .ok (.aload_n 0, 1) := by decide +kernel
theorem dX3_init_5 : decode cX3_init 5 = .ok (.iconst (-1), 1) := by decide +kernel
theorem dX3_init_6 : decode cX3_init 6 = .ok (.putfield 9, 3) := by decide +kernel
theorem dX3_init_9 : decode cX3_init 9 = .ok (.aload_n 0, 1) := by decide +kernel
theorem dX3_init_10 : decode cX3_init 10 = .ok (.iconst 0, 1) := by decide +kernel
theorem dX3_init_11 : decode cX3_init 11 = .ok (.putfield 15, 3) := by decide +kernel
theorem dX3_init_14 : decode cX3_init 14 = .ok (.aload_n 0, 1) := by decide +kernel
theorem dX3_init_15 : decode cX3_init 15 = .ok (.aload_n 1, 1) := by decide +kernel
theorem dX3_init_16 : decode cX3_init 16 = .ok (.putfield 18, 3) := by decide +kernel
theorem dX3_init_19 : decode cX3_init 19 = .ok (.return_, 1) := by decide +kernel
theorem dX4_init_0 : decode cX4_init 0 = .ok (.aload_n 0, 1) := by decide +kernel
theorem dX4_init_1 : decode cX4_init 1 = .ok (.invokespecial 3, 3) := by decide +kernel
theorem dX4_init_4 : decode cX4_init 4 = .ok (.aload_n 0, 1) := by decide +kernel
theorem dX4_init_5 : decode cX4_init 5 = .ok (.bipush 10, 2) := by decide +kernel
theorem dX4_init_7 : decode cX4_init 7 = .ok (.sipush 360, 3) := by decide +kernel
theorem dX4_init_10 : decode cX4_init 10 = .ok (.multianewarray 9 2, 4) := by decide +kernel
theorem dX4_init_14 : decode cX4_init 14 = .ok (.putfield 11, 3) := by decide +kernel
theorem dX4_init_17 : decode cX4_init 17 = .ok (.aload_n 0, 1) := by decide +kernel
theorem dX4_init_18 : decode cX4_init 18 = .ok (.bipush 10, 2) := by decide +kernel
theorem dX4_init_20 : decode cX4_init 20 = .ok (.newarray .int, 2) := by decide +kernel
theorem dX4_init_22 : decode cX4_init 22 = .ok (.putfield 16, 3) := by decide +kernel
theorem dX4_init_25 : decode cX4_init 25 = .ok (.aload_n 0, 1) := by decide +kernel
theorem dX4_init_26 : decode cX4_init 26 = .ok (.bipush 10, 2) := by decide +kernel
theorem dX4_init_28 : decode cX4_init 28 = .ok (.newarray .int, 2) := by decide +kernel
theorem dX4_init_30 : decode cX4_init 30 = .ok (.putfield 20, 3) := by decide +kernel
theorem dX4_init_33 : decode cX4_init 33 = .ok (.aload_n 0, 1) := by decide +kernel
theorem dX4_init_34 : decode cX4_init 34 = .ok (.iconst 0, 1) := by decide +kernel
theorem dX4_init_35 : decode cX4_init 35 = .ok (.putfield 23, 3) := by decide +kernel
theorem dX4_init_38 : decode cX4_init 38 = .ok (.aload_n 0, 1) := by decide +kernel
theorem dX4_init_39 : decode cX4_init 39 = .ok (.aload_n 1, 1) := by decide +kernel
theorem dX4_init_40 : decode cX4_init 40 = .ok (.putfield 27, 3) := by decide +kernel
theorem dX4_init_43 : decode cX4_init 43 = .ok (.aload_n 0, 1) := by decide +kernel
theorem dX4_init_44 : decode cX4_init 44 = .ok (.iload_n 2, 1) := by decide +kernel
theorem dX4_init_45 : decode cX4_init 45 = .ok (.putfield 31, 3) := by decide +kernel
theorem dX4_init_48 : decode cX4_init 48 = .ok (.return_, 1) := by decide +kernel
set_option maxRecDepth 20000 in
theorem ggX4_nextNode_X4_reckon : GoodIn wsX4_nextNode wsX4_reckon := goodIn_r _ [8, 9, 2, 1, 10, 11, 12, 13, 14, 15, 16, 7, 17, 18, 19, 20, 21, 22, 23, 24, 25, 26, 27, 28, 29, 30, 31, 32, 33, 3, 39, 40, 41, 42, 43, 44, 45, 46, 47, 48, 49] (by decide +kernel) (by decide +kernel)
set_option maxRecDepth 20000 in
theorem gX4_nextNode_X4_reckon : GoodIn wsX4_nextNode (wsV RX4 39 RX4 yX4_reckon wsX4_reckon) := goodIn_app (goodIn_of _ (by decide +kernel)) ggX4_nextNode_X4_reckon
set_option maxRecDepth 20000 in
theorem ggX4_nextNode_X2_inContact : GoodIn wsX4_nextNode wsX2_inContact := goodIn_r _ [37, 38, 21, 22, 23, 24, 25, 45, 46, 47, 48, 49] (by decide +kernel) (by decide +kernel)
set_option maxRecDepth 20000 in
theorem gX4_nextNode_X2_inContact : GoodIn wsX4_nextNode (wsV RX4 42 RX2 yX2_inContact wsX2_inContact) := goodIn_app (goodIn_of _ (by decide +kernel)) ggX4_nextNode_X2_inContact
theorem dX4_nextNode_0 : decode cX4_nextNode 0 = .ok (.aload_n 0, 1) := by decide +kernel
theorem dX4_nextNode_1 : decode cX4_nextNode 1 = .ok (.getfield 23, 3) := by decide +kernel
theorem dX4_nextNode_4 : decode cX4_nextNode 4 = .ok (.aload_n 0, 1) := by decide +kernel
theorem dX4_nextNode_5 : decode cX4_nextNode 5 = .ok (.getfield 27, 3) := by decide +kernel
theorem dX4_nextNode_8 : decode cX4_nextNode 8 = .ok (.getfield 34, 3) := by decide +kernel
theorem dX4_nextNode_11 : decode cX4_nextNode 11 = .ok (.if_icmp .eq 7, 3) := by decide +kernel
theorem dX4_nextNode_14 : decode cX4_nextNode 14 = .ok (.aload_n 0, 1) := by decide +kernel
theorem dX4_nextNode_15 : decode cX4_nextNode 15 = .ok (.invokevirtual 39, 3) := by decide +kernel
theorem dX4_nextNode_18 : decode cX4_nextNode 18 = .ok (.aload_n 0, 1) := by decide +kernel
theorem dX4_nextNode_19 : decode cX4_nextNode 19 = .ok (.getfield 11, 3) := by decide +kernel
theorem dX4_nextNode_22 : decode cX4_nextNode 22 = .ok (.iload_n 1, 1) := by decide +kernel
theorem dX4_nextNode_23 : decode cX4_nextNode 23 = .ok (.aaload, 1) := by decide +kernel
theorem dX4_nextNode_24 : decode cX4_nextNode 24 = .ok (.iload_n 2, 1) := by decide +kernel
theorem dX4_nextNode_25 : decode cX4_nextNode 25 = .ok (.sipush 360, 3) := by decide +kernel
theorem dX4_nextNode_28 : decode cX4_nextNode 28 = .ok (.irem, 1) := by decide +kernel
theorem dX4_nextNode_29 : decode cX4_nextNode 29 = .ok (.iaload, 1) := by decide +kernel
theorem dX4_nextNode_30 : decode cX4_nextNode 30 = .ok (.istore_n 3, 1) := by decide +kernel
theorem dX4_nextNode_31 : decode cX4_nextNode 31 = .ok (.iload_n 2, 1) := by decide +kernel
theorem dX4_nextNode_32 : decode cX4_nextNode 32 = .ok (.iconst 1, 1) := by decide +kernel
theorem dX4_nextNode_33 : decode cX4_nextNode 33 = .ok (.iadd, 1) := by decide +kernel
theorem dX4_nextNode_34 : decode cX4_nextNode 34 = .ok (.sipush 360, 3) := by decide +kernel
theorem dX4_nextNode_37 : decode cX4_nextNode 37 = .ok (.irem, 1) := by decide +kernel
theorem dX4_nextNode_38 : decode cX4_nextNode 38 = .ok (.istore 4, 2) := by decide +kernel
theorem dX4_nextNode_40 : decode cX4_nextNode 40 = .ok (.iload_n 3, 1) := by decide +kernel
theorem dX4_nextNode_41 : decode cX4_nextNode 41 = .ok (.iconst 1, 1) := by decide +kernel
theorem dX4_nextNode_42 : decode cX4_nextNode 42 = .ok (.if_icmp .lt 18, 3) := by decide +kernel
theorem dX4_nextNode_45 : decode cX4_nextNode 45 = .ok (.aload_n 0, 1) := by decide +kernel
theorem dX4_nextNode_46 : decode cX4_nextNode 46 = .ok (.getfield 11, 3) := by decide +kernel
theorem dX4_nextNode_49 : decode cX4_nextNode 49 = .ok (.iload_n 1, 1) := by decide +kernel
theorem dX4_nextNode_50 : decode cX4_nextNode 50 = .ok (.aaload, 1) := by decide +kernel
theorem dX4_nextNode_51 : decode cX4_nextNode 51 = .ok (.iload 4, 2) := by decide +kernel
theorem dX4_nextNode_53 : decode cX4_nextNode 53 = .ok (.iaload, 1) := by decide +kernel
theorem dX4_nextNode_54 : decode cX4_nextNode 54 = .ok (.iload_n 3, 1) := by decide +kernel
theorem dX4_nextNode_55 : decode cX4_nextNode 55 = .ok (.iconst 1, 1) := by decide +kernel
theorem dX4_nextNode_56 : decode cX4_nextNode 56 = .ok (.isub, 1) := by decide +kernel
theorem dX4_nextNode_57 : decode cX4_nextNode 57 = .ok (.if_icmp .ne 5, 3) := by decide +kernel
theorem dX4_nextNode_60 : decode cX4_nextNode 60 = .ok (.iconst (-1), 1) := by decide +kernel
theorem dX4_nextNode_61 : decode cX4_nextNode 61 = .ok (.ireturn, 1) := by decide +kernel
theorem dX4_nextNode_62 : decode cX4_nextNode 62 = .ok (.iconst 0, 1) := by decide +kernel
theorem dX4_nextNode_63 : decode cX4_nextNode 63 = .ok (.istore 5, 2) := by decide +kernel
theorem dX4_nextNode_65 : decode cX4_nextNode 65 = .ok (.iload 5, 2) := by decide +kernel
theorem dX4_nextNode_67 : decode cX4_nextNode 67 = .ok (.aload_n 0, 1) := by decide +kernel
theorem dX4_nextNode_68 : decode cX4_nextNode 68 = .ok (.getfield 27, 3) := by decide +kernel
theorem dX4_nextNode_71 : decode cX4_nextNode 71 = .ok (.getfield 34, 3) := by decide +kernel
theorem dX4_nextNode_74 : decode cX4_nextNode 74 = .ok (.if_icmp .ge 42, 3) := by decide +kernel
theorem dX4_nextNode_77 : decode cX4_nextNode 77 = .ok (.aload_n 0, 1) := by decide +kernel
theorem dX4_nextNode_78 : decode cX4_nextNode 78 = .ok (.getfield 27, 3) := by decide +kernel
theorem dX4_nextNode_81 : decode cX4_nextNode 81 = .ok (.iload_n 1, 1) := by decide +kernel
theorem dX4_nextNode_82 : decode cX4_nextNode 82 = .ok (.iload 5, 2) := by decide +kernel
theorem dX4_nextNode_84 : decode cX4_nextNode 84 = .ok (.iload_n 2, 1) := by decide +kernel
theorem dX4_nextNode_85 : decode cX4_nextNode 85 = .ok (.invokevirtual 42, 3) := by decide +kernel
theorem dX4_nextNode_88 : decode cX4_nextNode 88 = .ok (.ifCond .eq 22, 3) := by decide +kernel
theorem dX4_nextNode_91 : decode cX4_nextNode 91 = .ok (.aload_n 0, 1) := by decide +kernel
theorem dX4_nextNode_92 : decode cX4_nextNode 92 = .ok (.getfield 11, 3) := by decide +kernel
theorem dX4_nextNode_95 : decode cX4_nextNode 95 = .ok (.iload 5, 2) := by decide +kernel
theorem dX4_nextNode_97 : decode cX4_nextNode 97 = .ok (.aaload, 1) := by decide +kernel
theorem dX4_nextNode_98 : decode cX4_nextNode 98 = .ok (.iload 4, 2) := by decide +kernel
theorem dX4_nextNode_100 : decode cX4_nextNode 100 = .ok (.iaload, 1) := by decide +kernel
theorem dX4_nextNode_101 : decode cX4_nextNode 101 = .ok (.iload_n 3, 1) := by decide +kernel
theorem dX4_nextNode_102 : decode cX4_nextNode 102 = .ok (.iconst 1, 1) := by decide +kernel
theorem dX4_nextNode_103 : decode cX4_nextNode 103 = .ok (.isub, 1) := by decide +kernel
theorem dX4_nextNode_104 : decode cX4_nextNode 104 = .ok (.if_icmp .ne 6, 3) := by decide +kernel
theorem dX4_nextNode_107 : decode cX4_nextNode 107 = .ok (.iload 5, 2) := by decide +kernel
theorem dX4_nextNode_109 : decode cX4_nextNode 109 = .ok (.ireturn, 1) := by decide +kernel
theorem dX4_nextNode_110 : decode cX4_nextNode 110 = .ok (.iinc 5 1, 3) := by decide +kernel
theorem dX4_nextNode_113 : decode cX4_nextNode 113 = .ok (.goto (-48), 3) := by decide +kernel
theorem dX4_nextNode_116 : decode cX4_nextNode 116 = .ok (.iconst (-1), 1) := by decide +kernel
theorem dX4_nextNode_117 : decode cX4_nextNode 117 = .ok (.ireturn, 1) := by decide +kernel
set_option maxRecDepth 20000 in
theorem ggX4_reckon_J7_fill_53178 : GoodIn wsX4_reckon wsJ7_fill_53178 := goodIn_r _ [7] (by decide +kernel) (by decide +kernel)
set_option maxRecDepth 20000 in
theorem gX4_reckon_J7_fill_53178 : GoodIn wsX4_reckon (va_wsS RX4 46 yJ7_fill_53178 wsJ7_fill_53178) := goodIn_app (goodIn_of _ (by decide +kernel)) ggX4_reckon_J7_fill_53178
set_option maxRecDepth 20000 in
theorem ggX4_reckon_X4_stepBack : GoodIn wsX4_reckon wsX4_stepBack := goodIn_r _ [12, 2, 13, 14, 1, 15, 16, 17, 18, 19, 20, 21, 22, 23, 11, 24, 30, 31, 32, 33, 34, 35, 36, 37, 38, 39, 40] (by decide +kernel) (by decide +kernel)
set_option maxRecDepth 20000 in
theorem gX4_reckon_X4_stepBack : GoodIn wsX4_reckon (wsV RX4 52 RX4 yX4_stepBack wsX4_stepBack) := goodIn_app (goodIn_of _ (by decide +kernel)) ggX4_reckon_X4_stepBack
set_option maxRecDepth 20000 in
theorem ggX4_reckon_X4_writeDown : GoodIn wsX4_reckon wsX4_writeDown := goodIn_r _ [28, 2, 1, 29, 30, 31, 32, 33, 34, 35, 36, 37, 38, 39, 40] (by decide +kernel) (by decide +kernel)
set_option maxRecDepth 20000 in
theorem gX4_reckon_X4_writeDown : GoodIn wsX4_reckon (wsV RX4 56 RX4 yX4_writeDown wsX4_writeDown) := goodIn_app (goodIn_of _ (by decide +kernel)) ggX4_reckon_X4_writeDown
theorem dX4_reckon_0 : decode cX4_reckon 0 = .ok (.sipush 760, 3) := by decide +kernel
theorem dX4_reckon_3 : decode cX4_reckon 3 = .ok (.istore_n 1, 1) := by decide +kernel
theorem dX4_reckon_4 : decode cX4_reckon 4 = .ok (.aload_n 0, 1) := by decide +kernel
theorem dX4_reckon_5 : decode cX4_reckon 5 = .ok (.getfield 16, 3) := by decide +kernel
theorem dX4_reckon_8 : decode cX4_reckon 8 = .ok (.iload_n 1, 1) := by decide +kernel
theorem dX4_reckon_9 : decode cX4_reckon 9 = .ok (.invokestatic 46, 3) := by decide +kernel
theorem dX4_reckon_12 : decode cX4_reckon 12 = .ok (.iload_n 1, 1) := by decide +kernel
theorem dX4_reckon_13 : decode cX4_reckon 13 = .ok (.iconst 1, 1) := by decide +kernel
theorem dX4_reckon_14 : decode cX4_reckon 14 = .ok (.isub, 1) := by decide +kernel
theorem dX4_reckon_15 : decode cX4_reckon 15 = .ok (.istore_n 2, 1) := by decide +kernel
theorem dX4_reckon_16 : decode cX4_reckon 16 = .ok (.iload_n 2, 1) := by decide +kernel
theorem dX4_reckon_17 : decode cX4_reckon 17 = .ok (.ifCond .lt 26, 3) := by decide +kernel
theorem dX4_reckon_20 : decode cX4_reckon 20 = .ok (.aload_n 0, 1) := by decide +kernel
theorem dX4_reckon_21 : decode cX4_reckon 21 = .ok (.iload_n 2, 1) := by decide +kernel
theorem dX4_reckon_22 : decode cX4_reckon 22 = .ok (.invokevirtual 52, 3) := by decide +kernel
theorem dX4_reckon_25 : decode cX4_reckon 25 = .ok (.iload_n 2, 1) := by decide +kernel
theorem dX4_reckon_26 : decode cX4_reckon 26 = .ok (.sipush 360, 3) := by decide +kernel
theorem dX4_reckon_29 : decode cX4_reckon 29 = .ok (.if_icmp .ge 8, 3) := by decide +kernel
theorem dX4_reckon_32 : decode cX4_reckon 32 = .ok (.aload_n 0, 1) := by decide +kernel
theorem dX4_reckon_33 : decode cX4_reckon 33 = .ok (.iload_n 2, 1) := by decide +kernel
theorem dX4_reckon_34 : decode cX4_reckon 34 = .ok (.invokevirtual 56, 3) := by decide +kernel
theorem dX4_reckon_37 : decode cX4_reckon 37 = .ok (.iinc 2 (-1), 3) := by decide +kernel
theorem dX4_reckon_40 : decode cX4_reckon 40 = .ok (.goto (-24), 3) := by decide +kernel
theorem dX4_reckon_43 : decode cX4_reckon 43 = .ok (.aload_n 0, 1) := by decide +kernel
theorem dX4_reckon_44 : decode cX4_reckon 44 = .ok (.aload_n 0, 1) := by decide +kernel
theorem dX4_reckon_45 : decode cX4_reckon 45 = .ok (.getfield 27, 3) := by decide +kernel
theorem dX4_reckon_48 : decode cX4_reckon 48 = .ok (.getfield 34, 3) := by decide +kernel
theorem dX4_reckon_51 : decode cX4_reckon 51 = .ok (.putfield 23, 3) := by decide +kernel
theorem dX4_reckon_54 : decode cX4_reckon 54 = .ok (.return_, 1) := by decide +kernel
set_option maxRecDepth 20000 in
theorem ggX4_stepBack_X2_seenFrom : GoodIn wsX4_stepBack wsX2_seenFrom := goodIn_r _ [9, 10, 22, 23, 24, 25, 26] (by decide +kernel) (by decide +kernel)
set_option maxRecDepth 20000 in
theorem gX4_stepBack_X2_seenFrom : GoodIn wsX4_stepBack (wsV RX4 59 RX2 yX2_seenFrom wsX2_seenFrom) := goodIn_app (goodIn_of _ (by decide +kernel)) ggX4_stepBack_X2_seenFrom
set_option maxRecDepth 20000 in
theorem ggX4_stepBack_X4_soonestThrough : GoodIn wsX4_stepBack wsX4_soonestThrough := goodIn_r _ [15, 4, 1, 16, 17, 18, 19, 20, 21, 22, 23, 24, 25, 26] (by decide +kernel) (by decide +kernel)
set_option maxRecDepth 20000 in
theorem gX4_stepBack_X4_soonestThrough : GoodIn wsX4_stepBack (wsV RX4 63 RX4 yX4_soonestThrough wsX4_soonestThrough) := goodIn_app (goodIn_of _ (by decide +kernel)) ggX4_stepBack_X4_soonestThrough
theorem dX4_stepBack_0 : decode cX4_stepBack 0 = .ok (.iconst 0, 1) := by decide +kernel
theorem dX4_stepBack_1 : decode cX4_stepBack 1 = .ok (.istore_n 2, 1) := by decide +kernel
theorem dX4_stepBack_2 : decode cX4_stepBack 2 = .ok (.iload_n 2, 1) := by decide +kernel
theorem dX4_stepBack_3 : decode cX4_stepBack 3 = .ok (.aload_n 0, 1) := by decide +kernel
theorem dX4_stepBack_4 : decode cX4_stepBack 4 = .ok (.getfield 27, 3) := by decide +kernel
theorem dX4_stepBack_7 : decode cX4_stepBack 7 = .ok (.getfield 34, 3) := by decide +kernel
theorem dX4_stepBack_10 : decode cX4_stepBack 10 = .ok (.if_icmp .ge 43, 3) := by decide +kernel
theorem dX4_stepBack_13 : decode cX4_stepBack 13 = .ok (.aload_n 0, 1) := by decide +kernel
theorem dX4_stepBack_14 : decode cX4_stepBack 14 = .ok (.getfield 27, 3) := by decide +kernel
theorem dX4_stepBack_17 : decode cX4_stepBack 17 = .ok (.iload_n 2, 1) := by decide +kernel
theorem dX4_stepBack_18 : decode cX4_stepBack 18 = .ok (.iload_n 1, 1) := by decide +kernel
theorem dX4_stepBack_19 : decode cX4_stepBack 19 = .ok (.invokevirtual 59, 3) := by decide +kernel
theorem dX4_stepBack_22 : decode cX4_stepBack 22 = .ok (.istore_n 3, 1) := by decide +kernel
theorem dX4_stepBack_23 : decode cX4_stepBack 23 = .ok (.aload_n 0, 1) := by decide +kernel
theorem dX4_stepBack_24 : decode cX4_stepBack 24 = .ok (.getfield 20, 3) := by decide +kernel
theorem dX4_stepBack_27 : decode cX4_stepBack 27 = .ok (.iload_n 2, 1) := by decide +kernel
theorem dX4_stepBack_28 : decode cX4_stepBack 28 = .ok (.iload_n 2, 1) := by decide +kernel
theorem dX4_stepBack_29 : decode cX4_stepBack 29 = .ok (.aload_n 0, 1) := by decide +kernel
theorem dX4_stepBack_30 : decode cX4_stepBack 30 = .ok (.getfield 31, 3) := by decide +kernel
theorem dX4_stepBack_33 : decode cX4_stepBack 33 = .ok (.if_icmp .ne 7, 3) := by decide +kernel
theorem dX4_stepBack_36 : decode cX4_stepBack 36 = .ok (.iload_n 1, 1) := by decide +kernel
theorem dX4_stepBack_37 : decode cX4_stepBack 37 = .ok (.goto 9, 3) := by decide +kernel
theorem dX4_stepBack_40 : decode cX4_stepBack 40 = .ok (.aload_n 0, 1) := by decide +kernel
theorem dX4_stepBack_41 : decode cX4_stepBack 41 = .ok (.iload_n 2, 1) := by decide +kernel
theorem dX4_stepBack_42 : decode cX4_stepBack 42 = .ok (.iload_n 3, 1) := by decide +kernel
theorem dX4_stepBack_43 : decode cX4_stepBack 43 = .ok (.invokevirtual 63, 3) := by decide +kernel
theorem dX4_stepBack_46 : decode cX4_stepBack 46 = .ok (.iastore, 1) := by decide +kernel
theorem dX4_stepBack_47 : decode cX4_stepBack 47 = .ok (.iinc 2 1, 3) := by decide +kernel
theorem dX4_stepBack_50 : decode cX4_stepBack 50 = .ok (.goto (-48), 3) := by decide +kernel
theorem dX4_stepBack_53 : decode cX4_stepBack 53 = .ok (.aload_n 0, 1) := by decide +kernel
theorem dX4_stepBack_54 : decode cX4_stepBack 54 = .ok (.getfield 16, 3) := by decide +kernel
theorem dX4_stepBack_57 : decode cX4_stepBack 57 = .ok (.astore_n 2, 1) := by decide +kernel
theorem dX4_stepBack_58 : decode cX4_stepBack 58 = .ok (.aload_n 0, 1) := by decide +kernel
theorem dX4_stepBack_59 : decode cX4_stepBack 59 = .ok (.aload_n 0, 1) := by decide +kernel
theorem dX4_stepBack_60 : decode cX4_stepBack 60 = .ok (.getfield 20, 3) := by decide +kernel
theorem dX4_stepBack_63 : decode cX4_stepBack 63 = .ok (.putfield 16, 3) := by decide +kernel
theorem dX4_stepBack_66 : decode cX4_stepBack 66 = .ok (.aload_n 0, 1) := by decide +kernel
theorem dX4_stepBack_67 : decode cX4_stepBack 67 = .ok (.aload_n 2, 1) := by decide +kernel
theorem dX4_stepBack_68 : decode cX4_stepBack 68 = .ok (.putfield 20, 3) := by decide +kernel
theorem dX4_stepBack_71 : decode cX4_stepBack 71 = .ok (.return_, 1) := by decide +kernel
theorem dX4_soonestThrough_0 : decode cX4_soonestThrough 0 = .ok (.aload_n 0, 1) := by decide +kernel
theorem dX4_soonestThrough_1 : decode cX4_soonestThrough 1 = .ok (.getfield 16, 3) := by decide +kernel
theorem dX4_soonestThrough_4 : decode cX4_soonestThrough 4 = .ok (.iload_n 1, 1) := by decide +kernel
theorem dX4_soonestThrough_5 : decode cX4_soonestThrough 5 = .ok (.iaload, 1) := by decide +kernel
theorem dX4_soonestThrough_6 : decode cX4_soonestThrough 6 = .ok (.istore_n 3, 1) := by decide +kernel
theorem dX4_soonestThrough_7 : decode cX4_soonestThrough 7 = .ok (.iconst 0, 1) := by decide +kernel
theorem dX4_soonestThrough_8 : decode cX4_soonestThrough 8 = .ok (.istore 4, 2) := by decide +kernel
theorem dX4_soonestThrough_10 : decode cX4_soonestThrough 10 = .ok (.iload 4, 2) := by decide +kernel
theorem dX4_soonestThrough_12 : decode cX4_soonestThrough 12 = .ok (.aload_n 0, 1) := by decide +kernel
theorem dX4_soonestThrough_13 : decode cX4_soonestThrough 13 = .ok (.getfield 27, 3) := by decide +kernel
theorem dX4_soonestThrough_16 : decode cX4_soonestThrough 16 = .ok (.getfield 34, 3) := by decide +kernel
theorem dX4_soonestThrough_19 : decode cX4_soonestThrough 19 = .ok (.if_icmp .ge 37, 3) := by decide +kernel
theorem dX4_soonestThrough_22 : decode cX4_soonestThrough 22 = .ok (.iload_n 2, 1) := by decide +kernel
theorem dX4_soonestThrough_23 : decode cX4_soonestThrough 23 = .ok (.iload 4, 2) := by decide +kernel
theorem dX4_soonestThrough_25 : decode cX4_soonestThrough 25 = .ok (.ishr, 1) := by decide +kernel
theorem dX4_soonestThrough_26 : decode cX4_soonestThrough 26 = .ok (.iconst 1, 1) := by decide +kernel
theorem dX4_soonestThrough_27 : decode cX4_soonestThrough 27 = .ok (.iand, 1) := by decide +kernel
theorem dX4_soonestThrough_28 : decode cX4_soonestThrough 28 = .ok (.ifCond .eq 22, 3) := by decide +kernel
theorem dX4_soonestThrough_31 : decode cX4_soonestThrough 31 = .ok (.aload_n 0, 1) := by decide +kernel
theorem dX4_soonestThrough_32 : decode cX4_soonestThrough 32 = .ok (.getfield 16, 3) := by decide +kernel
theorem dX4_soonestThrough_35 : decode cX4_soonestThrough 35 = .ok (.iload 4, 2) := by decide +kernel
theorem dX4_soonestThrough_37 : decode cX4_soonestThrough 37 = .ok (.iaload, 1) := by decide +kernel
theorem dX4_soonestThrough_38 : decode cX4_soonestThrough 38 = .ok (.iload_n 3, 1) := by decide +kernel
theorem dX4_soonestThrough_39 : decode cX4_soonestThrough 39 = .ok (.if_icmp .ge 11, 3) := by decide +kernel
theorem dX4_soonestThrough_42 : decode cX4_soonestThrough 42 = .ok (.aload_n 0, 1) := by decide +kernel
theorem dX4_soonestThrough_43 : decode cX4_soonestThrough 43 = .ok (.getfield 16, 3) := by decide +kernel
theorem dX4_soonestThrough_46 : decode cX4_soonestThrough 46 = .ok (.iload 4, 2) := by decide +kernel
theorem dX4_soonestThrough_48 : decode cX4_soonestThrough 48 = .ok (.iaload, 1) := by decide +kernel
theorem dX4_soonestThrough_49 : decode cX4_soonestThrough 49 = .ok (.istore_n 3, 1) := by decide +kernel
theorem dX4_soonestThrough_50 : decode cX4_soonestThrough 50 = .ok (.iinc 4 1, 3) := by decide +kernel
theorem dX4_soonestThrough_53 : decode cX4_soonestThrough 53 = .ok (.goto (-43), 3) := by decide +kernel
theorem dX4_soonestThrough_56 : decode cX4_soonestThrough 56 = .ok (.iload_n 3, 1) := by decide +kernel
theorem dX4_soonestThrough_57 : decode cX4_soonestThrough 57 = .ok (.ireturn, 1) := by decide +kernel
theorem dX4_writeDown_0 : decode cX4_writeDown 0 = .ok (.iconst 0, 1) := by decide +kernel
theorem dX4_writeDown_1 : decode cX4_writeDown 1 = .ok (.istore_n 2, 1) := by decide +kernel
theorem dX4_writeDown_2 : decode cX4_writeDown 2 = .ok (.iload_n 2, 1) := by decide +kernel
theorem dX4_writeDown_3 : decode cX4_writeDown 3 = .ok (.aload_n 0, 1) := by decide +kernel
theorem dX4_writeDown_4 : decode cX4_writeDown 4 = .ok (.getfield 27, 3) := by decide +kernel
theorem dX4_writeDown_7 : decode cX4_writeDown 7 = .ok (.getfield 34, 3) := by decide +kernel
theorem dX4_writeDown_10 : decode cX4_writeDown 10 = .ok (.if_icmp .ge 38, 3) := by decide +kernel
theorem dX4_writeDown_13 : decode cX4_writeDown 13 = .ok (.aload_n 0, 1) := by decide +kernel
theorem dX4_writeDown_14 : decode cX4_writeDown 14 = .ok (.getfield 16, 3) := by decide +kernel
theorem dX4_writeDown_17 : decode cX4_writeDown 17 = .ok (.iload_n 2, 1) := by decide +kernel
theorem dX4_writeDown_18 : decode cX4_writeDown 18 = .ok (.iaload, 1) := by decide +kernel
theorem dX4_writeDown_19 : decode cX4_writeDown 19 = .ok (.iload_n 1, 1) := by decide +kernel
theorem dX4_writeDown_20 : decode cX4_writeDown 20 = .ok (.isub, 1) := by decide +kernel
theorem dX4_writeDown_21 : decode cX4_writeDown 21 = .ok (.istore_n 3, 1) := by decide +kernel
theorem dX4_writeDown_22 : decode cX4_writeDown 22 = .ok (.aload_n 0, 1) := by decide +kernel
theorem dX4_writeDown_23 : decode cX4_writeDown 23 = .ok (.getfield 11, 3) := by decide +kernel
theorem dX4_writeDown_26 : decode cX4_writeDown 26 = .ok (.iload_n 2, 1) := by decide +kernel
theorem dX4_writeDown_27 : decode cX4_writeDown 27 = .ok (.aaload, 1) := by decide +kernel
theorem dX4_writeDown_28 : decode cX4_writeDown 28 = .ok (.iload_n 1, 1) := by decide +kernel
theorem dX4_writeDown_29 : decode cX4_writeDown 29 = .ok (.iload_n 3, 1) := by decide +kernel
theorem dX4_writeDown_30 : decode cX4_writeDown 30 = .ok (.sipush 400, 3) := by decide +kernel
theorem dX4_writeDown_33 : decode cX4_writeDown 33 = .ok (.if_icmp .gt 7, 3) := by decide +kernel
theorem dX4_writeDown_36 : decode cX4_writeDown 36 = .ok (.iload_n 3, 1) := by decide +kernel
theorem dX4_writeDown_37 : decode cX4_writeDown 37 = .ok (.goto 4, 3) := by decide +kernel
theorem dX4_writeDown_40 : decode cX4_writeDown 40 = .ok (.iconst (-1), 1) := by decide +kernel
theorem dX4_writeDown_41 : decode cX4_writeDown 41 = .ok (.iastore, 1) := by decide +kernel
theorem dX4_writeDown_42 : decode cX4_writeDown 42 = .ok (.iinc 2 1, 3) := by decide +kernel
theorem dX4_writeDown_45 : decode cX4_writeDown 45 = .ok (.goto (-43), 3) := by decide +kernel
theorem dX4_writeDown_48 : decode cX4_writeDown 48 = .ok (.return_, 1) := by decide +kernel
theorem dJ6_bitCount_0f7a4_0 : decode cJ6_bitCount_0f7a4 0 = .ok (.iload_n 0, 1) := by decide +kernel
theorem dJ6_bitCount_0f7a4_1 : decode cJ6_bitCount_0f7a4 1 = .ok (.iload_n 0, 1) := by decide +kernel
theorem dJ6_bitCount_0f7a4_2 : decode cJ6_bitCount_0f7a4 2 = .ok (.iconst 1, 1) := by decide +kernel
theorem dJ6_bitCount_0f7a4_3 : decode cJ6_bitCount_0f7a4 3 = .ok (.iushr, 1) := by decide +kernel
theorem dJ6_bitCount_0f7a4_4 : decode cJ6_bitCount_0f7a4 4 = .ok (.ldc_w 265, 3) := by decide +kernel
theorem dJ6_bitCount_0f7a4_7 : decode cJ6_bitCount_0f7a4 7 = .ok (.iand, 1) := by decide +kernel
theorem dJ6_bitCount_0f7a4_8 : decode cJ6_bitCount_0f7a4 8 = .ok (.isub, 1) := by decide +kernel
theorem dJ6_bitCount_0f7a4_9 : decode cJ6_bitCount_0f7a4 9 = .ok (.istore_n 0, 1) := by decide +kernel
theorem dJ6_bitCount_0f7a4_10 : decode cJ6_bitCount_0f7a4 10 = .ok (.iload_n 0, 1) := by decide +kernel
theorem dJ6_bitCount_0f7a4_11 : decode cJ6_bitCount_0f7a4 11 = .ok (.ldc_w 266, 3) := by decide +kernel
theorem dJ6_bitCount_0f7a4_14 : decode cJ6_bitCount_0f7a4 14 = .ok (.iand, 1) := by decide +kernel
theorem dJ6_bitCount_0f7a4_15 : decode cJ6_bitCount_0f7a4 15 = .ok (.iload_n 0, 1) := by decide +kernel
theorem dJ6_bitCount_0f7a4_16 : decode cJ6_bitCount_0f7a4 16 = .ok (.iconst 2, 1) := by decide +kernel
theorem dJ6_bitCount_0f7a4_17 : decode cJ6_bitCount_0f7a4 17 = .ok (.iushr, 1) := by decide +kernel
theorem dJ6_bitCount_0f7a4_18 : decode cJ6_bitCount_0f7a4 18 = .ok (.ldc_w 266, 3) := by decide +kernel
theorem dJ6_bitCount_0f7a4_21 : decode cJ6_bitCount_0f7a4 21 = .ok (.iand, 1) := by decide +kernel
theorem dJ6_bitCount_0f7a4_22 : decode cJ6_bitCount_0f7a4 22 = .ok (.iadd, 1) := by decide +kernel
theorem dJ6_bitCount_0f7a4_23 : decode cJ6_bitCount_0f7a4 23 = .ok (.istore_n 0, 1) := by decide +kernel
theorem dJ6_bitCount_0f7a4_24 : decode cJ6_bitCount_0f7a4 24 = .ok (.iload_n 0, 1) := by decide +kernel
theorem dJ6_bitCount_0f7a4_25 : decode cJ6_bitCount_0f7a4 25 = .ok (.iload_n 0, 1) := by decide +kernel
theorem dJ6_bitCount_0f7a4_26 : decode cJ6_bitCount_0f7a4 26 = .ok (.iconst 4, 1) := by decide +kernel
theorem dJ6_bitCount_0f7a4_27 : decode cJ6_bitCount_0f7a4 27 = .ok (.iushr, 1) := by decide +kernel
theorem dJ6_bitCount_0f7a4_28 : decode cJ6_bitCount_0f7a4 28 = .ok (.iadd, 1) := by decide +kernel
theorem dJ6_bitCount_0f7a4_29 : decode cJ6_bitCount_0f7a4 29 = .ok (.ldc_w 267, 3) := by decide +kernel
theorem dJ6_bitCount_0f7a4_32 : decode cJ6_bitCount_0f7a4 32 = .ok (.iand, 1) := by decide +kernel
theorem dJ6_bitCount_0f7a4_33 : decode cJ6_bitCount_0f7a4 33 = .ok (.istore_n 0, 1) := by decide +kernel
theorem dJ6_bitCount_0f7a4_34 : decode cJ6_bitCount_0f7a4 34 = .ok (.iload_n 0, 1) := by decide +kernel
theorem dJ6_bitCount_0f7a4_35 : decode cJ6_bitCount_0f7a4 35 = .ok (.iload_n 0, 1) := by decide +kernel
theorem dJ6_bitCount_0f7a4_36 : decode cJ6_bitCount_0f7a4 36 = .ok (.bipush 8, 2) := by decide +kernel
theorem dJ6_bitCount_0f7a4_38 : decode cJ6_bitCount_0f7a4 38 = .ok (.iushr, 1) := by decide +kernel
theorem dJ6_bitCount_0f7a4_39 : decode cJ6_bitCount_0f7a4 39 = .ok (.iadd, 1) := by decide +kernel
theorem dJ6_bitCount_0f7a4_40 : decode cJ6_bitCount_0f7a4 40 = .ok (.istore_n 0, 1) := by decide +kernel
theorem dJ6_bitCount_0f7a4_41 : decode cJ6_bitCount_0f7a4 41 = .ok (.iload_n 0, 1) := by decide +kernel
theorem dJ6_bitCount_0f7a4_42 : decode cJ6_bitCount_0f7a4 42 = .ok (.iload_n 0, 1) := by decide +kernel
theorem dJ6_bitCount_0f7a4_43 : decode cJ6_bitCount_0f7a4 43 = .ok (.bipush 16, 2) := by decide +kernel
theorem dJ6_bitCount_0f7a4_45 : decode cJ6_bitCount_0f7a4 45 = .ok (.iushr, 1) := by decide +kernel
theorem dJ6_bitCount_0f7a4_46 : decode cJ6_bitCount_0f7a4 46 = .ok (.iadd, 1) := by decide +kernel
theorem dJ6_bitCount_0f7a4_47 : decode cJ6_bitCount_0f7a4 47 = .ok (.istore_n 0, 1) := by decide +kernel
theorem dJ6_bitCount_0f7a4_48 : decode cJ6_bitCount_0f7a4 48 = .ok (.iload_n 0, 1) := by decide +kernel
theorem dJ6_bitCount_0f7a4_49 : decode cJ6_bitCount_0f7a4 49 = .ok (.bipush 63, 2) := by decide +kernel
theorem dJ6_bitCount_0f7a4_51 : decode cJ6_bitCount_0f7a4 51 = .ok (.iand, 1) := by decide +kernel
theorem dJ6_bitCount_0f7a4_52 : decode cJ6_bitCount_0f7a4 52 = .ok (.ireturn, 1) := by decide +kernel
theorem dJ9_floorMod_7cf53_0 : decode cJ9_floorMod_7cf53 0 = .ok (.iload_n 0, 1) := by decide +kernel
theorem dJ9_floorMod_7cf53_1 : decode cJ9_floorMod_7cf53 1 = .ok (.iload_n 1, 1) := by decide +kernel
theorem dJ9_floorMod_7cf53_2 : decode cJ9_floorMod_7cf53 2 = .ok (.irem, 1) := by decide +kernel
theorem dJ9_floorMod_7cf53_3 : decode cJ9_floorMod_7cf53 3 = .ok (.istore_n 2, 1) := by decide +kernel
theorem dJ9_floorMod_7cf53_4 : decode cJ9_floorMod_7cf53 4 = .ok (.iload_n 0, 1) := by decide +kernel
theorem dJ9_floorMod_7cf53_5 : decode cJ9_floorMod_7cf53 5 = .ok (.iload_n 1, 1) := by decide +kernel
theorem dJ9_floorMod_7cf53_6 : decode cJ9_floorMod_7cf53 6 = .ok (.ixor, 1) := by decide +kernel
theorem dJ9_floorMod_7cf53_7 : decode cJ9_floorMod_7cf53 7 = .ok (.ifCond .ge 11, 3) := by decide +kernel
theorem dJ9_floorMod_7cf53_10 : decode cJ9_floorMod_7cf53 10 = .ok (.iload_n 2, 1) := by decide +kernel
theorem dJ9_floorMod_7cf53_11 : decode cJ9_floorMod_7cf53 11 = .ok (.ifCond .eq 7, 3) := by decide +kernel
theorem dJ9_floorMod_7cf53_14 : decode cJ9_floorMod_7cf53 14 = .ok (.iload_n 2, 1) := by decide +kernel
theorem dJ9_floorMod_7cf53_15 : decode cJ9_floorMod_7cf53 15 = .ok (.iload_n 1, 1) := by decide +kernel
theorem dJ9_floorMod_7cf53_16 : decode cJ9_floorMod_7cf53 16 = .ok (.iadd, 1) := by decide +kernel
theorem dJ9_floorMod_7cf53_17 : decode cJ9_floorMod_7cf53 17 = .ok (.ireturn, 1) := by decide +kernel
theorem dJ9_floorMod_7cf53_18 : decode cJ9_floorMod_7cf53 18 = .ok (.iload_n 2, 1) := by decide +kernel
theorem dJ9_floorMod_7cf53_19 : decode cJ9_floorMod_7cf53 19 = .ok (.ireturn, 1) := by decide +kernel
theorem dJ9_abs_0f7a4_0 : decode cJ9_abs_0f7a4 0 = .ok (.iload_n 0, 1) := by decide +kernel
theorem dJ9_abs_0f7a4_1 : decode cJ9_abs_0f7a4 1 = .ok (.ifCond .ge 8, 3) := by decide +kernel
theorem dJ9_abs_0f7a4_4 : decode cJ9_abs_0f7a4 4 = .ok (.iload_n 0, 1) := by decide +kernel
theorem dJ9_abs_0f7a4_5 : decode cJ9_abs_0f7a4 5 = .ok (.ineg, 1) := by decide +kernel
theorem dJ9_abs_0f7a4_6 : decode cJ9_abs_0f7a4 6 = .ok (.goto 4, 3) := by decide +kernel
theorem dJ9_abs_0f7a4_9 : decode cJ9_abs_0f7a4 9 = .ok (.iload_n 0, 1) := by decide +kernel
theorem dJ9_abs_0f7a4_10 : decode cJ9_abs_0f7a4 10 = .ok (.ireturn, 1) := by decide +kernel
theorem dJ9_min_7cf53_0 : decode cJ9_min_7cf53 0 = .ok (.iload_n 0, 1) := by decide +kernel
theorem dJ9_min_7cf53_1 : decode cJ9_min_7cf53 1 = .ok (.iload_n 1, 1) := by decide +kernel
theorem dJ9_min_7cf53_2 : decode cJ9_min_7cf53 2 = .ok (.if_icmp .gt 7, 3) := by decide +kernel
theorem dJ9_min_7cf53_5 : decode cJ9_min_7cf53 5 = .ok (.iload_n 0, 1) := by decide +kernel
theorem dJ9_min_7cf53_6 : decode cJ9_min_7cf53 6 = .ok (.goto 4, 3) := by decide +kernel
theorem dJ9_min_7cf53_9 : decode cJ9_min_7cf53 9 = .ok (.iload_n 1, 1) := by decide +kernel
theorem dJ9_min_7cf53_10 : decode cJ9_min_7cf53 10 = .ok (.ireturn, 1) := by decide +kernel
theorem dJ7_fill_53178_0 : decode cJ7_fill_53178 0 = .ok (.iconst 0, 1) := by decide +kernel
theorem dJ7_fill_53178_1 : decode cJ7_fill_53178 1 = .ok (.istore_n 2, 1) := by decide +kernel
theorem dJ7_fill_53178_2 : decode cJ7_fill_53178 2 = .ok (.aload_n 0, 1) := by decide +kernel
theorem dJ7_fill_53178_3 : decode cJ7_fill_53178 3 = .ok (.arraylength, 1) := by decide +kernel
theorem dJ7_fill_53178_4 : decode cJ7_fill_53178 4 = .ok (.istore_n 3, 1) := by decide +kernel
theorem dJ7_fill_53178_5 : decode cJ7_fill_53178 5 = .ok (.iload_n 2, 1) := by decide +kernel
theorem dJ7_fill_53178_6 : decode cJ7_fill_53178 6 = .ok (.iload_n 3, 1) := by decide +kernel
theorem dJ7_fill_53178_7 : decode cJ7_fill_53178 7 = .ok (.if_icmp .ge 13, 3) := by decide +kernel
theorem dJ7_fill_53178_10 : decode cJ7_fill_53178 10 = .ok (.aload_n 0, 1) := by decide +kernel
theorem dJ7_fill_53178_11 : decode cJ7_fill_53178 11 = .ok (.iload_n 2, 1) := by decide +kernel
theorem dJ7_fill_53178_12 : decode cJ7_fill_53178 12 = .ok (.iload_n 1, 1) := by decide +kernel
theorem dJ7_fill_53178_13 : decode cJ7_fill_53178 13 = .ok (.iastore, 1) := by decide +kernel
theorem dJ7_fill_53178_14 : decode cJ7_fill_53178 14 = .ok (.iinc 2 1, 3) := by decide +kernel
theorem dJ7_fill_53178_17 : decode cJ7_fill_53178 17 = .ok (.goto (-12), 3) := by decide +kernel
theorem dJ7_fill_53178_20 : decode cJ7_fill_53178 20 = .ok (.return_, 1) := by decide +kernel
theorem dJ7_copyOf_59c91_0 : decode cJ7_copyOf_59c91 0 = .ok (.iload_n 1, 1) := by decide +kernel
theorem dJ7_copyOf_59c91_1 : decode cJ7_copyOf_59c91 1 = .ok (.aload_n 0, 1) := by decide +kernel
theorem dJ7_copyOf_59c91_2 : decode cJ7_copyOf_59c91 2 = .ok (.arraylength, 1) := by decide +kernel
theorem dJ7_copyOf_59c91_3 : decode cJ7_copyOf_59c91 3 = .ok (.if_icmp .ne 11, 3) := by decide +kernel
theorem dJ7_copyOf_59c91_6 : decode cJ7_copyOf_59c91 6 = .ok (.aload_n 0, 1) := by decide +kernel
theorem dJ7_copyOf_59c91_7 : decode cJ7_copyOf_59c91 7 = .ok (.invokevirtual 316, 3) := by decide +kernel
theorem dJ7_copyOf_59c91_10 : decode cJ7_copyOf_59c91 10 = .ok (.checkcast 317, 3) := by decide +kernel
theorem dJ7_copyOf_59c91_13 : decode cJ7_copyOf_59c91 13 = .ok (.areturn, 1) := by decide +kernel
theorem dJ7_copyOf_59c91_14 : decode cJ7_copyOf_59c91 14 = .ok (.iload_n 1, 1) := by decide +kernel
theorem dJ7_copyOf_59c91_15 : decode cJ7_copyOf_59c91 15 = .ok (.newarray .int, 2) := by decide +kernel
theorem dJ7_copyOf_59c91_17 : decode cJ7_copyOf_59c91 17 = .ok (.astore_n 2, 1) := by decide +kernel
theorem dJ7_copyOf_59c91_18 : decode cJ7_copyOf_59c91 18 = .ok (.aload_n 0, 1) := by decide +kernel
theorem dJ7_copyOf_59c91_19 : decode cJ7_copyOf_59c91 19 = .ok (.iconst 0, 1) := by decide +kernel
theorem dJ7_copyOf_59c91_20 : decode cJ7_copyOf_59c91 20 = .ok (.aload_n 2, 1) := by decide +kernel
theorem dJ7_copyOf_59c91_21 : decode cJ7_copyOf_59c91 21 = .ok (.iconst 0, 1) := by decide +kernel
theorem dJ7_copyOf_59c91_22 : decode cJ7_copyOf_59c91 22 = .ok (.aload_n 0, 1) := by decide +kernel
theorem dJ7_copyOf_59c91_23 : decode cJ7_copyOf_59c91 23 = .ok (.arraylength, 1) := by decide +kernel
theorem dJ7_copyOf_59c91_24 : decode cJ7_copyOf_59c91 24 = .ok (.iload_n 1, 1) := by decide +kernel
theorem dJ7_copyOf_59c91_25 : decode cJ7_copyOf_59c91 25 = .ok (.invokestatic 304, 3) := by decide +kernel
theorem dJ7_copyOf_59c91_28 : decode cJ7_copyOf_59c91 28 = .ok (.invokestatic 150, 3) := by decide +kernel
theorem dJ7_copyOf_59c91_31 : decode cJ7_copyOf_59c91 31 = .ok (.aload_n 2, 1) := by decide +kernel
theorem dJ7_copyOf_59c91_32 : decode cJ7_copyOf_59c91 32 = .ok (.areturn, 1) := by decide +kernel
abbrev vwCl : List vw_C := [(RX0, TX0, 8), (RX1, TX1, 2), (RX2, TX2, 5), (RX3, TX3, 3), (RX4, TX4, 6), (RX5, TX5, 9)]
end
section
set_option maxRecDepth 20000 in
theorem ggX5_init_X2_init : GoodIn wsX5_init wsX2_init := goodIn_r _ [23, 24, 2, 3, 14, 25, 26, 27, 28, 29, 30, 37, 38, 39, 40, 41] (by decide +kernel) (by decide +kernel)
set_option maxRecDepth 20000 in
theorem gX5_init_X2_init_n11 : GoodIn wsX5_init (wsX2_init) := ggX5_init_X2_init
set_option maxRecDepth 20000 in
theorem ggX5_init_X1_init : GoodIn wsX5_init wsX1_init := goodIn_r _ [33, 34, 2, 3, 14, 35, 36, 51, 52] (by decide +kernel) (by decide +kernel)
set_option maxRecDepth 20000 in
theorem gX5_init_X1_init : GoodIn wsX5_init (wsX1_init) := ggX5_init_X1_init
theorem dX5_init_0 : decode cX5_init 0 = .ok (.aload_n 0, 1) := by decide +kernel
theorem dX5_init_1 : decode cX5_init 1 = .ok (.invokespecial 3, 3) := by decide +kernel
theorem dX5_init_4 : decode cX5_init 4 = .ok (.aload_n 0, 1) := by decide +kernel
theorem dX5_init_5 : decode cX5_init 5 = .ok (.new 9, 3) := by decide +kernel
theorem dX5_init_8 : decode cX5_init 8 = .ok (.dup, 1) := by decide +kernel
theorem dX5_init_9 : decode cX5_init 9 = .ok (.invokespecial 11, 3) := by decide +kernel
theorem dX5_init_12 : decode cX5_init 12 = .ok (.putfield 12, 3) := by decide +kernel
theorem dX5_init_15 : decode cX5_init 15 = .ok (.aload_n 0, 1) := by decide +kernel
theorem dX5_init_16 : decode cX5_init 16 = .ok (.new 16, 3) := by decide +kernel
theorem dX5_init_19 : decode cX5_init 19 = .ok (.dup, 1) := by decide +kernel
theorem dX5_init_20 : decode cX5_init 20 = .ok (.aload_n 0, 1) := by decide +kernel
theorem dX5_init_21 : decode cX5_init 21 = .ok (.getfield 12, 3) := by decide +kernel
theorem dX5_init_24 : decode cX5_init 24 = .ok (.invokespecial 18, 3) := by decide +kernel
theorem dX5_init_27 : decode cX5_init 27 = .ok (.putfield 21, 3) := by decide +kernel
theorem dX5_init_30 : decode cX5_init 30 = .ok (.aload_n 0, 1) := by decide +kernel
theorem dX5_init_31 : decode cX5_init 31 = .ok (.bipush 10, 2) := by decide +kernel
theorem dX5_init_33 : decode cX5_init 33 = .ok (.anewarray 25, 3) := by decide +kernel
theorem dX5_init_36 : decode cX5_init 36 = .ok (.putfield 27, 3) := by decide +kernel
theorem dX5_init_39 : decode cX5_init 39 = .ok (.aload_n 0, 1) := by decide +kernel
theorem dX5_init_40 : decode cX5_init 40 = .ok (.bipush 10, 2) := by decide +kernel
theorem dX5_init_42 : decode cX5_init 42 = .ok (.newarray .int, 2) := by decide +kernel
theorem dX5_init_44 : decode cX5_init 44 = .ok (.putfield 31, 3) := by decide +kernel
theorem dX5_init_47 : decode cX5_init 47 = .ok (.aload_n 0, 1) := by decide +kernel
theorem dX5_init_48 : decode cX5_init 48 = .ok (.bipush 20, 2) := by decide +kernel
theorem dX5_init_50 : decode cX5_init 50 = .ok (.anewarray 35, 3) := by decide +kernel
theorem dX5_init_53 : decode cX5_init 53 = .ok (.putfield 37, 3) := by decide +kernel
theorem dX5_init_56 : decode cX5_init 56 = .ok (.aload_n 0, 1) := by decide +kernel
theorem dX5_init_57 : decode cX5_init 57 = .ok (.iconst 0, 1) := by decide +kernel
theorem dX5_init_58 : decode cX5_init 58 = .ok (.putfield 41, 3) := by decide +kernel
theorem dX5_init_61 : decode cX5_init 61 = .ok (.aload_n 0, 1) := by decide +kernel
theorem dX5_init_62 : decode cX5_init 62 = .ok (.iconst 0, 1) := by decide +kernel
theorem dX5_init_63 : decode cX5_init 63 = .ok (.putfield 45, 3) := by decide +kernel
theorem dX5_init_66 : decode cX5_init 66 = .ok (.aload_n 0, 1) := by decide +kernel
theorem dX5_init_67 : decode cX5_init 67 = .ok (.iconst 0, 1) := by decide +kernel
theorem dX5_init_68 : decode cX5_init 68 = .ok (.putfield 48, 3) := by decide +kernel
theorem dX5_init_71 : decode cX5_init 71 = .ok (.aload_n 0, 1) := by decide +kernel
theorem dX5_init_72 : decode cX5_init 72 = .ok (.iconst 0, 1) := by decide +kernel
theorem dX5_init_73 : decode cX5_init 73 = .ok (.putfield 51, 3) := by decide +kernel
theorem dX5_init_76 : decode cX5_init 76 = .ok (.return_, 1) := by decide +kernel
set_option maxRecDepth 20000 in
theorem ggX5_addStation_X5_inRange : GoodIn wsX5_addStation wsX5_inRange := goodIn_r _ [15] (by decide +kernel) (by decide +kernel)
set_option maxRecDepth 20000 in
theorem gX5_addStation_X5_inRange : GoodIn wsX5_addStation (va_wsS RX5 54 yX5_inRange wsX5_inRange) := goodIn_app (goodIn_of _ (by decide +kernel)) ggX5_addStation_X5_inRange
set_option maxRecDepth 20000 in
theorem ggX5_addStation_X5_requireArgument : GoodIn wsX5_addStation wsX5_requireArgument := goodIn_ca (goodIn_r _ [18, 19, 20] (by decide +kernel) (by decide +kernel)) (goodIn_sub (fun _ h => List.mem_cons_of_mem _ (List.mem_append_right _ h)) (by decide +kernel))
set_option maxRecDepth 20000 in
theorem gX5_addStation_X5_requireArgument : GoodIn wsX5_addStation (va_wsS RX5 58 yX5_requireArgument wsX5_requireArgument) := goodIn_app (goodIn_of _ (by decide +kernel)) ggX5_addStation_X5_requireArgument
set_option maxRecDepth 20000 in
theorem ggX5_addStation_X2_addNode : GoodIn wsX5_addStation wsX2_addNode := goodIn_r _ [25, 26, 27, 28, 29, 30, 31, 32, 24, 33, 34, 35, 36, 37, 38, 39, 40, 41, 42, 43, 44, 45, 46, 47, 48, 49, 50, 51, 52, 53, 54, 55, 56, 114, 115, 116, 117, 118] (by decide +kernel) (by decide +kernel)
set_option maxRecDepth 20000 in
theorem gX5_addStation_X2_addNode : GoodIn wsX5_addStation (wsV RX5 69 RX2 yX2_addNode wsX2_addNode) := goodIn_app (goodIn_of _ (by decide +kernel)) ggX5_addStation_X2_addNode
set_option maxRecDepth 20000 in
theorem ggX5_addStation_X4_init : GoodIn wsX5_addStation wsX4_init := goodIn_r _ [59, 60, 61, 62, 63, 64, 65, 66, 67, 68, 69, 70, 108, 109, 110, 111, 112, 113] (by decide +kernel) (by decide +kernel)
set_option maxRecDepth 20000 in
theorem gX5_addStation_X4_init : GoodIn wsX5_addStation (wsX4_init) := ggX5_addStation_X4_init
set_option maxRecDepth 20000 in
theorem ggX5_addStation_X3_init : GoodIn wsX5_addStation wsX3_init := goodIn_r _ [73, 74, 61, 62, 75, 76, 77, 105, 106, 107] (by decide +kernel) (by decide +kernel)
set_option maxRecDepth 20000 in
theorem gX5_addStation_X3_init : GoodIn wsX5_addStation (wsX3_init) := ggX5_addStation_X3_init
set_option maxRecDepth 20000 in
theorem ggX5_addStation_X5_lookForRelay : GoodIn wsX5_addStation wsX5_lookForRelay := goodIn_r _ [81, 4, 82, 83, 84, 85, 24, 86, 87, 88, 89, 90, 34, 91, 92, 93, 94, 95, 105, 106, 107, 96, 97, 98, 99, 100, 101, 102, 103, 104, 114, 115, 116, 117, 118] (by decide +kernel) (by decide +kernel)
set_option maxRecDepth 20000 in
theorem gX5_addStation_X5_lookForRelay : GoodIn wsX5_addStation (wsV RX5 81 RX5 yX5_lookForRelay wsX5_lookForRelay) := goodIn_app (goodIn_of _ (by decide +kernel)) ggX5_addStation_X5_lookForRelay
theorem dX5_addStation_0 : decode cX5_addStation 0 = .ok (.iload_n 1, 1) := by decide +kernel
theorem dX5_addStation_1 : decode cX5_addStation 1 = .ok (.iconst 0, 1) := by decide +kernel
theorem dX5_addStation_2 : decode cX5_addStation 2 = .ok (.sipush 359, 3) := by decide +kernel
theorem dX5_addStation_5 : decode cX5_addStation 5 = .ok (.invokestatic 54, 3) := by decide +kernel
theorem dX5_addStation_8 : decode cX5_addStation 8 = .ok (.invokestatic 58, 3) := by decide +kernel
theorem dX5_addStation_11 : decode cX5_addStation 11 = .ok (.aload_n 0, 1) := by decide +kernel
theorem dX5_addStation_12 : decode cX5_addStation 12 = .ok (.getfield 41, 3) := by decide +kernel
theorem dX5_addStation_15 : decode cX5_addStation 15 = .ok (.iconst 4, 1) := by decide +kernel
theorem dX5_addStation_16 : decode cX5_addStation 16 = .ok (.if_icmp .lt 13, 3) := by decide +kernel
theorem dX5_addStation_19 : decode cX5_addStation 19 = .ok (.new 62, 3) := by decide +kernel
theorem dX5_addStation_22 : decode cX5_addStation 22 = .ok (.dup, 1) := by decide +kernel
theorem dX5_addStation_23 : decode cX5_addStation 23 = .ok (.ldc 64, 2) := by decide +kernel
theorem dX5_addStation_25 : decode cX5_addStation 25 = .ok (.invokespecial 66, 3) := by decide +kernel
theorem dX5_addStation_28 : decode cX5_addStation 28 = .ok (.athrow, 1) := by decide +kernel
theorem dX5_addStation_29 : decode cX5_addStation 29 = .ok (.aload_n 0, 1) := by decide +kernel
theorem dX5_addStation_30 : decode cX5_addStation 30 = .ok (.getfield 12, 3) := by decide +kernel
theorem dX5_addStation_33 : decode cX5_addStation 33 = .ok (.iload_n 1, 1) := by decide +kernel
theorem dX5_addStation_34 : decode cX5_addStation 34 = .ok (.iconst 0, 1) := by decide +kernel
theorem dX5_addStation_35 : decode cX5_addStation 35 = .ok (.iconst (-1), 1) := by decide +kernel
theorem dX5_addStation_36 : decode cX5_addStation 36 = .ok (.invokevirtual 69, 3) := by decide +kernel
theorem dX5_addStation_39 : decode cX5_addStation 39 = .ok (.istore_n 2, 1) := by decide +kernel
theorem dX5_addStation_40 : decode cX5_addStation 40 = .ok (.new 25, 3) := by decide +kernel
theorem dX5_addStation_43 : decode cX5_addStation 43 = .ok (.dup, 1) := by decide +kernel
theorem dX5_addStation_44 : decode cX5_addStation 44 = .ok (.new 73, 3) := by decide +kernel
theorem dX5_addStation_47 : decode cX5_addStation 47 = .ok (.dup, 1) := by decide +kernel
theorem dX5_addStation_48 : decode cX5_addStation 48 = .ok (.aload_n 0, 1) := by decide +kernel
theorem dX5_addStation_49 : decode cX5_addStation 49 = .ok (.getfield 12, 3) := by decide +kernel
theorem dX5_addStation_52 : decode cX5_addStation 52 = .ok (.iload_n 2, 1) := by decide +kernel
theorem dX5_addStation_53 : decode cX5_addStation 53 = .ok (.invokespecial 75, 3) := by decide +kernel
theorem dX5_addStation_56 : decode cX5_addStation 56 = .ok (.invokespecial 78, 3) := by decide +kernel
theorem dX5_addStation_59 : decode cX5_addStation 59 = .ok (.astore_n 3, 1) := by decide +kernel
theorem dX5_addStation_60 : decode cX5_addStation 60 = .ok (.aload_n 0, 1) := by decide +kernel
theorem dX5_addStation_61 : decode cX5_addStation 61 = .ok (.getfield 27, 3) := by decide +kernel
theorem dX5_addStation_64 : decode cX5_addStation 64 = .ok (.iload_n 2, 1) := by decide +kernel
theorem dX5_addStation_65 : decode cX5_addStation 65 = .ok (.aload_n 3, 1) := by decide +kernel
theorem dX5_addStation_66 : decode cX5_addStation 66 = .ok (.aastore, 1) := by decide +kernel
theorem dX5_addStation_67 : decode cX5_addStation 67 = .ok (.aload_n 0, 1) := by decide +kernel
theorem dX5_addStation_68 : decode cX5_addStation 68 = .ok (.dup, 1) := by decide +kernel
theorem dX5_addStation_69 : decode cX5_addStation 69 = .ok (.getfield 41, 3) := by decide +kernel
theorem dX5_addStation_72 : decode cX5_addStation 72 = .ok (.iconst 1, 1) := by decide +kernel
theorem dX5_addStation_73 : decode cX5_addStation 73 = .ok (.iadd, 1) := by decide +kernel
theorem dX5_addStation_74 : decode cX5_addStation 74 = .ok (.putfield 41, 3) := by decide +kernel
theorem dX5_addStation_77 : decode cX5_addStation 77 = .ok (.aload_n 0, 1) := by decide +kernel
theorem dX5_addStation_78 : decode cX5_addStation 78 = .ok (.iload_n 2, 1) := by decide +kernel
theorem dX5_addStation_79 : decode cX5_addStation 79 = .ok (.aload_n 3, 1) := by decide +kernel
theorem dX5_addStation_80 : decode cX5_addStation 80 = .ok (.invokevirtual 81, 3) := by decide +kernel
theorem dX5_addStation_83 : decode cX5_addStation 83 = .ok (.iload_n 2, 1) := by decide +kernel
theorem dX5_addStation_84 : decode cX5_addStation 84 = .ok (.ireturn, 1) := by decide +kernel
set_option maxRecDepth 20000 in
theorem ggX5_addRelay_X5_inRange : GoodIn wsX5_addRelay wsX5_inRange := goodIn_r _ [9] (by decide +kernel) (by decide +kernel)
set_option maxRecDepth 20000 in
theorem gX5_addRelay_X5_inRange : GoodIn wsX5_addRelay (va_wsS RX5 54 yX5_inRange wsX5_inRange) := goodIn_app (goodIn_of _ (by decide +kernel)) ggX5_addRelay_X5_inRange
set_option maxRecDepth 20000 in
theorem ggX5_addRelay_X5_requireArgument : GoodIn wsX5_addRelay wsX5_requireArgument := goodIn_ca (goodIn_r _ [12, 13, 14] (by decide +kernel) (by decide +kernel)) (goodIn_sub (fun _ h => List.mem_cons_of_mem _ (List.mem_append_right _ h)) (by decide +kernel))
set_option maxRecDepth 20000 in
theorem gX5_addRelay_X5_requireArgument : GoodIn wsX5_addRelay (va_wsS RX5 58 yX5_requireArgument wsX5_requireArgument) := goodIn_app (goodIn_of _ (by decide +kernel)) ggX5_addRelay_X5_requireArgument
set_option maxRecDepth 20000 in
theorem ggX5_addRelay_X2_addNode : GoodIn wsX5_addRelay wsX2_addNode := goodIn_r _ [19, 20, 21, 22, 23, 24, 25, 26, 18, 27, 28, 29, 30, 31, 32, 33, 34, 35, 36, 37, 38, 39, 40, 41, 42, 43, 44, 45, 46, 47, 48, 49, 50, 60, 61, 62, 63, 64] (by decide +kernel) (by decide +kernel)
set_option maxRecDepth 20000 in
theorem gX5_addRelay_X2_addNode : GoodIn wsX5_addRelay (wsV RX5 69 RX2 yX2_addNode wsX2_addNode) := goodIn_app (goodIn_of _ (by decide +kernel)) ggX5_addRelay_X2_addNode
theorem dX5_addRelay_0 : decode cX5_addRelay 0 = .ok (.iload_n 1, 1) := by decide +kernel
theorem dX5_addRelay_1 : decode cX5_addRelay 1 = .ok (.iconst 0, 1) := by decide +kernel
theorem dX5_addRelay_2 : decode cX5_addRelay 2 = .ok (.sipush 359, 3) := by decide +kernel
theorem dX5_addRelay_5 : decode cX5_addRelay 5 = .ok (.invokestatic 54, 3) := by decide +kernel
theorem dX5_addRelay_8 : decode cX5_addRelay 8 = .ok (.invokestatic 58, 3) := by decide +kernel
theorem dX5_addRelay_11 : decode cX5_addRelay 11 = .ok (.iload_n 2, 1) := by decide +kernel
theorem dX5_addRelay_12 : decode cX5_addRelay 12 = .ok (.bipush (-30), 2) := by decide +kernel
theorem dX5_addRelay_14 : decode cX5_addRelay 14 = .ok (.bipush 30, 2) := by decide +kernel
theorem dX5_addRelay_16 : decode cX5_addRelay 16 = .ok (.invokestatic 54, 3) := by decide +kernel
theorem dX5_addRelay_19 : decode cX5_addRelay 19 = .ok (.invokestatic 58, 3) := by decide +kernel
theorem dX5_addRelay_22 : decode cX5_addRelay 22 = .ok (.iload_n 3, 1) := by decide +kernel
theorem dX5_addRelay_23 : decode cX5_addRelay 23 = .ok (.iconst 0, 1) := by decide +kernel
theorem dX5_addRelay_24 : decode cX5_addRelay 24 = .ok (.sipush 179, 3) := by decide +kernel
theorem dX5_addRelay_27 : decode cX5_addRelay 27 = .ok (.invokestatic 54, 3) := by decide +kernel
theorem dX5_addRelay_30 : decode cX5_addRelay 30 = .ok (.invokestatic 58, 3) := by decide +kernel
theorem dX5_addRelay_33 : decode cX5_addRelay 33 = .ok (.iload 4, 2) := by decide +kernel
theorem dX5_addRelay_35 : decode cX5_addRelay 35 = .ok (.iconst 1, 1) := by decide +kernel
theorem dX5_addRelay_36 : decode cX5_addRelay 36 = .ok (.bipush 9, 2) := by decide +kernel
theorem dX5_addRelay_38 : decode cX5_addRelay 38 = .ok (.invokestatic 54, 3) := by decide +kernel
theorem dX5_addRelay_41 : decode cX5_addRelay 41 = .ok (.invokestatic 58, 3) := by decide +kernel
theorem dX5_addRelay_44 : decode cX5_addRelay 44 = .ok (.aload_n 0, 1) := by decide +kernel
theorem dX5_addRelay_45 : decode cX5_addRelay 45 = .ok (.getfield 45, 3) := by decide +kernel
theorem dX5_addRelay_48 : decode cX5_addRelay 48 = .ok (.bipush 6, 2) := by decide +kernel
theorem dX5_addRelay_50 : decode cX5_addRelay 50 = .ok (.if_icmp .lt 13, 3) := by decide +kernel
theorem dX5_addRelay_53 : decode cX5_addRelay 53 = .ok (.new 62, 3) := by decide +kernel
theorem dX5_addRelay_56 : decode cX5_addRelay 56 = .ok (.dup, 1) := by decide +kernel
theorem dX5_addRelay_57 : decode cX5_addRelay 57 = .ok (.ldc 85, 2) := by decide +kernel
theorem dX5_addRelay_59 : decode cX5_addRelay 59 = .ok (.invokespecial 66, 3) := by decide +kernel
theorem dX5_addRelay_62 : decode cX5_addRelay 62 = .ok (.athrow, 1) := by decide +kernel
theorem dX5_addRelay_63 : decode cX5_addRelay 63 = .ok (.aload_n 0, 1) := by decide +kernel
theorem dX5_addRelay_64 : decode cX5_addRelay 64 = .ok (.getfield 12, 3) := by decide +kernel
theorem dX5_addRelay_67 : decode cX5_addRelay 67 = .ok (.iload_n 1, 1) := by decide +kernel
theorem dX5_addRelay_68 : decode cX5_addRelay 68 = .ok (.iload_n 2, 1) := by decide +kernel
theorem dX5_addRelay_69 : decode cX5_addRelay 69 = .ok (.iload_n 3, 1) := by decide +kernel
theorem dX5_addRelay_70 : decode cX5_addRelay 70 = .ok (.invokevirtual 69, 3) := by decide +kernel
theorem dX5_addRelay_73 : decode cX5_addRelay 73 = .ok (.istore 5, 2) := by decide +kernel
theorem dX5_addRelay_75 : decode cX5_addRelay 75 = .ok (.aload_n 0, 1) := by decide +kernel
theorem dX5_addRelay_76 : decode cX5_addRelay 76 = .ok (.getfield 31, 3) := by decide +kernel
theorem dX5_addRelay_79 : decode cX5_addRelay 79 = .ok (.iload 5, 2) := by decide +kernel
theorem dX5_addRelay_81 : decode cX5_addRelay 81 = .ok (.iload 4, 2) := by decide +kernel
theorem dX5_addRelay_83 : decode cX5_addRelay 83 = .ok (.iastore, 1) := by decide +kernel
theorem dX5_addRelay_84 : decode cX5_addRelay 84 = .ok (.aload_n 0, 1) := by decide +kernel
theorem dX5_addRelay_85 : decode cX5_addRelay 85 = .ok (.dup, 1) := by decide +kernel
theorem dX5_addRelay_86 : decode cX5_addRelay 86 = .ok (.getfield 45, 3) := by decide +kernel
theorem dX5_addRelay_89 : decode cX5_addRelay 89 = .ok (.iconst 1, 1) := by decide +kernel
theorem dX5_addRelay_90 : decode cX5_addRelay 90 = .ok (.iadd, 1) := by decide +kernel
theorem dX5_addRelay_91 : decode cX5_addRelay 91 = .ok (.putfield 45, 3) := by decide +kernel
theorem dX5_addRelay_94 : decode cX5_addRelay 94 = .ok (.iload 5, 2) := by decide +kernel
theorem dX5_addRelay_96 : decode cX5_addRelay 96 = .ok (.ireturn, 1) := by decide +kernel
set_option maxRecDepth 20000 in
theorem ggX5_setCapacity_X5_requireNode : GoodIn wsX5_setCapacity wsX5_requireNode := goodIn_ca (goodIn_r _ [9, 1, 2, 10, 11, 12, 8, 13, 19, 20, 21, 22, 23, 24, 25, 26, 27, 28, 29, 30, 31, 32] (by decide +kernel) (by decide +kernel)) (goodIn_sub (fun _ h => List.mem_cons_of_mem _ (List.mem_append_left _ (List.mem_append_right _ h))) (by decide +kernel))
set_option maxRecDepth 20000 in
theorem gX5_setCapacity_X5_requireNode : GoodIn wsX5_setCapacity (wsV RX5 87 RX5 yX5_requireNode wsX5_requireNode) := goodIn_app (goodIn_of _ (by decide +kernel)) ggX5_setCapacity_X5_requireNode
set_option maxRecDepth 20000 in
theorem ggX5_setCapacity_X5_inRange : GoodIn wsX5_setCapacity wsX5_inRange := goodIn_r _ [13] (by decide +kernel) (by decide +kernel)
set_option maxRecDepth 20000 in
theorem gX5_setCapacity_X5_inRange : GoodIn wsX5_setCapacity (va_wsS RX5 54 yX5_inRange wsX5_inRange) := goodIn_app (goodIn_of _ (by decide +kernel)) ggX5_setCapacity_X5_inRange
set_option maxRecDepth 20000 in
theorem ggX5_setCapacity_X5_requireArgument : GoodIn wsX5_setCapacity wsX5_requireArgument := goodIn_ca (goodIn_r _ [16, 17, 18] (by decide +kernel) (by decide +kernel)) (goodIn_sub (fun _ h => List.mem_cons_of_mem _ (List.mem_append_right _ h)) (by decide +kernel))
set_option maxRecDepth 20000 in
theorem gX5_setCapacity_X5_requireArgument : GoodIn wsX5_setCapacity (va_wsS RX5 58 yX5_requireArgument wsX5_requireArgument) := goodIn_app (goodIn_of _ (by decide +kernel)) ggX5_setCapacity_X5_requireArgument
theorem dX5_setCapacity_0 : decode cX5_setCapacity 0 = .ok (.aload_n 0, 1) := by decide +kernel
theorem dX5_setCapacity_1 : decode cX5_setCapacity 1 = .ok (.iload_n 1, 1) := by decide +kernel
theorem dX5_setCapacity_2 : decode cX5_setCapacity 2 = .ok (.invokevirtual 87, 3) := by decide +kernel
theorem dX5_setCapacity_5 : decode cX5_setCapacity 5 = .ok (.aload_n 0, 1) := by decide +kernel
theorem dX5_setCapacity_6 : decode cX5_setCapacity 6 = .ok (.getfield 27, 3) := by decide +kernel
theorem dX5_setCapacity_9 : decode cX5_setCapacity 9 = .ok (.iload_n 1, 1) := by decide +kernel
theorem dX5_setCapacity_10 : decode cX5_setCapacity 10 = .ok (.aaload, 1) := by decide +kernel
theorem dX5_setCapacity_11 : decode cX5_setCapacity 11 = .ok (.ifnull 13, 3) := by decide +kernel
theorem dX5_setCapacity_14 : decode cX5_setCapacity 14 = .ok (.new 91, 3) := by decide +kernel
theorem dX5_setCapacity_17 : decode cX5_setCapacity 17 = .ok (.dup, 1) := by decide +kernel
theorem dX5_setCapacity_18 : decode cX5_setCapacity 18 = .ok (.ldc 93, 2) := by decide +kernel
theorem dX5_setCapacity_20 : decode cX5_setCapacity 20 = .ok (.invokespecial 95, 3) := by decide +kernel
theorem dX5_setCapacity_23 : decode cX5_setCapacity 23 = .ok (.athrow, 1) := by decide +kernel
theorem dX5_setCapacity_24 : decode cX5_setCapacity 24 = .ok (.iload_n 2, 1) := by decide +kernel
theorem dX5_setCapacity_25 : decode cX5_setCapacity 25 = .ok (.iconst 1, 1) := by decide +kernel
theorem dX5_setCapacity_26 : decode cX5_setCapacity 26 = .ok (.bipush 9, 2) := by decide +kernel
theorem dX5_setCapacity_28 : decode cX5_setCapacity 28 = .ok (.invokestatic 54, 3) := by decide +kernel
theorem dX5_setCapacity_31 : decode cX5_setCapacity 31 = .ok (.invokestatic 58, 3) := by decide +kernel
theorem dX5_setCapacity_34 : decode cX5_setCapacity 34 = .ok (.aload_n 0, 1) := by decide +kernel
theorem dX5_setCapacity_35 : decode cX5_setCapacity 35 = .ok (.getfield 31, 3) := by decide +kernel
theorem dX5_setCapacity_38 : decode cX5_setCapacity 38 = .ok (.iload_n 1, 1) := by decide +kernel
theorem dX5_setCapacity_39 : decode cX5_setCapacity 39 = .ok (.iaload, 1) := by decide +kernel
theorem dX5_setCapacity_40 : decode cX5_setCapacity 40 = .ok (.istore_n 3, 1) := by decide +kernel
theorem dX5_setCapacity_41 : decode cX5_setCapacity 41 = .ok (.aload_n 0, 1) := by decide +kernel
theorem dX5_setCapacity_42 : decode cX5_setCapacity 42 = .ok (.getfield 31, 3) := by decide +kernel
theorem dX5_setCapacity_45 : decode cX5_setCapacity 45 = .ok (.iload_n 1, 1) := by decide +kernel
theorem dX5_setCapacity_46 : decode cX5_setCapacity 46 = .ok (.iload_n 2, 1) := by decide +kernel
theorem dX5_setCapacity_47 : decode cX5_setCapacity 47 = .ok (.iastore, 1) := by decide +kernel
theorem dX5_setCapacity_48 : decode cX5_setCapacity 48 = .ok (.iload_n 3, 1) := by decide +kernel
theorem dX5_setCapacity_49 : decode cX5_setCapacity 49 = .ok (.ireturn, 1) := by decide +kernel
theorem dX5_nodes_0 : decode cX5_nodes 0 = .ok (.aload_n 0, 1) := by decide +kernel
theorem dX5_nodes_1 : decode cX5_nodes 1 = .ok (.getfield 12, 3) := by decide +kernel
theorem dX5_nodes_4 : decode cX5_nodes 4 = .ok (.getfield 96, 3) := by decide +kernel
theorem dX5_nodes_7 : decode cX5_nodes 7 = .ok (.ireturn, 1) := by decide +kernel
set_option maxRecDepth 20000 in
theorem ggX5_placeAt_X5_requireNode : GoodIn wsX5_placeAt wsX5_requireNode := goodIn_ca (goodIn_r _ [6, 7, 8, 1, 9, 10, 5, 11, 32, 33, 34, 35, 36, 37, 38, 39, 40, 41, 42, 43, 44, 45] (by decide +kernel) (by decide +kernel)) (goodIn_sub (fun _ h => List.mem_cons_of_mem _ (List.mem_append_left _ (List.mem_append_right _ h))) (by decide +kernel))
set_option maxRecDepth 20000 in
theorem gX5_placeAt_X5_requireNode : GoodIn wsX5_placeAt (wsV RX5 87 RX5 yX5_requireNode wsX5_requireNode) := goodIn_app (goodIn_of _ (by decide +kernel)) ggX5_placeAt_X5_requireNode
set_option maxRecDepth 20000 in
theorem ggX5_placeAt_X5_requireMinute : GoodIn wsX5_placeAt wsX5_requireMinute := goodIn_ca (goodIn_r _ [14, 15, 9, 10, 5, 11, 16, 17, 18, 19, 20] (by decide +kernel) (by decide +kernel)) (goodIn_sub (fun _ h => List.mem_cons_of_mem _ (List.mem_append_right _ h)) (by decide +kernel))
set_option maxRecDepth 20000 in
theorem gX5_placeAt_X5_requireMinute : GoodIn wsX5_placeAt (va_wsS RX5 99 yX5_requireMinute wsX5_requireMinute) := goodIn_app (goodIn_of _ (by decide +kernel)) ggX5_placeAt_X5_requireMinute
set_option maxRecDepth 20000 in
theorem ggX5_placeAt_X2_placeOf : GoodIn wsX5_placeAt wsX2_placeOf := goodIn_r _ [25, 26, 27, 28, 29, 30, 31, 41, 42, 43, 44, 45] (by decide +kernel) (by decide +kernel)
set_option maxRecDepth 20000 in
theorem gX5_placeAt_X2_placeOf : GoodIn wsX5_placeAt (wsV RX5 102 RX2 yX2_placeOf wsX2_placeOf) := goodIn_app (goodIn_of _ (by decide +kernel)) ggX5_placeAt_X2_placeOf
theorem dX5_placeAt_0 : decode cX5_placeAt 0 = .ok (.aload_n 0, 1) := by decide +kernel
theorem dX5_placeAt_1 : decode cX5_placeAt 1 = .ok (.iload_n 1, 1) := by decide +kernel
theorem dX5_placeAt_2 : decode cX5_placeAt 2 = .ok (.invokevirtual 87, 3) := by decide +kernel
theorem dX5_placeAt_5 : decode cX5_placeAt 5 = .ok (.iload_n 2, 1) := by decide +kernel
theorem dX5_placeAt_6 : decode cX5_placeAt 6 = .ok (.invokestatic 99, 3) := by decide +kernel
theorem dX5_placeAt_9 : decode cX5_placeAt 9 = .ok (.aload_n 0, 1) := by decide +kernel
theorem dX5_placeAt_10 : decode cX5_placeAt 10 = .ok (.getfield 12, 3) := by decide +kernel
theorem dX5_placeAt_13 : decode cX5_placeAt 13 = .ok (.iload_n 1, 1) := by decide +kernel
theorem dX5_placeAt_14 : decode cX5_placeAt 14 = .ok (.iload_n 2, 1) := by decide +kernel
theorem dX5_placeAt_15 : decode cX5_placeAt 15 = .ok (.invokevirtual 102, 3) := by decide +kernel
theorem dX5_placeAt_18 : decode cX5_placeAt 18 = .ok (.ireturn, 1) := by decide +kernel
set_option maxRecDepth 20000 in
theorem ggX5_see_X5_requireTwoNodesAndMinute : GoodIn wsX5_see wsX5_requireTwoNodesAndMinute := goodIn_ca (goodIn_ca (goodIn_r _ [6, 7, 8, 9, 5, 10, 11, 12, 1, 13, 14, 15, 16, 17, 18, 19, 20, 21, 22, 23, 24, 35, 36, 37, 38, 39, 40, 41, 42, 43, 44, 45, 46, 47, 48] (by decide +kernel) (by decide +kernel)) (goodIn_sub (fun _ h => List.mem_cons_of_mem _ (List.mem_append_left _ (List.mem_append_right _ h))) (by decide +kernel))) (goodIn_sub (fun _ h => List.mem_cons_of_mem _ (List.mem_append_right _ h)) (by decide +kernel))
set_option maxRecDepth 20000 in
theorem gX5_see_X5_requireTwoNodesAndMinute : GoodIn wsX5_see (wsV RX5 106 RX5 yX5_requireTwoNodesAndMinute wsX5_requireTwoNodesAndMinute) := goodIn_app (goodIn_of _ (by decide +kernel)) ggX5_see_X5_requireTwoNodesAndMinute
set_option maxRecDepth 20000 in
theorem ggX5_see_X2_inContact : GoodIn wsX5_see wsX2_inContact := goodIn_r _ [29, 30, 31, 32, 28, 33, 34, 44, 45, 46, 47, 48] (by decide +kernel) (by decide +kernel)
set_option maxRecDepth 20000 in
theorem gX5_see_X2_inContact : GoodIn wsX5_see (wsV RX5 110 RX2 yX2_inContact wsX2_inContact) := goodIn_app (goodIn_of _ (by decide +kernel)) ggX5_see_X2_inContact
theorem dX5_see_0 : decode cX5_see 0 = .ok (.aload_n 0, 1) := by decide +kernel
theorem dX5_see_1 : decode cX5_see 1 = .ok (.iload_n 1, 1) := by decide +kernel
theorem dX5_see_2 : decode cX5_see 2 = .ok (.iload_n 2, 1) := by decide +kernel
theorem dX5_see_3 : decode cX5_see 3 = .ok (.iload_n 3, 1) := by decide +kernel
theorem dX5_see_4 : decode cX5_see 4 = .ok (.invokevirtual 106, 3) := by decide +kernel
theorem dX5_see_7 : decode cX5_see 7 = .ok (.aload_n 0, 1) := by decide +kernel
theorem dX5_see_8 : decode cX5_see 8 = .ok (.getfield 12, 3) := by decide +kernel
theorem dX5_see_11 : decode cX5_see 11 = .ok (.iload_n 1, 1) := by decide +kernel
theorem dX5_see_12 : decode cX5_see 12 = .ok (.iload_n 2, 1) := by decide +kernel
theorem dX5_see_13 : decode cX5_see 13 = .ok (.iload_n 3, 1) := by decide +kernel
theorem dX5_see_14 : decode cX5_see 14 = .ok (.invokevirtual 110, 3) := by decide +kernel
theorem dX5_see_17 : decode cX5_see 17 = .ok (.ireturn, 1) := by decide +kernel
set_option maxRecDepth 20000 in
theorem ggX5_nextContact_X5_requireTwoNodesAndMinute : GoodIn wsX5_nextContact wsX5_requireTwoNodesAndMinute := goodIn_ca (goodIn_ca (goodIn_r _ [6, 7, 8, 9, 5, 10, 11, 12, 1, 13, 14, 15, 16, 17, 18, 19, 20, 21, 22, 23, 24, 39, 40, 41, 42, 43, 44, 45, 46, 47, 48, 49, 50, 51, 52] (by decide +kernel) (by decide +kernel)) (goodIn_sub (fun _ h => List.mem_cons_of_mem _ (List.mem_append_left _ (List.mem_append_right _ h))) (by decide +kernel))) (goodIn_sub (fun _ h => List.mem_cons_of_mem _ (List.mem_append_right _ h)) (by decide +kernel))
set_option maxRecDepth 20000 in
theorem gX5_nextContact_X5_requireTwoNodesAndMinute : GoodIn wsX5_nextContact (wsV RX5 106 RX5 yX5_requireTwoNodesAndMinute wsX5_requireTwoNodesAndMinute) := goodIn_app (goodIn_of _ (by decide +kernel)) ggX5_nextContact_X5_requireTwoNodesAndMinute
set_option maxRecDepth 20000 in
theorem ggX5_nextContact_X2_firstContact : GoodIn wsX5_nextContact wsX2_firstContact := goodIn_r _ [29, 30, 31, 32, 28, 33, 34, 35, 36, 37, 38, 48, 49, 50, 51, 52] (by decide +kernel) (by decide +kernel)
set_option maxRecDepth 20000 in
theorem gX5_nextContact_X2_firstContact : GoodIn wsX5_nextContact (wsV RX5 113 RX2 yX2_firstContact wsX2_firstContact) := goodIn_app (goodIn_of _ (by decide +kernel)) ggX5_nextContact_X2_firstContact
theorem dX5_nextContact_0 : decode cX5_nextContact 0 = .ok (.aload_n 0, 1) := by decide +kernel
theorem dX5_nextContact_1 : decode cX5_nextContact 1 = .ok (.iload_n 1, 1) := by decide +kernel
theorem dX5_nextContact_2 : decode cX5_nextContact 2 = .ok (.iload_n 2, 1) := by decide +kernel
theorem dX5_nextContact_3 : decode cX5_nextContact 3 = .ok (.iload_n 3, 1) := by decide +kernel
theorem dX5_nextContact_4 : decode cX5_nextContact 4 = .ok (.invokevirtual 106, 3) := by decide +kernel
theorem dX5_nextContact_7 : decode cX5_nextContact 7 = .ok (.aload_n 0, 1) := by decide +kernel
theorem dX5_nextContact_8 : decode cX5_nextContact 8 = .ok (.getfield 12, 3) := by decide +kernel
theorem dX5_nextContact_11 : decode cX5_nextContact 11 = .ok (.iload_n 1, 1) := by decide +kernel
theorem dX5_nextContact_12 : decode cX5_nextContact 12 = .ok (.iload_n 2, 1) := by decide +kernel
theorem dX5_nextContact_13 : decode cX5_nextContact 13 = .ok (.iload_n 3, 1) := by decide +kernel
theorem dX5_nextContact_14 : decode cX5_nextContact 14 = .ok (.invokevirtual 113, 3) := by decide +kernel
theorem dX5_nextContact_17 : decode cX5_nextContact 17 = .ok (.ireturn, 1) := by decide +kernel
set_option maxRecDepth 20000 in
theorem ggX5_view_X5_requireTwoNodesAndMinute : GoodIn wsX5_view wsX5_requireTwoNodesAndMinute := goodIn_ca (goodIn_ca (goodIn_r _ [6, 7, 8, 9, 5, 10, 11, 12, 1, 13, 14, 15, 16, 17, 18, 19, 20, 21, 22, 23, 24, 39, 40, 41, 42, 43, 44, 45, 46, 47, 48, 49, 50, 51, 52] (by decide +kernel) (by decide +kernel)) (goodIn_sub (fun _ h => List.mem_cons_of_mem _ (List.mem_append_left _ (List.mem_append_right _ h))) (by decide +kernel))) (goodIn_sub (fun _ h => List.mem_cons_of_mem _ (List.mem_append_right _ h)) (by decide +kernel))
set_option maxRecDepth 20000 in
theorem gX5_view_X5_requireTwoNodesAndMinute : GoodIn wsX5_view (wsV RX5 106 RX5 yX5_requireTwoNodesAndMinute wsX5_requireTwoNodesAndMinute) := goodIn_app (goodIn_of _ (by decide +kernel)) ggX5_view_X5_requireTwoNodesAndMinute
set_option maxRecDepth 20000 in
theorem ggX5_view_X2_contactLength : GoodIn wsX5_view wsX2_contactLength := goodIn_r _ [29, 30, 31, 32, 28, 33, 34, 35, 36, 37, 38, 48, 49, 50, 51, 52] (by decide +kernel) (by decide +kernel)
set_option maxRecDepth 20000 in
theorem gX5_view_X2_contactLength : GoodIn wsX5_view (wsV RX5 116 RX2 yX2_contactLength wsX2_contactLength) := goodIn_app (goodIn_of _ (by decide +kernel)) ggX5_view_X2_contactLength
theorem dX5_view_0 : decode cX5_view 0 = .ok (.aload_n 0, 1) := by decide +kernel
theorem dX5_view_1 : decode cX5_view 1 = .ok (.iload_n 1, 1) := by decide +kernel
theorem dX5_view_2 : decode cX5_view 2 = .ok (.iload_n 2, 1) := by decide +kernel
theorem dX5_view_3 : decode cX5_view 3 = .ok (.iload_n 3, 1) := by decide +kernel
theorem dX5_view_4 : decode cX5_view 4 = .ok (.invokevirtual 106, 3) := by decide +kernel
theorem dX5_view_7 : decode cX5_view 7 = .ok (.aload_n 0, 1) := by decide +kernel
theorem dX5_view_8 : decode cX5_view 8 = .ok (.getfield 12, 3) := by decide +kernel
theorem dX5_view_11 : decode cX5_view 11 = .ok (.iload_n 1, 1) := by decide +kernel
theorem dX5_view_12 : decode cX5_view 12 = .ok (.iload_n 2, 1) := by decide +kernel
theorem dX5_view_13 : decode cX5_view 13 = .ok (.iload_n 3, 1) := by decide +kernel
theorem dX5_view_14 : decode cX5_view 14 = .ok (.invokevirtual 116, 3) := by decide +kernel
theorem dX5_view_17 : decode cX5_view 17 = .ok (.ireturn, 1) := by decide +kernel
set_option maxRecDepth 20000 in
theorem ggX5_arrival_X5_requireTwoNodesAndMinute : GoodIn wsX5_arrival wsX5_requireTwoNodesAndMinute := goodIn_ca (goodIn_ca (goodIn_r _ [6, 7, 8, 9, 5, 10, 11, 12, 13, 14, 15, 16, 17, 18, 19, 20, 21, 22, 23, 24, 25, 59, 60, 61, 62, 63, 64, 65, 66, 67, 68, 69, 70, 71, 72] (by decide +kernel) (by decide +kernel)) (goodIn_sub (fun _ h => List.mem_cons_of_mem _ (List.mem_append_left _ (List.mem_append_right _ h))) (by decide +kernel))) (goodIn_sub (fun _ h => List.mem_cons_of_mem _ (List.mem_append_right _ h)) (by decide +kernel))
set_option maxRecDepth 20000 in
theorem gX5_arrival_X5_requireTwoNodesAndMinute : GoodIn wsX5_arrival (wsV RX5 106 RX5 yX5_requireTwoNodesAndMinute wsX5_requireTwoNodesAndMinute) := goodIn_app (goodIn_of _ (by decide +kernel)) ggX5_arrival_X5_requireTwoNodesAndMinute
set_option maxRecDepth 20000 in
theorem ggX5_arrival_X1_byContacts : GoodIn wsX5_arrival wsX1_byContacts := goodIn_r _ [30, 31, 32, 33, 34, 35, 36, 37, 38, 39, 29, 40, 41, 42, 43, 44, 45, 46, 47, 48, 49, 50, 51, 52, 53, 54, 55, 56, 57, 58, 73, 74, 68, 69, 70, 71, 72] (by decide +kernel) (by decide +kernel)
set_option maxRecDepth 20000 in
theorem gX5_arrival_X1_byContacts : GoodIn wsX5_arrival (wsV RX5 119 RX1 yX1_byContacts wsX1_byContacts) := goodIn_app (goodIn_of _ (by decide +kernel)) ggX5_arrival_X1_byContacts
theorem dX5_arrival_0 : decode cX5_arrival 0 = .ok (.aload_n 0, 1) := by decide +kernel
theorem dX5_arrival_1 : decode cX5_arrival 1 = .ok (.iload_n 1, 1) := by decide +kernel
theorem dX5_arrival_2 : decode cX5_arrival 2 = .ok (.iload_n 2, 1) := by decide +kernel
theorem dX5_arrival_3 : decode cX5_arrival 3 = .ok (.iload_n 3, 1) := by decide +kernel
theorem dX5_arrival_4 : decode cX5_arrival 4 = .ok (.invokevirtual 106, 3) := by decide +kernel
theorem dX5_arrival_7 : decode cX5_arrival 7 = .ok (.aload_n 0, 1) := by decide +kernel
theorem dX5_arrival_8 : decode cX5_arrival 8 = .ok (.getfield 21, 3) := by decide +kernel
theorem dX5_arrival_11 : decode cX5_arrival 11 = .ok (.iload_n 1, 1) := by decide +kernel
theorem dX5_arrival_12 : decode cX5_arrival 12 = .ok (.iload_n 2, 1) := by decide +kernel
theorem dX5_arrival_13 : decode cX5_arrival 13 = .ok (.iload_n 3, 1) := by decide +kernel
theorem dX5_arrival_14 : decode cX5_arrival 14 = .ok (.invokevirtual 119, 3) := by decide +kernel
theorem dX5_arrival_17 : decode cX5_arrival 17 = .ok (.ireturn, 1) := by decide +kernel
set_option maxRecDepth 20000 in
theorem ggX5_arrivalByFlooding_X5_requireTwoNodesAndMinute : GoodIn wsX5_arrivalByFlooding wsX5_requireTwoNodesAndMinute := goodIn_ca (goodIn_ca (goodIn_r _ [6, 7, 8, 9, 5, 10, 11, 12, 13, 14, 15, 16, 17, 18, 19, 20, 21, 22, 23, 24, 25, 42, 43, 44, 45, 46, 47, 48, 49, 50, 51, 52, 53, 54, 55] (by decide +kernel) (by decide +kernel)) (goodIn_sub (fun _ h => List.mem_cons_of_mem _ (List.mem_append_left _ (List.mem_append_right _ h))) (by decide +kernel))) (goodIn_sub (fun _ h => List.mem_cons_of_mem _ (List.mem_append_right _ h)) (by decide +kernel))
set_option maxRecDepth 20000 in
theorem gX5_arrivalByFlooding_X5_requireTwoNodesAndMinute : GoodIn wsX5_arrivalByFlooding (wsV RX5 106 RX5 yX5_requireTwoNodesAndMinute wsX5_requireTwoNodesAndMinute) := goodIn_app (goodIn_of _ (by decide +kernel)) ggX5_arrivalByFlooding_X5_requireTwoNodesAndMinute
set_option maxRecDepth 20000 in
theorem ggX5_arrivalByFlooding_X1_byFlooding : GoodIn wsX5_arrivalByFlooding wsX1_byFlooding := goodIn_r _ [30, 31, 32, 33, 29, 34, 35, 36, 37, 38, 39, 40, 41, 56, 57, 51, 52, 53, 54, 55] (by decide +kernel) (by decide +kernel)
set_option maxRecDepth 20000 in
theorem gX5_arrivalByFlooding_X1_byFlooding : GoodIn wsX5_arrivalByFlooding (wsV RX5 122 RX1 yX1_byFlooding wsX1_byFlooding) := goodIn_app (goodIn_of _ (by decide +kernel)) ggX5_arrivalByFlooding_X1_byFlooding
theorem dX5_arrivalByFlooding_0 : decode cX5_arrivalByFlooding 0 = .ok (.aload_n 0, 1) := by decide +kernel
theorem dX5_arrivalByFlooding_1 : decode cX5_arrivalByFlooding 1 = .ok (.iload_n 1, 1) := by decide +kernel
theorem dX5_arrivalByFlooding_2 : decode cX5_arrivalByFlooding 2 = .ok (.iload_n 2, 1) := by decide +kernel
theorem dX5_arrivalByFlooding_3 : decode cX5_arrivalByFlooding 3 = .ok (.iload_n 3, 1) := by decide +kernel
theorem dX5_arrivalByFlooding_4 : decode cX5_arrivalByFlooding 4 = .ok (.invokevirtual 106, 3) := by decide +kernel
theorem dX5_arrivalByFlooding_7 : decode cX5_arrivalByFlooding 7 = .ok (.aload_n 0, 1) := by decide +kernel
theorem dX5_arrivalByFlooding_8 : decode cX5_arrivalByFlooding 8 = .ok (.getfield 21, 3) := by decide +kernel
theorem dX5_arrivalByFlooding_11 : decode cX5_arrivalByFlooding 11 = .ok (.iload_n 1, 1) := by decide +kernel
theorem dX5_arrivalByFlooding_12 : decode cX5_arrivalByFlooding 12 = .ok (.iload_n 2, 1) := by decide +kernel
theorem dX5_arrivalByFlooding_13 : decode cX5_arrivalByFlooding 13 = .ok (.iload_n 3, 1) := by decide +kernel
theorem dX5_arrivalByFlooding_14 : decode cX5_arrivalByFlooding 14 = .ok (.invokevirtual 122, 3) := by decide +kernel
theorem dX5_arrivalByFlooding_17 : decode cX5_arrivalByFlooding 17 = .ok (.ireturn, 1) := by decide +kernel
set_option maxRecDepth 20000 in
theorem ggX5_spread_X5_requireNode : GoodIn wsX5_spread wsX5_requireNode := goodIn_ca (goodIn_r _ [6, 7, 8, 9, 10, 11, 5, 12, 45, 46, 47, 48, 49, 50, 51, 52, 53, 54, 55, 56, 57, 58] (by decide +kernel) (by decide +kernel)) (goodIn_sub (fun _ h => List.mem_cons_of_mem _ (List.mem_append_left _ (List.mem_append_right _ h))) (by decide +kernel))
set_option maxRecDepth 20000 in
theorem gX5_spread_X5_requireNode : GoodIn wsX5_spread (wsV RX5 87 RX5 yX5_requireNode wsX5_requireNode) := goodIn_app (goodIn_of _ (by decide +kernel)) ggX5_spread_X5_requireNode
set_option maxRecDepth 20000 in
theorem ggX5_spread_X5_requireMinute : GoodIn wsX5_spread wsX5_requireMinute := goodIn_ca (goodIn_r _ [15, 16, 10, 11, 5, 12, 17, 18, 19, 20, 21] (by decide +kernel) (by decide +kernel)) (goodIn_sub (fun _ h => List.mem_cons_of_mem _ (List.mem_append_right _ h)) (by decide +kernel))
set_option maxRecDepth 20000 in
theorem gX5_spread_X5_requireMinute : GoodIn wsX5_spread (va_wsS RX5 99 yX5_requireMinute wsX5_requireMinute) := goodIn_app (goodIn_of _ (by decide +kernel)) ggX5_spread_X5_requireMinute
set_option maxRecDepth 20000 in
theorem ggX5_spread_X5_inRange : GoodIn wsX5_spread wsX5_inRange := goodIn_r _ [12] (by decide +kernel) (by decide +kernel)
set_option maxRecDepth 20000 in
theorem gX5_spread_X5_inRange : GoodIn wsX5_spread (va_wsS RX5 54 yX5_inRange wsX5_inRange) := goodIn_app (goodIn_of _ (by decide +kernel)) ggX5_spread_X5_inRange
set_option maxRecDepth 20000 in
theorem ggX5_spread_X5_requireArgument : GoodIn wsX5_spread wsX5_requireArgument := goodIn_ca (goodIn_r _ [19, 20, 21] (by decide +kernel) (by decide +kernel)) (goodIn_sub (fun _ h => List.mem_cons_of_mem _ (List.mem_append_right _ h)) (by decide +kernel))
set_option maxRecDepth 20000 in
theorem gX5_spread_X5_requireArgument : GoodIn wsX5_spread (va_wsS RX5 58 yX5_requireArgument wsX5_requireArgument) := goodIn_app (goodIn_of _ (by decide +kernel)) ggX5_spread_X5_requireArgument
set_option maxRecDepth 20000 in
theorem ggX5_spread_X1_flooded : GoodIn wsX5_spread wsX1_flooded := goodIn_r _ [26, 27, 28, 29, 25, 30, 31, 32, 33, 34, 35, 36, 37, 59, 60, 54, 55, 56, 57, 58] (by decide +kernel) (by decide +kernel)
set_option maxRecDepth 20000 in
theorem gX5_spread_X1_flooded : GoodIn wsX5_spread (wsV RX5 125 RX1 yX1_flooded wsX1_flooded) := goodIn_app (goodIn_of _ (by decide +kernel)) ggX5_spread_X1_flooded
set_option maxRecDepth 20000 in
theorem ggX5_spread_J6_bitCount_0f7a4 : GoodIn wsX5_spread wsJ6_bitCount_0f7a4 := goodIn_r _ [41, 42, 43, 44] (by decide +kernel) (by decide +kernel)
set_option maxRecDepth 20000 in
theorem gX5_spread_J6_bitCount_0f7a4 : GoodIn wsX5_spread (va_wsS RX5 128 yJ6_bitCount_0f7a4 wsJ6_bitCount_0f7a4) := goodIn_app (goodIn_of _ (by decide +kernel)) ggX5_spread_J6_bitCount_0f7a4
theorem dX5_spread_0 : decode cX5_spread 0 = .ok (.aload_n 0, 1) := by decide +kernel
theorem dX5_spread_1 : decode cX5_spread 1 = .ok (.iload_n 1, 1) := by decide +kernel
theorem dX5_spread_2 : decode cX5_spread 2 = .ok (.invokevirtual 87, 3) := by decide +kernel
theorem dX5_spread_5 : decode cX5_spread 5 = .ok (.iload_n 2, 1) := by decide +kernel
theorem dX5_spread_6 : decode cX5_spread 6 = .ok (.invokestatic 99, 3) := by decide +kernel
theorem dX5_spread_9 : decode cX5_spread 9 = .ok (.iload_n 3, 1) := by decide +kernel
theorem dX5_spread_10 : decode cX5_spread 10 = .ok (.iconst 0, 1) := by decide +kernel
theorem dX5_spread_11 : decode cX5_spread 11 = .ok (.sipush 400, 3) := by decide +kernel
theorem dX5_spread_14 : decode cX5_spread 14 = .ok (.invokestatic 54, 3) := by decide +kernel
theorem dX5_spread_17 : decode cX5_spread 17 = .ok (.invokestatic 58, 3) := by decide +kernel
theorem dX5_spread_20 : decode cX5_spread 20 = .ok (.aload_n 0, 1) := by decide +kernel
theorem dX5_spread_21 : decode cX5_spread 21 = .ok (.getfield 21, 3) := by decide +kernel
theorem dX5_spread_24 : decode cX5_spread 24 = .ok (.iload_n 1, 1) := by decide +kernel
theorem dX5_spread_25 : decode cX5_spread 25 = .ok (.iload_n 2, 1) := by decide +kernel
theorem dX5_spread_26 : decode cX5_spread 26 = .ok (.iload_n 3, 1) := by decide +kernel
theorem dX5_spread_27 : decode cX5_spread 27 = .ok (.invokevirtual 125, 3) := by decide +kernel
theorem dX5_spread_30 : decode cX5_spread 30 = .ok (.invokestatic 128, 3) := by decide +kernel
theorem dX5_spread_33 : decode cX5_spread 33 = .ok (.ireturn, 1) := by decide +kernel
set_option maxRecDepth 20000 in
theorem ggX5_send_X5_requireStation : GoodIn wsX5_send wsX5_requireStation := goodIn_ca (goodIn_r _ [12, 13, 14, 15, 16, 17, 18, 11, 19, 20, 21, 22, 23, 44, 45, 46, 47, 48, 49, 50, 51, 52, 64, 65, 66, 67, 68] (by decide +kernel) (by decide +kernel)) (goodIn_sub (fun _ h => List.mem_cons_of_mem _ (List.mem_append_left _ (List.mem_append_right _ h))) (by decide +kernel))
set_option maxRecDepth 20000 in
theorem gX5_send_X5_requireStation : GoodIn wsX5_send (wsV RX5 134 RX5 yX5_requireStation wsX5_requireStation) := goodIn_app (goodIn_of _ (by decide +kernel)) ggX5_send_X5_requireStation
set_option maxRecDepth 20000 in
theorem ggX5_send_X5_requireArgument : GoodIn wsX5_send wsX5_requireArgument := goodIn_ca (goodIn_r _ [26, 27, 28] (by decide +kernel) (by decide +kernel)) (goodIn_sub (fun _ h => List.mem_cons_of_mem _ (List.mem_append_right _ h)) (by decide +kernel))
set_option maxRecDepth 20000 in
theorem gX5_send_X5_requireArgument : GoodIn wsX5_send (va_wsS RX5 58 yX5_requireArgument wsX5_requireArgument) := goodIn_app (goodIn_of _ (by decide +kernel)) ggX5_send_X5_requireArgument
set_option maxRecDepth 20000 in
theorem ggX5_send_X0_init : GoodIn wsX5_send wsX0_init := goodIn_r _ [31, 32, 33, 34, 35, 36, 37, 38, 39, 40, 41, 42, 43, 53, 54, 55, 56, 57, 58, 59, 60] (by decide +kernel) (by decide +kernel)
set_option maxRecDepth 20000 in
theorem gX5_send_X0_init : GoodIn wsX5_send (wsX0_init) := ggX5_send_X0_init
theorem dX5_send_0 : decode cX5_send 0 = .ok (.aload_n 0, 1) := by decide +kernel
theorem dX5_send_1 : decode cX5_send 1 = .ok (.iload_n 1, 1) := by decide +kernel
theorem dX5_send_2 : decode cX5_send 2 = .ok (.invokevirtual 134, 3) := by decide +kernel
theorem dX5_send_5 : decode cX5_send 5 = .ok (.pop, 1) := by decide +kernel
theorem dX5_send_6 : decode cX5_send 6 = .ok (.aload_n 0, 1) := by decide +kernel
theorem dX5_send_7 : decode cX5_send 7 = .ok (.iload_n 2, 1) := by decide +kernel
theorem dX5_send_8 : decode cX5_send 8 = .ok (.invokevirtual 134, 3) := by decide +kernel
theorem dX5_send_11 : decode cX5_send 11 = .ok (.astore_n 3, 1) := by decide +kernel
theorem dX5_send_12 : decode cX5_send 12 = .ok (.iload_n 1, 1) := by decide +kernel
theorem dX5_send_13 : decode cX5_send 13 = .ok (.iload_n 2, 1) := by decide +kernel
theorem dX5_send_14 : decode cX5_send 14 = .ok (.if_icmp .eq 7, 3) := by decide +kernel
theorem dX5_send_17 : decode cX5_send 17 = .ok (.iconst 1, 1) := by decide +kernel
theorem dX5_send_18 : decode cX5_send 18 = .ok (.goto 4, 3) := by decide +kernel
theorem dX5_send_21 : decode cX5_send 21 = .ok (.iconst 0, 1) := by decide +kernel
theorem dX5_send_22 : decode cX5_send 22 = .ok (.invokestatic 58, 3) := by decide +kernel
theorem dX5_send_25 : decode cX5_send 25 = .ok (.aload_n 0, 1) := by decide +kernel
theorem dX5_send_26 : decode cX5_send 26 = .ok (.getfield 48, 3) := by decide +kernel
theorem dX5_send_29 : decode cX5_send 29 = .ok (.bipush 20, 2) := by decide +kernel
theorem dX5_send_31 : decode cX5_send 31 = .ok (.if_icmp .lt 13, 3) := by decide +kernel
theorem dX5_send_34 : decode cX5_send 34 = .ok (.new 62, 3) := by decide +kernel
theorem dX5_send_37 : decode cX5_send 37 = .ok (.dup, 1) := by decide +kernel
theorem dX5_send_38 : decode cX5_send 38 = .ok (.ldc 138, 2) := by decide +kernel
theorem dX5_send_40 : decode cX5_send 40 = .ok (.invokespecial 66, 3) := by decide +kernel
theorem dX5_send_43 : decode cX5_send 43 = .ok (.athrow, 1) := by decide +kernel
theorem dX5_send_44 : decode cX5_send 44 = .ok (.aload_n 0, 1) := by decide +kernel
theorem dX5_send_45 : decode cX5_send 45 = .ok (.getfield 48, 3) := by decide +kernel
theorem dX5_send_48 : decode cX5_send 48 = .ok (.istore 4, 2) := by decide +kernel
theorem dX5_send_50 : decode cX5_send 50 = .ok (.aload_n 0, 1) := by decide +kernel
theorem dX5_send_51 : decode cX5_send 51 = .ok (.getfield 37, 3) := by decide +kernel
theorem dX5_send_54 : decode cX5_send 54 = .ok (.iload 4, 2) := by decide +kernel
theorem dX5_send_56 : decode cX5_send 56 = .ok (.new 35, 3) := by decide +kernel
theorem dX5_send_59 : decode cX5_send 59 = .ok (.dup, 1) := by decide +kernel
theorem dX5_send_60 : decode cX5_send 60 = .ok (.iload_n 1, 1) := by decide +kernel
theorem dX5_send_61 : decode cX5_send 61 = .ok (.iload_n 2, 1) := by decide +kernel
theorem dX5_send_62 : decode cX5_send 62 = .ok (.aload_n 3, 1) := by decide +kernel
theorem dX5_send_63 : decode cX5_send 63 = .ok (.getfield 140, 3) := by decide +kernel
theorem dX5_send_66 : decode cX5_send 66 = .ok (.invokespecial 144, 3) := by decide +kernel
theorem dX5_send_69 : decode cX5_send 69 = .ok (.aastore, 1) := by decide +kernel
theorem dX5_send_70 : decode cX5_send 70 = .ok (.aload_n 0, 1) := by decide +kernel
theorem dX5_send_71 : decode cX5_send 71 = .ok (.dup, 1) := by decide +kernel
theorem dX5_send_72 : decode cX5_send 72 = .ok (.getfield 48, 3) := by decide +kernel
theorem dX5_send_75 : decode cX5_send 75 = .ok (.iconst 1, 1) := by decide +kernel
theorem dX5_send_76 : decode cX5_send 76 = .ok (.iadd, 1) := by decide +kernel
theorem dX5_send_77 : decode cX5_send 77 = .ok (.putfield 48, 3) := by decide +kernel
theorem dX5_send_80 : decode cX5_send 80 = .ok (.iload 4, 2) := by decide +kernel
theorem dX5_send_82 : decode cX5_send 82 = .ok (.ireturn, 1) := by decide +kernel
set_option maxRecDepth 20000 in
theorem ggX5_pass_X5_inRange : GoodIn wsX5_pass wsX5_inRange := goodIn_r _ [8] (by decide +kernel) (by decide +kernel)
set_option maxRecDepth 20000 in
theorem gX5_pass_X5_inRange : GoodIn wsX5_pass (va_wsS RX5 54 yX5_inRange wsX5_inRange) := goodIn_app (goodIn_of _ (by decide +kernel)) ggX5_pass_X5_inRange
set_option maxRecDepth 20000 in
theorem ggX5_pass_X5_requireArgument : GoodIn wsX5_pass wsX5_requireArgument := goodIn_ca (goodIn_r _ [11, 12, 13] (by decide +kernel) (by decide +kernel)) (goodIn_sub (fun _ h => List.mem_cons_of_mem _ (List.mem_append_right _ h)) (by decide +kernel))
set_option maxRecDepth 20000 in
theorem gX5_pass_X5_requireArgument : GoodIn wsX5_pass (va_wsS RX5 58 yX5_requireArgument wsX5_requireArgument) := goodIn_app (goodIn_of _ (by decide +kernel)) ggX5_pass_X5_requireArgument
set_option maxRecDepth 20000 in
theorem ggX5_pass_X5_passOneMinute : GoodIn wsX5_pass wsX5_passOneMinute := goodIn_r _ [17, 18, 19, 3, 20, 21, 22, 23, 24, 25, 26, 27, 28, 29, 30, 31, 7, 32, 33, 34, 35, 36, 37, 38, 39, 40, 41, 42, 43, 44, 45, 46, 47, 48, 49, 50, 51, 52, 53, 54, 55, 56, 57, 58, 59, 60, 61, 62, 63, 64, 65, 66, 67, 68, 69, 70, 71, 72, 73, 74, 75, 76, 77, 78, 79, 80, 81, 82, 83, 84, 85, 86, 87, 88, 89, 90, 91, 92, 93, 94, 95, 96, 97, 98, 99, 100, 101, 102, 103, 104, 105, 106, 107, 108, 109, 110, 111, 112, 113, 114, 115, 116, 117, 118, 119, 120, 121, 122, 123, 124, 125, 126, 127, 128, 129, 130, 131, 132, 133, 134, 135, 136, 137, 138, 139, 140, 141, 142, 143, 144, 145, 146, 147, 148, 149, 150] (by decide +kernel) (by decide +kernel)
set_option maxRecDepth 20000 in
theorem gX5_pass_X5_passOneMinute : GoodIn wsX5_pass (wsV RX5 150 RX5 yX5_passOneMinute wsX5_passOneMinute) := goodIn_app (goodIn_of _ (by decide +kernel)) ggX5_pass_X5_passOneMinute
theorem dX5_pass_0 : decode cX5_pass 0 = .ok (.iload_n 1, 1) := by decide +kernel
theorem dX5_pass_1 : decode cX5_pass 1 = .ok (.iconst 1, 1) := by decide +kernel
theorem dX5_pass_2 : decode cX5_pass 2 = .ok (.bipush 30, 2) := by decide +kernel
theorem dX5_pass_4 : decode cX5_pass 4 = .ok (.invokestatic 54, 3) := by decide +kernel
theorem dX5_pass_7 : decode cX5_pass 7 = .ok (.invokestatic 58, 3) := by decide +kernel
theorem dX5_pass_10 : decode cX5_pass 10 = .ok (.aload_n 0, 1) := by decide +kernel
theorem dX5_pass_11 : decode cX5_pass 11 = .ok (.getfield 51, 3) := by decide +kernel
theorem dX5_pass_14 : decode cX5_pass 14 = .ok (.iload_n 1, 1) := by decide +kernel
theorem dX5_pass_15 : decode cX5_pass 15 = .ok (.iadd, 1) := by decide +kernel
theorem dX5_pass_16 : decode cX5_pass 16 = .ok (.ldc 147, 2) := by decide +kernel
theorem dX5_pass_18 : decode cX5_pass 18 = .ok (.if_icmp .le 13, 3) := by decide +kernel
theorem dX5_pass_21 : decode cX5_pass 21 = .ok (.new 62, 3) := by decide +kernel
theorem dX5_pass_24 : decode cX5_pass 24 = .ok (.dup, 1) := by decide +kernel
theorem dX5_pass_25 : decode cX5_pass 25 = .ok (.ldc 148, 2) := by decide +kernel
theorem dX5_pass_27 : decode cX5_pass 27 = .ok (.invokespecial 66, 3) := by decide +kernel
theorem dX5_pass_30 : decode cX5_pass 30 = .ok (.athrow, 1) := by decide +kernel
theorem dX5_pass_31 : decode cX5_pass 31 = .ok (.iconst 0, 1) := by decide +kernel
theorem dX5_pass_32 : decode cX5_pass 32 = .ok (.istore_n 2, 1) := by decide +kernel
theorem dX5_pass_33 : decode cX5_pass 33 = .ok (.iconst 0, 1) := by decide +kernel
theorem dX5_pass_34 : decode cX5_pass 34 = .ok (.istore_n 3, 1) := by decide +kernel
theorem dX5_pass_35 : decode cX5_pass 35 = .ok (.iload_n 3, 1) := by decide +kernel
theorem dX5_pass_36 : decode cX5_pass 36 = .ok (.iload_n 1, 1) := by decide +kernel
theorem dX5_pass_37 : decode cX5_pass 37 = .ok (.if_icmp .ge 16, 3) := by decide +kernel
theorem dX5_pass_40 : decode cX5_pass 40 = .ok (.iload_n 2, 1) := by decide +kernel
theorem dX5_pass_41 : decode cX5_pass 41 = .ok (.aload_n 0, 1) := by decide +kernel
theorem dX5_pass_42 : decode cX5_pass 42 = .ok (.invokevirtual 150, 3) := by decide +kernel
theorem dX5_pass_45 : decode cX5_pass 45 = .ok (.iadd, 1) := by decide +kernel
theorem dX5_pass_46 : decode cX5_pass 46 = .ok (.istore_n 2, 1) := by decide +kernel
theorem dX5_pass_47 : decode cX5_pass 47 = .ok (.iinc 3 1, 3) := by decide +kernel
theorem dX5_pass_50 : decode cX5_pass 50 = .ok (.goto (-15), 3) := by decide +kernel
theorem dX5_pass_53 : decode cX5_pass 53 = .ok (.iload_n 2, 1) := by decide +kernel
theorem dX5_pass_54 : decode cX5_pass 54 = .ok (.ireturn, 1) := by decide +kernel
theorem dX5_now_0 : decode cX5_now 0 = .ok (.aload_n 0, 1) := by decide +kernel
theorem dX5_now_1 : decode cX5_now 1 = .ok (.getfield 51, 3) := by decide +kernel
theorem dX5_now_4 : decode cX5_now 4 = .ok (.ireturn, 1) := by decide +kernel
theorem dX5_messages_0 : decode cX5_messages 0 = .ok (.aload_n 0, 1) := by decide +kernel
theorem dX5_messages_1 : decode cX5_messages 1 = .ok (.getfield 48, 3) := by decide +kernel
theorem dX5_messages_4 : decode cX5_messages 4 = .ok (.ireturn, 1) := by decide +kernel
set_option maxRecDepth 20000 in
theorem ggX5_nodeOf_X5_requireMessage : GoodIn wsX5_nodeOf wsX5_requireMessage := goodIn_ca (goodIn_r _ [5, 6, 7, 8, 9, 10, 11, 4, 12, 21, 22, 23, 24, 25, 26, 27, 28, 29] (by decide +kernel) (by decide +kernel)) (goodIn_sub (fun _ h => List.mem_cons_of_mem _ (List.mem_append_right _ h)) (by decide +kernel))
set_option maxRecDepth 20000 in
theorem gX5_nodeOf_X5_requireMessage : GoodIn wsX5_nodeOf (wsV RX5 154 RX5 yX5_requireMessage wsX5_requireMessage) := goodIn_app (goodIn_of _ (by decide +kernel)) ggX5_nodeOf_X5_requireMessage
theorem dX5_nodeOf_0 : decode cX5_nodeOf 0 = .ok (.aload_n 0, 1) := by decide +kernel
theorem dX5_nodeOf_1 : decode cX5_nodeOf 1 = .ok (.iload_n 1, 1) := by decide +kernel
theorem dX5_nodeOf_2 : decode cX5_nodeOf 2 = .ok (.invokevirtual 154, 3) := by decide +kernel
theorem dX5_nodeOf_5 : decode cX5_nodeOf 5 = .ok (.getfield 158, 3) := by decide +kernel
theorem dX5_nodeOf_8 : decode cX5_nodeOf 8 = .ok (.ireturn, 1) := by decide +kernel
set_option maxRecDepth 20000 in
theorem ggX5_arrivedAt_X5_requireMessage : GoodIn wsX5_arrivedAt wsX5_requireMessage := goodIn_ca (goodIn_r _ [7, 8, 9, 10, 11, 12, 13, 6, 14, 30, 31, 32, 33, 34, 35, 36, 37, 38] (by decide +kernel) (by decide +kernel)) (goodIn_sub (fun _ h => List.mem_cons_of_mem _ (List.mem_append_right _ h)) (by decide +kernel))
set_option maxRecDepth 20000 in
theorem gX5_arrivedAt_X5_requireMessage : GoodIn wsX5_arrivedAt (wsV RX5 154 RX5 yX5_requireMessage wsX5_requireMessage) := goodIn_app (goodIn_of _ (by decide +kernel)) ggX5_arrivedAt_X5_requireMessage
set_option maxRecDepth 20000 in
theorem ggX5_arrivedAt_X0_isAtGoal : GoodIn wsX5_arrivedAt wsX0_isAtGoal := goodIn_r _ [19, 20, 21, 22, 23, 24, 25, 26, 27, 28, 29] (by decide +kernel) (by decide +kernel)
set_option maxRecDepth 20000 in
theorem gX5_arrivedAt_X0_isAtGoal : GoodIn wsX5_arrivedAt (wsV RX5 161 RX0 yX0_isAtGoal wsX0_isAtGoal) := goodIn_app (goodIn_of _ (by decide +kernel)) ggX5_arrivedAt_X0_isAtGoal
theorem dX5_arrivedAt_0 : decode cX5_arrivedAt 0 = .ok (.aload_n 0, 1) := by decide +kernel
theorem dX5_arrivedAt_1 : decode cX5_arrivedAt 1 = .ok (.iload_n 1, 1) := by decide +kernel
theorem dX5_arrivedAt_2 : decode cX5_arrivedAt 2 = .ok (.invokevirtual 154, 3) := by decide +kernel
theorem dX5_arrivedAt_5 : decode cX5_arrivedAt 5 = .ok (.astore_n 2, 1) := by decide +kernel
theorem dX5_arrivedAt_6 : decode cX5_arrivedAt 6 = .ok (.aload_n 2, 1) := by decide +kernel
theorem dX5_arrivedAt_7 : decode cX5_arrivedAt 7 = .ok (.invokevirtual 161, 3) := by decide +kernel
theorem dX5_arrivedAt_10 : decode cX5_arrivedAt 10 = .ok (.ifCond .ne 13, 3) := by decide +kernel
theorem dX5_arrivedAt_13 : decode cX5_arrivedAt 13 = .ok (.new 165, 3) := by decide +kernel
theorem dX5_arrivedAt_16 : decode cX5_arrivedAt 16 = .ok (.dup, 1) := by decide +kernel
theorem dX5_arrivedAt_17 : decode cX5_arrivedAt 17 = .ok (.ldc 167, 2) := by decide +kernel
theorem dX5_arrivedAt_19 : decode cX5_arrivedAt 19 = .ok (.invokespecial 169, 3) := by decide +kernel
theorem dX5_arrivedAt_22 : decode cX5_arrivedAt 22 = .ok (.athrow, 1) := by decide +kernel
theorem dX5_arrivedAt_23 : decode cX5_arrivedAt 23 = .ok (.aload_n 2, 1) := by decide +kernel
theorem dX5_arrivedAt_24 : decode cX5_arrivedAt 24 = .ok (.getfield 170, 3) := by decide +kernel
theorem dX5_arrivedAt_27 : decode cX5_arrivedAt 27 = .ok (.ireturn, 1) := by decide +kernel
set_option maxRecDepth 20000 in
theorem ggX5_hops_X5_requireMessage : GoodIn wsX5_hops wsX5_requireMessage := goodIn_ca (goodIn_r _ [5, 6, 7, 8, 9, 10, 11, 4, 12, 21, 22, 23, 24, 25, 26, 27, 28, 29] (by decide +kernel) (by decide +kernel)) (goodIn_sub (fun _ h => List.mem_cons_of_mem _ (List.mem_append_right _ h)) (by decide +kernel))
set_option maxRecDepth 20000 in
theorem gX5_hops_X5_requireMessage : GoodIn wsX5_hops (wsV RX5 154 RX5 yX5_requireMessage wsX5_requireMessage) := goodIn_app (goodIn_of _ (by decide +kernel)) ggX5_hops_X5_requireMessage
theorem dX5_hops_0 : decode cX5_hops 0 = .ok (.aload_n 0, 1) := by decide +kernel
theorem dX5_hops_1 : decode cX5_hops 1 = .ok (.iload_n 1, 1) := by decide +kernel
theorem dX5_hops_2 : decode cX5_hops 2 = .ok (.invokevirtual 154, 3) := by decide +kernel
theorem dX5_hops_5 : decode cX5_hops 5 = .ok (.getfield 173, 3) := by decide +kernel
theorem dX5_hops_8 : decode cX5_hops 8 = .ok (.ireturn, 1) := by decide +kernel
set_option maxRecDepth 20000 in
theorem ggX5_hopNode_X5_requireMessage : GoodIn wsX5_hopNode wsX5_requireMessage := goodIn_ca (goodIn_r _ [5, 6, 7, 8, 9, 10, 11, 4, 12, 24, 25, 26, 27, 28, 29, 30, 31, 32] (by decide +kernel) (by decide +kernel)) (goodIn_sub (fun _ h => List.mem_cons_of_mem _ (List.mem_append_right _ h)) (by decide +kernel))
set_option maxRecDepth 20000 in
theorem gX5_hopNode_X5_requireMessage : GoodIn wsX5_hopNode (wsV RX5 154 RX5 yX5_requireMessage wsX5_requireMessage) := goodIn_app (goodIn_of _ (by decide +kernel)) ggX5_hopNode_X5_requireMessage
set_option maxRecDepth 20000 in
theorem ggX5_hopNode_X5_requireHop : GoodIn wsX5_hopNode wsX5_requireHop := goodIn_ca (goodIn_r _ [15, 6, 7, 10, 11, 4, 12, 16, 17, 18, 19, 20, 21, 22, 23] (by decide +kernel) (by decide +kernel)) (goodIn_sub (fun _ h => List.mem_cons_of_mem _ (List.mem_append_right _ h)) (by decide +kernel))
set_option maxRecDepth 20000 in
theorem gX5_hopNode_X5_requireHop : GoodIn wsX5_hopNode (va_wsS RX5 176 yX5_requireHop wsX5_requireHop) := goodIn_app (goodIn_of _ (by decide +kernel)) ggX5_hopNode_X5_requireHop
theorem dX5_hopNode_0 : decode cX5_hopNode 0 = .ok (.aload_n 0, 1) := by decide +kernel
theorem dX5_hopNode_1 : decode cX5_hopNode 1 = .ok (.iload_n 1, 1) := by decide +kernel
theorem dX5_hopNode_2 : decode cX5_hopNode 2 = .ok (.invokevirtual 154, 3) := by decide +kernel
theorem dX5_hopNode_5 : decode cX5_hopNode 5 = .ok (.astore_n 3, 1) := by decide +kernel
theorem dX5_hopNode_6 : decode cX5_hopNode 6 = .ok (.aload_n 3, 1) := by decide +kernel
theorem dX5_hopNode_7 : decode cX5_hopNode 7 = .ok (.iload_n 2, 1) := by decide +kernel
theorem dX5_hopNode_8 : decode cX5_hopNode 8 = .ok (.invokestatic 176, 3) := by decide +kernel
theorem dX5_hopNode_11 : decode cX5_hopNode 11 = .ok (.aload_n 3, 1) := by decide +kernel
theorem dX5_hopNode_12 : decode cX5_hopNode 12 = .ok (.getfield 180, 3) := by decide +kernel
theorem dX5_hopNode_15 : decode cX5_hopNode 15 = .ok (.iload_n 2, 1) := by decide +kernel
theorem dX5_hopNode_16 : decode cX5_hopNode 16 = .ok (.iaload, 1) := by decide +kernel
theorem dX5_hopNode_17 : decode cX5_hopNode 17 = .ok (.ireturn, 1) := by decide +kernel
set_option maxRecDepth 20000 in
theorem ggX5_hopMinute_X5_requireMessage : GoodIn wsX5_hopMinute wsX5_requireMessage := goodIn_ca (goodIn_r _ [5, 6, 7, 8, 9, 10, 11, 4, 12, 24, 25, 26, 27, 28, 29, 30, 31, 32] (by decide +kernel) (by decide +kernel)) (goodIn_sub (fun _ h => List.mem_cons_of_mem _ (List.mem_append_right _ h)) (by decide +kernel))
set_option maxRecDepth 20000 in
theorem gX5_hopMinute_X5_requireMessage : GoodIn wsX5_hopMinute (wsV RX5 154 RX5 yX5_requireMessage wsX5_requireMessage) := goodIn_app (goodIn_of _ (by decide +kernel)) ggX5_hopMinute_X5_requireMessage
set_option maxRecDepth 20000 in
theorem ggX5_hopMinute_X5_requireHop : GoodIn wsX5_hopMinute wsX5_requireHop := goodIn_ca (goodIn_r _ [15, 6, 7, 10, 11, 4, 12, 16, 17, 18, 19, 20, 21, 22, 23] (by decide +kernel) (by decide +kernel)) (goodIn_sub (fun _ h => List.mem_cons_of_mem _ (List.mem_append_right _ h)) (by decide +kernel))
set_option maxRecDepth 20000 in
theorem gX5_hopMinute_X5_requireHop : GoodIn wsX5_hopMinute (va_wsS RX5 176 yX5_requireHop wsX5_requireHop) := goodIn_app (goodIn_of _ (by decide +kernel)) ggX5_hopMinute_X5_requireHop
theorem dX5_hopMinute_0 : decode cX5_hopMinute 0 = .ok (.aload_n 0, 1) := by decide +kernel
theorem dX5_hopMinute_1 : decode cX5_hopMinute 1 = .ok (.iload_n 1, 1) := by decide +kernel
theorem dX5_hopMinute_2 : decode cX5_hopMinute 2 = .ok (.invokevirtual 154, 3) := by decide +kernel
theorem dX5_hopMinute_5 : decode cX5_hopMinute 5 = .ok (.astore_n 3, 1) := by decide +kernel
theorem dX5_hopMinute_6 : decode cX5_hopMinute 6 = .ok (.aload_n 3, 1) := by decide +kernel
theorem dX5_hopMinute_7 : decode cX5_hopMinute 7 = .ok (.iload_n 2, 1) := by decide +kernel
theorem dX5_hopMinute_8 : decode cX5_hopMinute 8 = .ok (.invokestatic 176, 3) := by decide +kernel
theorem dX5_hopMinute_11 : decode cX5_hopMinute 11 = .ok (.aload_n 3, 1) := by decide +kernel
theorem dX5_hopMinute_12 : decode cX5_hopMinute 12 = .ok (.getfield 183, 3) := by decide +kernel
theorem dX5_hopMinute_15 : decode cX5_hopMinute 15 = .ok (.iload_n 2, 1) := by decide +kernel
theorem dX5_hopMinute_16 : decode cX5_hopMinute 16 = .ok (.iaload, 1) := by decide +kernel
theorem dX5_hopMinute_17 : decode cX5_hopMinute 17 = .ok (.ireturn, 1) := by decide +kernel
set_option maxRecDepth 20000 in
theorem ggX5_blocked_X5_requireMessage : GoodIn wsX5_blocked wsX5_requireMessage := goodIn_ca (goodIn_r _ [5, 6, 7, 8, 9, 10, 11, 4, 12, 21, 22, 23, 24, 25, 26, 27, 28, 29] (by decide +kernel) (by decide +kernel)) (goodIn_sub (fun _ h => List.mem_cons_of_mem _ (List.mem_append_right _ h)) (by decide +kernel))
set_option maxRecDepth 20000 in
theorem gX5_blocked_X5_requireMessage : GoodIn wsX5_blocked (wsV RX5 154 RX5 yX5_requireMessage wsX5_requireMessage) := goodIn_app (goodIn_of _ (by decide +kernel)) ggX5_blocked_X5_requireMessage
theorem dX5_blocked_0 : decode cX5_blocked 0 = .ok (.aload_n 0, 1) := by decide +kernel
theorem dX5_blocked_1 : decode cX5_blocked 1 = .ok (.iload_n 1, 1) := by decide +kernel
theorem dX5_blocked_2 : decode cX5_blocked 2 = .ok (.invokevirtual 154, 3) := by decide +kernel
theorem dX5_blocked_5 : decode cX5_blocked 5 = .ok (.getfield 186, 3) := by decide +kernel
theorem dX5_blocked_8 : decode cX5_blocked 8 = .ok (.ireturn, 1) := by decide +kernel
set_option maxRecDepth 20000 in
theorem ggX5_load_X5_requireNode : GoodIn wsX5_load wsX5_requireNode := goodIn_ca (goodIn_r _ [5, 6, 7, 8, 9, 10, 4, 11, 18, 19, 20, 21, 22, 23, 24, 25, 26, 27, 28, 29, 30, 31] (by decide +kernel) (by decide +kernel)) (goodIn_sub (fun _ h => List.mem_cons_of_mem _ (List.mem_append_right _ h)) (by decide +kernel))
set_option maxRecDepth 20000 in
theorem gX5_load_X5_requireNode : GoodIn wsX5_load (wsV RX5 87 RX5 yX5_requireNode wsX5_requireNode) := goodIn_app (goodIn_of _ (by decide +kernel)) ggX5_load_X5_requireNode
set_option maxRecDepth 20000 in
theorem ggX5_load_X5_messagesAt : GoodIn wsX5_load wsX5_messagesAt := goodIn_r _ [15, 16, 17, 18, 19, 20, 21, 22, 23, 24, 25, 26, 32, 33, 34, 35, 36, 37, 38, 39] (by decide +kernel) (by decide +kernel)
set_option maxRecDepth 20000 in
theorem gX5_load_X5_messagesAt : GoodIn wsX5_load (wsV RX5 189 RX5 yX5_messagesAt wsX5_messagesAt) := goodIn_app (goodIn_of _ (by decide +kernel)) ggX5_load_X5_messagesAt
theorem dX5_load_0 : decode cX5_load 0 = .ok (.aload_n 0, 1) := by decide +kernel
theorem dX5_load_1 : decode cX5_load 1 = .ok (.iload_n 1, 1) := by decide +kernel
theorem dX5_load_2 : decode cX5_load 2 = .ok (.invokevirtual 87, 3) := by decide +kernel
theorem dX5_load_5 : decode cX5_load 5 = .ok (.aload_n 0, 1) := by decide +kernel
theorem dX5_load_6 : decode cX5_load 6 = .ok (.iload_n 1, 1) := by decide +kernel
theorem dX5_load_7 : decode cX5_load 7 = .ok (.invokevirtual 189, 3) := by decide +kernel
theorem dX5_load_10 : decode cX5_load 10 = .ok (.ireturn, 1) := by decide +kernel
set_option maxRecDepth 20000 in
theorem ggX5_relayOf_X5_requireStation : GoodIn wsX5_relayOf wsX5_requireStation := goodIn_ca (goodIn_r _ [5, 6, 7, 8, 9, 10, 11, 4, 12, 13, 14, 15, 16, 20, 21, 22, 23, 24, 25, 26, 27, 28, 29, 30, 31, 32, 33] (by decide +kernel) (by decide +kernel)) (goodIn_sub (fun _ h => List.mem_cons_of_mem _ (List.mem_append_right _ h)) (by decide +kernel))
set_option maxRecDepth 20000 in
theorem gX5_relayOf_X5_requireStation : GoodIn wsX5_relayOf (wsV RX5 134 RX5 yX5_requireStation wsX5_requireStation) := goodIn_app (goodIn_of _ (by decide +kernel)) ggX5_relayOf_X5_requireStation
theorem dX5_relayOf_0 : decode cX5_relayOf 0 = .ok (.aload_n 0, 1) := by decide +kernel
theorem dX5_relayOf_1 : decode cX5_relayOf 1 = .ok (.iload_n 1, 1) := by decide +kernel
theorem dX5_relayOf_2 : decode cX5_relayOf 2 = .ok (.invokevirtual 134, 3) := by decide +kernel
theorem dX5_relayOf_5 : decode cX5_relayOf 5 = .ok (.getfield 192, 3) := by decide +kernel
theorem dX5_relayOf_8 : decode cX5_relayOf 8 = .ok (.ireturn, 1) := by decide +kernel
set_option maxRecDepth 20000 in
theorem ggX5_handovers_X5_requireStation : GoodIn wsX5_handovers wsX5_requireStation := goodIn_ca (goodIn_r _ [5, 6, 7, 8, 9, 10, 11, 4, 12, 13, 14, 15, 16, 20, 21, 22, 23, 24, 25, 26, 27, 28, 29, 30, 31, 32, 33] (by decide +kernel) (by decide +kernel)) (goodIn_sub (fun _ h => List.mem_cons_of_mem _ (List.mem_append_right _ h)) (by decide +kernel))
set_option maxRecDepth 20000 in
theorem gX5_handovers_X5_requireStation : GoodIn wsX5_handovers (wsV RX5 134 RX5 yX5_requireStation wsX5_requireStation) := goodIn_app (goodIn_of _ (by decide +kernel)) ggX5_handovers_X5_requireStation
theorem dX5_handovers_0 : decode cX5_handovers 0 = .ok (.aload_n 0, 1) := by decide +kernel
theorem dX5_handovers_1 : decode cX5_handovers 1 = .ok (.iload_n 1, 1) := by decide +kernel
theorem dX5_handovers_2 : decode cX5_handovers 2 = .ok (.invokevirtual 134, 3) := by decide +kernel
theorem dX5_handovers_5 : decode cX5_handovers 5 = .ok (.getfield 195, 3) := by decide +kernel
theorem dX5_handovers_8 : decode cX5_handovers 8 = .ok (.ireturn, 1) := by decide +kernel
set_option maxRecDepth 20000 in
theorem ggX5_passOneMinute_X0_isAtGoal : GoodIn wsX5_passOneMinute wsX0_isAtGoal := goodIn_r _ [10, 11, 12, 119, 120, 121, 122, 123, 124, 125, 126] (by decide +kernel) (by decide +kernel)
set_option maxRecDepth 20000 in
theorem gX5_passOneMinute_X0_isAtGoal : GoodIn wsX5_passOneMinute (wsV RX5 161 RX0 yX0_isAtGoal wsX0_isAtGoal) := goodIn_app (goodIn_of _ (by decide +kernel)) ggX5_passOneMinute_X0_isAtGoal
set_option maxRecDepth 20000 in
theorem ggX5_passOneMinute_X5_moveOn : GoodIn wsX5_passOneMinute wsX5_moveOn := goodIn_r _ [17, 3, 18, 19, 20, 21, 22, 23, 24, 25, 26, 27, 28, 29, 30, 31, 32, 33, 34, 35, 36, 37, 38, 39, 40, 41, 42, 43, 44, 45, 46, 47, 48, 49, 50, 51, 52, 53, 54, 55, 56, 57, 58, 59, 60, 61, 62, 16, 63, 5, 64, 65, 66, 67, 68, 1, 2, 69, 70, 71, 9, 72, 73, 74, 75, 11, 76, 77, 78, 79, 80, 81, 82, 83, 84, 85, 86, 87, 88, 89, 90, 91, 92, 93, 94, 119, 120, 121, 122, 123, 124, 125, 126, 105, 106, 107, 108, 109, 110, 111, 112, 113, 127, 128, 129, 130, 131, 132, 114, 115, 116, 117, 118] (by decide +kernel) (by decide +kernel)
set_option maxRecDepth 20000 in
theorem gX5_passOneMinute_X5_moveOn : GoodIn wsX5_passOneMinute (wsV RX5 198 RX5 yX5_moveOn wsX5_moveOn) := goodIn_app (goodIn_of _ (by decide +kernel)) ggX5_passOneMinute_X5_moveOn
set_option maxRecDepth 20000 in
theorem ggX5_passOneMinute_X5_lookForRelay : GoodIn wsX5_passOneMinute wsX5_lookForRelay := goodIn_r _ [98, 4, 3, 99, 56, 57, 44, 58, 59, 42, 43, 45, 46, 100, 101, 102, 103, 104, 133, 134, 135, 105, 106, 107, 108, 109, 110, 111, 112, 113, 114, 115, 116, 117, 118] (by decide +kernel) (by decide +kernel)
set_option maxRecDepth 20000 in
theorem gX5_passOneMinute_X5_lookForRelay : GoodIn wsX5_passOneMinute (wsV RX5 81 RX5 yX5_lookForRelay wsX5_lookForRelay) := goodIn_app (goodIn_of _ (by decide +kernel)) ggX5_passOneMinute_X5_lookForRelay
theorem dX5_passOneMinute_0 : decode cX5_passOneMinute 0 = .ok (.iconst 0, 1) := by decide +kernel
theorem dX5_passOneMinute_1 : decode cX5_passOneMinute 1 = .ok (.istore_n 1, 1) := by decide +kernel
theorem dX5_passOneMinute_2 : decode cX5_passOneMinute 2 = .ok (.iconst 0, 1) := by decide +kernel
theorem dX5_passOneMinute_3 : decode cX5_passOneMinute 3 = .ok (.istore_n 2, 1) := by decide +kernel
theorem dX5_passOneMinute_4 : decode cX5_passOneMinute 4 = .ok (.iload_n 2, 1) := by decide +kernel
theorem dX5_passOneMinute_5 : decode cX5_passOneMinute 5 = .ok (.aload_n 0, 1) := by decide +kernel
theorem dX5_passOneMinute_6 : decode cX5_passOneMinute 6 = .ok (.getfield 48, 3) := by decide +kernel
theorem dX5_passOneMinute_9 : decode cX5_passOneMinute 9 = .ok (.if_icmp .ge 43, 3) := by decide +kernel
theorem dX5_passOneMinute_12 : decode cX5_passOneMinute 12 = .ok (.aload_n 0, 1) := by decide +kernel
theorem dX5_passOneMinute_13 : decode cX5_passOneMinute 13 = .ok (.getfield 37, 3) := by decide +kernel
theorem dX5_passOneMinute_16 : decode cX5_passOneMinute 16 = .ok (.iload_n 2, 1) := by decide +kernel
theorem dX5_passOneMinute_17 : decode cX5_passOneMinute 17 = .ok (.aaload, 1) := by decide +kernel
theorem dX5_passOneMinute_18 : decode cX5_passOneMinute 18 = .ok (.astore_n 3, 1) := by decide +kernel
theorem dX5_passOneMinute_19 : decode cX5_passOneMinute 19 = .ok (.aload_n 3, 1) := by decide +kernel
theorem dX5_passOneMinute_20 : decode cX5_passOneMinute 20 = .ok (.invokevirtual 161, 3) := by decide +kernel
theorem dX5_passOneMinute_23 : decode cX5_passOneMinute 23 = .ok (.ifCond .ne 23, 3) := by decide +kernel
theorem dX5_passOneMinute_26 : decode cX5_passOneMinute 26 = .ok (.aload_n 0, 1) := by decide +kernel
theorem dX5_passOneMinute_27 : decode cX5_passOneMinute 27 = .ok (.aload_n 3, 1) := by decide +kernel
theorem dX5_passOneMinute_28 : decode cX5_passOneMinute 28 = .ok (.invokevirtual 198, 3) := by decide +kernel
theorem dX5_passOneMinute_31 : decode cX5_passOneMinute 31 = .ok (.iload_n 1, 1) := by decide +kernel
theorem dX5_passOneMinute_32 : decode cX5_passOneMinute 32 = .ok (.aload_n 3, 1) := by decide +kernel
theorem dX5_passOneMinute_33 : decode cX5_passOneMinute 33 = .ok (.invokevirtual 161, 3) := by decide +kernel
theorem dX5_passOneMinute_36 : decode cX5_passOneMinute 36 = .ok (.ifCond .eq 7, 3) := by decide +kernel
theorem dX5_passOneMinute_39 : decode cX5_passOneMinute 39 = .ok (.iconst 1, 1) := by decide +kernel
theorem dX5_passOneMinute_40 : decode cX5_passOneMinute 40 = .ok (.goto 4, 3) := by decide +kernel
theorem dX5_passOneMinute_43 : decode cX5_passOneMinute 43 = .ok (.iconst 0, 1) := by decide +kernel
theorem dX5_passOneMinute_44 : decode cX5_passOneMinute 44 = .ok (.iadd, 1) := by decide +kernel
theorem dX5_passOneMinute_45 : decode cX5_passOneMinute 45 = .ok (.istore_n 1, 1) := by decide +kernel
theorem dX5_passOneMinute_46 : decode cX5_passOneMinute 46 = .ok (.iinc 2 1, 3) := by decide +kernel
theorem dX5_passOneMinute_49 : decode cX5_passOneMinute 49 = .ok (.goto (-45), 3) := by decide +kernel
theorem dX5_passOneMinute_52 : decode cX5_passOneMinute 52 = .ok (.aload_n 0, 1) := by decide +kernel
theorem dX5_passOneMinute_53 : decode cX5_passOneMinute 53 = .ok (.dup, 1) := by decide +kernel
theorem dX5_passOneMinute_54 : decode cX5_passOneMinute 54 = .ok (.getfield 51, 3) := by decide +kernel
theorem dX5_passOneMinute_57 : decode cX5_passOneMinute 57 = .ok (.iconst 1, 1) := by decide +kernel
theorem dX5_passOneMinute_58 : decode cX5_passOneMinute 58 = .ok (.iadd, 1) := by decide +kernel
theorem dX5_passOneMinute_59 : decode cX5_passOneMinute 59 = .ok (.putfield 51, 3) := by decide +kernel
theorem dX5_passOneMinute_62 : decode cX5_passOneMinute 62 = .ok (.iconst 0, 1) := by decide +kernel
theorem dX5_passOneMinute_63 : decode cX5_passOneMinute 63 = .ok (.istore_n 2, 1) := by decide +kernel
theorem dX5_passOneMinute_64 : decode cX5_passOneMinute 64 = .ok (.iload_n 2, 1) := by decide +kernel
theorem dX5_passOneMinute_65 : decode cX5_passOneMinute 65 = .ok (.aload_n 0, 1) := by decide +kernel
theorem dX5_passOneMinute_66 : decode cX5_passOneMinute 66 = .ok (.getfield 12, 3) := by decide +kernel
theorem dX5_passOneMinute_69 : decode cX5_passOneMinute 69 = .ok (.getfield 96, 3) := by decide +kernel
theorem dX5_passOneMinute_72 : decode cX5_passOneMinute 72 = .ok (.if_icmp .ge 26, 3) := by decide +kernel
theorem dX5_passOneMinute_75 : decode cX5_passOneMinute 75 = .ok (.aload_n 0, 1) := by decide +kernel
theorem dX5_passOneMinute_76 : decode cX5_passOneMinute 76 = .ok (.getfield 27, 3) := by decide +kernel
theorem dX5_passOneMinute_79 : decode cX5_passOneMinute 79 = .ok (.iload_n 2, 1) := by decide +kernel
theorem dX5_passOneMinute_80 : decode cX5_passOneMinute 80 = .ok (.aaload, 1) := by decide +kernel
theorem dX5_passOneMinute_81 : decode cX5_passOneMinute 81 = .ok (.astore_n 3, 1) := by decide +kernel
theorem dX5_passOneMinute_82 : decode cX5_passOneMinute 82 = .ok (.aload_n 3, 1) := by decide +kernel
theorem dX5_passOneMinute_83 : decode cX5_passOneMinute 83 = .ok (.ifnull 9, 3) := by decide +kernel
theorem dX5_passOneMinute_86 : decode cX5_passOneMinute 86 = .ok (.aload_n 0, 1) := by decide +kernel
theorem dX5_passOneMinute_87 : decode cX5_passOneMinute 87 = .ok (.iload_n 2, 1) := by decide +kernel
theorem dX5_passOneMinute_88 : decode cX5_passOneMinute 88 = .ok (.aload_n 3, 1) := by decide +kernel
theorem dX5_passOneMinute_89 : decode cX5_passOneMinute 89 = .ok (.invokevirtual 81, 3) := by decide +kernel
theorem dX5_passOneMinute_92 : decode cX5_passOneMinute 92 = .ok (.iinc 2 1, 3) := by decide +kernel
theorem dX5_passOneMinute_95 : decode cX5_passOneMinute 95 = .ok (.goto (-31), 3) := by decide +kernel
theorem dX5_passOneMinute_98 : decode cX5_passOneMinute 98 = .ok (.iload_n 1, 1) := by decide +kernel
theorem dX5_passOneMinute_99 : decode cX5_passOneMinute 99 = .ok (.ireturn, 1) := by decide +kernel
set_option maxRecDepth 20000 in
theorem ggX5_moveOn_X4_nextNode : GoodIn wsX5_moveOn wsX4_nextNode := goodIn_r _ [6, 7, 8, 9, 10, 11, 12, 5, 13, 14, 15, 16, 17, 18, 19, 20, 21, 22, 23, 24, 25, 26, 27, 28, 29, 30, 31, 32, 33, 34, 35, 36, 37, 38, 39, 40, 41, 42, 43, 102, 103, 104, 105, 106, 107, 108, 109, 110, 111, 112] (by decide +kernel) (by decide +kernel)
set_option maxRecDepth 20000 in
theorem gX5_moveOn_X4_nextNode : GoodIn wsX5_moveOn (wsV RX5 203 RX4 yX4_nextNode wsX4_nextNode) := goodIn_app (goodIn_of _ (by decide +kernel)) ggX5_moveOn_X4_nextNode
set_option maxRecDepth 20000 in
theorem ggX5_moveOn_X5_isFull : GoodIn wsX5_moveOn wsX5_isFull := goodIn_r _ [48, 49, 50, 51, 52, 53, 47, 54, 55, 56, 93, 94, 95, 96, 97, 98, 99, 100, 101, 85, 86, 87, 88, 89, 90, 91, 92] (by decide +kernel) (by decide +kernel)
set_option maxRecDepth 20000 in
theorem gX5_moveOn_X5_isFull : GoodIn wsX5_moveOn (wsV RX5 206 RX5 yX5_isFull wsX5_isFull) := goodIn_app (goodIn_of _ (by decide +kernel)) ggX5_moveOn_X5_isFull
set_option maxRecDepth 20000 in
theorem ggX5_moveOn_X0_handTo : GoodIn wsX5_moveOn wsX0_handTo := goodIn_r _ [61, 62, 63, 64, 65, 66, 67, 68, 17, 69, 70, 71, 72, 73, 74, 75, 76, 77, 78, 79, 80, 81, 82, 83, 84, 85, 86, 87, 88, 89, 90, 91, 92] (by decide +kernel) (by decide +kernel)
set_option maxRecDepth 20000 in
theorem gX5_moveOn_X0_handTo : GoodIn wsX5_moveOn (wsV RX5 210 RX0 yX0_handTo wsX0_handTo) := goodIn_app (goodIn_of _ (by decide +kernel)) ggX5_moveOn_X0_handTo
theorem dX5_moveOn_0 : decode cX5_moveOn 0 = .ok (.aload_n 1, 1) := by decide +kernel
theorem dX5_moveOn_1 : decode cX5_moveOn 1 = .ok (.getfield 202, 3) := by decide +kernel
theorem dX5_moveOn_4 : decode cX5_moveOn 4 = .ok (.aload_n 1, 1) := by decide +kernel
theorem dX5_moveOn_5 : decode cX5_moveOn 5 = .ok (.getfield 158, 3) := by decide +kernel
theorem dX5_moveOn_8 : decode cX5_moveOn 8 = .ok (.aload_n 0, 1) := by decide +kernel
theorem dX5_moveOn_9 : decode cX5_moveOn 9 = .ok (.getfield 51, 3) := by decide +kernel
theorem dX5_moveOn_12 : decode cX5_moveOn 12 = .ok (.invokevirtual 203, 3) := by decide +kernel
theorem dX5_moveOn_15 : decode cX5_moveOn 15 = .ok (.istore_n 2, 1) := by decide +kernel
theorem dX5_moveOn_16 : decode cX5_moveOn 16 = .ok (.iload_n 2, 1) := by decide +kernel
theorem dX5_moveOn_17 : decode cX5_moveOn 17 = .ok (.iconst (-1), 1) := by decide +kernel
theorem dX5_moveOn_18 : decode cX5_moveOn 18 = .ok (.if_icmp .ne 4, 3) := by decide +kernel
theorem dX5_moveOn_21 : decode cX5_moveOn 21 = .ok (.return_, 1) := by decide +kernel
theorem dX5_moveOn_22 : decode cX5_moveOn 22 = .ok (.aload_n 0, 1) := by decide +kernel
theorem dX5_moveOn_23 : decode cX5_moveOn 23 = .ok (.iload_n 2, 1) := by decide +kernel
theorem dX5_moveOn_24 : decode cX5_moveOn 24 = .ok (.invokevirtual 206, 3) := by decide +kernel
theorem dX5_moveOn_27 : decode cX5_moveOn 27 = .ok (.ifCond .eq 16, 3) := by decide +kernel
theorem dX5_moveOn_30 : decode cX5_moveOn 30 = .ok (.aload_n 1, 1) := by decide +kernel
theorem dX5_moveOn_31 : decode cX5_moveOn 31 = .ok (.dup, 1) := by decide +kernel
theorem dX5_moveOn_32 : decode cX5_moveOn 32 = .ok (.getfield 186, 3) := by decide +kernel
theorem dX5_moveOn_35 : decode cX5_moveOn 35 = .ok (.iconst 1, 1) := by decide +kernel
theorem dX5_moveOn_36 : decode cX5_moveOn 36 = .ok (.iadd, 1) := by decide +kernel
theorem dX5_moveOn_37 : decode cX5_moveOn 37 = .ok (.putfield 186, 3) := by decide +kernel
theorem dX5_moveOn_40 : decode cX5_moveOn 40 = .ok (.goto 12, 3) := by decide +kernel
theorem dX5_moveOn_43 : decode cX5_moveOn 43 = .ok (.aload_n 1, 1) := by decide +kernel
theorem dX5_moveOn_44 : decode cX5_moveOn 44 = .ok (.iload_n 2, 1) := by decide +kernel
theorem dX5_moveOn_45 : decode cX5_moveOn 45 = .ok (.aload_n 0, 1) := by decide +kernel
theorem dX5_moveOn_46 : decode cX5_moveOn 46 = .ok (.getfield 51, 3) := by decide +kernel
theorem dX5_moveOn_49 : decode cX5_moveOn 49 = .ok (.invokevirtual 210, 3) := by decide +kernel
theorem dX5_moveOn_52 : decode cX5_moveOn 52 = .ok (.return_, 1) := by decide +kernel
set_option maxRecDepth 20000 in
theorem ggX5_isFull_X5_messagesAt : GoodIn wsX5_isFull wsX5_messagesAt := goodIn_r _ [7, 8, 9, 10, 11, 12, 13, 14, 15, 16, 17, 18, 19, 20, 21, 22, 23, 24, 25, 26] (by decide +kernel) (by decide +kernel)
set_option maxRecDepth 20000 in
theorem gX5_isFull_X5_messagesAt : GoodIn wsX5_isFull (wsV RX5 189 RX5 yX5_messagesAt wsX5_messagesAt) := goodIn_app (goodIn_of _ (by decide +kernel)) ggX5_isFull_X5_messagesAt
theorem dX5_isFull_0 : decode cX5_isFull 0 = .ok (.aload_n 0, 1) := by decide +kernel
theorem dX5_isFull_1 : decode cX5_isFull 1 = .ok (.getfield 27, 3) := by decide +kernel
theorem dX5_isFull_4 : decode cX5_isFull 4 = .ok (.iload_n 1, 1) := by decide +kernel
theorem dX5_isFull_5 : decode cX5_isFull 5 = .ok (.aaload, 1) := by decide +kernel
theorem dX5_isFull_6 : decode cX5_isFull 6 = .ok (.ifnonnull 21, 3) := by decide +kernel
theorem dX5_isFull_9 : decode cX5_isFull 9 = .ok (.aload_n 0, 1) := by decide +kernel
theorem dX5_isFull_10 : decode cX5_isFull 10 = .ok (.iload_n 1, 1) := by decide +kernel
theorem dX5_isFull_11 : decode cX5_isFull 11 = .ok (.invokevirtual 189, 3) := by decide +kernel
theorem dX5_isFull_14 : decode cX5_isFull 14 = .ok (.aload_n 0, 1) := by decide +kernel
theorem dX5_isFull_15 : decode cX5_isFull 15 = .ok (.getfield 31, 3) := by decide +kernel
theorem dX5_isFull_18 : decode cX5_isFull 18 = .ok (.iload_n 1, 1) := by decide +kernel
theorem dX5_isFull_19 : decode cX5_isFull 19 = .ok (.iaload, 1) := by decide +kernel
theorem dX5_isFull_20 : decode cX5_isFull 20 = .ok (.if_icmp .lt 7, 3) := by decide +kernel
theorem dX5_isFull_23 : decode cX5_isFull 23 = .ok (.iconst 1, 1) := by decide +kernel
theorem dX5_isFull_24 : decode cX5_isFull 24 = .ok (.goto 4, 3) := by decide +kernel
theorem dX5_isFull_27 : decode cX5_isFull 27 = .ok (.iconst 0, 1) := by decide +kernel
theorem dX5_isFull_28 : decode cX5_isFull 28 = .ok (.ireturn, 1) := by decide +kernel
theorem dX5_messagesAt_0 : decode cX5_messagesAt 0 = .ok (.iconst 0, 1) := by decide +kernel
theorem dX5_messagesAt_1 : decode cX5_messagesAt 1 = .ok (.istore_n 2, 1) := by decide +kernel
theorem dX5_messagesAt_2 : decode cX5_messagesAt 2 = .ok (.iconst 0, 1) := by decide +kernel
theorem dX5_messagesAt_3 : decode cX5_messagesAt 3 = .ok (.istore_n 3, 1) := by decide +kernel
theorem dX5_messagesAt_4 : decode cX5_messagesAt 4 = .ok (.iload_n 3, 1) := by decide +kernel
theorem dX5_messagesAt_5 : decode cX5_messagesAt 5 = .ok (.aload_n 0, 1) := by decide +kernel
theorem dX5_messagesAt_6 : decode cX5_messagesAt 6 = .ok (.getfield 48, 3) := by decide +kernel
theorem dX5_messagesAt_9 : decode cX5_messagesAt 9 = .ok (.if_icmp .ge 30, 3) := by decide +kernel
theorem dX5_messagesAt_12 : decode cX5_messagesAt 12 = .ok (.iload_n 2, 1) := by decide +kernel
theorem dX5_messagesAt_13 : decode cX5_messagesAt 13 = .ok (.aload_n 0, 1) := by decide +kernel
theorem dX5_messagesAt_14 : decode cX5_messagesAt 14 = .ok (.getfield 37, 3) := by decide +kernel
theorem dX5_messagesAt_17 : decode cX5_messagesAt 17 = .ok (.iload_n 3, 1) := by decide +kernel
theorem dX5_messagesAt_18 : decode cX5_messagesAt 18 = .ok (.aaload, 1) := by decide +kernel
theorem dX5_messagesAt_19 : decode cX5_messagesAt 19 = .ok (.getfield 158, 3) := by decide +kernel
theorem dX5_messagesAt_22 : decode cX5_messagesAt 22 = .ok (.iload_n 1, 1) := by decide +kernel
theorem dX5_messagesAt_23 : decode cX5_messagesAt 23 = .ok (.if_icmp .ne 7, 3) := by decide +kernel
theorem dX5_messagesAt_26 : decode cX5_messagesAt 26 = .ok (.iconst 1, 1) := by decide +kernel
theorem dX5_messagesAt_27 : decode cX5_messagesAt 27 = .ok (.goto 4, 3) := by decide +kernel
theorem dX5_messagesAt_30 : decode cX5_messagesAt 30 = .ok (.iconst 0, 1) := by decide +kernel
theorem dX5_messagesAt_31 : decode cX5_messagesAt 31 = .ok (.iadd, 1) := by decide +kernel
theorem dX5_messagesAt_32 : decode cX5_messagesAt 32 = .ok (.istore_n 2, 1) := by decide +kernel
theorem dX5_messagesAt_33 : decode cX5_messagesAt 33 = .ok (.iinc 3 1, 3) := by decide +kernel
theorem dX5_messagesAt_36 : decode cX5_messagesAt 36 = .ok (.goto (-32), 3) := by decide +kernel
theorem dX5_messagesAt_39 : decode cX5_messagesAt 39 = .ok (.iload_n 2, 1) := by decide +kernel
theorem dX5_messagesAt_40 : decode cX5_messagesAt 40 = .ok (.ireturn, 1) := by decide +kernel
set_option maxRecDepth 20000 in
theorem ggX5_lookForRelay_X2_inContact : GoodIn wsX5_lookForRelay wsX2_inContact := goodIn_r _ [7, 8, 9, 10, 6, 11, 12, 30, 31, 32, 33, 34] (by decide +kernel) (by decide +kernel)
set_option maxRecDepth 20000 in
theorem gX5_lookForRelay_X2_inContact : GoodIn wsX5_lookForRelay (wsV RX5 110 RX2 yX2_inContact wsX2_inContact) := goodIn_app (goodIn_of _ (by decide +kernel)) ggX5_lookForRelay_X2_inContact
set_option maxRecDepth 20000 in
theorem ggX5_lookForRelay_X2_contactLength : GoodIn wsX5_lookForRelay wsX2_contactLength := goodIn_r _ [16, 17, 4, 5, 6, 7, 8, 9, 10, 11, 12, 30, 31, 32, 33, 34] (by decide +kernel) (by decide +kernel)
set_option maxRecDepth 20000 in
theorem gX5_lookForRelay_X2_contactLength : GoodIn wsX5_lookForRelay (wsV RX5 116 RX2 yX2_contactLength wsX2_contactLength) := goodIn_app (goodIn_of _ (by decide +kernel)) ggX5_lookForRelay_X2_contactLength
theorem dX5_lookForRelay_0 : decode cX5_lookForRelay 0 = .ok (.aload_n 2, 1) := by decide +kernel
theorem dX5_lookForRelay_1 : decode cX5_lookForRelay 1 = .ok (.getfield 192, 3) := by decide +kernel
theorem dX5_lookForRelay_4 : decode cX5_lookForRelay 4 = .ok (.iconst (-1), 1) := by decide +kernel
theorem dX5_lookForRelay_5 : decode cX5_lookForRelay 5 = .ok (.if_icmp .eq 23, 3) := by decide +kernel
theorem dX5_lookForRelay_8 : decode cX5_lookForRelay 8 = .ok (.aload_n 0, 1) := by decide +kernel
theorem dX5_lookForRelay_9 : decode cX5_lookForRelay 9 = .ok (.getfield 12, 3) := by decide +kernel
theorem dX5_lookForRelay_12 : decode cX5_lookForRelay 12 = .ok (.iload_n 1, 1) := by decide +kernel
theorem dX5_lookForRelay_13 : decode cX5_lookForRelay 13 = .ok (.aload_n 2, 1) := by decide +kernel
theorem dX5_lookForRelay_14 : decode cX5_lookForRelay 14 = .ok (.getfield 192, 3) := by decide +kernel
theorem dX5_lookForRelay_17 : decode cX5_lookForRelay 17 = .ok (.aload_n 0, 1) := by decide +kernel
theorem dX5_lookForRelay_18 : decode cX5_lookForRelay 18 = .ok (.getfield 51, 3) := by decide +kernel
theorem dX5_lookForRelay_21 : decode cX5_lookForRelay 21 = .ok (.invokevirtual 110, 3) := by decide +kernel
theorem dX5_lookForRelay_24 : decode cX5_lookForRelay 24 = .ok (.ifCond .eq 4, 3) := by decide +kernel
theorem dX5_lookForRelay_27 : decode cX5_lookForRelay 27 = .ok (.return_, 1) := by decide +kernel
theorem dX5_lookForRelay_28 : decode cX5_lookForRelay 28 = .ok (.iconst (-1), 1) := by decide +kernel
theorem dX5_lookForRelay_29 : decode cX5_lookForRelay 29 = .ok (.istore_n 3, 1) := by decide +kernel
theorem dX5_lookForRelay_30 : decode cX5_lookForRelay 30 = .ok (.iconst 0, 1) := by decide +kernel
theorem dX5_lookForRelay_31 : decode cX5_lookForRelay 31 = .ok (.istore 4, 2) := by decide +kernel
theorem dX5_lookForRelay_33 : decode cX5_lookForRelay 33 = .ok (.iconst 0, 1) := by decide +kernel
theorem dX5_lookForRelay_34 : decode cX5_lookForRelay 34 = .ok (.istore 5, 2) := by decide +kernel
theorem dX5_lookForRelay_36 : decode cX5_lookForRelay 36 = .ok (.iload 5, 2) := by decide +kernel
theorem dX5_lookForRelay_38 : decode cX5_lookForRelay 38 = .ok (.aload_n 0, 1) := by decide +kernel
theorem dX5_lookForRelay_39 : decode cX5_lookForRelay 39 = .ok (.getfield 12, 3) := by decide +kernel
theorem dX5_lookForRelay_42 : decode cX5_lookForRelay 42 = .ok (.getfield 96, 3) := by decide +kernel
theorem dX5_lookForRelay_45 : decode cX5_lookForRelay 45 = .ok (.if_icmp .ge 39, 3) := by decide +kernel
theorem dX5_lookForRelay_48 : decode cX5_lookForRelay 48 = .ok (.aload_n 0, 1) := by decide +kernel
theorem dX5_lookForRelay_49 : decode cX5_lookForRelay 49 = .ok (.getfield 12, 3) := by decide +kernel
theorem dX5_lookForRelay_52 : decode cX5_lookForRelay 52 = .ok (.iload_n 1, 1) := by decide +kernel
theorem dX5_lookForRelay_53 : decode cX5_lookForRelay 53 = .ok (.iload 5, 2) := by decide +kernel
theorem dX5_lookForRelay_55 : decode cX5_lookForRelay 55 = .ok (.aload_n 0, 1) := by decide +kernel
theorem dX5_lookForRelay_56 : decode cX5_lookForRelay 56 = .ok (.getfield 51, 3) := by decide +kernel
theorem dX5_lookForRelay_59 : decode cX5_lookForRelay 59 = .ok (.invokevirtual 116, 3) := by decide +kernel
theorem dX5_lookForRelay_62 : decode cX5_lookForRelay 62 = .ok (.istore 6, 2) := by decide +kernel
theorem dX5_lookForRelay_64 : decode cX5_lookForRelay 64 = .ok (.iload 6, 2) := by decide +kernel
theorem dX5_lookForRelay_66 : decode cX5_lookForRelay 66 = .ok (.iload 4, 2) := by decide +kernel
theorem dX5_lookForRelay_68 : decode cX5_lookForRelay 68 = .ok (.if_icmp .le 10, 3) := by decide +kernel
theorem dX5_lookForRelay_71 : decode cX5_lookForRelay 71 = .ok (.iload 6, 2) := by decide +kernel
theorem dX5_lookForRelay_73 : decode cX5_lookForRelay 73 = .ok (.istore 4, 2) := by decide +kernel
theorem dX5_lookForRelay_75 : decode cX5_lookForRelay 75 = .ok (.iload 5, 2) := by decide +kernel
theorem dX5_lookForRelay_77 : decode cX5_lookForRelay 77 = .ok (.istore_n 3, 1) := by decide +kernel
theorem dX5_lookForRelay_78 : decode cX5_lookForRelay 78 = .ok (.iinc 5 1, 3) := by decide +kernel
theorem dX5_lookForRelay_81 : decode cX5_lookForRelay 81 = .ok (.goto (-45), 3) := by decide +kernel
theorem dX5_lookForRelay_84 : decode cX5_lookForRelay 84 = .ok (.iload_n 3, 1) := by decide +kernel
theorem dX5_lookForRelay_85 : decode cX5_lookForRelay 85 = .ok (.iconst (-1), 1) := by decide +kernel
theorem dX5_lookForRelay_86 : decode cX5_lookForRelay 86 = .ok (.if_icmp .eq 21, 3) := by decide +kernel
theorem dX5_lookForRelay_89 : decode cX5_lookForRelay 89 = .ok (.aload_n 2, 1) := by decide +kernel
theorem dX5_lookForRelay_90 : decode cX5_lookForRelay 90 = .ok (.getfield 192, 3) := by decide +kernel
theorem dX5_lookForRelay_93 : decode cX5_lookForRelay 93 = .ok (.iconst (-1), 1) := by decide +kernel
theorem dX5_lookForRelay_94 : decode cX5_lookForRelay 94 = .ok (.if_icmp .eq 13, 3) := by decide +kernel
theorem dX5_lookForRelay_97 : decode cX5_lookForRelay 97 = .ok (.aload_n 2, 1) := by decide +kernel
theorem dX5_lookForRelay_98 : decode cX5_lookForRelay 98 = .ok (.dup, 1) := by decide +kernel
theorem dX5_lookForRelay_99 : decode cX5_lookForRelay 99 = .ok (.getfield 195, 3) := by decide +kernel
theorem dX5_lookForRelay_102 : decode cX5_lookForRelay 102 = .ok (.iconst 1, 1) := by decide +kernel
theorem dX5_lookForRelay_103 : decode cX5_lookForRelay 103 = .ok (.iadd, 1) := by decide +kernel
theorem dX5_lookForRelay_104 : decode cX5_lookForRelay 104 = .ok (.putfield 195, 3) := by decide +kernel
theorem dX5_lookForRelay_107 : decode cX5_lookForRelay 107 = .ok (.aload_n 2, 1) := by decide +kernel
theorem dX5_lookForRelay_108 : decode cX5_lookForRelay 108 = .ok (.iload_n 3, 1) := by decide +kernel
theorem dX5_lookForRelay_109 : decode cX5_lookForRelay 109 = .ok (.putfield 192, 3) := by decide +kernel
theorem dX5_lookForRelay_112 : decode cX5_lookForRelay 112 = .ok (.return_, 1) := by decide +kernel
theorem dX5_inRange_0 : decode cX5_inRange 0 = .ok (.iload_n 0, 1) := by decide +kernel
theorem dX5_inRange_1 : decode cX5_inRange 1 = .ok (.iload_n 1, 1) := by decide +kernel
theorem dX5_inRange_2 : decode cX5_inRange 2 = .ok (.if_icmp .lt 12, 3) := by decide +kernel
theorem dX5_inRange_5 : decode cX5_inRange 5 = .ok (.iload_n 0, 1) := by decide +kernel
theorem dX5_inRange_6 : decode cX5_inRange 6 = .ok (.iload_n 2, 1) := by decide +kernel
theorem dX5_inRange_7 : decode cX5_inRange 7 = .ok (.if_icmp .gt 7, 3) := by decide +kernel
theorem dX5_inRange_10 : decode cX5_inRange 10 = .ok (.iconst 1, 1) := by decide +kernel
theorem dX5_inRange_11 : decode cX5_inRange 11 = .ok (.goto 4, 3) := by decide +kernel
theorem dX5_inRange_14 : decode cX5_inRange 14 = .ok (.iconst 0, 1) := by decide +kernel
theorem dX5_inRange_15 : decode cX5_inRange 15 = .ok (.ireturn, 1) := by decide +kernel
theorem dX5_requireArgument_0 : decode cX5_requireArgument 0 = .ok (.iload_n 0, 1) := by decide +kernel
theorem dX5_requireArgument_1 : decode cX5_requireArgument 1 = .ok (.ifCond .ne 13, 3) := by decide +kernel
theorem dX5_requireArgument_4 : decode cX5_requireArgument 4 = .ok (.new 214, 3) := by decide +kernel
theorem dX5_requireArgument_7 : decode cX5_requireArgument 7 = .ok (.dup, 1) := by decide +kernel
theorem dX5_requireArgument_8 : decode cX5_requireArgument 8 = .ok (.ldc 216, 2) := by decide +kernel
theorem dX5_requireArgument_10 : decode cX5_requireArgument 10 = .ok (.invokespecial 218, 3) := by decide +kernel
theorem dX5_requireArgument_13 : decode cX5_requireArgument 13 = .ok (.athrow, 1) := by decide +kernel
theorem dX5_requireArgument_14 : decode cX5_requireArgument 14 = .ok (.return_, 1) := by decide +kernel
set_option maxRecDepth 20000 in
theorem ggX5_requireMinute_X5_inRange : GoodIn wsX5_requireMinute wsX5_inRange := goodIn_r _ [5] (by decide +kernel) (by decide +kernel)
set_option maxRecDepth 20000 in
theorem gX5_requireMinute_X5_inRange : GoodIn wsX5_requireMinute (va_wsS RX5 54 yX5_inRange wsX5_inRange) := goodIn_app (goodIn_of _ (by decide +kernel)) ggX5_requireMinute_X5_inRange
set_option maxRecDepth 20000 in
theorem ggX5_requireMinute_X5_requireArgument : GoodIn wsX5_requireMinute wsX5_requireArgument := goodIn_ca (goodIn_r _ [8, 9, 10] (by decide +kernel) (by decide +kernel)) (goodIn_sub (fun _ h => List.mem_cons_of_mem _ (List.mem_append_right _ h)) (by decide +kernel))
set_option maxRecDepth 20000 in
theorem gX5_requireMinute_X5_requireArgument : GoodIn wsX5_requireMinute (va_wsS RX5 58 yX5_requireArgument wsX5_requireArgument) := goodIn_app (goodIn_of _ (by decide +kernel)) ggX5_requireMinute_X5_requireArgument
theorem dX5_requireMinute_0 : decode cX5_requireMinute 0 = .ok (.iload_n 0, 1) := by decide +kernel
theorem dX5_requireMinute_1 : decode cX5_requireMinute 1 = .ok (.iconst 0, 1) := by decide +kernel
theorem dX5_requireMinute_2 : decode cX5_requireMinute 2 = .ok (.ldc 147, 2) := by decide +kernel
theorem dX5_requireMinute_4 : decode cX5_requireMinute 4 = .ok (.invokestatic 54, 3) := by decide +kernel
theorem dX5_requireMinute_7 : decode cX5_requireMinute 7 = .ok (.invokestatic 58, 3) := by decide +kernel
theorem dX5_requireMinute_10 : decode cX5_requireMinute 10 = .ok (.return_, 1) := by decide +kernel
set_option maxRecDepth 20000 in
theorem ggX5_requireNode_X5_inRange : GoodIn wsX5_requireNode wsX5_inRange := goodIn_r _ [7] (by decide +kernel) (by decide +kernel)
set_option maxRecDepth 20000 in
theorem gX5_requireNode_X5_inRange : GoodIn wsX5_requireNode (va_wsS RX5 54 yX5_inRange wsX5_inRange) := goodIn_app (goodIn_of _ (by decide +kernel)) ggX5_requireNode_X5_inRange
theorem dX5_requireNode_0 : decode cX5_requireNode 0 = .ok (.iload_n 1, 1) := by decide +kernel
theorem dX5_requireNode_1 : decode cX5_requireNode 1 = .ok (.iconst 0, 1) := by decide +kernel
theorem dX5_requireNode_2 : decode cX5_requireNode 2 = .ok (.aload_n 0, 1) := by decide +kernel
theorem dX5_requireNode_3 : decode cX5_requireNode 3 = .ok (.getfield 12, 3) := by decide +kernel
theorem dX5_requireNode_6 : decode cX5_requireNode 6 = .ok (.getfield 96, 3) := by decide +kernel
theorem dX5_requireNode_9 : decode cX5_requireNode 9 = .ok (.iconst 1, 1) := by decide +kernel
theorem dX5_requireNode_10 : decode cX5_requireNode 10 = .ok (.isub, 1) := by decide +kernel
theorem dX5_requireNode_11 : decode cX5_requireNode 11 = .ok (.invokestatic 54, 3) := by decide +kernel
theorem dX5_requireNode_14 : decode cX5_requireNode 14 = .ok (.ifCond .ne 13, 3) := by decide +kernel
theorem dX5_requireNode_17 : decode cX5_requireNode 17 = .ok (.new 91, 3) := by decide +kernel
theorem dX5_requireNode_20 : decode cX5_requireNode 20 = .ok (.dup, 1) := by decide +kernel
theorem dX5_requireNode_21 : decode cX5_requireNode 21 = .ok (.ldc 219, 2) := by decide +kernel
theorem dX5_requireNode_23 : decode cX5_requireNode 23 = .ok (.invokespecial 95, 3) := by decide +kernel
theorem dX5_requireNode_26 : decode cX5_requireNode 26 = .ok (.athrow, 1) := by decide +kernel
theorem dX5_requireNode_27 : decode cX5_requireNode 27 = .ok (.return_, 1) := by decide +kernel
set_option maxRecDepth 20000 in
theorem ggX5_requireTwoNodesAndMinute_X5_requireNode : GoodIn wsX5_requireTwoNodesAndMinute wsX5_requireNode := goodIn_ca (goodIn_r _ [5, 6, 7, 8, 9, 10, 4, 11, 21, 22, 23, 24, 25, 26, 27, 28, 29, 30, 31, 32, 33, 34] (by decide +kernel) (by decide +kernel)) (goodIn_sub (fun _ h => List.mem_cons_of_mem _ (List.mem_append_left _ (List.mem_append_right _ h))) (by decide +kernel))
set_option maxRecDepth 20000 in
theorem gX5_requireTwoNodesAndMinute_X5_requireNode : GoodIn wsX5_requireTwoNodesAndMinute (wsV RX5 87 RX5 yX5_requireNode wsX5_requireNode) := goodIn_app (goodIn_of _ (by decide +kernel)) ggX5_requireTwoNodesAndMinute_X5_requireNode
set_option maxRecDepth 20000 in
theorem ggX5_requireTwoNodesAndMinute_X5_requireMinute : GoodIn wsX5_requireTwoNodesAndMinute wsX5_requireMinute := goodIn_ca (goodIn_r _ [14, 15, 9, 10, 4, 11, 16, 17, 18, 19, 20] (by decide +kernel) (by decide +kernel)) (goodIn_sub (fun _ h => List.mem_cons_of_mem _ (List.mem_append_right _ h)) (by decide +kernel))
set_option maxRecDepth 20000 in
theorem gX5_requireTwoNodesAndMinute_X5_requireMinute : GoodIn wsX5_requireTwoNodesAndMinute (va_wsS RX5 99 yX5_requireMinute wsX5_requireMinute) := goodIn_app (goodIn_of _ (by decide +kernel)) ggX5_requireTwoNodesAndMinute_X5_requireMinute
theorem dX5_requireTwoNodesAndMinute_0 : decode cX5_requireTwoNodesAndMinute 0 = .ok (.aload_n 0, 1) := by decide +kernel
theorem dX5_requireTwoNodesAndMinute_1 : decode cX5_requireTwoNodesAndMinute 1 = .ok (.iload_n 1, 1) := by decide +kernel
theorem dX5_requireTwoNodesAndMinute_2 : decode cX5_requireTwoNodesAndMinute 2 = .ok (.invokevirtual 87, 3) := by decide +kernel
theorem dX5_requireTwoNodesAndMinute_5 : decode cX5_requireTwoNodesAndMinute 5 = .ok (.aload_n 0, 1) := by decide +kernel
theorem dX5_requireTwoNodesAndMinute_6 : decode cX5_requireTwoNodesAndMinute 6 = .ok (.iload_n 2, 1) := by decide +kernel
theorem dX5_requireTwoNodesAndMinute_7 : decode cX5_requireTwoNodesAndMinute 7 = .ok (.invokevirtual 87, 3) := by decide +kernel
theorem dX5_requireTwoNodesAndMinute_10 : decode cX5_requireTwoNodesAndMinute 10 = .ok (.iload_n 3, 1) := by decide +kernel
theorem dX5_requireTwoNodesAndMinute_11 : decode cX5_requireTwoNodesAndMinute 11 = .ok (.invokestatic 99, 3) := by decide +kernel
theorem dX5_requireTwoNodesAndMinute_14 : decode cX5_requireTwoNodesAndMinute 14 = .ok (.return_, 1) := by decide +kernel
set_option maxRecDepth 20000 in
theorem ggX5_requireStation_X5_requireNode : GoodIn wsX5_requireStation wsX5_requireNode := goodIn_ca (goodIn_r _ [8, 1, 2, 9, 10, 11, 7, 12, 13, 14, 15, 16, 17, 18, 19, 20, 21, 22, 23, 24, 25, 26] (by decide +kernel) (by decide +kernel)) (goodIn_sub (fun _ h => List.mem_cons_of_mem _ (List.mem_append_right _ h)) (by decide +kernel))
set_option maxRecDepth 20000 in
theorem gX5_requireStation_X5_requireNode : GoodIn wsX5_requireStation (wsV RX5 87 RX5 yX5_requireNode wsX5_requireNode) := goodIn_app (goodIn_of _ (by decide +kernel)) ggX5_requireStation_X5_requireNode
theorem dX5_requireStation_0 : decode cX5_requireStation 0 = .ok (.aload_n 0, 1) := by decide +kernel
theorem dX5_requireStation_1 : decode cX5_requireStation 1 = .ok (.iload_n 1, 1) := by decide +kernel
theorem dX5_requireStation_2 : decode cX5_requireStation 2 = .ok (.invokevirtual 87, 3) := by decide +kernel
theorem dX5_requireStation_5 : decode cX5_requireStation 5 = .ok (.aload_n 0, 1) := by decide +kernel
theorem dX5_requireStation_6 : decode cX5_requireStation 6 = .ok (.getfield 27, 3) := by decide +kernel
theorem dX5_requireStation_9 : decode cX5_requireStation 9 = .ok (.iload_n 1, 1) := by decide +kernel
theorem dX5_requireStation_10 : decode cX5_requireStation 10 = .ok (.aaload, 1) := by decide +kernel
theorem dX5_requireStation_11 : decode cX5_requireStation 11 = .ok (.astore_n 2, 1) := by decide +kernel
theorem dX5_requireStation_12 : decode cX5_requireStation 12 = .ok (.aload_n 2, 1) := by decide +kernel
theorem dX5_requireStation_13 : decode cX5_requireStation 13 = .ok (.ifnonnull 13, 3) := by decide +kernel
theorem dX5_requireStation_16 : decode cX5_requireStation 16 = .ok (.new 91, 3) := by decide +kernel
theorem dX5_requireStation_19 : decode cX5_requireStation 19 = .ok (.dup, 1) := by decide +kernel
theorem dX5_requireStation_20 : decode cX5_requireStation 20 = .ok (.ldc 221, 2) := by decide +kernel
theorem dX5_requireStation_22 : decode cX5_requireStation 22 = .ok (.invokespecial 95, 3) := by decide +kernel
theorem dX5_requireStation_25 : decode cX5_requireStation 25 = .ok (.athrow, 1) := by decide +kernel
theorem dX5_requireStation_26 : decode cX5_requireStation 26 = .ok (.aload_n 2, 1) := by decide +kernel
theorem dX5_requireStation_27 : decode cX5_requireStation 27 = .ok (.areturn, 1) := by decide +kernel
set_option maxRecDepth 20000 in
theorem ggX5_requireMessage_X5_inRange : GoodIn wsX5_requireMessage wsX5_inRange := goodIn_r _ [8] (by decide +kernel) (by decide +kernel)
set_option maxRecDepth 20000 in
theorem gX5_requireMessage_X5_inRange : GoodIn wsX5_requireMessage (va_wsS RX5 54 yX5_inRange wsX5_inRange) := goodIn_app (goodIn_of _ (by decide +kernel)) ggX5_requireMessage_X5_inRange
theorem dX5_requireMessage_0 : decode cX5_requireMessage 0 = .ok (.iload_n 1, 1) := by decide +kernel
theorem dX5_requireMessage_1 : decode cX5_requireMessage 1 = .ok (.iconst 0, 1) := by decide +kernel
theorem dX5_requireMessage_2 : decode cX5_requireMessage 2 = .ok (.aload_n 0, 1) := by decide +kernel
theorem dX5_requireMessage_3 : decode cX5_requireMessage 3 = .ok (.getfield 48, 3) := by decide +kernel
theorem dX5_requireMessage_6 : decode cX5_requireMessage 6 = .ok (.iconst 1, 1) := by decide +kernel
theorem dX5_requireMessage_7 : decode cX5_requireMessage 7 = .ok (.isub, 1) := by decide +kernel
theorem dX5_requireMessage_8 : decode cX5_requireMessage 8 = .ok (.invokestatic 54, 3) := by decide +kernel
theorem dX5_requireMessage_11 : decode cX5_requireMessage 11 = .ok (.ifCond .ne 13, 3) := by decide +kernel
theorem dX5_requireMessage_14 : decode cX5_requireMessage 14 = .ok (.new 91, 3) := by decide +kernel
theorem dX5_requireMessage_17 : decode cX5_requireMessage 17 = .ok (.dup, 1) := by decide +kernel
theorem dX5_requireMessage_18 : decode cX5_requireMessage 18 = .ok (.ldc 223, 2) := by decide +kernel
theorem dX5_requireMessage_20 : decode cX5_requireMessage 20 = .ok (.invokespecial 95, 3) := by decide +kernel
theorem dX5_requireMessage_23 : decode cX5_requireMessage 23 = .ok (.athrow, 1) := by decide +kernel
theorem dX5_requireMessage_24 : decode cX5_requireMessage 24 = .ok (.aload_n 0, 1) := by decide +kernel
theorem dX5_requireMessage_25 : decode cX5_requireMessage 25 = .ok (.getfield 37, 3) := by decide +kernel
theorem dX5_requireMessage_28 : decode cX5_requireMessage 28 = .ok (.iload_n 1, 1) := by decide +kernel
theorem dX5_requireMessage_29 : decode cX5_requireMessage 29 = .ok (.aaload, 1) := by decide +kernel
theorem dX5_requireMessage_30 : decode cX5_requireMessage 30 = .ok (.areturn, 1) := by decide +kernel
set_option maxRecDepth 20000 in
theorem ggX5_requireHop_X5_inRange : GoodIn wsX5_requireHop wsX5_inRange := goodIn_r _ [6] (by decide +kernel) (by decide +kernel)
set_option maxRecDepth 20000 in
theorem gX5_requireHop_X5_inRange : GoodIn wsX5_requireHop (va_wsS RX5 54 yX5_inRange wsX5_inRange) := goodIn_app (goodIn_of _ (by decide +kernel)) ggX5_requireHop_X5_inRange
theorem dX5_requireHop_0 : decode cX5_requireHop 0 = .ok (.iload_n 1, 1) := by decide +kernel
theorem dX5_requireHop_1 : decode cX5_requireHop 1 = .ok (.iconst 0, 1) := by decide +kernel
theorem dX5_requireHop_2 : decode cX5_requireHop 2 = .ok (.aload_n 0, 1) := by decide +kernel
theorem dX5_requireHop_3 : decode cX5_requireHop 3 = .ok (.getfield 173, 3) := by decide +kernel
theorem dX5_requireHop_6 : decode cX5_requireHop 6 = .ok (.iconst 1, 1) := by decide +kernel
theorem dX5_requireHop_7 : decode cX5_requireHop 7 = .ok (.isub, 1) := by decide +kernel
theorem dX5_requireHop_8 : decode cX5_requireHop 8 = .ok (.invokestatic 54, 3) := by decide +kernel
theorem dX5_requireHop_11 : decode cX5_requireHop 11 = .ok (.ifCond .ne 13, 3) := by decide +kernel
theorem dX5_requireHop_14 : decode cX5_requireHop 14 = .ok (.new 91, 3) := by decide +kernel
theorem dX5_requireHop_17 : decode cX5_requireHop 17 = .ok (.dup, 1) := by decide +kernel
theorem dX5_requireHop_18 : decode cX5_requireHop 18 = .ok (.ldc 225, 2) := by decide +kernel
theorem dX5_requireHop_20 : decode cX5_requireHop 20 = .ok (.invokespecial 95, 3) := by decide +kernel
theorem dX5_requireHop_23 : decode cX5_requireHop 23 = .ok (.athrow, 1) := by decide +kernel
theorem dX5_requireHop_24 : decode cX5_requireHop 24 = .ok (.return_, 1) := by decide +kernel
end
section
/-! The world by codes: a cell has a code (kind, i, j); v says what the cell of a code holds, ad where it lies. -/
abbrev g_k : Type := Nat × Nat × Nat
def k_up {α : Type} (f : g_k → α) (c : g_k) (x : α) : g_k → α := fun d => if d = c then x else f d
theorem k_up_self {α : Type} (f : g_k → α) (c : g_k) (x : α) : k_up f c x c = x := by simp [k_up]
theorem k_up_ne {α : Type} (f : g_k → α) {c d : g_k} (x : α) (h : d ≠ c) : k_up f c x d = f d := by simp [k_up, h]
def g_A (B : Nat) : Nat → Prop := fun q => B ≤ q
def g_P (D : va_G) (v : g_k → Option va_E) (ad : g_k → Nat) (B : Nat) (H : Heap) : Prop :=
  (∀ (c : g_k) (e : va_E), v c = some e → va_at D vwCl (ad c, e) H ∧ B ≤ ad c) ∧ (∀ (c c' : g_k) (e e' : va_E), v c = some e → v c' = some e' → ad c = ad c' → c = c') ∧ ∃ L : List g_k, ∀ (c : g_k) (e : va_E), v c = some e → c ∈ L
def g_L (v : g_k → Option va_E) (ad : g_k → Nat) : List g_k → va_W
  | [] => []
  | c :: l => if c ∈ l then g_L v ad l else match v c with
    | some e => (ad c, e) :: g_L v ad l
    | none => g_L v ad l
theorem g_L_mem {v : g_k → Option va_E} {ad : g_k → Nat} {q : Nat × va_E} : ∀ l : List g_k, q ∈ g_L v ad l → ∃ c, c ∈ l ∧ v c = some q.2 ∧ q.1 = ad c
  | [], h => by simp [g_L] at h
  | c :: l, h => by
    rw [g_L] at h
    by_cases hc : c ∈ l
    · rw [if_pos hc] at h
      obtain ⟨d, h1, h2⟩ := g_L_mem l h
      exact ⟨d, List.mem_cons_of_mem _ h1, h2⟩
    · rw [if_neg hc] at h
      cases hv : v c with
      | none =>
        rw [hv] at h
        obtain ⟨d, h1, h2⟩ := g_L_mem l h
        exact ⟨d, List.mem_cons_of_mem _ h1, h2⟩
      | some e =>
        rw [hv] at h
        rcases List.mem_cons.mp h with h | h
        · subst h
          exact ⟨c, List.mem_cons_self, hv, rfl⟩
        · obtain ⟨d, h1, h2⟩ := g_L_mem l h
          exact ⟨d, List.mem_cons_of_mem _ h1, h2⟩
theorem g_L_at {v : g_k → Option va_E} {ad : g_k → Nat} {d : g_k} {e : va_E} (hd : v d = some e) : ∀ l : List g_k, d ∈ l → (ad d, e) ∈ g_L v ad l
  | [], h => by simp at h
  | c :: l, h => by
    rw [g_L]
    by_cases hc : c ∈ l
    · rw [if_pos hc]
      rcases List.mem_cons.mp h with h | h
      · subst h
        exact g_L_at hd l hc
      · exact g_L_at hd l h
    · rw [if_neg hc]
      rcases List.mem_cons.mp h with h | h
      · subst h
        rw [hd]
        exact List.mem_cons_self
      · cases hv : v c with
        | none => exact g_L_at hd l h
        | some e' => exact List.mem_cons_of_mem _ (g_L_at hd l h)
theorem g_L_inj {v : g_k → Option va_E} {ad : g_k → Nat} (hi : ∀ (c c' : g_k) (e e' : va_E), v c = some e → v c' = some e' → ad c = ad c' → c = c') : ∀ (l : List g_k) (i j : Nat) (p q : Nat × va_E), (g_L v ad l)[i]? = some p → (g_L v ad l)[j]? = some q → p.1 = q.1 → i = j
  | [], i, j, p, q, h, _, _ => by simp [g_L] at h
  | c :: l, i, j, p, q, h1, h2, h3 => by
    rw [g_L] at h1 h2
    by_cases hc : c ∈ l
    · rw [if_pos hc] at h1 h2
      exact g_L_inj hi l i j p q h1 h2 h3
    · rw [if_neg hc] at h1 h2
      cases hv : v c with
      | none =>
        rw [hv] at h1 h2
        exact g_L_inj hi l i j p q h1 h2 h3
      | some e =>
        rw [hv] at h1 h2
        have key : ∀ x : Nat × va_E, x ∈ g_L v ad l → x.1 = ad c → False := fun x hx hxa => by
          obtain ⟨d, d1, d2, d3⟩ := g_L_mem l hx
          have := hi c d e x.2 hv d2 (by rw [← hxa, d3])
          exact hc (by rw [this]; exact d1)
        cases i with
        | zero =>
          cases j with
          | zero => rfl
          | succ j =>
            rw [List.getElem?_cons_zero] at h1
            rw [List.getElem?_cons_succ] at h2
            cases h1
            exact (key q (List.mem_of_getElem? h2) h3.symm).elim
        | succ i =>
          rw [List.getElem?_cons_succ] at h1
          cases j with
          | zero =>
            rw [List.getElem?_cons_zero] at h2
            cases h2
            exact (key p (List.mem_of_getElem? h1) h3).elim
          | succ j =>
            rw [List.getElem?_cons_succ] at h2
            rw [g_L_inj hi l i j p q h1 h2 h3]
theorem g_P_ws {D : va_G} {v : g_k → Option va_E} {ad : g_k → Nat} {B : Nat} {H : Heap} (h : g_P D v ad B H) : ∃ l : List g_k, va_P D vwCl (g_L v ad l) H ∧ va_D (g_A B) (g_L v ad l) ∧ ∀ (c : g_k) (e : va_E), v c = some e → ∃ k : Nat, (g_L v ad l)[k]? = some (ad c, e) := by
  obtain ⟨h1, h2, l, h3⟩ := h
  refine ⟨l, fun k q hq => ?_, ⟨g_L_inj h2 l, fun k q hq => ?_⟩, fun c e hc => List.getElem?_of_mem (g_L_at hc l (h3 c e hc))⟩
  · obtain ⟨c, -, c2, c3⟩ := g_L_mem l (List.mem_of_getElem? hq)
    have := (h1 c q.2 c2).1
    rw [← c3] at this
    exact this
  · obtain ⟨c, -, c2, c3⟩ := g_L_mem l (List.mem_of_getElem? hq)
    show B ≤ q.1
    rw [c3]
    exact (h1 c q.2 c2).2
theorem g_P_set {D : va_G} {v : g_k → Option va_E} {ad : g_k → Nat} {B : Nat} {H H1 : Heap} {c : g_k} {e0 e1 : va_E} {l : List g_k} {k : Nat} (h : g_P D v ad B H) (hc : v c = some e0) (hl : ∀ (c : g_k) (e : va_E), v c = some e → ∃ k : Nat, (g_L v ad l)[k]? = some (ad c, e)) (hk : (g_L v ad l)[k]? = some (ad c, e0)) (h1 : va_P D vwCl ((g_L v ad l).set k (ad c, e1)) H1) : g_P D (k_up v c (some e1)) ad B H1 := by
  obtain ⟨a1, a2, L, a3⟩ := h
  have old : ∀ (d : g_k) (e : va_E), k_up v c (some e1) d = some e → (d = c ∧ e = e1) ∨ (d ≠ c ∧ v d = some e) := fun d e hd => by
    by_cases hdc : d = c
    · subst hdc
      rw [k_up_self] at hd
      exact Or.inl ⟨rfl, (Option.some.inj hd).symm⟩
    · rw [k_up_ne _ _ hdc] at hd
      exact Or.inr ⟨hdc, hd⟩
  have some0 : ∀ (d : g_k) (e : va_E), k_up v c (some e1) d = some e → ∃ e', v d = some e' := fun d e hd => by
    rcases old d e hd with ⟨rfl, -⟩ | ⟨-, h⟩
    · exact ⟨_, hc⟩
    · exact ⟨_, h⟩
  refine ⟨fun d e hd => ?_, fun d d' e e' hd hd' hq => ?_, L, fun d e hd => ?_⟩
  · rcases old d e hd with ⟨rfl, rfl⟩ | ⟨hne, hd⟩
    · exact ⟨h1 k (ad d, e) (List.getElem?_set_self (List.getElem?_eq_some_iff.mp hk).1), (a1 d _ hc).2⟩
    · obtain ⟨k', hk'⟩ := hl d e hd
      have hkk : k ≠ k' := fun z => by
        subst z
        rw [hk] at hk'
        have := Option.some.inj hk'
        exact hne (a2 d c e e0 hd hc (congrArg Prod.fst this).symm)
      exact ⟨h1 k' (ad d, e) (by rw [List.getElem?_set_ne hkk]; exact hk'), (a1 d e hd).2⟩
  · obtain ⟨x, hx⟩ := some0 d e hd
    obtain ⟨x', hx'⟩ := some0 d' e' hd'
    exact a2 d d' x x' hx hx' hq
  · obtain ⟨x, hx⟩ := some0 d e hd
    exact a3 d x hx
theorem g_P_push {D : va_G} {v : g_k → Option va_E} {ad : g_k → Nat} {B : Nat} {H H1 : Heap} {c : g_k} {e1 : va_E} {l : List g_k} {q : Nat} (h : g_P D v ad B H) (hc : v c = none) (hl : ∀ (c : g_k) (e : va_E), v c = some e → ∃ k : Nat, (g_L v ad l)[k]? = some (ad c, e)) (h1 : va_P D vwCl (g_L v ad l ++ [(q, e1)]) H1) (h2 : va_D (g_A B) (g_L v ad l ++ [(q, e1)])) : g_P D (k_up v c (some e1)) (k_up ad c q) B H1 := by
  obtain ⟨a1, a2, L, a3⟩ := h
  have hq : (g_L v ad l ++ [(q, e1)])[(g_L v ad l).length]? = some (q, e1) := by rw [List.getElem?_append_right (Nat.le_refl _), Nat.sub_self]; rfl
  have old : ∀ (d : g_k) (e : va_E), k_up v c (some e1) d = some e → (d = c ∧ e = e1) ∨ (d ≠ c ∧ v d = some e) := fun d e hd => by
    by_cases hdc : d = c
    · subst hdc
      rw [k_up_self] at hd
      exact Or.inl ⟨rfl, (Option.some.inj hd).symm⟩
    · rw [k_up_ne _ _ hdc] at hd
      exact Or.inr ⟨hdc, hd⟩
  have place : ∀ (d : g_k) (e : va_E), k_up v c (some e1) d = some e → ∃ k : Nat, (g_L v ad l ++ [(q, e1)])[k]? = some (k_up ad c q d, e) ∧ (d ≠ c → k < (g_L v ad l).length) ∧ (d = c → k = (g_L v ad l).length) := fun d e hd => by
    rcases old d e hd with ⟨rfl, rfl⟩ | ⟨hne, hd⟩
    · exact ⟨_, by rw [k_up_self]; exact hq, fun h => absurd rfl h, fun _ => rfl⟩
    · obtain ⟨k', hk'⟩ := hl d e hd
      have hlt := (List.getElem?_eq_some_iff.mp hk').1
      exact ⟨k', by rw [List.getElem?_append_left hlt, k_up_ne _ _ hne]; exact hk', fun _ => hlt, fun h => absurd h hne⟩
  refine ⟨fun d e hd => ?_, fun d d' e e' hd hd' hqq => ?_, c :: L, fun d e hd => ?_⟩
  · obtain ⟨k, hk, -⟩ := place d e hd
    exact ⟨h1 k _ hk, h2.2 k _ hk⟩
  · obtain ⟨k, hk, k1, k2⟩ := place d e hd
    obtain ⟨k', hk', k1', k2'⟩ := place d' e' hd'
    have hkk := h2.1 k k' _ _ hk hk' hqq
    by_cases g1 : d = c <;> by_cases g2 : d' = c
    · rw [g1, g2]
    · have := k2 g1
      have := k1' g2
      omega
    · have := k1 g1
      have := k2' g2
      omega
    · rcases old d e hd with ⟨z, -⟩ | ⟨-, hd⟩
      · exact absurd z g1
      · rcases old d' e' hd' with ⟨z, -⟩ | ⟨-, hd'⟩
        · exact absurd z g2
        · rw [k_up_ne _ _ g1, k_up_ne _ _ g2] at hqq
          exact a2 d d' e e' hd hd' hqq
  · rcases old d e hd with ⟨rfl, -⟩ | ⟨-, hd⟩
    · exact List.mem_cons_self
    · exact List.mem_cons_of_mem _ (a3 d e hd)
theorem g_P.to {D : va_G} {v v' : g_k → Option va_E} {ad ad' : g_k → Nat} {B : Nat} {H : Heap} (h : g_P D v ad B H) (hv : v = v') (ha : ad = ad') : g_P D v' ad' B H := by
  subst hv
  subst ha
  exact h
theorem g_one {D : va_G} {a : Nat} {e : va_E} {H : Heap} (h : va_at D vwCl (a, e) H) : va_P D vwCl [(a, e)] H := fun k q hq => by
  cases k with
  | zero => cases hq; exact h
  | succ k => simp at hq
/-- the classes of the arrays: int[], int[][], Station[], Message[] -/
abbrev g_C : Type := ClassId × ClassId × ClassId × ClassId
abbrev g_T (C : g_C) : List (ClassId × FieldType) := [(C.1, .int), (C.2.1, .array .int), (C.2.2.1, .object "Satellitering$Station"), (C.2.2.2, .object "Satellitering$Message")]
/-- what links the class's own nest -/
def g_N (U : State) : Prop := va_Nw (.fieldLinkNest "Satellitering" 140 "Satellitering$Station" "timetable" "LSatellitering$Timetable;" "Satellitering") U ∧ va_Nw (.fieldLinkNest "Satellitering" 158 "Satellitering$Message" "node" "I" "Satellitering") U ∧ va_Nw (.fieldLinkNest "Satellitering" 170 "Satellitering$Message" "since" "I" "Satellitering") U ∧ va_Nw (.fieldLinkNest "Satellitering" 173 "Satellitering$Message" "hopCount" "I" "Satellitering") U ∧ va_Nw (.fieldLinkNest "Satellitering" 180 "Satellitering$Message" "hopNodes" "[I" "Satellitering") U ∧ va_Nw (.fieldLinkNest "Satellitering" 183 "Satellitering$Message" "hopMinutes" "[I" "Satellitering") U ∧ va_Nw (.fieldLinkNest "Satellitering" 186 "Satellitering$Message" "blocks" "I" "Satellitering") U ∧ va_Nw (.fieldLinkNest "Satellitering" 192 "Satellitering$Station" "relay" "I" "Satellitering") U ∧ va_Nw (.fieldLinkNest "Satellitering" 195 "Satellitering$Station" "handoverCount" "I" "Satellitering") U ∧ va_Nw (.fieldLinkNest "Satellitering" 202 "Satellitering$Message" "timetable" "LSatellitering$Timetable;" "Satellitering") U ∧ va_Nw (.fieldLinkNest "Satellitering" 96 "Satellitering$Sky" "count" "I" "Satellitering") U ∧ va_Nw (.fieldLinkNest "Satellitering$Search" 25 "Satellitering$Sky" "count" "I" "Satellitering") U ∧ va_Nw (.fieldLinkNest "Satellitering$Timetable" 34 "Satellitering$Sky" "count" "I" "Satellitering") U ∧ va_Nw (.methodLinkNest "Satellitering" 11 yX2_init "Satellitering") U
theorem g_N.warm {s U : State} (hW : s.WarmedH U.vm) (h : g_N s) : g_N U := ⟨va_Nw.warmF hW h.1, va_Nw.warmF hW h.2.1, va_Nw.warmF hW h.2.2.1, va_Nw.warmF hW h.2.2.2.1, va_Nw.warmF hW h.2.2.2.2.1, va_Nw.warmF hW h.2.2.2.2.2.1, va_Nw.warmF hW h.2.2.2.2.2.2.1, va_Nw.warmF hW h.2.2.2.2.2.2.2.1, va_Nw.warmF hW h.2.2.2.2.2.2.2.2.1, va_Nw.warmF hW h.2.2.2.2.2.2.2.2.2.1, va_Nw.warmF hW h.2.2.2.2.2.2.2.2.2.2.1, va_Nw.warmF hW h.2.2.2.2.2.2.2.2.2.2.2.1, va_Nw.warmF hW h.2.2.2.2.2.2.2.2.2.2.2.2.1, va_Nw.warmM hW h.2.2.2.2.2.2.2.2.2.2.2.2.2⟩
theorem g_N.same {s U : State} (hv : s.vm = U.vm) (h : g_N s) : g_N U := ⟨va_Nw.same rfl hv h.1, va_Nw.same rfl hv h.2.1, va_Nw.same rfl hv h.2.2.1, va_Nw.same rfl hv h.2.2.2.1, va_Nw.same rfl hv h.2.2.2.2.1, va_Nw.same rfl hv h.2.2.2.2.2.1, va_Nw.same rfl hv h.2.2.2.2.2.2.1, va_Nw.same rfl hv h.2.2.2.2.2.2.2.1, va_Nw.same rfl hv h.2.2.2.2.2.2.2.2.1, va_Nw.same rfl hv h.2.2.2.2.2.2.2.2.2.1, va_Nw.same rfl hv h.2.2.2.2.2.2.2.2.2.2.1, va_Nw.same rfl hv h.2.2.2.2.2.2.2.2.2.2.2.1, va_Nw.same rfl hv h.2.2.2.2.2.2.2.2.2.2.2.2.1, va_Nw.same rfl hv h.2.2.2.2.2.2.2.2.2.2.2.2.2⟩
def g_AOA (U : State) : Prop := (Cond.arrayOver (.array .int)).before #[] U = true
theorem g_AOA.use {A : Array Value} {U : State} (h : g_AOA U) : (Cond.arrayOver (.array .int)).before A U = true := h
theorem g_AOA.moved {u U : State} (hvm : u.vm.Alike U.vm) (h : g_AOA u) : g_AOA U := by
  have e : (Cond.arrayOver (.array .int)).before #[] (u.setVm U.vm) = (Cond.arrayOver (.array .int)).before #[] u := Cond.arrayOver_setVmC hvm _
  exact (show (Cond.arrayOver (.array .int)).before #[] (u.setVm U.vm) = true from e.trans h)
/-- the classes of arrays that the tables have -/
def g_O (U : State) : Prop := va_AO "Satellitering$Station" U ∧ va_AO "Satellitering$Message" U ∧ g_AOA U
def g_strs : List (Nat × String) := [(138, "there are 20 messages"), (148, "now would be above 1000000"), (167, "the message has not arrived"), (216, "an argument is not allowed"), (219, "there is no such node"), (221, "the node is no station"), (223, "there is no such message"), (225, "there is no such hop"), (64, "there are 4 stations"), (85, "there are 6 relays"), (93, "the node is a station")]
/-- what a throw needs of the machine -/
def g_E (B : Nat) (U : State) (H : Heap) : Prop := vx_Zq Bundle.tN "UNASSIGNED_STACK" Bundle.steD (g_A B) U H ∧ vx_Zq Bundle.tN "SUPPRESSED_SENTINEL" Bundle.listD (g_A B) U H ∧ (∀ q ∈ g_strs, ∃ sa, vk_R RX5 q.1 q.2 sa U) ∧ g_O U
theorem g_E.warm {B : Nat} {s U : State} {H : Heap} (hW : s.WarmedH U.vm) (h : g_E B s H) : g_E B U H := ⟨h.1.moved hW.alike, h.2.1.moved hW.alike, (fun q hq => by
  obtain ⟨sa, hs⟩ := h.2.2.1 q hq
  exact ⟨sa, vk_R.warm hW hs⟩), h.2.2.2.1.moved hW.alike, h.2.2.2.2.1.moved hW.alike, h.2.2.2.2.2.moved hW.alike⟩
theorem g_E.kept {B : Nat} {U : State} {H H1 : Heap} (h : g_E B U H) (hq : ∀ a : Nat, a < H.size → ¬ g_A B a → H1[a]? = H[a]?) : g_E B U H1 := ⟨h.1.kept hq, h.2.1.kept hq, h.2.2⟩
/-- what does not change while the law runs -/
def g_F (D : va_G) (C : g_C) (B : Nat) (U : State) : Prop := va_K D vwCl (g_T C) U ∧ g_N U ∧ g_E B U U.heap ∧ B ≤ U.heap.size
def g_S (D : va_G) (C : g_C) (v : g_k → Option va_E) (ad : g_k → Nat) (B : Nat) (U : State) : Prop := g_P D v ad B U.heap ∧ g_F D C B U
theorem g_F.calling {D : va_G} {C : g_C} {B : Nat} {U : State} {g : JFrame} {mk : MethodId} {a : Array Value} (h : g_F D C B U) : g_F D C B (U.calling g mk a) := ⟨va_K.moved (u := U) (U := U.calling g mk a) (Vm.Alike.refl U.vm) h.1, g_N.same (s := U) (U := U.calling g mk a) rfl h.2.1, g_E.warm (s := U) (U := U.calling g mk a) (State.WarmedH.refl U) h.2.2.1, h.2.2.2⟩
theorem g_F.at {D : va_G} {C : g_C} {B : Nat} {s U : State} {H : Heap} {locs : List Loc} (h : g_F D C B s) (hS : va_S (g_A B) s.heap H locs) (hU : U.heap = H) (hW : s.WarmedH U.vm) : g_F D C B U := ⟨va_K.moved hW.alike h.1, g_N.warm hW h.2.1, by rw [hU]; exact g_E.warm hW (h.2.2.1.kept hS.2.1), by rw [hU]; exact Nat.le_trans h.2.2.2 hS.1⟩
theorem g_blind {D : va_G} {C : g_C} {v : g_k → Option va_E} {ad : g_k → Nat} {B : Nat} {av : List Value} : FrameBlind (va_Pc av (g_S D C v ad B)) := fun a U g mk q => ⟨q.1, q.2.1, q.2.2.calling⟩
theorem g_preS {D : va_G} {C : g_C} {v : g_k → Option va_E} {ad : g_k → Nat} {B : Nat} {s : State} {H : Heap} {locs : List Loc} {As : List Value} (hF : g_F D C B s) (hG : g_P D v ad B H) (hS : va_S (g_A B) s.heap H locs) : PreS s H (va_Pc As (g_S D C v ad B)) As := ⟨g_blind, fun U hU hW => ⟨rfl, by rw [hU]; exact hG, hF.at hS hU hW⟩⟩
theorem g_recv {D : va_G} {C : g_C} {v : g_k → Option va_E} {ad : g_k → Nat} {B : Nat} {s : State} {H : Heap} {cd : g_k} {ci : Nat} {r : vw_C} {fs : List Value} (hF : g_F D C B s) (hG : g_P D v ad B H) (he : v cd = some (.inr (ci, fs))) (hc : vwCl[ci]? = some r) : ∃ cell : Cell, H[ad cd]? = some cell ∧ cell.vm.isStatics = false ∧ s.vm.findClass r.1 = some cell.cls := va_recv hF.1 (g_one (hG.1 cd _ he).1) hc (q0 := 0) rfl
theorem g_preV {D : va_G} {C : g_C} {v : g_k → Option va_E} {ad : g_k → Nat} {B : Nat} {s : State} {H : Heap} {locs : List Loc} {As : List Value} {cd : g_k} {ci : Nat} {r : vw_C} {fs : List Value} (hF : g_F D C B s) (hG : g_P D v ad B H) (hS : va_S (g_A B) s.heap H locs) (he : v cd = some (.inr (ci, fs))) (hc : vwCl[ci]? = some r) : PreV s H r.1 (ad cd) (va_Pc (.ref (ad cd) :: As) (g_S D C v ad B)) As := ⟨g_blind, g_recv hF hG he hc, fun U hU hW => ⟨rfl, by rw [hU]; exact hG, hF.at hS hU hW⟩⟩
section GRows
variable {p : Program} {l : Launch} {e : Env} {R : Room} {s : State} {m : MethodId} {args : Array Value} {below : List Frame} {meth : Method} {c : Code} {H : Heap} {locs : List Loc} {cells slots : Nat} {Q : State → Prop}
variable {cc : ByteArray} {pc : Nat} {ls : Array Slot} {rest : List Value} {D : va_G} {C : g_C} {v : g_k → Option va_E} {ad : g_k → Nat} {B : Nat} {H0 : Heap} {tys : List (ClassId × FieldType)}
theorem g_get (hx : p.tables.exec = Jvm.exec) (hb : c.code = cc) {own Cn : String} {T : u_T} {N ci index : Nat} {Ts : List Cond} (hts : ∀ w ∈ Ts, w.before args s = true) (hin : ∀ w ∈ u_ws Cn T N, w ∈ Ts) (hown : s.vm.findClass own = some m.cls) (hK : va_K D vwCl tys s) (hG : g_P D v ad B H) {cd : g_k} {fs : List Value} (he : v cd = some (.inr (ci, fs))) (hc : vwCl[ci]? = some (Cn, T, N)) (k : Nat) (hk : k < N) (hlink : (Cond.fieldLink own index (T k).1 (T k).2.1 (T k).2.2.1).before args s = true) {x : Value} (hv : fs[k]? = some x) (hdg : decode cc pc = .ok (.getfield index, 3))
    (kk : W p l e R s m args below meth c H locs cells slots Q (F0 m (pc + 3) ls (x :: rest))) : W p l e R s m args below meth c H locs cells slots Q (F0 m pc ls (.ref (ad cd) :: rest)) :=
  va_get hx hb hts hin hown hK (g_one (hG.1 cd _ he).1) 0 rfl hc k hk hlink (fun _ h9 => h9) hv hdg kk
theorem g_getN (hx : p.tables.exec = Jvm.exec) (hb : c.code = cc) {own Cn host : String} {T : u_T} {N ci index : Nat} {Ts : List Cond} (hts : ∀ w ∈ Ts, w.before args s = true) (hin : ∀ w ∈ u_ws Cn T N, w ∈ Ts) (hown : s.vm.findClass own = some m.cls) (hK : va_K D vwCl tys s) (hG : g_P D v ad B H) {cd : g_k} {fs : List Value} (he : v cd = some (.inr (ci, fs))) (hc : vwCl[ci]? = some (Cn, T, N)) (k : Nat) (hk : k < N) (hlink : (Cond.fieldLinkNest own index (T k).1 (T k).2.1 (T k).2.2.1 host).before args s = true) {x : Value} (hv : fs[k]? = some x) (hdg : decode cc pc = .ok (.getfield index, 3))
    (kk : W p l e R s m args below meth c H locs cells slots Q (F0 m (pc + 3) ls (x :: rest))) : W p l e R s m args below meth c H locs cells slots Q (F0 m pc ls (.ref (ad cd) :: rest)) :=
  va_getN hx hb hts hin hown hK (g_one (hG.1 cd _ he).1) 0 rfl hc k hk hlink (fun _ h9 => h9) hv hdg kk
theorem g_put (hx : p.tables.exec = Jvm.exec) (hb : c.code = cc) {own Cn : String} {T : u_T} {N ci index : Nat} {Ts : List Cond} (hts : ∀ w ∈ Ts, w.before args s = true) (hin : ∀ w ∈ u_ws Cn T N, w ∈ Ts) (ty0 : Nat → FieldType) (hty : ∀ k, k < N → parseFieldDescriptor (T k).2.2.1 = some (ty0 k)) (hnm : ∀ a, a < N → ∀ b, b < N → a ≠ b → (T a).2.1 ≠ (T b).2.1) (hown : s.vm.findClass own = some m.cls) (hK : va_K D vwCl tys s) (hG : g_P D v ad B H) (hS : va_S (g_A B) H0 H locs) {cd : g_k} {fs : List Value} (he : v cd = some (.inr (ci, fs))) (hc : vwCl[ci]? = some (Cn, T, N)) (k : Nat) (hk : k < N) (hlink : (Cond.fieldLink own index (T k).1 (T k).2.1 (T k).2.2.1).before args s = true) (hfin : (T k).2.2.2 = false) {x : Value} (hn : narrow (ty0 k) x = x) (hfit : fits (ty0 k) x = true) (hl : k < fs.length) (hdg : decode cc pc = .ok (.putfield index, 3))
    (kk : ∀ (H1 : Heap) (locs1 : List Loc), g_P D (k_up v cd (some (.inr (ci, fs.set k x)))) ad B H1 → va_S (g_A B) H0 H1 locs1 → W p l e R s m args below meth c H1 locs1 cells slots Q (F0 m (pc + 3) ls rest)) : W p l e R s m args below meth c H locs cells slots Q (F0 m pc ls (x :: .ref (ad cd) :: rest)) := by
  obtain ⟨L, h1, h2, h3⟩ := g_P_ws hG
  obtain ⟨q0, hq0⟩ := h3 cd _ he
  exact va_put hx hb hts hin ty0 hty hnm hown hK h1 h2 hS q0 hq0 hc k hk hlink (fun _ h9 => h9) hfin (hty k hk) hn hfit hl hdg (fun H1 locs1 p1 _ s1 => kk H1 locs1 (g_P_set hG he h3 hq0 p1) s1)
theorem g_putN (hx : p.tables.exec = Jvm.exec) (hb : c.code = cc) {own Cn host : String} {T : u_T} {N ci index : Nat} {Ts : List Cond} (hts : ∀ w ∈ Ts, w.before args s = true) (hin : ∀ w ∈ u_ws Cn T N, w ∈ Ts) (ty0 : Nat → FieldType) (hty : ∀ k, k < N → parseFieldDescriptor (T k).2.2.1 = some (ty0 k)) (hnm : ∀ a, a < N → ∀ b, b < N → a ≠ b → (T a).2.1 ≠ (T b).2.1) (hown : s.vm.findClass own = some m.cls) (hK : va_K D vwCl tys s) (hG : g_P D v ad B H) (hS : va_S (g_A B) H0 H locs) {cd : g_k} {fs : List Value} (he : v cd = some (.inr (ci, fs))) (hc : vwCl[ci]? = some (Cn, T, N)) (k : Nat) (hk : k < N) (hlink : (Cond.fieldLinkNest own index (T k).1 (T k).2.1 (T k).2.2.1 host).before args s = true) (hfin : (T k).2.2.2 = false) {x : Value} (hn : narrow (ty0 k) x = x) (hfit : fits (ty0 k) x = true) (hl : k < fs.length) (hdg : decode cc pc = .ok (.putfield index, 3))
    (kk : ∀ (H1 : Heap) (locs1 : List Loc), g_P D (k_up v cd (some (.inr (ci, fs.set k x)))) ad B H1 → va_S (g_A B) H0 H1 locs1 → W p l e R s m args below meth c H1 locs1 cells slots Q (F0 m (pc + 3) ls rest)) : W p l e R s m args below meth c H locs cells slots Q (F0 m pc ls (x :: .ref (ad cd) :: rest)) := by
  obtain ⟨L, h1, h2, h3⟩ := g_P_ws hG
  obtain ⟨q0, hq0⟩ := h3 cd _ he
  exact va_putN hx hb hts hin ty0 hty hnm hown hK h1 h2 hS q0 hq0 hc k hk hlink (fun _ h9 => h9) hfin (hty k hk) hn hfit hl hdg (fun H1 locs1 p1 _ s1 => kk H1 locs1 (g_P_set hG he h3 hq0 p1) s1)
theorem g_putF (hx : p.tables.exec = Jvm.exec) (hb : c.code = cc) {own Cn : String} {T : u_T} {N ci index : Nat} {Ts : List Cond} (hts : ∀ w ∈ Ts, w.before args s = true) (hin : ∀ w ∈ u_ws Cn T N, w ∈ Ts) (ty0 : Nat → FieldType) (hty : ∀ k, k < N → parseFieldDescriptor (T k).2.2.1 = some (ty0 k)) (hnm : ∀ a, a < N → ∀ b, b < N → a ≠ b → (T a).2.1 ≠ (T b).2.1) (hown : s.vm.findClass own = some m.cls) (hK : va_K D vwCl tys s) (hG : g_P D v ad B H) (hS : va_S (g_A B) H0 H locs) {cd : g_k} {fs : List Value} (he : v cd = some (.inr (ci, fs))) (hc : vwCl[ci]? = some (Cn, T, N)) (k : Nat) (hk : k < N) (hlink : (Cond.fieldLink own index (T k).1 (T k).2.1 (T k).2.2.1).before args s = true) (hfin : (T k).2.2.2 = true) (hin2 : meth.name = "<init>") (hdecl : (T k).1 = own) {x : Value} (hn : narrow (ty0 k) x = x) (hfit : fits (ty0 k) x = true) (hl : k < fs.length) (hdg : decode cc pc = .ok (.putfield index, 3))
    (kk : ∀ (H1 : Heap) (locs1 : List Loc), g_P D (k_up v cd (some (.inr (ci, fs.set k x)))) ad B H1 → va_S (g_A B) H0 H1 locs1 → W p l e R s m args below meth c H1 locs1 cells slots Q (F0 m (pc + 3) ls rest)) : W p l e R s m args below meth c H locs cells slots Q (F0 m pc ls (x :: .ref (ad cd) :: rest)) := by
  obtain ⟨L, h1, h2, h3⟩ := g_P_ws hG
  obtain ⟨q0, hq0⟩ := h3 cd _ he
  exact va_putF hx hb hts hin ty0 hty hnm hown hK h1 h2 hS q0 hq0 hc k hk hlink (fun _ h9 => h9) hfin hin2 hdecl (hty k hk) hn hfit hl hdg (fun H1 locs1 p1 _ s1 => kk H1 locs1 (g_P_set hG he h3 hq0 p1) s1)
theorem g_iald (hx : p.tables.exec = Jvm.exec) (hb : c.code = cc) (hK : va_K D vwCl (g_T C) s) (hG : g_P D v ad B H) {cd : g_k} {n : Nat} {f : Nat → Int32} (he : v cd = some (.inl (C.1, n, .inl f))) {j : Nat} (hj : j < n) (hn : n < 2 ^ 31) (hdg : decode cc pc = .ok (.iaload, 1))
    (kk : W p l e R s m args below meth c H locs cells slots Q (F0 m (pc + 1) ls (.int (f j) :: rest))) : W p l e R s m args below meth c H locs cells slots Q (F0 m pc ls (.int (nI j) :: .ref (ad cd) :: rest)) := by
  refine va_iald hx hb hK (g_one (hG.1 cd _ he).1) 0 0 rfl rfl (vp_in_nI hj hn) hdg ?_
  rw [nI_clamp (Nat.lt_trans hj hn)]
  exact kk
theorem g_iast (hx : p.tables.exec = Jvm.exec) (hb : c.code = cc) (hK : va_K D vwCl (g_T C) s) (hG : g_P D v ad B H) (hS : va_S (g_A B) H0 H locs) {cd : g_k} {n : Nat} {f : Nat → Int32} (he : v cd = some (.inl (C.1, n, .inl f))) {j : Nat} {x : Int32} (hj : j < n) (hn : n < 2 ^ 31) (hdg : decode cc pc = .ok (.iastore, 1))
    (kk : ∀ (H1 : Heap) (locs1 : List Loc), g_P D (k_up v cd (some (.inl (C.1, n, .inl (upd f j x))))) ad B H1 → va_S (g_A B) H0 H1 locs1 → W p l e R s m args below meth c H1 locs1 cells slots Q (F0 m (pc + 1) ls rest)) : W p l e R s m args below meth c H locs cells slots Q (F0 m pc ls (.int x :: .int (nI j) :: .ref (ad cd) :: rest)) := by
  obtain ⟨L, h1, h2, h3⟩ := g_P_ws hG
  obtain ⟨q0, hq0⟩ := h3 cd _ he
  refine va_iast hx hb hK h1 h2 hS q0 0 hq0 rfl (vp_in_nI hj hn) hdg (fun H1 locs1 p1 _ s1 => kk H1 locs1 (g_P_set hG he h3 hq0 ?_) s1)
  rw [nI_clamp (Nat.lt_trans hj hn)] at p1
  exact p1
theorem g_aald (hx : p.tables.exec = Jvm.exec) (hb : c.code = cc) {ty : FieldType} {cA : ClassId} (t0 : Nat) (hK : va_K D vwCl (g_T C) s) (ht : (g_T C)[t0]? = some (cA, ty)) (hty : ty.isReference = true) (hG : g_P D v ad B H) {cd : g_k} {n : Nat} {f : Nat → Option Nat} (he : v cd = some (.inl (cA, n, .inr (.inr (.inr (.inr f)))))) {j : Nat} (hj : j < n) (hn : n < 2 ^ 31) (hdg : decode cc pc = .ok (.aaload, 1))
    (kk : W p l e R s m args below meth c H locs cells slots Q (F0 m (pc + 1) ls (va_rf (f j) :: rest))) : W p l e R s m args below meth c H locs cells slots Q (F0 m pc ls (.int (nI j) :: .ref (ad cd) :: rest)) := by
  have hin := vp_in_nI hj hn
  have hlt : (nI j).toNatClampNeg < n := by rw [nI_clamp (Nat.lt_trans hj hn)]; exact hj
  have hcell : va_at D vwCl (ad cd, .inl (cA, n, .inr (.inr (.inr (.inr f))))) H := (hG.1 cd _ he).1
  refine W.aald (v := va_rf (f (nI j).toNatClampNeg)) (ty := ty) hx hb hcell ((hK.2 t0 _ ht).1 n (fun j => va_rf (f j))) hty (fun q => by cases q) (by show ¬ (nI j < 0 ∨ (arrV _ _ _).slots.size ≤ _); rw [arrV_size]; exact hin) (by show (arrV _ _ _).slots[_]? = _; rw [arrV_read _ _ hlt]) rfl rfl hdg ?_
  rw [nI_clamp (Nat.lt_trans hj hn)]
  exact kk
theorem g_alen (hx : p.tables.exec = Jvm.exec) (hb : c.code = cc) (hK : va_K D vwCl (g_T C) s) (hG : g_P D v ad B H) {cd : g_k} {n : Nat} {f : Nat → Int32} (he : v cd = some (.inl (C.1, n, .inl f))) (hdg : decode cc pc = .ok (.arraylength, 1))
    (kk : W p l e R s m args below meth c H locs cells slots Q (F0 m (pc + 1) ls (.int (nI n) :: rest))) : W p l e R s m args below meth c H locs cells slots Q (F0 m pc ls (.ref (ad cd) :: rest)) :=
  va_alen hx hb hK (g_one (hG.1 cd _ he).1) 0 0 rfl rfl rfl hdg kk
theorem g_cI {s : State} {a b : ClassId} (ha : va_RA s a .int) (hb : s.vm.findClass "[I" = some b) : a = b := Option.some.inj ((va_nm_int ha).symm.trans hb)
theorem g_newa (hx : p.tables.exec = Jvm.exec) (hb : c.code = cc) (harr : (Cond.arrayClass .int).before args s = true) (hK : va_K D vwCl (g_T C) s) (hG : g_P D v ad B H) (hS : va_S (g_A B) H0 H locs) (hB : B ≤ H0.size) (cd : g_k) (hcd : v cd = none) {n : Nat} (hn : n < 2 ^ 27) (hcells : cells + 1 ≤ R.cells) (hslots : slots + n ≤ R.slots) (hdg : decode cc pc = .ok (.newarray .int, 2))
    (kk : ∀ (q : Nat) (H1 : Heap), q = H.size → g_P D (k_up v cd (some (.inl (C.1, n, .inl (fun _ => 0))))) (k_up ad cd q) B H1 → va_S (g_A B) H0 H1 locs → W p l e R s m args below meth c H1 locs (cells + 1) (slots + n) Q (F0 m (pc + 2) ls (.ref q :: rest))) : W p l e R s m args below meth c H locs cells slots Q (F0 m pc ls (.int (nI n) :: rest)) := by
  obtain ⟨L, h1, h2, h3⟩ := g_P_ws hG
  have hn31 : n < 2 ^ 31 := Nat.lt_trans hn (by decide)
  refine va_newaK (N := n) hx hb (atype := .int) harr rfl hdg rfl (nI_pos hn31) (nI_clamp hn31) (by show n * 4 ≤ 536870912; omega) hcells hslots rfl (fun H1 cA e1 z1 o1 hAr hNm => ?_)
  have hcA : cA = C.1 := (g_cI (hK.2 0 _ rfl).2 hNm).symm
  subst hcA
  have hP1 : va_P D vwCl (g_L v ad L ++ [(H.size, .inl (C.1, n, .inl (fun _ => 0)))]) H1 := (h1.kept (fun k x hx => o1 x.1 ((h1 k x hx).lt))).app (g_one e1)
  exact kk H.size H1 rfl (g_P_push hG hcd h3 hP1 (h2.push h1 rfl (Nat.le_trans hB hS.1))) ⟨Nat.le_trans hS.1 (by omega), fun x a1 a2 => (o1 x (Nat.lt_of_lt_of_le a1 hS.1)).trans (hS.2.1 x a1 a2), hS.2.2⟩
theorem g_new {c0 : Code} (hx : p.tables.exec = Jvm.exec) (hb : c0.code = cc) {own Cn : String} {T : u_T} {N ci index : Nat} {Ts : List Cond} (hts : ∀ w ∈ Ts, w.before args s = true) (hin : ∀ w ∈ u_ws Cn T N, w ∈ Ts) (ty : Nat → FieldType) (hty : ∀ k, k < N → parseFieldDescriptor (T k).2.2.1 = some (ty k)) (hown : s.vm.findClass own = some m.cls) (hcl : (Cond.classLink own index Cn).before args s = true) (hinst : (Cond.instantiable Cn N).before args s = true) (hini : (Cond.initialized Cn).before args s = true) (hK : va_K D vwCl tys s) (hG : g_P D v ad B H) (hS : va_S (g_A B) H0 H locs) (hB : B ≤ H0.size) (cd : g_k) (hcd : v cd = none) (hc : vwCl[ci]? = some (Cn, T, N)) {fs : List Value} (hfs : ∀ j, j < N → defaultValue (ty j) = vp_V fs j) (hcells : cells + 1 ≤ R.cells) (hslots : slots + N ≤ R.slots) (hdg : decode cc pc = .ok (.new index, 3))
    (kk : ∀ (q : Nat) (H1 : Heap), g_P D (k_up v cd (some (.inr (ci, fs)))) (k_up ad cd q) B H1 → va_S (g_A B) H0 H1 locs → W p l e R s m args below meth c0 H1 locs (cells + 1) (slots + N) Q (F0 m (pc + 3) ls (.ref q :: rest))) : W p l e R s m args below meth c0 H locs cells slots Q (F0 m pc ls rest) := by
  obtain ⟨L, h1, h2, h3⟩ := g_P_ws hG
  exact va_new hx hb hts hin ty hty hown hcl hinst hini hK h1 h2 hS (fun q hq => Nat.le_trans hB hq) hc hfs hcells hslots hdg (fun q H1 p1 d1 s1 => kk q H1 (g_P_push hG hcd h3 p1 d1) s1)
end GRows
end
section
/-! The system's state: g what ints a cell of a code holds, ad where the cell lies, ln which stations and messages are there and how long the rows of hops are; ex what else there is. -/
abbrev F_main (ad : g_k → Nat) (a : Nat → Int32) : List Value := [.ref (ad (1, 0, 0)), .ref (ad (2, 0, 0)), .ref (ad (3, 0, 0)), .ref (ad (4, 0, 0)), .ref (ad (5, 0, 0)), .int (a 5), .int (a 6), .int (a 7), .int (a 8)]
abbrev F_sky (ad : g_k → Nat) (a : Nat → Int32) : List Value := [.ref (ad (6, 0, 0)), .ref (ad (7, 0, 0)), .ref (ad (8, 0, 0)), .ref (ad (9, 0, 0)), .int (a 4)]
abbrev F_search (ad : g_k → Nat) : List Value := [.ref (ad (1, 0, 0)), .ref (ad (10, 0, 0))]
abbrev F_station (ad : g_k → Nat) (i : Nat) (a : Nat → Int32) : List Value := [.ref (ad (31, i, 0)), .int (a 1), .int (a 2)]
/-- which of its two rows a timetable calls soonest, which soonestBefore -/
def sc (ln : g_k → Nat) (i : Nat) : g_k := if ln (31, i, 0) = 1 then (34, i, 0) else (33, i, 0)
def sb (ln : g_k → Nat) (i : Nat) : g_k := if ln (31, i, 0) = 1 then (33, i, 0) else (34, i, 0)
abbrev F_time (ad ln : g_k → Nat) (i : Nat) (a : Nat → Int32) : List Value := [.ref (ad (1, 0, 0)), .int (a 1), .ref (ad (32, i, 0)), .ref (ad (sc ln i)), .ref (ad (sb ln i)), .int (a 5)]
abbrev F_msg (ad : g_k → Nat) (ln : g_k → Nat) (i : Nat) (a : Nat → Int32) : List Value := [.int (a 0), .ref (ad (31, ln (43, i, 0), 0)), .int (a 2), .int (a 3), .int (a 4), .int (a 5), .ref (ad (41, i, 0)), .ref (ad (42, i, 0))]
abbrev A_stations (ad ln : g_k → Nat) : Nat → Option Nat := fun i => if ln (30, i, 0) = 1 ∧ i < 10 then some (ad (30, i, 0)) else none
abbrev A_sent (ad ln : g_k → Nat) : Nat → Option Nat := fun i => if i < ln (5, 0, 0) then some (ad (40, i, 0)) else none
abbrev A_seen (ad : g_k → Nat) : Nat → Option Nat := fun i => if i < 10 then some (ad (20, i, 0)) else none
abbrev A_left (ad : g_k → Nat) (k : Nat) : Nat → Option Nat := fun i => if i < 10 then some (ad (35, k, i)) else none
def lay (C : g_C) (g : g_k → Nat → Int32) (ad ln : g_k → Nat) (ex : g_k → Option va_E) : g_k → Option va_E := fun c =>
  if c = (0, 0, 0) then some (.inr (5, F_main ad (g c)))
  else if c = (1, 0, 0) then some (.inr (2, F_sky ad (g c)))
  else if c = (2, 0, 0) then some (.inr (1, F_search ad))
  else if c = (3, 0, 0) then some (.inl (C.2.2.1, 10, .inr (.inr (.inr (.inr (A_stations ad ln))))))
  else if c = (4, 0, 0) then some (.inl (C.1, 10, .inl (g c)))
  else if c = (5, 0, 0) then some (.inl (C.2.2.2, 20, .inr (.inr (.inr (.inr (A_sent ad ln))))))
  else if c = (6, 0, 0) then some (.inl (C.1, 10, .inl (g c)))
  else if c = (7, 0, 0) then some (.inl (C.1, 10, .inl (g c)))
  else if c = (8, 0, 0) then some (.inl (C.1, 10, .inl (g c)))
  else if c = (9, 0, 0) then some (.inl (C.2.1, 10, .inr (.inr (.inr (.inr (A_seen ad))))))
  else if c = (10, 0, 0) then some (.inl (C.1, 10, .inl (g c)))
  else if c.1 = 20 ∧ c.2.1 < 10 ∧ c.2.2 = 0 then some (.inl (C.1, 360, .inl (g c)))
  else if c.1 = 30 ∧ c.2.1 < 10 ∧ c.2.2 = 0 ∧ ln (30, c.2.1, 0) = 1 then some (.inr (3, F_station ad c.2.1 (g c)))
  else if c.1 = 31 ∧ c.2.1 < 10 ∧ c.2.2 = 0 ∧ ln (30, c.2.1, 0) = 1 then some (.inr (4, F_time ad ln c.2.1 (g c)))
  else if c.1 = 32 ∧ c.2.1 < 10 ∧ c.2.2 = 0 ∧ ln (30, c.2.1, 0) = 1 then some (.inl (C.2.1, 10, .inr (.inr (.inr (.inr (A_left ad c.2.1))))))
  else if c.1 = 33 ∧ c.2.1 < 10 ∧ c.2.2 = 0 ∧ ln (30, c.2.1, 0) = 1 then some (.inl (C.1, 10, .inl (g c)))
  else if c.1 = 34 ∧ c.2.1 < 10 ∧ c.2.2 = 0 ∧ ln (30, c.2.1, 0) = 1 then some (.inl (C.1, 10, .inl (g c)))
  else if c.1 = 35 ∧ c.2.1 < 10 ∧ c.2.2 < 10 ∧ ln (30, c.2.1, 0) = 1 then some (.inl (C.1, 360, .inl (g c)))
  else if c.1 = 40 ∧ c.2.1 < ln (5, 0, 0) ∧ c.2.2 = 0 then some (.inr (0, F_msg ad ln c.2.1 (g c)))
  else if c.1 = 41 ∧ c.2.1 < ln (5, 0, 0) ∧ c.2.2 = 0 then some (.inl (C.1, ln (41, c.2.1, 0), .inl (g c)))
  else if c.1 = 42 ∧ c.2.1 < ln (5, 0, 0) ∧ c.2.2 = 0 then some (.inl (C.1, ln (42, c.2.1, 0), .inl (g c)))
  else if c.1 < 50 then none
  else ex c
section LAY
variable {C : g_C} {g g' : g_k → Nat → Int32} {ad ln : g_k → Nat} {ex : g_k → Option va_E}
theorem lay_main : lay C g ad ln ex (0, 0, 0) = some (.inr (5, F_main ad (g (0, 0, 0)))) := by simp [lay]
theorem lay_sky : lay C g ad ln ex (1, 0, 0) = some (.inr (2, F_sky ad (g (1, 0, 0)))) := by simp [lay]
theorem lay_search : lay C g ad ln ex (2, 0, 0) = some (.inr (1, F_search ad)) := by simp [lay]
theorem lay_stations : lay C g ad ln ex (3, 0, 0) = some (.inl (C.2.2.1, 10, .inr (.inr (.inr (.inr (A_stations ad ln)))))) := by simp [lay]
theorem lay_caps : lay C g ad ln ex (4, 0, 0) = some (.inl (C.1, 10, .inl (g (4, 0, 0)))) := by simp [lay]
theorem lay_sent : lay C g ad ln ex (5, 0, 0) = some (.inl (C.2.2.2, 20, .inr (.inr (.inr (.inr (A_sent ad ln)))))) := by simp [lay]
theorem lay_places : lay C g ad ln ex (6, 0, 0) = some (.inl (C.1, 10, .inl (g (6, 0, 0)))) := by simp [lay]
theorem lay_speeds : lay C g ad ln ex (7, 0, 0) = some (.inl (C.1, 10, .inl (g (7, 0, 0)))) := by simp [lay]
theorem lay_reaches : lay C g ad ln ex (8, 0, 0) = some (.inl (C.1, 10, .inl (g (8, 0, 0)))) := by simp [lay]
theorem lay_seen : lay C g ad ln ex (9, 0, 0) = some (.inl (C.2.1, 10, .inr (.inr (.inr (.inr (A_seen ad)))))) := by simp [lay]
theorem lay_reached : lay C g ad ln ex (10, 0, 0) = some (.inl (C.1, 10, .inl (g (10, 0, 0)))) := by simp [lay]
theorem lay_row {i : Nat} (hi : i < 10) : lay C g ad ln ex (20, i, 0) = some (.inl (C.1, 360, .inl (g (20, i, 0)))) := by simp [lay, hi]
theorem lay_station {i : Nat} (hi : i < 10) (hl : ln (30, i, 0) = 1) : lay C g ad ln ex (30, i, 0) = some (.inr (3, F_station ad i (g (30, i, 0)))) := by simp [lay, hi, hl]
theorem lay_time {i : Nat} (hi : i < 10) (hl : ln (30, i, 0) = 1) : lay C g ad ln ex (31, i, 0) = some (.inr (4, F_time ad ln i (g (31, i, 0)))) := by simp [lay, hi, hl]
theorem lay_left {i : Nat} (hi : i < 10) (hl : ln (30, i, 0) = 1) : lay C g ad ln ex (32, i, 0) = some (.inl (C.2.1, 10, .inr (.inr (.inr (.inr (A_left ad i)))))) := by simp [lay, hi, hl]
theorem lay_soon {i : Nat} (hi : i < 10) (hl : ln (30, i, 0) = 1) : lay C g ad ln ex (33, i, 0) = some (.inl (C.1, 10, .inl (g (33, i, 0)))) := by simp [lay, hi, hl]
theorem lay_soonB {i : Nat} (hi : i < 10) (hl : ln (30, i, 0) = 1) : lay C g ad ln ex (34, i, 0) = some (.inl (C.1, 10, .inl (g (34, i, 0)))) := by simp [lay, hi, hl]
theorem lay_sc {i : Nat} (hi : i < 10) (hl : ln (30, i, 0) = 1) : lay C g ad ln ex (sc ln i) = some (.inl (C.1, 10, .inl (g (sc ln i)))) := by
  unfold sc
  split
  · exact lay_soonB hi hl
  · exact lay_soon hi hl
theorem lay_sb {i : Nat} (hi : i < 10) (hl : ln (30, i, 0) = 1) : lay C g ad ln ex (sb ln i) = some (.inl (C.1, 10, .inl (g (sb ln i)))) := by
  unfold sb
  split
  · exact lay_soon hi hl
  · exact lay_soonB hi hl
theorem lay_leftrow {i j : Nat} (hi : i < 10) (hj : j < 10) (hl : ln (30, i, 0) = 1) : lay C g ad ln ex (35, i, j) = some (.inl (C.1, 360, .inl (g (35, i, j)))) := by simp [lay, hi, hl, hj]
theorem lay_msg {i : Nat} (hi : i < ln (5, 0, 0)) : lay C g ad ln ex (40, i, 0) = some (.inr (0, F_msg ad ln i (g (40, i, 0)))) := by simp [lay, hi]
theorem lay_hopN {i : Nat} (hi : i < ln (5, 0, 0)) : lay C g ad ln ex (41, i, 0) = some (.inl (C.1, ln (41, i, 0), .inl (g (41, i, 0)))) := by simp [lay, hi]
theorem lay_hopM {i : Nat} (hi : i < ln (5, 0, 0)) : lay C g ad ln ex (42, i, 0) = some (.inl (C.1, ln (42, i, 0), .inl (g (42, i, 0)))) := by simp [lay, hi]
theorem lay_ex {a i j : Nat} (ha : 50 ≤ a) : lay C g ad ln ex (a, i, j) = ex (a, i, j) := by
  have h0 : ¬ a < 50 := by omega
  have h : a ≠ 0 ∧ a ≠ 1 ∧ a ≠ 2 ∧ a ≠ 3 ∧ a ≠ 4 ∧ a ≠ 5 ∧ a ≠ 6 ∧ a ≠ 7 ∧ a ≠ 8 ∧ a ≠ 9 ∧ a ≠ 10 ∧ a ≠ 20 ∧ a ≠ 30 ∧ a ≠ 31 ∧ a ≠ 32 ∧ a ≠ 33 ∧ a ≠ 34 ∧ a ≠ 35 ∧ a ≠ 40 ∧ a ≠ 41 ∧ a ≠ 42 := by omega
  simp [lay, h, h0]
theorem lay_cong (c : g_k) (h : g c = g' c) : lay C g ad ln ex c = lay C g' ad ln ex c := by
  unfold lay
  rw [h]
/-- the cells of a code depend on few of ln's numbers -/
theorem lay_lcong {ln' : g_k → Nat} (d : g_k) (h : ∀ x : g_k, x.1 ≠ 31 → ln' x = ln x) (h2 : d.1 = 31 → d.2.2 = 0 → ln' (31, d.2.1, 0) = ln (31, d.2.1, 0)) : lay C g ad ln ex d = lay C g ad ln' ex d := by
  have e30 : ∀ i, ln' (30, i, 0) = ln (30, i, 0) := fun i => h _ (show (30 : Nat) ≠ 31 by decide)
  have e5 : ln' (5, 0, 0) = ln (5, 0, 0) := h _ (show (5 : Nat) ≠ 31 by decide)
  have e41 : ∀ i, ln' (41, i, 0) = ln (41, i, 0) := fun i => h _ (show (41 : Nat) ≠ 31 by decide)
  have e42 : ∀ i, ln' (42, i, 0) = ln (42, i, 0) := fun i => h _ (show (42 : Nat) ≠ 31 by decide)
  have e43 : ∀ i, ln' (43, i, 0) = ln (43, i, 0) := fun i => h _ (show (43 : Nat) ≠ 31 by decide)
  have eS : A_stations ad ln' = A_stations ad ln := funext fun i => by simp only [A_stations, e30]
  have eM : A_sent ad ln' = A_sent ad ln := funext fun i => by simp only [A_sent, e5]
  by_cases q : d.1 = 31 ∧ d.2.2 = 0
  · unfold lay
    simp only [eS, eM, F_time, F_msg, sc, sb, e30, e5, e41, e42, e43, h2 q.1 q.2]
  · have q2 : ¬ (d.1 = 31 ∧ d.2.1 < 10 ∧ d.2.2 = 0 ∧ ln (30, d.2.1, 0) = 1) := fun z => q ⟨z.1, z.2.2.1⟩
    unfold lay
    simp only [eS, eM, F_msg, e30, e5, e41, e42, e43, q2, if_false]
/-- the timetable's two rows change places -/
def sw (ln : g_k → Nat) (k : Nat) : g_k → Nat := k_up ln (31, k, 0) (if ln (31, k, 0) = 1 then 0 else 1)
theorem sw_ne (ln : g_k → Nat) {k : Nat} {c : g_k} (h : c ≠ (31, k, 0)) : sw ln k c = ln c := k_up_ne _ _ h
theorem sw_sc (ln : g_k → Nat) (k : Nat) : sc (sw ln k) k = sb ln k ∧ sb (sw ln k) k = sc ln k := by
  unfold sc sb sw
  rw [k_up_self]
  by_cases h : ln (31, k, 0) = 1
  · simp [h]
  · simp [h]
theorem lay_sw {k : Nat} {e : Option va_E} (hk : k < 10) (hl : ln (30, k, 0) = 1) : k_up (k_up (lay C g ad ln ex) (31, k, 0) e) (31, k, 0) (some (.inr (4, ((F_time ad ln k (g (31, k, 0))).set 3 (.ref (ad (sb ln k)))).set 4 (.ref (ad (sc ln k)))))) = lay C g ad (sw ln k) ex := by
  funext d
  by_cases hd : d = (31, k, 0)
  · subst hd
    rw [k_up_self, lay_time hk (by rw [sw_ne _ (by intro h; cases h)]; exact hl)]
    unfold F_time
    rw [(sw_sc ln k).1, (sw_sc ln k).2]
    rfl
  · rw [k_up_ne _ _ hd, k_up_ne _ _ hd]
    exact lay_lcong d (fun x hx => sw_ne _ (fun h => hx (by rw [h]))) (fun h31 h0 => sw_ne _ (fun h => hd (by
      have hk2 : d.2.1 = k := congrArg (fun z : g_k => z.2.1) h
      rw [← hk2, ← h31, ← h0])))
def g2 (g : g_k → Nat → Int32) (c : g_k) (k : Nat) (x : Int32) : g_k → Nat → Int32 := k_up g c (upd (g c) k x)
theorem g2_self (g : g_k → Nat → Int32) (c : g_k) (k : Nat) (x : Int32) : g2 g c k x c = upd (g c) k x := k_up_self _ _ _
theorem g2_ne (g : g_k → Nat → Int32) {c d : g_k} (k : Nat) (x : Int32) (h : d ≠ c) : g2 g c k x d = g d := k_up_ne _ _ h
theorem upd_self (f : Nat → Int32) (k : Nat) (x : Int32) : upd f k x k = x := by simp [upd]
theorem upd_ne (f : Nat → Int32) {k j : Nat} (x : Int32) (h : j ≠ k) : upd f k x j = f j := by simp [upd, h]
theorem lay_up {c : g_k} {k : Nat} {x : Int32} {e : va_E} (he : lay C (g2 g c k x) ad ln ex c = some e) : k_up (lay C g ad ln ex) c (some e) = lay C (g2 g c k x) ad ln ex := by
  funext d
  by_cases hd : d = c
  · subst hd
    rw [k_up_self, he]
  · rw [k_up_ne _ _ hd]
    exact lay_cong d (g2_ne g k x hd).symm
end LAY
section ORows
variable {p : Program} {l : Launch} {e : Env} {R : Room} {s : State} {m : MethodId} {args : Array Value} {below : List Frame} {meth : Method} {c : Code} {H : Heap} {locs : List Loc} {cells slots : Nat} {Q : State → Prop}
variable {cc : ByteArray} {pc : Nat} {ls : Array Slot} {rest : List Value} {D : va_G} {C : g_C} {g : g_k → Nat → Int32} {ad ln : g_k → Nat} {ex : g_k → Option va_E} {B : Nat} {H0 : Heap} {tys : List (ClassId × FieldType)}
/-- an int field is written -/
theorem o_put (hx : p.tables.exec = Jvm.exec) (hb : c.code = cc) {own Cn : String} {T : u_T} {N ci index : Nat} {Ts : List Cond} (hts : ∀ w ∈ Ts, w.before args s = true) (hin : ∀ w ∈ u_ws Cn T N, w ∈ Ts) (ty0 : Nat → FieldType) (hty : ∀ k, k < N → parseFieldDescriptor (T k).2.2.1 = some (ty0 k)) (hnm : ∀ a, a < N → ∀ b, b < N → a ≠ b → (T a).2.1 ≠ (T b).2.1) (hown : s.vm.findClass own = some m.cls) (hK : va_K D vwCl tys s) (hG : g_P D (lay C g ad ln ex) ad B H) (hS : va_S (g_A B) H0 H locs) {cd : g_k} (F : (Nat → Int32) → List Value) (hO : ∀ g, lay C g ad ln ex cd = some (.inr (ci, F (g cd)))) (hc : vwCl[ci]? = some (Cn, T, N)) (k : Nat) (hk : k < N) (hlink : (Cond.fieldLink own index (T k).1 (T k).2.1 (T k).2.2.1).before args s = true) (hfin : (T k).2.2.2 = false) {x : Int32} (hint : ty0 k = .int) (hF : (F (g cd)).set k (.int x) = F (upd (g cd) k x)) (hl : k < (F (g cd)).length) (hdg : decode cc pc = .ok (.putfield index, 3))
    (kk : ∀ (H1 : Heap) (locs1 : List Loc), g_P D (lay C (g2 g cd k x) ad ln ex) ad B H1 → va_S (g_A B) H0 H1 locs1 → W p l e R s m args below meth c H1 locs1 cells slots Q (F0 m (pc + 3) ls rest)) : W p l e R s m args below meth c H locs cells slots Q (F0 m pc ls (.int x :: .ref (ad cd) :: rest)) :=
  g_put hx hb hts hin ty0 hty hnm hown hK hG hS (hO g) hc k hk hlink hfin (by rw [hint]; rfl) (by rw [hint]; rfl) hl hdg (fun H1 locs1 p1 s1 => kk H1 locs1 (p1.to (by rw [hF]; exact lay_up (by rw [hO, g2_self])) rfl) s1)
theorem o_putN (hx : p.tables.exec = Jvm.exec) (hb : c.code = cc) {own Cn host : String} {T : u_T} {N ci index : Nat} {Ts : List Cond} (hts : ∀ w ∈ Ts, w.before args s = true) (hin : ∀ w ∈ u_ws Cn T N, w ∈ Ts) (ty0 : Nat → FieldType) (hty : ∀ k, k < N → parseFieldDescriptor (T k).2.2.1 = some (ty0 k)) (hnm : ∀ a, a < N → ∀ b, b < N → a ≠ b → (T a).2.1 ≠ (T b).2.1) (hown : s.vm.findClass own = some m.cls) (hK : va_K D vwCl tys s) (hG : g_P D (lay C g ad ln ex) ad B H) (hS : va_S (g_A B) H0 H locs) {cd : g_k} (F : (Nat → Int32) → List Value) (hO : ∀ g, lay C g ad ln ex cd = some (.inr (ci, F (g cd)))) (hc : vwCl[ci]? = some (Cn, T, N)) (k : Nat) (hk : k < N) (hlink : (Cond.fieldLinkNest own index (T k).1 (T k).2.1 (T k).2.2.1 host).before args s = true) (hfin : (T k).2.2.2 = false) {x : Int32} (hint : ty0 k = .int) (hF : (F (g cd)).set k (.int x) = F (upd (g cd) k x)) (hl : k < (F (g cd)).length) (hdg : decode cc pc = .ok (.putfield index, 3))
    (kk : ∀ (H1 : Heap) (locs1 : List Loc), g_P D (lay C (g2 g cd k x) ad ln ex) ad B H1 → va_S (g_A B) H0 H1 locs1 → W p l e R s m args below meth c H1 locs1 cells slots Q (F0 m (pc + 3) ls rest)) : W p l e R s m args below meth c H locs cells slots Q (F0 m pc ls (.int x :: .ref (ad cd) :: rest)) :=
  g_putN hx hb hts hin ty0 hty hnm hown hK hG hS (hO g) hc k hk hlink hfin (by rw [hint]; rfl) (by rw [hint]; rfl) hl hdg (fun H1 locs1 p1 s1 => kk H1 locs1 (p1.to (by rw [hF]; exact lay_up (by rw [hO, g2_self])) rfl) s1)
theorem o_iast (hx : p.tables.exec = Jvm.exec) (hb : c.code = cc) (hK : va_K D vwCl (g_T C) s) (hG : g_P D (lay C g ad ln ex) ad B H) (hS : va_S (g_A B) H0 H locs) {cd : g_k} {n : Nat} (hO : ∀ g, lay C g ad ln ex cd = some (.inl (C.1, n, .inl (g cd)))) {j : Nat} {x : Int32} (hj : j < n) (hn : n < 2 ^ 31) (hdg : decode cc pc = .ok (.iastore, 1))
    (kk : ∀ (H1 : Heap) (locs1 : List Loc), g_P D (lay C (g2 g cd j x) ad ln ex) ad B H1 → va_S (g_A B) H0 H1 locs1 → W p l e R s m args below meth c H1 locs1 cells slots Q (F0 m (pc + 1) ls rest)) : W p l e R s m args below meth c H locs cells slots Q (F0 m pc ls (.int x :: .int (nI j) :: .ref (ad cd) :: rest)) :=
  g_iast hx hb hK hG hS (hO g) hj hn hdg (fun H1 locs1 p1 s1 => kk H1 locs1 (p1.to (lay_up (by rw [hO, g2_self])) rfl) s1)
end ORows
section ORows2
variable {p : Program} {l : Launch} {e : Env} {R : Room} {s : State} {m : MethodId} {args : Array Value} {below : List Frame} {meth : Method} {c : Code} {H : Heap} {locs : List Loc} {cells slots : Nat} {Q : State → Prop}
variable {cc : ByteArray} {pc : Nat} {ls : Array Slot} {rest : List Value} {D : va_G} {C : g_C} {g : g_k → Nat → Int32} {ad ln : g_k → Nat} {ex : g_k → Option va_E} {B : Nat} {H0 : Heap}
theorem lv_to {x y : Int32} (h : x = y) (k : W p l e R s m args below meth c H locs cells slots Q (F0 m pc ls (.int y :: rest))) : W p l e R s m args below meth c H locs cells slots Q (F0 m pc ls (.int x :: rest)) := by
  subst h
  exact k
theorem o_seen (hx : p.tables.exec = Jvm.exec) (hb : c.code = cc) (hK : va_K D vwCl (g_T C) s) (hG : g_P D (lay C g ad ln ex) ad B H) {j : Nat} (hj : j < 10) (hdg : decode cc pc = .ok (.aaload, 1))
    (kk : W p l e R s m args below meth c H locs cells slots Q (F0 m (pc + 1) ls (.ref (ad (20, j, 0)) :: rest))) : W p l e R s m args below meth c H locs cells slots Q (F0 m pc ls (.int (nI j) :: .ref (ad (9, 0, 0)) :: rest)) :=
  g_aald hx hb 1 hK rfl rfl hG lay_seen hj (by decide) hdg (by rw [show va_rf (A_seen ad j) = .ref (ad (20, j, 0)) by simp [A_seen, hj, va_rf]]; exact kk)
theorem o_left (hx : p.tables.exec = Jvm.exec) (hb : c.code = cc) (hK : va_K D vwCl (g_T C) s) (hG : g_P D (lay C g ad ln ex) ad B H) {i j : Nat} (hi : i < 10) (hl : ln (30, i, 0) = 1) (hj : j < 10) (hdg : decode cc pc = .ok (.aaload, 1))
    (kk : W p l e R s m args below meth c H locs cells slots Q (F0 m (pc + 1) ls (.ref (ad (35, i, j)) :: rest))) : W p l e R s m args below meth c H locs cells slots Q (F0 m pc ls (.int (nI j) :: .ref (ad (32, i, 0)) :: rest)) :=
  g_aald hx hb 1 hK rfl rfl hG (lay_left hi hl) hj (by decide) hdg (by rw [show va_rf (A_left ad i j) = .ref (ad (35, i, j)) by simp [A_left, hj, va_rf]]; exact kk)
theorem o_sent (hx : p.tables.exec = Jvm.exec) (hb : c.code = cc) (hK : va_K D vwCl (g_T C) s) (hG : g_P D (lay C g ad ln ex) ad B H) {j : Nat} (hj : j < ln (5, 0, 0)) (h20 : ln (5, 0, 0) ≤ 20) (hdg : decode cc pc = .ok (.aaload, 1))
    (kk : W p l e R s m args below meth c H locs cells slots Q (F0 m (pc + 1) ls (.ref (ad (40, j, 0)) :: rest))) : W p l e R s m args below meth c H locs cells slots Q (F0 m pc ls (.int (nI j) :: .ref (ad (5, 0, 0)) :: rest)) :=
  g_aald hx hb 3 hK rfl rfl hG lay_sent (Nat.lt_of_lt_of_le hj h20) (by decide) hdg (by rw [show va_rf (A_sent ad ln j) = .ref (ad (40, j, 0)) by simp [A_sent, hj, va_rf]]; exact kk)
theorem o_stationY (hx : p.tables.exec = Jvm.exec) (hb : c.code = cc) (hK : va_K D vwCl (g_T C) s) (hG : g_P D (lay C g ad ln ex) ad B H) {i : Nat} (hi : i < 10) (hl : ln (30, i, 0) = 1) (hdg : decode cc pc = .ok (.aaload, 1))
    (kk : W p l e R s m args below meth c H locs cells slots Q (F0 m (pc + 1) ls (.ref (ad (30, i, 0)) :: rest))) : W p l e R s m args below meth c H locs cells slots Q (F0 m pc ls (.int (nI i) :: .ref (ad (3, 0, 0)) :: rest)) :=
  g_aald hx hb 2 hK rfl rfl hG lay_stations hi (by decide) hdg (by rw [show va_rf (A_stations ad ln i) = .ref (ad (30, i, 0)) by simp [A_stations, hi, hl, va_rf]]; exact kk)
theorem o_stationN (hx : p.tables.exec = Jvm.exec) (hb : c.code = cc) (hK : va_K D vwCl (g_T C) s) (hG : g_P D (lay C g ad ln ex) ad B H) {i : Nat} (hi : i < 10) (hl : ln (30, i, 0) ≠ 1) (hdg : decode cc pc = .ok (.aaload, 1))
    (kk : W p l e R s m args below meth c H locs cells slots Q (F0 m (pc + 1) ls (.null :: rest))) : W p l e R s m args below meth c H locs cells slots Q (F0 m pc ls (.int (nI i) :: .ref (ad (3, 0, 0)) :: rest)) :=
  g_aald hx hb 2 hK rfl rfl hG lay_stations hi (by decide) hdg (by rw [show va_rf (A_stations ad ln i) = .null by simp [A_stations, hl, va_rf]]; exact kk)
end ORows2
end
section
/-! The sky: who sees whom. -/
def bt (x : Int32) (i : Nat) : Bool := x.toBitVec.getLsbD i
theorem b_ext {x y : Int32} (h : ∀ i, i < 32 → bt x i = bt y i) : x = y := Int32.toBitVec_inj.mp (BitVec.eq_of_getLsbD_eq (fun i hi => h i hi))
theorem b_or (x y : Int32) (i : Nat) : bt (x ||| y) i = (bt x i || bt y i) := by unfold bt; rw [Int32.toBitVec_or, BitVec.getLsbD_or]
theorem b_and (x y : Int32) (i : Nat) : bt (x &&& y) i = (bt x i && bt y i) := by unfold bt; rw [Int32.toBitVec_and, BitVec.getLsbD_and]
theorem b_big {x : Int32} {i : Nat} (h : 32 ≤ i) : bt x i = false := BitVec.getLsbD_of_ge _ _ h
theorem b_0 (i : Nat) : bt 0 i = false := BitVec.getLsbD_zero
theorem b_sl : ∀ n, n < 32 → ((nI n &&& 31).toBitVec.smod 32).toNat = n := by decide +kernel
theorem b_shl (n : Nat) (hn : n < 32) (x : Int32) {i : Nat} (hi : i < 32) : bt (x <<< (nI n &&& 31)) i = (decide (n ≤ i) && bt x (i - n)) := by
  unfold bt
  rw [Int32.toBitVec_shiftLeft]
  show (x.toBitVec <<< ((nI n &&& 31).toBitVec.smod 32).toNat).getLsbD i = _
  rw [b_sl n hn, BitVec.getLsbD_shiftLeft]
  rcases Nat.lt_or_ge i n with h | h
  · simp [h, Nat.not_le.mpr h]
  · simp [hi, h, Nat.not_lt.mpr h]
theorem b_sshr (n : Nat) (hn : n < 32) (x : Int32) {i : Nat} (hi : i < 32) : bt (x >>> (nI n &&& 31)) i = if n + i < 32 then bt x (n + i) else bt x 31 := by
  unfold bt
  rw [Int32.toBitVec_shiftRight]
  show (x.toBitVec.sshiftRight ((nI n &&& 31).toBitVec.smod 32).toNat).getLsbD i = _
  rw [b_sl n hn, BitVec.getLsbD_sshiftRight, BitVec.msb_eq_getLsbD_last]
  simp [hi]
theorem b_one : ∀ i, i < 32 → bt (nI 1) i = decide (i = 0) := by decide +kernel
/-- x >> b & 1 -/
theorem b_test (x : Int32) {b : Nat} (hb : b < 32) : ((x >>> (nI b &&& 31)) &&& nI 1 = 0) ↔ bt x b = false := by
  have e : ∀ i, i < 32 → bt ((x >>> (nI b &&& 31)) &&& nI 1) i = (decide (i = 0) && bt x b) := fun i hi => by
    rw [b_and, b_one i hi, b_sshr b hb x hi]
    by_cases h : i = 0
    · subst h
      simp [hb]
    · simp [h]
  constructor
  · intro h
    have := e 0 (by omega)
    rw [h, b_0] at this
    simpa using this.symm
  · intro h
    refine b_ext (fun i hi => ?_)
    rw [e i hi, h, b_0]
    simp
/-- 1 << n -/
theorem b_bit {n i : Nat} (hn : n < 32) (hi : i < 32) : bt (nI 1 <<< (nI n &&& 31)) i = decide (i = n) := by
  rw [b_shl n hn _ hi]
  by_cases h : n ≤ i
  · rw [b_one (i - n) (by omega)]
    by_cases h2 : i = n
    · subst h2
      simp
    · simp [h, h2, show ¬ i - n = 0 by omega]
  · simp [h, show ¬ i = n by omega]
/-- a sees b at minute t -/
def see (g : g_k → Nat → Int32) (a b t : Nat) : Bool := bt (g (20, a, 0) (t % 360)) b
theorem see_360 (g : g_k → Nat → Int32) (a b t : Nat) : see g a b (t + 360) = see g a b t := by unfold see; rw [Nat.add_mod_right]

set_option maxHeartbeats 4000000 in
set_option maxRecDepth 100000 in
theorem c_seenFrom (l : Launch) {D : va_G} {C : g_C} {g : g_k → Nat → Int32} {ad ln : g_k → Nat} {ex : g_k → Option va_E} {B : Nat} {a t : Nat} (ha : a < 10) (ht : t < 2 ^ 31) : Met l yX2_seenFrom wsX2_seenFrom ({ frames := 0, cells := 0, slots := 0, locals := 0 } : Room) (va_Pc [.ref (ad (1, 0, 0)), .int (nI a), .int (nI t)] (g_S D C (lay C g ad ln ex) ad B)) (vp_Si (fun r => r = g (20, a, 0) (t % 360))) 0 0 (fun _ => False) := by
  refine Met.ofW (cc := cX2_seenFrom) (maxL := 3) (ret := (some .int)) (by decide) rfl ?_
  intro p e s m args below meth c s₁ B₀ hml hv
  obtain ⟨rfl, hG, hF⟩ := hv
  have hK := hF.1
  have hN := hF.2.1
  have hB := hF.2.2.2
  have hx := B₀.exec
  have hb := B₀.bytes
  have hr := B₀.returns
  have hts := atoms_spec (ws := wsX2_seenFrom) B₀.pre
  have hown : s.vm.findClass RX2 = some m.cls := findClass_of_methodNamed B₀.named
  have hlocks := B₀.notSynchronized
  have hS : va_S (g_A B) s.heap s.heap [] := va_S.rf
  have hi2 : ∀ w ∈ wsX20, w ∈ wsX2_seenFrom := by decide +kernel
  have hl := lv_entry [.ref (ad (1, 0, 0)), .int (nI a), .int (nI t)] (n := 3) (Nat.le_of_ble_eq_true rfl)
  rw [lg_entry_eq]
  generalize (lg_sl [.ref (ad (1, 0, 0)), .int (nI a), .int (nI t)] ++ List.replicate (3 - (lg_sl [.ref (ad (1, 0, 0)), .int (nI a), .int (nI t)]).length) Slot.unset).toArray = ls at hl ⊢
  have hl : lv_has ls 3 [(0, .ref (ad (1, 0, 0))), (1, .int (nI a)), (2, .int (nI t))] := hl
  refine lv_aload_n hx hb dX2_seenFrom_0 rfl (lv_at hl 0 rfl) ?_
  refine g_get hx hb hts hi2 hown hK hG (lay_sky) rfl 3 (by decide) (hts (.fieldLink RX2 23 "Satellitering$Sky" "seen" "[[I") (by decide +kernel)) rfl dX2_seenFrom_1 ?_
  refine lv_iload_n hx hb dX2_seenFrom_4 rfl (lv_at hl 1 rfl) ?_
  refine o_seen hx hb hK hG (ha) dX2_seenFrom_5 ?_
  refine lv_iload_n hx hb dX2_seenFrom_6 rfl (lv_at hl 2 rfl) ?_
  refine lv_sipush (v := nI 360) hx hb dX2_seenFrom_7 (by decide) ?_
  refine lv_irem hx hb dX2_seenFrom_10 (by decide) ?_
  refine lv_to (y := nI (t % 360)) (pk_rem (by omega) (by decide) (by decide)) ?_
  refine g_iald hx hb hK hG (lay_row (ha)) (Nat.mod_lt _ (by decide)) (by first | decide | omega) dX2_seenFrom_11 ?_
  exact W.iret (v := g (20, a, 0) (t % 360)) hx hb hr (fun t9 ht9 hW9 => ⟨_, rfl, rfl, ht9⟩) (fun q h => nomatch h) dX2_seenFrom_12

set_option maxHeartbeats 4000000 in
set_option maxRecDepth 100000 in
theorem c_inContact (l : Launch) {D : va_G} {C : g_C} {g : g_k → Nat → Int32} {ad ln : g_k → Nat} {ex : g_k → Option va_E} {B : Nat} {a b t : Nat} (ha : a < 10) (hb32 : b < 32) (ht : t < 2 ^ 31) : Met l yX2_inContact wsX2_inContact ({ frames := 1, cells := 0, slots := 0, locals := 22 } : Room) (va_Pc [.ref (ad (1, 0, 0)), .int (nI a), .int (nI b), .int (nI t)] (g_S D C (lay C g ad ln ex) ad B)) (vp_Si (fun r => r = if see g a b t = true then nI 1 else nI 0)) 0 0 (fun _ => False) := by
  refine Met.ofW (cc := cX2_inContact) (maxL := 4) (ret := (some .boolean)) (by decide) rfl ?_
  intro p e s m args below meth c s₁ B₀ hml hv
  obtain ⟨rfl, hG, hF⟩ := hv
  have hK := hF.1
  have hN := hF.2.1
  have hB := hF.2.2.2
  have hx := B₀.exec
  have hb := B₀.bytes
  have hr := B₀.returns
  have hts := atoms_spec (ws := wsX2_inContact) B₀.pre
  have hown : s.vm.findClass RX2 = some m.cls := findClass_of_methodNamed B₀.named
  have hlocks := B₀.notSynchronized
  have hS : va_S (g_A B) s.heap s.heap [] := va_S.rf
  have hl := lv_entry [.ref (ad (1, 0, 0)), .int (nI a), .int (nI b), .int (nI t)] (n := 4) (Nat.le_of_ble_eq_true rfl)
  rw [lg_entry_eq]
  generalize (lg_sl [.ref (ad (1, 0, 0)), .int (nI a), .int (nI b), .int (nI t)] ++ List.replicate (4 - (lg_sl [.ref (ad (1, 0, 0)), .int (nI a), .int (nI b), .int (nI t)]).length) Slot.unset).toArray = ls at hl ⊢
  have hl : lv_has ls 4 [(0, .ref (ad (1, 0, 0))), (1, .int (nI a)), (2, .int (nI b)), (3, .int (nI t))] := hl
  refine lv_aload_n hx hb dX2_inContact_0 rfl (lv_at hl 0 rfl) ?_
  refine lv_iload_n hx hb dX2_inContact_1 rfl (lv_at hl 1 rfl) ?_
  refine lv_iload_n hx hb dX2_inContact_2 rfl (lv_at hl 3 rfl) ?_
  refine vp_callSi (W.runV (As := [.int (nI a), .int (nI t)]) (rest := []) ⟨hx, hb, hml, hown, hts⟩ (c_seenFrom l ha ht) (cwV 2 hts gX2_inContact_X2_seenFrom rfl rfl rfl (by decide +kernel) ⟨Nat.le_of_ble_eq_true rfl, Nat.le_of_ble_eq_true rfl⟩) (g_preV hF hG hS (lay_sky) rfl) rfl rfl hl.1 rfl (lv_room (Nat.le_of_ble_eq_true rfl)) dX2_inContact_3 ⟨Nat.le_of_ble_eq_true rfl, Nat.le_of_ble_eq_true rfl⟩) (fun r_1 h_2 => ?_)
  subst h_2
  refine lv_iload_n hx hb dX2_inContact_6 rfl (lv_at hl 2 rfl) ?_
  refine lv_ishr hx hb dX2_inContact_7 ?_
  refine lv_iconst (v := nI 1) hx hb dX2_inContact_8 (by decide) ?_
  refine lv_iand hx hb dX2_inContact_9 ?_
  refine lv_if_eq (tgt := 17) hx hb dX2_inContact_10 (by decide) (fun c_3 => ?_) (fun c_3 => ?_)
  · refine lv_iconst (v := nI 0) hx hb dX2_inContact_17 (by decide) ?_
    exact W.zret (v := nI 0) hx hb hr rfl (fun t9 ht9 hW9 => ⟨_, rfl, (if_neg (fun h9 => by unfold see at h9; rw [(b_test _ hb32).mp c_3] at h9; cases h9)).symm, ht9⟩) (fun q h => nomatch h) dX2_inContact_18
  · refine lv_iconst (v := nI 1) hx hb dX2_inContact_13 (by decide) ?_
    refine lv_goto (tgt := 18) hx hb dX2_inContact_14 (by decide) ?_
    exact W.zret (v := nI 1) hx hb hr rfl (fun t9 ht9 hW9 => ⟨_, rfl, (if_pos (eq_true_of_ne_false (fun h9 => c_3 ((b_test _ hb32).mpr h9)))).symm, ht9⟩) (fun q h => nomatch h) dX2_inContact_18

set_option maxHeartbeats 4000000 in
set_option maxRecDepth 100000 in
theorem c_firstContact (l : Launch) {D : va_G} {C : g_C} {g : g_k → Nat → Int32} {ad ln : g_k → Nat} {ex : g_k → Option va_E} {B : Nat} {a b t : Nat} (ha : a < 10) (hb32 : b < 32) (ht : t + 360 < 2 ^ 31) : Met l yX2_firstContact wsX2_firstContact ({ frames := 2, cells := 0, slots := 0, locals := 45 } : Room) (va_Pc [.ref (ad (1, 0, 0)), .int (nI a), .int (nI b), .int (nI t)] (g_S D C (lay C g ad ln ex) ad B)) (vp_Si (fun r => (∃ k, k < 360 ∧ see g a b (t + k) = true ∧ (∀ j, j < k → see g a b (t + j) = false) ∧ r = nI (t + k)) ∨ ((∀ j, j < 360 → see g a b (t + j) = false) ∧ r = (-1)))) 0 0 (fun _ => False) := by
  refine Met.ofW (cc := cX2_firstContact) (maxL := 5) (ret := (some .int)) (by decide) rfl ?_
  intro p e s m args below meth c s₁ B₀ hml hv
  obtain ⟨rfl, hG, hF⟩ := hv
  have hK := hF.1
  have hN := hF.2.1
  have hB := hF.2.2.2
  have hx := B₀.exec
  have hb := B₀.bytes
  have hr := B₀.returns
  have hts := atoms_spec (ws := wsX2_firstContact) B₀.pre
  have hown : s.vm.findClass RX2 = some m.cls := findClass_of_methodNamed B₀.named
  have hlocks := B₀.notSynchronized
  have hS : va_S (g_A B) s.heap s.heap [] := va_S.rf
  have hl := lv_entry [.ref (ad (1, 0, 0)), .int (nI a), .int (nI b), .int (nI t)] (n := 5) (Nat.le_of_ble_eq_true rfl)
  rw [lg_entry_eq]
  generalize (lg_sl [.ref (ad (1, 0, 0)), .int (nI a), .int (nI b), .int (nI t)] ++ List.replicate (5 - (lg_sl [.ref (ad (1, 0, 0)), .int (nI a), .int (nI b), .int (nI t)]).length) Slot.unset).toArray = ls at hl ⊢
  have hl : lv_has ls 5 [(0, .ref (ad (1, 0, 0))), (1, .int (nI a)), (2, .int (nI b)), (3, .int (nI t))] := hl
  refine lv_iconst (v := nI 0) hx hb dX2_firstContact_0 (by decide) ?_
  refine lv_istore (lv' := [(4, .int (nI 0)), (0, .ref (ad (1, 0, 0))), (1, .int (nI a)), (2, .int (nI b)), (3, .int (nI t))]) hx hb dX2_firstContact_1 hl (by decide) rfl (fun ls hl => ?_)
  have loop : ∀ (n i : Nat), i ≤ 360 → 360 < i + n → (∀ j, j < i → see g a b (t + j) = false) → ∀ ls, lv_has ls 5 [(4, .int (nI i)), (0, .ref (ad (1, 0, 0))), (1, .int (nI a)), (2, .int (nI b)), (3, .int (nI t))] → W p l e (headSpec wsX2_firstContact ({ frames := 2, cells := 0, slots := 0, locals := 45 } : Room)).room s m ([.ref (ad (1, 0, 0)), .int (nI a), .int (nI b), .int (nI t)]).toArray below meth c s.heap [] 0 0 (MQ below (vp_Si (fun r => (∃ k, k < 360 ∧ see g a b (t + k) = true ∧ (∀ j, j < k → see g a b (t + j) = false) ∧ r = nI (t + k)) ∨ ((∀ j, j < 360 → see g a b (t + j) = false) ∧ r = (-1)))) ([.ref (ad (1, 0, 0)), .int (nI a), .int (nI b), .int (nI t)]).toArray s 0 0 (fun _ => False)) (F0 m 3 ls []) := by
    intro n
    induction n with
    | zero => intro i h1 h2; exact absurd h2 (by omega)
    | succ n ih =>
      intro i h1 h2 h3 ls hl
      refine lv_iload hx hb dX2_firstContact_3 (lv_at hl 0 rfl) ?_
      refine lv_sipush (v := nI 360) hx hb dX2_firstContact_5 (by decide) ?_
      refine lv_icmp_ge (tgt := 35) hx hb dX2_firstContact_8 (by decide) (fun c_1 => ?_) (fun c_1 => ?_)
      · have hi : i = 360 := by have := (nI_leI (by decide) (by omega)).mp c_1; omega
        subst hi
        refine lv_iconst (v := (-1)) hx hb dX2_firstContact_35 (by decide) ?_
        exact W.iret (v := (-1)) hx hb hr (fun t9 ht9 hW9 => ⟨_, rfl, Or.inr ⟨h3, rfl⟩, ht9⟩) (fun q h => nomatch h) dX2_firstContact_36
      · have hi : i < 360 := Nat.lt_of_not_le (fun h9 => c_1 ((nI_leI (by decide) (by omega)).mpr h9))
        refine lv_aload_n hx hb dX2_firstContact_11 rfl (lv_at hl 1 rfl) ?_
        refine lv_iload_n hx hb dX2_firstContact_12 rfl (lv_at hl 2 rfl) ?_
        refine lv_iload_n hx hb dX2_firstContact_13 rfl (lv_at hl 3 rfl) ?_
        refine lv_iload_n hx hb dX2_firstContact_14 rfl (lv_at hl 4 rfl) ?_
        refine lv_iload hx hb dX2_firstContact_15 (lv_at hl 0 rfl) ?_
        refine lv_iadd hx hb dX2_firstContact_17 ?_
        refine lv_to (y := nI (t + i)) (nI_add t i) ?_
        refine vp_callSi (W.runV (As := [.int (nI a), .int (nI b), .int (nI (t + i))]) (rest := []) ⟨hx, hb, hml, hown, hts⟩ (c_inContact l ha hb32 (show t + i < 2 ^ 31 by omega)) (cwV 3 hts gX2_firstContact_X2_inContact rfl rfl rfl (by decide +kernel) ⟨Nat.le_of_ble_eq_true rfl, Nat.le_of_ble_eq_true rfl⟩) (g_preV hF hG hS (lay_sky) rfl) rfl rfl hl.1 rfl (lv_room (Nat.le_of_ble_eq_true rfl)) dX2_firstContact_18 ⟨Nat.le_of_ble_eq_true rfl, Nat.le_of_ble_eq_true rfl⟩) (fun r_2 h_3 => ?_)
        subst h_3
        refine lv_if_eq (tgt := 29) hx hb dX2_firstContact_21 (by decide) (fun c_4 => ?_) (fun c_4 => ?_)
        · have hs : see g a b (t + i) = false := by
            by_cases h9 : see g a b (t + i) = true
            · rw [if_pos h9] at c_4; exact absurd c_4 (by decide)
            · exact eq_false_of_ne_true h9
          refine lv_iinc (v := nI (i + 1)) (lv' := [(4, .int (nI (i + 1))), (0, .ref (ad (1, 0, 0))), (1, .int (nI a)), (2, .int (nI b)), (3, .int (nI t))]) hx hb dX2_firstContact_29 hl (k := 0) rfl (nI_add i 1) (by decide) rfl (fun ls hl => ?_)
          refine lv_goto (tgt := 3) hx hb dX2_firstContact_32 (by decide) ?_
          exact ih (i + 1) (by omega) (by omega) (fun j hj => by rcases Nat.lt_or_eq_of_le (Nat.le_of_lt_succ hj) with h9 | h9; exact h3 j h9; rw [h9]; exact hs) ls (lv_sub hl [0, 1, 2, 3, 4] rfl)
        · have hs : see g a b (t + i) = true := by
            by_cases h9 : see g a b (t + i) = true
            · exact h9
            · exact absurd (by rw [if_neg h9]; exact nI_0) c_4
          refine lv_iload_n hx hb dX2_firstContact_24 rfl (lv_at hl 4 rfl) ?_
          refine lv_iload hx hb dX2_firstContact_25 (lv_at hl 0 rfl) ?_
          refine lv_iadd hx hb dX2_firstContact_27 ?_
          refine lv_to (y := nI (t + i)) (nI_add t i) ?_
          exact W.iret (v := nI (t + i)) hx hb hr (fun t9 ht9 hW9 => ⟨_, rfl, Or.inl ⟨i, hi, hs, h3, rfl⟩, ht9⟩) (fun q h => nomatch h) dX2_firstContact_28
  exact loop 361 0 (by decide) (by decide) (fun j hj => absurd hj (Nat.not_lt_zero j)) ls (lv_sub hl [0, 1, 2, 3, 4] rfl)

set_option maxHeartbeats 4000000 in
set_option maxRecDepth 100000 in
theorem c_contactLength (l : Launch) {D : va_G} {C : g_C} {g : g_k → Nat → Int32} {ad ln : g_k → Nat} {ex : g_k → Option va_E} {B : Nat} {a b t : Nat} (ha : a < 10) (hb32 : b < 32) (ht : t + 360 < 2 ^ 31) : Met l yX2_contactLength wsX2_contactLength ({ frames := 2, cells := 0, slots := 0, locals := 45 } : Room) (va_Pc [.ref (ad (1, 0, 0)), .int (nI a), .int (nI b), .int (nI t)] (g_S D C (lay C g ad ln ex) ad B)) (vp_Si (fun r => ∃ k, k ≤ 360 ∧ (∀ j, j < k → see g a b (t + j) = true) ∧ (k < 360 → see g a b (t + k) = false) ∧ r = nI k)) 0 0 (fun _ => False) := by
  refine Met.ofW (cc := cX2_contactLength) (maxL := 5) (ret := (some .int)) (by decide) rfl ?_
  intro p e s m args below meth c s₁ B₀ hml hv
  obtain ⟨rfl, hG, hF⟩ := hv
  have hK := hF.1
  have hN := hF.2.1
  have hB := hF.2.2.2
  have hx := B₀.exec
  have hb := B₀.bytes
  have hr := B₀.returns
  have hts := atoms_spec (ws := wsX2_contactLength) B₀.pre
  have hown : s.vm.findClass RX2 = some m.cls := findClass_of_methodNamed B₀.named
  have hlocks := B₀.notSynchronized
  have hS : va_S (g_A B) s.heap s.heap [] := va_S.rf
  have hl := lv_entry [.ref (ad (1, 0, 0)), .int (nI a), .int (nI b), .int (nI t)] (n := 5) (Nat.le_of_ble_eq_true rfl)
  rw [lg_entry_eq]
  generalize (lg_sl [.ref (ad (1, 0, 0)), .int (nI a), .int (nI b), .int (nI t)] ++ List.replicate (5 - (lg_sl [.ref (ad (1, 0, 0)), .int (nI a), .int (nI b), .int (nI t)]).length) Slot.unset).toArray = ls at hl ⊢
  have hl : lv_has ls 5 [(0, .ref (ad (1, 0, 0))), (1, .int (nI a)), (2, .int (nI b)), (3, .int (nI t))] := hl
  refine lv_iconst (v := nI 0) hx hb dX2_contactLength_0 (by decide) ?_
  refine lv_istore (lv' := [(4, .int (nI 0)), (0, .ref (ad (1, 0, 0))), (1, .int (nI a)), (2, .int (nI b)), (3, .int (nI t))]) hx hb dX2_contactLength_1 hl (by decide) rfl (fun ls hl => ?_)
  have loop : ∀ (n i : Nat), i ≤ 360 → 360 < i + n → (∀ j, j < i → see g a b (t + j) = true) → ∀ ls, lv_has ls 5 [(4, .int (nI i)), (0, .ref (ad (1, 0, 0))), (1, .int (nI a)), (2, .int (nI b)), (3, .int (nI t))] → W p l e (headSpec wsX2_contactLength ({ frames := 2, cells := 0, slots := 0, locals := 45 } : Room)).room s m ([.ref (ad (1, 0, 0)), .int (nI a), .int (nI b), .int (nI t)]).toArray below meth c s.heap [] 0 0 (MQ below (vp_Si (fun r => ∃ k, k ≤ 360 ∧ (∀ j, j < k → see g a b (t + j) = true) ∧ (k < 360 → see g a b (t + k) = false) ∧ r = nI k)) ([.ref (ad (1, 0, 0)), .int (nI a), .int (nI b), .int (nI t)]).toArray s 0 0 (fun _ => False)) (F0 m 3 ls []) := by
    intro n
    induction n with
    | zero => intro i h1 h2; exact absurd h2 (by omega)
    | succ n ih =>
      intro i h1 h2 h3 ls hl
      refine lv_iload hx hb dX2_contactLength_3 (lv_at hl 0 rfl) ?_
      refine lv_sipush (v := nI 360) hx hb dX2_contactLength_5 (by decide) ?_
      refine lv_icmp_ge (tgt := 33) hx hb dX2_contactLength_8 (by decide) (fun c_1 => ?_) (fun c_1 => ?_)
      · have hi : i = 360 := by have := (nI_leI (by decide) (by omega)).mp c_1; omega
        subst hi
        refine lv_sipush (v := nI 360) hx hb dX2_contactLength_33 (by decide) ?_
        exact W.iret (v := nI 360) hx hb hr (fun t9 ht9 hW9 => ⟨_, rfl, ⟨360, Nat.le_refl _, h3, fun h9 => absurd h9 (by decide), rfl⟩, ht9⟩) (fun q h => nomatch h) dX2_contactLength_36
      · have hi : i < 360 := Nat.lt_of_not_le (fun h9 => c_1 ((nI_leI (by decide) (by omega)).mpr h9))
        refine lv_aload_n hx hb dX2_contactLength_11 rfl (lv_at hl 1 rfl) ?_
        refine lv_iload_n hx hb dX2_contactLength_12 rfl (lv_at hl 2 rfl) ?_
        refine lv_iload_n hx hb dX2_contactLength_13 rfl (lv_at hl 3 rfl) ?_
        refine lv_iload_n hx hb dX2_contactLength_14 rfl (lv_at hl 4 rfl) ?_
        refine lv_iload hx hb dX2_contactLength_15 (lv_at hl 0 rfl) ?_
        refine lv_iadd hx hb dX2_contactLength_17 ?_
        refine lv_to (y := nI (t + i)) (nI_add t i) ?_
        refine vp_callSi (W.runV (As := [.int (nI a), .int (nI b), .int (nI (t + i))]) (rest := []) ⟨hx, hb, hml, hown, hts⟩ (c_inContact l ha hb32 (show t + i < 2 ^ 31 by omega)) (cwV 3 hts gX2_contactLength_X2_inContact rfl rfl rfl (by decide +kernel) ⟨Nat.le_of_ble_eq_true rfl, Nat.le_of_ble_eq_true rfl⟩) (g_preV hF hG hS (lay_sky) rfl) rfl rfl hl.1 rfl (lv_room (Nat.le_of_ble_eq_true rfl)) dX2_contactLength_18 ⟨Nat.le_of_ble_eq_true rfl, Nat.le_of_ble_eq_true rfl⟩) (fun r_2 h_3 => ?_)
        subst h_3
        refine lv_if_ne (tgt := 27) hx hb dX2_contactLength_21 (by decide) (fun c_4 => ?_) (fun c_4 => ?_)
        · have hs : see g a b (t + i) = true := by
            by_cases h9 : see g a b (t + i) = true
            · exact h9
            · exact absurd (by rw [if_neg h9]; exact nI_0) c_4
          refine lv_iinc (v := nI (i + 1)) (lv' := [(4, .int (nI (i + 1))), (0, .ref (ad (1, 0, 0))), (1, .int (nI a)), (2, .int (nI b)), (3, .int (nI t))]) hx hb dX2_contactLength_27 hl (k := 0) rfl (nI_add i 1) (by decide) rfl (fun ls hl => ?_)
          refine lv_goto (tgt := 3) hx hb dX2_contactLength_30 (by decide) ?_
          exact ih (i + 1) (by omega) (by omega) (fun j hj => by rcases Nat.lt_or_eq_of_le (Nat.le_of_lt_succ hj) with h9 | h9; exact h3 j h9; rw [h9]; exact hs) ls (lv_sub hl [0, 1, 2, 3, 4] rfl)
        · have hs : see g a b (t + i) = false := by
            by_cases h9 : see g a b (t + i) = true
            · rw [if_pos h9] at c_4; exact absurd c_4 (by decide)
            · exact eq_false_of_ne_true h9
          refine lv_iload hx hb dX2_contactLength_24 (lv_at hl 0 rfl) ?_
          exact W.iret (v := nI i) hx hb hr (fun t9 ht9 hW9 => ⟨_, rfl, ⟨i, Nat.le_of_lt hi, h3, fun _ => hs, rfl⟩, ht9⟩) (fun q h => nomatch h) dX2_contactLength_26
  exact loop 361 0 (by decide) (by decide) (fun j hj => absurd hj (Nat.not_lt_zero j)) ls (lv_sub hl [0, 1, 2, 3, 4] rfl)
end
section
/-! Floods, and the earliest of all first: nothing of the machine. -/
/-- x, and what the nodes of x below n see at minute t -/
def flN (g : g_k → Nat → Int32) (t : Nat) (x : Int32) : Nat → Int32
  | 0 => x
  | k + 1 => if bt x k = true then flN g t x k ||| g (20, k, 0) (t % 360) else flN g t x k
theorem flN_bt (g : g_k → Nat → Int32) (t : Nat) (x : Int32) : ∀ n i : Nat, bt (flN g t x n) i = true ↔ (bt x i = true ∨ ∃ k, k < n ∧ bt x k = true ∧ see g k i t = true)
  | 0, i => by
    constructor
    · intro h
      exact Or.inl h
    · rintro (h | ⟨k, h1, -⟩)
      · exact h
      · exact absurd h1 (Nat.not_lt_zero k)
  | n + 1, i => by
    have ih := flN_bt g t x n i
    rw [flN]
    by_cases h : bt x n = true
    · rw [if_pos h, b_or, Bool.or_eq_true, ih]
      constructor
      · rintro ((h1 | ⟨k, h1, h2, h3⟩) | h1)
        · exact Or.inl h1
        · exact Or.inr ⟨k, by omega, h2, h3⟩
        · exact Or.inr ⟨n, by omega, h, h1⟩
      · rintro (h1 | ⟨k, h1, h2, h3⟩)
        · exact Or.inl (Or.inl h1)
        · by_cases hk : k = n
          · subst hk
            exact Or.inr h3
          · exact Or.inl (Or.inr ⟨k, by omega, h2, h3⟩)
    · rw [if_neg h, ih]
      constructor
      · rintro (h1 | ⟨k, h1, h2, h3⟩)
        · exact Or.inl h1
        · exact Or.inr ⟨k, by omega, h2, h3⟩
      · rintro (h1 | ⟨k, h1, h2, h3⟩)
        · exact Or.inl h1
        · by_cases hk : k = n
          · subst hk
            exact absurd h2 h
          · exact Or.inr ⟨k, by omega, h2, h3⟩
/-- where something can be k minutes after it was at a at minute t -/
def flI (g : g_k → Nat → Int32) (n a t : Nat) : Nat → Int32
  | 0 => nI 1 <<< (nI a &&& 31)
  | k + 1 => flN g (t + k) (flI g n a t k) n
def fl (g : g_k → Nat → Int32) (n a t k v : Nat) : Prop := bt (flI g n a t k) v = true
theorem fl_0 {g : g_k → Nat → Int32} {n a t v : Nat} (ha : a < 32) (hv : v < 32) : fl g n a t 0 v ↔ v = a := by
  unfold fl flI
  rw [b_bit ha hv]
  simp
theorem fl_s {g : g_k → Nat → Int32} {n a t k v : Nat} : fl g n a t (k + 1) v ↔ (fl g n a t k v ∨ ∃ u, u < n ∧ fl g n a t k u ∧ see g u v (t + k) = true) := flN_bt g (t + k) (flI g n a t k) n v
theorem fl_le {g : g_k → Nat → Int32} {n a t v j : Nat} : ∀ k : Nat, j ≤ k → fl g n a t j v → fl g n a t k v
  | 0, h, h2 => by
    have : j = 0 := by omega
    subst this
    exact h2
  | k + 1, h, h2 => by
    by_cases hj : j = k + 1
    · subst hj
      exact h2
    · exact fl_s.mpr (Or.inl (fl_le k (by omega) h2))
/-- from a minute later on -/
theorem fl_later {g : g_k → Nat → Int32} {n a t v : Nat} (ha : a < 32) : ∀ k : Nat, v < 32 → n ≤ 32 → fl g n a (t + 1) k v → fl g n a t (k + 1) v := by
  intro k
  induction k generalizing v with
  | zero =>
    intro hv _ h
    rw [fl_0 ha hv] at h
    subst h
    exact fl_le 1 (Nat.zero_le 1) ((fl_0 ha hv).mpr rfl)
  | succ k ih =>
    intro hv hn h
    rcases fl_s.mp h with h | ⟨u, h1, h2, h3⟩
    · exact fl_s.mpr (Or.inl (ih hv hn h))
    · refine fl_s.mpr (Or.inr ⟨u, h1, ih (by omega) hn h2, ?_⟩)
      rw [show t + (k + 1) = t + 1 + k by omega]
      exact h3
theorem see_ext {g g' : g_k → Nat → Int32} {a b t : Nat} (h : ∀ c, c ≠ (10, 0, 0) → g' c = g c) : see g' a b t = see g a b t := by
  unfold see
  rw [h (20, a, 0) (by intro h9; cases h9)]
theorem see_mod {g : g_k → Nat → Int32} {a b t j : Nat} : see g a b (t + j) = see g a b (t + j % 360) := by
  unfold see
  rw [Nat.add_mod t j, Nat.add_mod t (j % 360), Nat.mod_mod]
/-- what going on from f makes of r, the minute at which i is come to -/
def go_P (g : g_k → Nat → Int32) (f : Nat) (R : Nat → Nat) (i r : Nat) : Prop := r ≤ R i ∧ (∀ k, k < 360 → see g f i (R f + k) = true → r ≤ R f + k + 1) ∧ (r = R i ∨ ∃ k, k < 360 ∧ see g f i (R f + k) = true ∧ r = R f + k + 1)
/-- the invariant of the search: x says which nodes were gone on from, R when each is come to -/
def dj (g : g_k → Nat → Int32) (n a t : Nat) (x : Int32) (R : Nat → Nat) : Prop :=
  (∀ v, v < n → R v ≤ t + 400 → t ≤ R v ∧ fl g n a t (R v - t) v) ∧ (∀ u, u < n → bt x u = true → R u ≤ t + 400 ∧ ∀ k, k ≤ 400 → fl g n a t k u → R u ≤ t + k) ∧
  (∀ u v, u < n → v < n → bt x u = true → bt x v = false → ∀ s, R u ≤ s → see g u v s = true → R v ≤ s + 1) ∧ R a = t ∧ ∀ v, v < n → R v ≤ t + 401
theorem dj_key {g : g_k → Nat → Int32} {n a t m : Nat} {x : Int32} {R : Nat → Nat} (hn : n ≤ 32) (ha : a < n) (h : dj g n a t x R) (hm : m ≤ t + 401) (hv : ∀ v, v < n → bt x v = false → m ≤ R v) : ∀ k, t + k < m → ∀ v, v < n → bt x v = false → ¬ fl g n a t k v := by
  obtain ⟨h1, h2, h3, h4, h5⟩ := h
  intro k
  induction k with
  | zero =>
    intro hk v hvn hx hf
    rw [fl_0 (by omega) (by omega)] at hf
    subst hf
    have := hv v hvn hx
    omega
  | succ k ih =>
    intro hk v hvn hx hf
    rcases fl_s.mp hf with hf | ⟨u, u1, u2, u3⟩
    · exact ih (by omega) v hvn hx hf
    · by_cases hu : bt x u = true
      · have a1 := (h2 u u1 hu).2 k (by omega) u2
        have a2 := h3 u v u1 hvn hu hx (t + k) a1 u3
        have a3 := hv v hvn hx
        omega
      · exact ih (by omega) u u1 (eq_false_of_ne_true hu) u2
theorem dj_0 {g : g_k → Nat → Int32} {n a t : Nat} {R : Nat → Nat} (hn : n ≤ 32) (ha : a < n) (h : ∀ v, v < n → R v = if v = a then t else t + 401) : dj g n a t 0 R := by
  refine ⟨fun v hv hr => ?_, fun u _ hu => ?_, fun u v _ _ hu => ?_, by rw [h a ha, if_pos rfl], fun v hv => ?_⟩
  · by_cases hva : v = a
    · subst hva
      rw [h v hv, if_pos rfl]
      exact ⟨Nat.le_refl _, by rw [Nat.sub_self]; exact (fl_0 (by omega) (by omega)).mpr rfl⟩
    · rw [h v hv, if_neg hva] at hr
      omega
  · rw [b_0] at hu
    cases hu
  · rw [b_0] at hu
    cases hu
  · rw [h v hv]
    split <;> omega
/-- one more node was gone on from -/
theorem dj_go {g : g_k → Nat → Int32} {n a t f : Nat} {x y : Int32} {R R' : Nat → Nat} (hn : n ≤ 32) (ha : a < n) (h : dj g n a t x R) (hf : f < n) (hxf : bt x f = false) (hr : R f ≤ t + 400) (hmin : ∀ v, v < n → bt x v = false → R f ≤ R v)
    (hy : ∀ v, v < n → bt y v = (bt x v || decide (v = f))) (hin : ∀ v, v < n → bt y v = true → R' v = R v) (hout : ∀ v, v < n → bt y v = false → go_P g f R v (R' v)) : dj g n a t y R' := by
  have hex : ∀ k, k ≤ 400 → fl g n a t k f → R f ≤ t + k := fun k hk hfl => by
    rcases Nat.lt_or_ge (t + k) (R f) with q | q
    · exact absurd hfl (dj_key hn ha h (m := R f) (by omega) hmin k q f hf hxf)
    · exact q
  obtain ⟨h1, h2, h3, h4, h5⟩ := h
  have hyf : bt y f = true := by rw [hy f hf]; simp
  have sub : ∀ v, v < n → bt y v = false → bt x v = false ∧ v ≠ f := fun v hv q => by
    rw [hy v hv, Bool.or_eq_false_iff] at q
    exact ⟨q.1, by simpa using q.2⟩
  obtain ⟨f1, f2⟩ := h1 f hf hr
  refine ⟨fun v hv hrv => ?_, fun u hu hyu => ?_, fun u v hu hv hyu hyv s hs hsee => ?_, ?_, fun v hv => ?_⟩
  · by_cases q : bt y v = true
    · rw [hin v hv q] at hrv ⊢
      exact h1 v hv hrv
    · obtain ⟨p1, p2, p3⟩ := hout v hv (eq_false_of_ne_true q)
      rcases p3 with p3 | ⟨k, k1, k2, k3⟩
      · rw [p3] at hrv ⊢
        exact h1 v hv hrv
      · refine ⟨by omega, ?_⟩
        rw [k3, show R f + k + 1 - t = (R f + k - t) + 1 by omega]
        refine fl_s.mpr (Or.inr ⟨f, hf, fl_le _ (by omega) f2, ?_⟩)
        rw [show t + (R f + k - t) = R f + k by omega]
        exact k2
  · rw [hin u hu hyu]
    by_cases q : u = f
    · subst q
      exact ⟨hr, hex⟩
    · have : bt x u = true := by
        rw [hy u hu, Bool.or_eq_true] at hyu
        rcases hyu with z | z
        · exact z
        · exact absurd (by simpa using z) q
      exact h2 u hu this
  · rw [hin u hu hyu] at hs
    obtain ⟨p1, p2, p3⟩ := hout v hv hyv
    by_cases q : u = f
    · subst q
      have e : s = R u + (s - R u) := by omega
      rw [e, see_mod] at hsee
      have := p2 _ (Nat.mod_lt _ (by decide)) hsee
      have := Nat.mod_le (s - R u) 360
      omega
    · have hxu : bt x u = true := by
        rw [hy u hu, Bool.or_eq_true] at hyu
        rcases hyu with z | z
        · exact z
        · exact absurd (by simpa using z) q
      have := h3 u v hu hv hxu (sub v hv hyv).1 s hs hsee
      omega
  · by_cases q : bt y a = true
    · rw [hin a ha q]
      exact h4
    · obtain ⟨p1, p2, p3⟩ := hout a ha (eq_false_of_ne_true q)
      rcases p3 with p3 | ⟨k, k1, k2, k3⟩
      · rw [p3]
        exact h4
      · omega
  · by_cases q : bt y v = true
    · rw [hin v hv q]
      exact h5 v hv
    · have := (hout v hv (eq_false_of_ne_true q)).1
      have := h5 v hv
      omega
/-- how many of the first n nodes x holds -/
def b_cnt (x : Int32) : Nat → Nat
  | 0 => 0
  | n + 1 => b_cnt x n + if bt x n = true then 1 else 0
theorem b_cnt_le (x : Int32) : ∀ n, b_cnt x n ≤ n
  | 0 => Nat.le_refl 0
  | n + 1 => by
    have := b_cnt_le x n
    rw [b_cnt]
    split <;> omega
theorem b_cnt_all (x : Int32) : ∀ n, b_cnt x n = n → ∀ i, i < n → bt x i = true
  | 0, _, i, h => absurd h (Nat.not_lt_zero i)
  | n + 1, h, i, hi => by
    have h1 := b_cnt_le x n
    rw [b_cnt] at h
    by_cases hb : bt x n = true
    · rw [if_pos hb] at h
      by_cases e : i = n
      · subst e
        exact hb
      · exact b_cnt_all x n (by omega) i (by omega)
    · rw [if_neg hb] at h
      omega
theorem b_cnt_cong {x y : Int32} : ∀ n, (∀ i, i < n → bt x i = bt y i) → b_cnt x n = b_cnt y n
  | 0, _ => rfl
  | n + 1, h => by rw [b_cnt, b_cnt, b_cnt_cong n (fun i hi => h i (by omega)), h n (by omega)]
theorem b_cnt_add {x y : Int32} {f : Nat} (hf : bt x f = false) : ∀ n, (∀ i, i < n → bt y i = (bt x i || decide (i = f))) → b_cnt y n = b_cnt x n + if f < n then 1 else 0
  | 0, _ => by simp [b_cnt]
  | n + 1, h => by
    have ih := b_cnt_add hf n (fun i hi => h i (by omega))
    rw [b_cnt, b_cnt, ih, h n (by omega)]
    by_cases e : n = f
    · subst e
      simp [hf]
    · by_cases q : f < n
      · have : f < n + 1 := by omega
        simp [e, q, this]
        omega
      · have : ¬ f < n + 1 := by omega
        simp [e, q, this]
/-- the earliest arrival, as the answer of a search -/
def arr_P (g : g_k → Nat → Int32) (n a t b : Nat) (r : Int32) : Prop := (∃ k, k ≤ 400 ∧ fl g n a t k b ∧ (∀ j, j < k → ¬ fl g n a t j b) ∧ r = nI (t + k)) ∨ ((∀ j, j ≤ 400 → ¬ fl g n a t j b) ∧ r = (-1))
/-- the answer at the search's end -/
theorem dj_end {g : g_k → Nat → Int32} {n a t b : Nat} {x : Int32} {R : Nat → Nat} (hn : n ≤ 32) (ha : a < n) (hb : b < n) (h : dj g n a t x R) (hx : bt x b = true ∨ ∀ k, k ≤ 400 → fl g n a t k b → R b ≤ t + k) : (R b ≤ t + 400 ∧ ∃ k, k ≤ 400 ∧ fl g n a t k b ∧ (∀ j, j < k → ¬ fl g n a t j b) ∧ R b = t + k) ∨ (t + 401 ≤ R b ∧ ∀ j, j ≤ 400 → ¬ fl g n a t j b) := by
  have hk : ∀ k, k ≤ 400 → fl g n a t k b → R b ≤ t + k := by
    rcases hx with hx | hx
    · exact (h.2.1 b hb hx).2
    · exact hx
  rcases Nat.lt_or_ge (t + 400) (R b) with q | q
  · exact Or.inr ⟨q, fun j hj hf => by have := hk j hj hf; omega⟩
  · obtain ⟨a1, a2⟩ := h.1 b hb q
    exact Or.inl ⟨q, R b - t, by omega, a2, fun j hj hf => by have := hk j (by omega) hf; omega, by omega⟩
theorem arr_one {g : g_k → Nat → Int32} {n a t b : Nat} {r r' : Int32} (h : arr_P g n a t b r) (h' : arr_P g n a t b r') : r = r' := by
  rcases h with ⟨k, k1, k2, k3, k4⟩ | ⟨h1, h2⟩ <;> rcases h' with ⟨k', k1', k2', k3', k4'⟩ | ⟨h1', h2'⟩
  · rcases Nat.lt_trichotomy k k' with q | q | q
    · exact absurd k2 (k3' k q)
    · rw [k4, k4', q]
    · exact absurd k2' (k3 k' q)
  · exact absurd k2 (h1' k k1)
  · exact absurd k2' (h1 k' k1')
  · rw [h2, h2']
end
section
set_option maxHeartbeats 4000000 in
set_option maxRecDepth 100000 in
theorem c_floodedNext (l : Launch) {D : va_G} {C : g_C} {g : g_k → Nat → Int32} {ad ln : g_k → Nat} {ex : g_k → Option va_E} {B : Nat} {n : Nat} (hn : n ≤ 10) (hc : g (1, 0, 0) 4 = nI n) {x : Int32} {t : Nat} (ht : t < 2 ^ 31) : Met l yX1_floodedNext wsX1_floodedNext ({ frames := 1, cells := 0, slots := 0, locals := 22 } : Room) (va_Pc [.ref (ad (2, 0, 0)), .int x, .int (nI t)] (g_S D C (lay C g ad ln ex) ad B)) (vp_Si (fun r => r = flN g t x n)) 0 0 (fun _ => False) := by
  refine Met.ofW (cc := cX1_floodedNext) (maxL := 5) (ret := (some .int)) (by decide) rfl ?_
  intro p e s m args below meth c s₁ B₀ hml hv
  obtain ⟨rfl, hG, hF⟩ := hv
  have hK := hF.1
  have hN := hF.2.1
  have hB := hF.2.2.2
  have hx := B₀.exec
  have hb := B₀.bytes
  have hr := B₀.returns
  have hts := atoms_spec (ws := wsX1_floodedNext) B₀.pre
  have hown : s.vm.findClass RX1 = some m.cls := findClass_of_methodNamed B₀.named
  have hlocks := B₀.notSynchronized
  have hS : va_S (g_A B) s.heap s.heap [] := va_S.rf
  have hi1 : ∀ w ∈ wsX10, w ∈ wsX1_floodedNext := by decide +kernel
  have hi2 : ∀ w ∈ wsX20, w ∈ wsX1_floodedNext := by decide +kernel
  have hl := lv_entry [.ref (ad (2, 0, 0)), .int x, .int (nI t)] (n := 5) (Nat.le_of_ble_eq_true rfl)
  rw [lg_entry_eq]
  generalize (lg_sl [.ref (ad (2, 0, 0)), .int x, .int (nI t)] ++ List.replicate (5 - (lg_sl [.ref (ad (2, 0, 0)), .int x, .int (nI t)]).length) Slot.unset).toArray = ls at hl ⊢
  have hl : lv_has ls 5 [(0, .ref (ad (2, 0, 0))), (1, .int x), (2, .int (nI t))] := hl
  refine lv_iload_n hx hb dX1_floodedNext_0 rfl (lv_at hl 1 rfl) ?_
  refine lv_istore_n (lv' := [(3, .int x), (0, .ref (ad (2, 0, 0))), (1, .int x), (2, .int (nI t))]) hx hb dX1_floodedNext_1 rfl hl (by decide) rfl (fun ls hl => ?_)
  refine lv_iconst (v := nI 0) hx hb dX1_floodedNext_2 (by decide) ?_
  refine lv_istore (lv' := [(4, .int (nI 0)), (3, .int x), (0, .ref (ad (2, 0, 0))), (1, .int x), (2, .int (nI t))]) hx hb dX1_floodedNext_3 hl (by decide) rfl (fun ls hl => ?_)
  have loop : ∀ (k i : Nat) (z : Int32), i ≤ n → n < i + k → z = flN g t x i → ∀ ls, lv_has ls 5 [(4, .int (nI i)), (3, .int z), (0, .ref (ad (2, 0, 0))), (1, .int x), (2, .int (nI t))] → W p l e (headSpec wsX1_floodedNext ({ frames := 1, cells := 0, slots := 0, locals := 22 } : Room)).room s m ([.ref (ad (2, 0, 0)), .int x, .int (nI t)]).toArray below meth c s.heap [] 0 0 (MQ below (vp_Si (fun r => r = flN g t x n)) ([.ref (ad (2, 0, 0)), .int x, .int (nI t)]).toArray s 0 0 (fun _ => False)) (F0 m 5 ls []) := by
    intro k
    induction k with
    | zero => intro i z h1 h2; exact absurd h2 (by omega)
    | succ k ih =>
      intro i z h1 h2 h3 ls hl
      refine lv_iload hx hb dX1_floodedNext_5 (lv_at hl 0 rfl) ?_
      refine lv_aload_n hx hb dX1_floodedNext_7 rfl (lv_at hl 2 rfl) ?_
      refine g_get hx hb hts hi1 hown hK hG (lay_search) rfl 0 (by decide) (hts (.fieldLink RX1 15 "Satellitering$Search" "sky" "LSatellitering$Sky;") (by decide +kernel)) rfl dX1_floodedNext_8 ?_
      refine g_getN hx hb hts hi2 hown hK hG (lay_sky) rfl 4 (by decide) (va_Nw.use rfl hN.2.2.2.2.2.2.2.2.2.2.2.1) rfl dX1_floodedNext_11 ?_
      refine lv_to (y := nI n) (hc) ?_
      refine lv_icmp_ge (tgt := 45) hx hb dX1_floodedNext_14 (by decide) (fun c_1 => ?_) (fun c_1 => ?_)
      · have hi : i = n := by have := (nI_leI (by omega) (by omega)).mp c_1; omega
        subst hi
        refine lv_iload_n hx hb dX1_floodedNext_45 rfl (lv_at hl 1 rfl) ?_
        exact W.iret (v := z) hx hb hr (fun t9 ht9 hW9 => ⟨_, rfl, h3, ht9⟩) (fun q h => nomatch h) dX1_floodedNext_46
      · have hi : i < n := Nat.lt_of_not_le (fun h9 => c_1 ((nI_leI (by omega) (by omega)).mpr h9))
        refine lv_iload_n hx hb dX1_floodedNext_17 rfl (lv_at hl 3 rfl) ?_
        refine lv_iload hx hb dX1_floodedNext_18 (lv_at hl 0 rfl) ?_
        refine lv_ishr hx hb dX1_floodedNext_20 ?_
        refine lv_iconst (v := nI 1) hx hb dX1_floodedNext_21 (by decide) ?_
        refine lv_iand hx hb dX1_floodedNext_22 ?_
        refine lv_if_eq (tgt := 39) hx hb dX1_floodedNext_23 (by decide) (fun c_2 => ?_) (fun c_2 => ?_)
        · have hbit : ¬ bt x i = true := fun h9 => by rw [(b_test _ (by omega)).mp c_2] at h9; cases h9
          refine lv_iinc (v := nI (i + 1)) (lv' := [(4, .int (nI (i + 1))), (3, .int z), (0, .ref (ad (2, 0, 0))), (1, .int x), (2, .int (nI t))]) hx hb dX1_floodedNext_39 hl (k := 0) rfl (nI_add i 1) (by decide) rfl (fun ls hl => ?_)
          refine lv_goto (tgt := 5) hx hb dX1_floodedNext_42 (by decide) ?_
          exact ih (i + 1) z (by omega) (by omega) (by rw [flN, if_neg hbit]; exact h3) ls (lv_sub hl [0, 1, 2, 3, 4] rfl)
        · have hbit : bt x i = true := eq_true_of_ne_false (fun h9 => c_2 ((b_test _ (by omega)).mpr h9))
          refine lv_iload_n hx hb dX1_floodedNext_26 rfl (lv_at hl 1 rfl) ?_
          refine lv_aload_n hx hb dX1_floodedNext_27 rfl (lv_at hl 2 rfl) ?_
          refine g_get hx hb hts hi1 hown hK hG (lay_search) rfl 0 (by decide) (hts (.fieldLink RX1 15 "Satellitering$Search" "sky" "LSatellitering$Sky;") (by decide +kernel)) rfl dX1_floodedNext_28 ?_
          refine lv_iload hx hb dX1_floodedNext_31 (lv_at hl 0 rfl) ?_
          refine lv_iload_n hx hb dX1_floodedNext_33 rfl (lv_at hl 4 rfl) ?_
          refine vp_callSi (W.runV (As := [.int (nI i), .int (nI t)]) (rest := [.int z]) ⟨hx, hb, hml, hown, hts⟩ (c_seenFrom l (show i < 10 by omega) ht) (cwV 2 hts gX1_floodedNext_X2_seenFrom rfl rfl rfl (by decide +kernel) ⟨Nat.le_of_ble_eq_true rfl, Nat.le_of_ble_eq_true rfl⟩) (g_preV hF hG hS (lay_sky) rfl) rfl rfl hl.1 rfl (lv_room (Nat.le_of_ble_eq_true rfl)) dX1_floodedNext_34 ⟨Nat.le_of_ble_eq_true rfl, Nat.le_of_ble_eq_true rfl⟩) (fun r_3 h_4 => ?_)
          subst h_4
          refine lv_ior hx hb dX1_floodedNext_37 ?_
          refine lv_istore_n (lv' := [(3, .int (z ||| (g (20, i, 0) (t % 360)))), (4, .int (nI i)), (0, .ref (ad (2, 0, 0))), (1, .int x), (2, .int (nI t))]) hx hb dX1_floodedNext_38 rfl hl (by decide) rfl (fun ls hl => ?_)
          refine lv_iinc (v := nI (i + 1)) (lv' := [(4, .int (nI (i + 1))), (3, .int (z ||| (g (20, i, 0) (t % 360)))), (0, .ref (ad (2, 0, 0))), (1, .int x), (2, .int (nI t))]) hx hb dX1_floodedNext_39 hl (k := 1) rfl (nI_add i 1) (by decide) rfl (fun ls hl => ?_)
          refine lv_goto (tgt := 5) hx hb dX1_floodedNext_42 (by decide) ?_
          exact ih (i + 1) _ (by omega) (by omega) (by rw [flN, if_pos hbit, h3]) ls (lv_sub hl [0, 1, 2, 3, 4] rfl)
  exact loop (n + 1) 0 x (Nat.zero_le n) (by omega) rfl ls (lv_sub hl [0, 1, 2, 3, 4] rfl)

set_option maxHeartbeats 4000000 in
set_option maxRecDepth 100000 in
theorem c_flooded (l : Launch) {D : va_G} {C : g_C} {g : g_k → Nat → Int32} {ad ln : g_k → Nat} {ex : g_k → Option va_E} {B : Nat} {n : Nat} (hn : n ≤ 10) (hc : g (1, 0, 0) 4 = nI n) {a t k : Nat} (ha : a < 32) (hk : k < 2 ^ 30) (ht : t < 2 ^ 30) : Met l yX1_flooded wsX1_flooded ({ frames := 2, cells := 0, slots := 0, locals := 46 } : Room) (va_Pc [.ref (ad (2, 0, 0)), .int (nI a), .int (nI t), .int (nI k)] (g_S D C (lay C g ad ln ex) ad B)) (vp_Si (fun r => r = flI g n a t k)) 0 0 (fun _ => False) := by
  refine Met.ofW (cc := cX1_flooded) (maxL := 6) (ret := (some .int)) (by decide) rfl ?_
  intro p e s m args below meth c s₁ B₀ hml hv
  obtain ⟨rfl, hG, hF⟩ := hv
  have hK := hF.1
  have hN := hF.2.1
  have hB := hF.2.2.2
  have hx := B₀.exec
  have hb := B₀.bytes
  have hr := B₀.returns
  have hts := atoms_spec (ws := wsX1_flooded) B₀.pre
  have hown : s.vm.findClass RX1 = some m.cls := findClass_of_methodNamed B₀.named
  have hlocks := B₀.notSynchronized
  have hS : va_S (g_A B) s.heap s.heap [] := va_S.rf
  have hl := lv_entry [.ref (ad (2, 0, 0)), .int (nI a), .int (nI t), .int (nI k)] (n := 6) (Nat.le_of_ble_eq_true rfl)
  rw [lg_entry_eq]
  generalize (lg_sl [.ref (ad (2, 0, 0)), .int (nI a), .int (nI t), .int (nI k)] ++ List.replicate (6 - (lg_sl [.ref (ad (2, 0, 0)), .int (nI a), .int (nI t), .int (nI k)]).length) Slot.unset).toArray = ls at hl ⊢
  have hl : lv_has ls 6 [(0, .ref (ad (2, 0, 0))), (1, .int (nI a)), (2, .int (nI t)), (3, .int (nI k))] := hl
  refine lv_iconst (v := nI 1) hx hb dX1_flooded_0 (by decide) ?_
  refine lv_iload_n hx hb dX1_flooded_1 rfl (lv_at hl 1 rfl) ?_
  refine lv_ishl hx hb dX1_flooded_2 ?_
  refine lv_istore (lv' := [(4, .int ((nI 1) <<< ((nI a) &&& 31))), (0, .ref (ad (2, 0, 0))), (1, .int (nI a)), (2, .int (nI t)), (3, .int (nI k))]) hx hb dX1_flooded_3 hl (by decide) rfl (fun ls hl => ?_)
  refine lv_iconst (v := nI 0) hx hb dX1_flooded_5 (by decide) ?_
  refine lv_istore (lv' := [(5, .int (nI 0)), (4, .int ((nI 1) <<< ((nI a) &&& 31))), (0, .ref (ad (2, 0, 0))), (1, .int (nI a)), (2, .int (nI t)), (3, .int (nI k))]) hx hb dX1_flooded_6 hl (by decide) rfl (fun ls hl => ?_)
  have loop : ∀ (j i : Nat) (z : Int32), i ≤ k → k < i + j → z = flI g n a t i → ∀ ls, lv_has ls 6 [(5, .int (nI i)), (4, .int z), (0, .ref (ad (2, 0, 0))), (1, .int (nI a)), (2, .int (nI t)), (3, .int (nI k))] → W p l e (headSpec wsX1_flooded ({ frames := 2, cells := 0, slots := 0, locals := 46 } : Room)).room s m ([.ref (ad (2, 0, 0)), .int (nI a), .int (nI t), .int (nI k)]).toArray below meth c s.heap [] 0 0 (MQ below (vp_Si (fun r => r = flI g n a t k)) ([.ref (ad (2, 0, 0)), .int (nI a), .int (nI t), .int (nI k)]).toArray s 0 0 (fun _ => False)) (F0 m 8 ls []) := by
    intro j
    induction j with
    | zero => intro i z h1 h2; exact absurd h2 (by omega)
    | succ j ih =>
      intro i z h1 h2 h3 ls hl
      refine lv_iload hx hb dX1_flooded_8 (lv_at hl 0 rfl) ?_
      refine lv_iload_n hx hb dX1_flooded_10 rfl (lv_at hl 5 rfl) ?_
      refine lv_icmp_ge (tgt := 32) hx hb dX1_flooded_11 (by decide) (fun c_1 => ?_) (fun c_1 => ?_)
      · have hi : i = k := by have := (nI_leI (by omega) (by omega)).mp c_1; omega
        subst hi
        refine lv_iload hx hb dX1_flooded_32 (lv_at hl 1 rfl) ?_
        exact W.iret (v := z) hx hb hr (fun t9 ht9 hW9 => ⟨_, rfl, h3, ht9⟩) (fun q h => nomatch h) dX1_flooded_34
      · have hi : i < k := Nat.lt_of_not_le (fun h9 => c_1 ((nI_leI (by omega) (by omega)).mpr h9))
        refine lv_aload_n hx hb dX1_flooded_14 rfl (lv_at hl 2 rfl) ?_
        refine lv_iload hx hb dX1_flooded_15 (lv_at hl 1 rfl) ?_
        refine lv_iload_n hx hb dX1_flooded_17 rfl (lv_at hl 4 rfl) ?_
        refine lv_iload hx hb dX1_flooded_18 (lv_at hl 0 rfl) ?_
        refine lv_iadd hx hb dX1_flooded_20 ?_
        refine lv_to (y := nI (t + i)) (nI_add t i) ?_
        refine vp_callSi (W.runV (As := [.int z, .int (nI (t + i))]) (rest := []) ⟨hx, hb, hml, hown, hts⟩ (c_floodedNext l hn hc (show t + i < 2 ^ 31 by omega)) (cwV 2 hts gX1_flooded_X1_floodedNext rfl rfl rfl (by decide +kernel) ⟨Nat.le_of_ble_eq_true rfl, Nat.le_of_ble_eq_true rfl⟩) (g_preV hF hG hS (lay_search) rfl) rfl rfl hl.1 rfl (lv_room (Nat.le_of_ble_eq_true rfl)) dX1_flooded_21 ⟨Nat.le_of_ble_eq_true rfl, Nat.le_of_ble_eq_true rfl⟩) (fun r_2 h_3 => ?_)
        refine lv_istore (lv' := [(4, .int r_2), (5, .int (nI i)), (0, .ref (ad (2, 0, 0))), (1, .int (nI a)), (2, .int (nI t)), (3, .int (nI k))]) hx hb dX1_flooded_24 hl (by decide) rfl (fun ls hl => ?_)
        refine lv_iinc (v := nI (i + 1)) (lv' := [(5, .int (nI (i + 1))), (4, .int r_2), (0, .ref (ad (2, 0, 0))), (1, .int (nI a)), (2, .int (nI t)), (3, .int (nI k))]) hx hb dX1_flooded_26 hl (k := 1) rfl (nI_add i 1) (by decide) rfl (fun ls hl => ?_)
        refine lv_goto (tgt := 8) hx hb dX1_flooded_29 (by decide) ?_
        exact ih (i + 1) _ (by omega) (by omega) (by rw [h_3, h3]; rfl) ls (lv_sub hl [0, 1, 2, 3, 4, 5] rfl)
  exact loop (k + 1) 0 _ (Nat.zero_le k) (by omega) rfl ls (lv_sub hl [0, 1, 2, 3, 4, 5] rfl)

set_option maxHeartbeats 4000000 in
set_option maxRecDepth 100000 in
theorem c_byFlooding (l : Launch) {D : va_G} {C : g_C} {g : g_k → Nat → Int32} {ad ln : g_k → Nat} {ex : g_k → Option va_E} {B : Nat} {n : Nat} (hn : n ≤ 10) (hc : g (1, 0, 0) 4 = nI n) {a b t : Nat} (ha : a < 32) (hb32 : b < 32) (ht : t < 2 ^ 30) : Met l yX1_byFlooding wsX1_byFlooding ({ frames := 2, cells := 0, slots := 0, locals := 46 } : Room) (va_Pc [.ref (ad (2, 0, 0)), .int (nI a), .int (nI b), .int (nI t)] (g_S D C (lay C g ad ln ex) ad B)) (vp_Si (fun r => arr_P g n a t b r)) 0 0 (fun _ => False) := by
  refine Met.ofW (cc := cX1_byFlooding) (maxL := 6) (ret := (some .int)) (by decide) rfl ?_
  intro p e s m args below meth c s₁ B₀ hml hv
  obtain ⟨rfl, hG, hF⟩ := hv
  have hK := hF.1
  have hN := hF.2.1
  have hB := hF.2.2.2
  have hx := B₀.exec
  have hb := B₀.bytes
  have hr := B₀.returns
  have hts := atoms_spec (ws := wsX1_byFlooding) B₀.pre
  have hown : s.vm.findClass RX1 = some m.cls := findClass_of_methodNamed B₀.named
  have hlocks := B₀.notSynchronized
  have hS : va_S (g_A B) s.heap s.heap [] := va_S.rf
  have hl := lv_entry [.ref (ad (2, 0, 0)), .int (nI a), .int (nI b), .int (nI t)] (n := 6) (Nat.le_of_ble_eq_true rfl)
  rw [lg_entry_eq]
  generalize (lg_sl [.ref (ad (2, 0, 0)), .int (nI a), .int (nI b), .int (nI t)] ++ List.replicate (6 - (lg_sl [.ref (ad (2, 0, 0)), .int (nI a), .int (nI b), .int (nI t)]).length) Slot.unset).toArray = ls at hl ⊢
  have hl : lv_has ls 6 [(0, .ref (ad (2, 0, 0))), (1, .int (nI a)), (2, .int (nI b)), (3, .int (nI t))] := hl
  refine lv_iconst (v := nI 1) hx hb dX1_byFlooding_0 (by decide) ?_
  refine lv_iload_n hx hb dX1_byFlooding_1 rfl (lv_at hl 1 rfl) ?_
  refine lv_ishl hx hb dX1_byFlooding_2 ?_
  refine lv_istore (lv' := [(4, .int ((nI 1) <<< ((nI a) &&& 31))), (0, .ref (ad (2, 0, 0))), (1, .int (nI a)), (2, .int (nI b)), (3, .int (nI t))]) hx hb dX1_byFlooding_3 hl (by decide) rfl (fun ls hl => ?_)
  refine lv_iconst (v := nI 0) hx hb dX1_byFlooding_5 (by decide) ?_
  refine lv_istore (lv' := [(5, .int (nI 0)), (4, .int ((nI 1) <<< ((nI a) &&& 31))), (0, .ref (ad (2, 0, 0))), (1, .int (nI a)), (2, .int (nI b)), (3, .int (nI t))]) hx hb dX1_byFlooding_6 hl (by decide) rfl (fun ls hl => ?_)
  have loop : ∀ (j i : Nat) (z : Int32), i ≤ 401 → 401 < i + j → z = flI g n a t i → (∀ j, j < i → ¬ fl g n a t j b) → ∀ ls, lv_has ls 6 [(5, .int (nI i)), (4, .int z), (0, .ref (ad (2, 0, 0))), (1, .int (nI a)), (2, .int (nI b)), (3, .int (nI t))] → W p l e (headSpec wsX1_byFlooding ({ frames := 2, cells := 0, slots := 0, locals := 46 } : Room)).room s m ([.ref (ad (2, 0, 0)), .int (nI a), .int (nI b), .int (nI t)]).toArray below meth c s.heap [] 0 0 (MQ below (vp_Si (fun r => arr_P g n a t b r)) ([.ref (ad (2, 0, 0)), .int (nI a), .int (nI b), .int (nI t)]).toArray s 0 0 (fun _ => False)) (F0 m 8 ls []) := by
    intro j
    induction j with
    | zero => intro i z h1 h2; exact absurd h2 (by omega)
    | succ j ih =>
      intro i z h1 h2 h3 h4 ls hl
      refine lv_iload hx hb dX1_byFlooding_8 (lv_at hl 0 rfl) ?_
      refine lv_sipush (v := nI 400) hx hb dX1_byFlooding_10 (by decide) ?_
      refine lv_icmp_gt (tgt := 48) hx hb dX1_byFlooding_13 (by decide) (fun c_1 => ?_) (fun c_1 => ?_)
      · have hi : i = 401 := by have := (nI_ltI (by omega) (by omega)).mp c_1; omega
        subst hi
        refine lv_iconst (v := (-1)) hx hb dX1_byFlooding_48 (by decide) ?_
        exact W.iret (v := (-1)) hx hb hr (fun t9 ht9 hW9 => ⟨_, rfl, Or.inr ⟨fun j hj => h4 j (by omega), rfl⟩, ht9⟩) (fun q h => nomatch h) dX1_byFlooding_49
      · have hi : i ≤ 400 := Nat.le_of_not_lt (fun h9 => c_1 ((nI_ltI (by omega) (by omega)).mpr h9))
        refine lv_iload hx hb dX1_byFlooding_16 (lv_at hl 1 rfl) ?_
        refine lv_iload_n hx hb dX1_byFlooding_18 rfl (lv_at hl 4 rfl) ?_
        refine lv_ishr hx hb dX1_byFlooding_19 ?_
        refine lv_iconst (v := nI 1) hx hb dX1_byFlooding_20 (by decide) ?_
        refine lv_iand hx hb dX1_byFlooding_21 ?_
        refine lv_if_eq (tgt := 30) hx hb dX1_byFlooding_22 (by decide) (fun c_2 => ?_) (fun c_2 => ?_)
        · have hbit : ¬ fl g n a t i b := fun h9 => by unfold fl at h9; rw [← h3, (b_test _ hb32).mp c_2] at h9; cases h9
          refine lv_aload_n hx hb dX1_byFlooding_30 rfl (lv_at hl 2 rfl) ?_
          refine lv_iload hx hb dX1_byFlooding_31 (lv_at hl 1 rfl) ?_
          refine lv_iload_n hx hb dX1_byFlooding_33 rfl (lv_at hl 5 rfl) ?_
          refine lv_iload hx hb dX1_byFlooding_34 (lv_at hl 0 rfl) ?_
          refine lv_iadd hx hb dX1_byFlooding_36 ?_
          refine lv_to (y := nI (t + i)) (nI_add t i) ?_
          refine vp_callSi (W.runV (As := [.int z, .int (nI (t + i))]) (rest := []) ⟨hx, hb, hml, hown, hts⟩ (c_floodedNext l hn hc (show t + i < 2 ^ 31 by omega)) (cwV 2 hts gX1_byFlooding_X1_floodedNext rfl rfl rfl (by decide +kernel) ⟨Nat.le_of_ble_eq_true rfl, Nat.le_of_ble_eq_true rfl⟩) (g_preV hF hG hS (lay_search) rfl) rfl rfl hl.1 rfl (lv_room (Nat.le_of_ble_eq_true rfl)) dX1_byFlooding_37 ⟨Nat.le_of_ble_eq_true rfl, Nat.le_of_ble_eq_true rfl⟩) (fun r_3 h_4 => ?_)
          refine lv_istore (lv' := [(4, .int r_3), (5, .int (nI i)), (0, .ref (ad (2, 0, 0))), (1, .int (nI a)), (2, .int (nI b)), (3, .int (nI t))]) hx hb dX1_byFlooding_40 hl (by decide) rfl (fun ls hl => ?_)
          refine lv_iinc (v := nI (i + 1)) (lv' := [(5, .int (nI (i + 1))), (4, .int r_3), (0, .ref (ad (2, 0, 0))), (1, .int (nI a)), (2, .int (nI b)), (3, .int (nI t))]) hx hb dX1_byFlooding_42 hl (k := 1) rfl (nI_add i 1) (by decide) rfl (fun ls hl => ?_)
          refine lv_goto (tgt := 8) hx hb dX1_byFlooding_45 (by decide) ?_
          exact ih (i + 1) _ (by omega) (by omega) (by rw [h_4, h3]; rfl) (fun j hj => by rcases Nat.lt_or_eq_of_le (Nat.le_of_lt_succ hj) with h9 | h9; exact h4 j h9; rw [h9]; exact hbit) ls (lv_sub hl [0, 1, 2, 3, 4, 5] rfl)
        · have hbit : fl g n a t i b := by unfold fl; rw [← h3]; exact eq_true_of_ne_false (fun h9 => c_2 ((b_test _ hb32).mpr h9))
          refine lv_iload_n hx hb dX1_byFlooding_25 rfl (lv_at hl 5 rfl) ?_
          refine lv_iload hx hb dX1_byFlooding_26 (lv_at hl 0 rfl) ?_
          refine lv_iadd hx hb dX1_byFlooding_28 ?_
          refine lv_to (y := nI (t + i)) (nI_add t i) ?_
          exact W.iret (v := nI (t + i)) hx hb hr (fun t9 ht9 hW9 => ⟨_, rfl, Or.inl ⟨i, hi, hbit, h4, rfl⟩, ht9⟩) (fun q h => nomatch h) dX1_byFlooding_29
  exact loop 402 0 _ (Nat.zero_le _) (by omega) rfl (fun j hj => absurd hj (Nat.not_lt_zero j)) ls (lv_sub hl [0, 1, 2, 3, 4, 5] rfl)

set_option maxHeartbeats 4000000 in
set_option maxRecDepth 100000 in
theorem c_earliestReached (l : Launch) {D : va_G} {C : g_C} {g : g_k → Nat → Int32} {ad ln : g_k → Nat} {ex : g_k → Option va_E} {B : Nat} {n : Nat} (hn : n ≤ 10) (hc : g (1, 0, 0) 4 = nI n) {x : Int32} {R : Nat → Nat} {T : Nat} (hR : ∀ i, i < 10 → g (10, 0, 0) i = nI (R i) ∧ R i ≤ T) (hT : T < 2 ^ 30) : Met l yX1_earliestReached wsX1_earliestReached ({ frames := 0, cells := 0, slots := 0, locals := 0 } : Room) (va_Pc [.ref (ad (2, 0, 0)), .int x, .int (nI T)] (g_S D C (lay C g ad ln ex) ad B)) (vp_Si (fun r => (r = (-1) ∧ ∀ j, j < n → bt x j = false → T ≤ R j) ∨ ∃ q, q < n ∧ r = nI q ∧ bt x q = false ∧ R q < T ∧ ∀ j, j < n → bt x j = false → R q ≤ R j)) 0 0 (fun _ => False) := by
  refine Met.ofW (cc := cX1_earliestReached) (maxL := 6) (ret := (some .int)) (by decide) rfl ?_
  intro p e s m args below meth c s₁ B₀ hml hv
  obtain ⟨rfl, hG, hF⟩ := hv
  have hK := hF.1
  have hN := hF.2.1
  have hB := hF.2.2.2
  have hx := B₀.exec
  have hb := B₀.bytes
  have hr := B₀.returns
  have hts := atoms_spec (ws := wsX1_earliestReached) B₀.pre
  have hown : s.vm.findClass RX1 = some m.cls := findClass_of_methodNamed B₀.named
  have hlocks := B₀.notSynchronized
  have hS : va_S (g_A B) s.heap s.heap [] := va_S.rf
  have hi1 : ∀ w ∈ wsX10, w ∈ wsX1_earliestReached := by decide +kernel
  have hi2 : ∀ w ∈ wsX20, w ∈ wsX1_earliestReached := by decide +kernel
  have hl := lv_entry [.ref (ad (2, 0, 0)), .int x, .int (nI T)] (n := 6) (Nat.le_of_ble_eq_true rfl)
  rw [lg_entry_eq]
  generalize (lg_sl [.ref (ad (2, 0, 0)), .int x, .int (nI T)] ++ List.replicate (6 - (lg_sl [.ref (ad (2, 0, 0)), .int x, .int (nI T)]).length) Slot.unset).toArray = ls at hl ⊢
  have hl : lv_has ls 6 [(0, .ref (ad (2, 0, 0))), (1, .int x), (2, .int (nI T))] := hl
  refine lv_iconst (v := (-1)) hx hb dX1_earliestReached_0 (by decide) ?_
  refine lv_istore_n (lv' := [(3, .int (-1)), (0, .ref (ad (2, 0, 0))), (1, .int x), (2, .int (nI T))]) hx hb dX1_earliestReached_1 rfl hl (by decide) rfl (fun ls hl => ?_)
  refine lv_iload_n hx hb dX1_earliestReached_2 rfl (lv_at hl 3 rfl) ?_
  refine lv_istore (lv' := [(4, .int (nI T)), (3, .int (-1)), (0, .ref (ad (2, 0, 0))), (1, .int x), (2, .int (nI T))]) hx hb dX1_earliestReached_3 hl (by decide) rfl (fun ls hl => ?_)
  refine lv_iconst (v := nI 0) hx hb dX1_earliestReached_5 (by decide) ?_
  refine lv_istore (lv' := [(5, .int (nI 0)), (4, .int (nI T)), (3, .int (-1)), (0, .ref (ad (2, 0, 0))), (1, .int x), (2, .int (nI T))]) hx hb dX1_earliestReached_6 hl (by decide) rfl (fun ls hl => ?_)
  have loop : ∀ (k i y : Nat) (z : Int32), i ≤ n → n < i + k → ((z = (-1) ∧ y = T ∧ ∀ j, j < i → bt x j = false → T ≤ R j) ∨ ∃ q, q < i ∧ z = nI q ∧ bt x q = false ∧ R q < T ∧ y = R q ∧ ∀ j, j < i → bt x j = false → R q ≤ R j) → ∀ ls, lv_has ls 6 [(5, .int (nI i)), (4, .int (nI y)), (3, .int z), (0, .ref (ad (2, 0, 0))), (1, .int x), (2, .int (nI T))] → W p l e (headSpec wsX1_earliestReached ({ frames := 0, cells := 0, slots := 0, locals := 0 } : Room)).room s m ([.ref (ad (2, 0, 0)), .int x, .int (nI T)]).toArray below meth c s.heap [] 0 0 (MQ below (vp_Si (fun r => (r = (-1) ∧ ∀ j, j < n → bt x j = false → T ≤ R j) ∨ ∃ q, q < n ∧ r = nI q ∧ bt x q = false ∧ R q < T ∧ ∀ j, j < n → bt x j = false → R q ≤ R j)) ([.ref (ad (2, 0, 0)), .int x, .int (nI T)]).toArray s 0 0 (fun _ => False)) (F0 m 8 ls []) := by
    intro k
    induction k with
    | zero => intro i y z h1 h2; exact absurd h2 (by omega)
    | succ k ih =>
      intro i y z h1 h2 h3 ls hl
      refine lv_iload hx hb dX1_earliestReached_8 (lv_at hl 0 rfl) ?_
      refine lv_aload_n hx hb dX1_earliestReached_10 rfl (lv_at hl 3 rfl) ?_
      refine g_get hx hb hts hi1 hown hK hG (lay_search) rfl 0 (by decide) (hts (.fieldLink RX1 15 "Satellitering$Search" "sky" "LSatellitering$Sky;") (by decide +kernel)) rfl dX1_earliestReached_11 ?_
      refine g_getN hx hb hts hi2 hown hK hG (lay_sky) rfl 4 (by decide) (va_Nw.use rfl hN.2.2.2.2.2.2.2.2.2.2.2.1) rfl dX1_earliestReached_14 ?_
      refine lv_to (y := nI n) (hc) ?_
      refine lv_icmp_ge (tgt := 59) hx hb dX1_earliestReached_17 (by decide) (fun c_1 => ?_) (fun c_1 => ?_)
      · have hi : i = n := by have := (nI_leI (by omega) (by omega)).mp c_1; omega
        subst hi
        refine lv_iload_n hx hb dX1_earliestReached_59 rfl (lv_at hl 2 rfl) ?_
        exact W.iret (v := z) hx hb hr (fun t9 ht9 hW9 => ⟨_, rfl, by rcases h3 with ⟨a1, -, a3⟩ | ⟨q, a1, a2, a3, a4, -, a6⟩; exact Or.inl ⟨a1, a3⟩; exact Or.inr ⟨q, a1, a2, a3, a4, a6⟩, ht9⟩) (fun q h => nomatch h) dX1_earliestReached_60
      · have hi : i < n := Nat.lt_of_not_le (fun h9 => c_1 ((nI_leI (by omega) (by omega)).mpr h9))
        have hRi := (hR i (by omega)).2
        have hy : y ≤ T := by rcases h3 with ⟨-, a2, -⟩ | ⟨q, -, -, -, a4, a5, -⟩ <;> omega
        refine lv_iload_n hx hb dX1_earliestReached_20 rfl (lv_at hl 4 rfl) ?_
        refine lv_iload hx hb dX1_earliestReached_21 (lv_at hl 0 rfl) ?_
        refine lv_ishr hx hb dX1_earliestReached_23 ?_
        refine lv_iconst (v := nI 1) hx hb dX1_earliestReached_24 (by decide) ?_
        refine lv_iand hx hb dX1_earliestReached_25 ?_
        refine lv_if_ne (tgt := 53) hx hb dX1_earliestReached_26 (by decide) (fun c_2 => ?_) (fun c_2 => ?_)
        · have hbit : bt x i = true := eq_true_of_ne_false (fun h9 => c_2 ((b_test _ (by omega)).mpr h9))
          refine lv_iinc (v := nI (i + 1)) (lv' := [(5, .int (nI (i + 1))), (4, .int (nI y)), (3, .int z), (0, .ref (ad (2, 0, 0))), (1, .int x), (2, .int (nI T))]) hx hb dX1_earliestReached_53 hl (k := 0) rfl (nI_add i 1) (by decide) rfl (fun ls hl => ?_)
          refine lv_goto (tgt := 8) hx hb dX1_earliestReached_56 (by decide) ?_
          exact ih (i + 1) y z (by omega) (by omega) (by rcases h3 with ⟨a1, a2, a3⟩ | ⟨q, a1, a2, a3, a4, a5, a6⟩; exact Or.inl ⟨a1, a2, fun j hj hx9 => by rcases Nat.lt_or_eq_of_le (Nat.le_of_lt_succ hj) with h9 | h9; exact a3 j h9 hx9; exact absurd hx9 (by rw [h9, hbit]; decide)⟩; exact Or.inr ⟨q, by omega, a2, a3, a4, a5, fun j hj hx9 => by rcases Nat.lt_or_eq_of_le (Nat.le_of_lt_succ hj) with h9 | h9; exact a6 j h9 hx9; exact absurd hx9 (by rw [h9, hbit]; decide)⟩) ls (lv_sub hl [0, 1, 2, 3, 4, 5] rfl)
        · have hbit : bt x i = false := (b_test _ (by omega)).mp c_2
          refine lv_aload_n hx hb dX1_earliestReached_29 rfl (lv_at hl 3 rfl) ?_
          refine g_get hx hb hts hi1 hown hK hG (lay_search) rfl 1 (by decide) (hts (.fieldLink RX1 9 "Satellitering$Search" "reached" "[I") (by decide +kernel)) rfl dX1_earliestReached_30 ?_
          refine lv_iload hx hb dX1_earliestReached_33 (lv_at hl 0 rfl) ?_
          refine g_iald hx hb hK hG (lay_reached) (by omega) (by first | decide | omega) dX1_earliestReached_35 ?_
          refine lv_to (y := nI (R i)) ((hR i (by omega)).1) ?_
          refine lv_iload hx hb dX1_earliestReached_36 (lv_at hl 1 rfl) ?_
          refine lv_icmp_ge (tgt := 53) hx hb dX1_earliestReached_38 (by decide) (fun c_3 => ?_) (fun c_3 => ?_)
          · have hyi : y ≤ R i := (nI_leI (by omega) (by omega)).mp c_3
            refine lv_iinc (v := nI (i + 1)) (lv' := [(5, .int (nI (i + 1))), (4, .int (nI y)), (3, .int z), (0, .ref (ad (2, 0, 0))), (1, .int x), (2, .int (nI T))]) hx hb dX1_earliestReached_53 hl (k := 0) rfl (nI_add i 1) (by decide) rfl (fun ls hl => ?_)
            refine lv_goto (tgt := 8) hx hb dX1_earliestReached_56 (by decide) ?_
            exact ih (i + 1) y z (by omega) (by omega) (by rcases h3 with ⟨a1, a2, a3⟩ | ⟨q, a1, a2, a3, a4, a5, a6⟩; exact Or.inl ⟨a1, a2, fun j hj hx9 => by rcases Nat.lt_or_eq_of_le (Nat.le_of_lt_succ hj) with h9 | h9; exact a3 j h9 hx9; rw [h9]; omega⟩; exact Or.inr ⟨q, by omega, a2, a3, a4, a5, fun j hj hx9 => by rcases Nat.lt_or_eq_of_le (Nat.le_of_lt_succ hj) with h9 | h9; exact a6 j h9 hx9; rw [h9]; omega⟩) ls (lv_sub hl [0, 1, 2, 3, 4, 5] rfl)
          · have hyi : R i < y := Nat.lt_of_not_le (fun h9 => c_3 ((nI_leI (by omega) (by omega)).mpr h9))
            refine lv_aload_n hx hb dX1_earliestReached_41 rfl (lv_at hl 3 rfl) ?_
            refine g_get hx hb hts hi1 hown hK hG (lay_search) rfl 1 (by decide) (hts (.fieldLink RX1 9 "Satellitering$Search" "reached" "[I") (by decide +kernel)) rfl dX1_earliestReached_42 ?_
            refine lv_iload hx hb dX1_earliestReached_45 (lv_at hl 0 rfl) ?_
            refine g_iald hx hb hK hG (lay_reached) (by omega) (by first | decide | omega) dX1_earliestReached_47 ?_
            refine lv_to (y := nI (R i)) ((hR i (by omega)).1) ?_
            refine lv_istore (lv' := [(4, .int (nI (R i))), (5, .int (nI i)), (3, .int z), (0, .ref (ad (2, 0, 0))), (1, .int x), (2, .int (nI T))]) hx hb dX1_earliestReached_48 hl (by decide) rfl (fun ls hl => ?_)
            refine lv_iload hx hb dX1_earliestReached_50 (lv_at hl 1 rfl) ?_
            refine lv_istore_n (lv' := [(3, .int (nI i)), (4, .int (nI (R i))), (5, .int (nI i)), (0, .ref (ad (2, 0, 0))), (1, .int x), (2, .int (nI T))]) hx hb dX1_earliestReached_52 rfl hl (by decide) rfl (fun ls hl => ?_)
            refine lv_iinc (v := nI (i + 1)) (lv' := [(5, .int (nI (i + 1))), (3, .int (nI i)), (4, .int (nI (R i))), (0, .ref (ad (2, 0, 0))), (1, .int x), (2, .int (nI T))]) hx hb dX1_earliestReached_53 hl (k := 2) rfl (nI_add i 1) (by decide) rfl (fun ls hl => ?_)
            refine lv_goto (tgt := 8) hx hb dX1_earliestReached_56 (by decide) ?_
            exact ih (i + 1) (R i) (nI i) (by omega) (by omega) (Or.inr ⟨i, by omega, rfl, hbit, by omega, rfl, fun j hj hx9 => by rcases Nat.lt_or_eq_of_le (Nat.le_of_lt_succ hj) with h9 | h9; (rcases h3 with ⟨-, a2, a3⟩ | ⟨q, a1, a2, a3, a4, a5, a6⟩; have := a3 j h9 hx9; omega; have := a6 j h9 hx9; omega); rw [h9]; exact Nat.le_refl _⟩) ls (lv_sub hl [0, 2, 1, 3, 4, 5] rfl)
  exact loop (n + 1) 0 T (-1) (Nat.zero_le n) (by omega) (Or.inl ⟨rfl, rfl, fun j hj => absurd hj (Nat.not_lt_zero j)⟩) ls (lv_sub hl [0, 1, 2, 3, 4, 5] rfl)
end
section
theorem nI_m1 {n : Nat} (h : n < 2 ^ 31) : nI n ≠ (-1) := fun h9 => by
  have e := congrArg Int32.toInt h9
  rw [nI_toInt h, show (-1 : Int32).toInt = -1 by decide] at e
  omega

set_option maxHeartbeats 4000000 in
set_option maxRecDepth 100000 in
theorem c_fill (l : Launch) {D : va_G} {C : g_C} {g : g_k → Nat → Int32} {ad ln : g_k → Nat} {ex : g_k → Option va_E} {B : Nat} {cd : g_k} {n : Nat} (hO : ∀ g, lay C g ad ln ex cd = some (.inl (C.1, n, .inl (g cd)))) (hn31 : n < 2 ^ 30) {x : Int32} : Met l yJ7_fill_53178 wsJ7_fill_53178 ({ frames := 0, cells := 0, slots := 0, locals := 0 } : Room) (va_Pc [.ref (ad cd), .int x] (g_S D C (lay C g ad ln ex) ad B)) (va_Qv (fun (g1 : g_k → Nat → Int32) => (∀ c, c ≠ cd → g1 c = g c) ∧ ∀ j, j < n → g1 cd j = x) (fun g1 t => g_P D (lay C g1 ad ln ex) ad B t.heap) (g_A B)) 0 0 (g_A B) := by
  refine Met.ofW (cc := cJ7_fill_53178) (maxL := 4) (ret := none) (by decide) rfl ?_
  intro p e s m args below meth c s₁ B₀ hml hv
  obtain ⟨rfl, hG, hF⟩ := hv
  have hK := hF.1
  have hN := hF.2.1
  have hB := hF.2.2.2
  have hx := B₀.exec
  have hb := B₀.bytes
  have hr := B₀.returns
  have hts := atoms_spec (ws := wsJ7_fill_53178) B₀.pre
  have hown : s.vm.findClass RJ7 = some m.cls := findClass_of_methodNamed B₀.named
  have hlocks := B₀.notSynchronized
  have hS : va_S (g_A B) s.heap s.heap [] := va_S.rf
  have hl := lv_entry [.ref (ad cd), .int x] (n := 4) (Nat.le_of_ble_eq_true rfl)
  rw [lg_entry_eq]
  generalize (lg_sl [.ref (ad cd), .int x] ++ List.replicate (4 - (lg_sl [.ref (ad cd), .int x]).length) Slot.unset).toArray = ls at hl ⊢
  have hl : lv_has ls 4 [(0, .ref (ad cd)), (1, .int x)] := hl
  refine lv_iconst (v := nI 0) hx hb dJ7_fill_53178_0 (by decide) ?_
  refine lv_istore_n (lv' := [(2, .int (nI 0)), (0, .ref (ad cd)), (1, .int x)]) hx hb dJ7_fill_53178_1 rfl hl (by decide) rfl (fun ls hl => ?_)
  refine lv_aload_n hx hb dJ7_fill_53178_2 rfl (lv_at hl 1 rfl) ?_
  refine g_alen hx hb hK hG (hO _) dJ7_fill_53178_3 ?_
  refine lv_istore_n (lv' := [(3, .int (nI n)), (2, .int (nI 0)), (0, .ref (ad cd)), (1, .int x)]) hx hb dJ7_fill_53178_4 rfl hl (by decide) rfl (fun ls hl => ?_)
  have loop : ∀ (k i : Nat) (g1 : g_k → Nat → Int32) (H : Heap) (locs : List Loc), i ≤ n → n < i + k → (∀ c, c ≠ cd → g1 c = g c) → (∀ j, j < i → g1 cd j = x) → g_P D (lay C g1 ad ln ex) ad B H → va_S (g_A B) s.heap H locs → ∀ ls, lv_has ls 4 [(2, .int (nI i)), (0, .ref (ad cd)), (1, .int x), (3, .int (nI n))] → W p l e (headSpec wsJ7_fill_53178 ({ frames := 0, cells := 0, slots := 0, locals := 0 } : Room)).room s m ([.ref (ad cd), .int x]).toArray below meth c H locs 0 0 (MQ below (va_Qv (fun (g1 : g_k → Nat → Int32) => (∀ c, c ≠ cd → g1 c = g c) ∧ ∀ j, j < n → g1 cd j = x) (fun g1 t => g_P D (lay C g1 ad ln ex) ad B t.heap) (g_A B)) ([.ref (ad cd), .int x]).toArray s 0 0 (g_A B)) (F0 m 5 ls []) := by
    intro k
    induction k with
    | zero => intro i g1 H locs h1 h2; exact absurd h2 (by omega)
    | succ k ih =>
      intro i g1 H locs h1 h2 h3 h4 hG hS ls hl
      refine lv_iload_n hx hb dJ7_fill_53178_5 rfl (lv_at hl 0 rfl) ?_
      refine lv_iload_n hx hb dJ7_fill_53178_6 rfl (lv_at hl 3 rfl) ?_
      refine lv_icmp_ge (tgt := 20) hx hb dJ7_fill_53178_7 (by decide) (fun c_1 => ?_) (fun c_1 => ?_)
      · have hi : i = n := by have := (nI_leI (by omega) (by omega)).mp c_1; omega
        subst hi
        exact W.vret hx hb hr (fun t9 ht9 hW9 => ⟨⟨_, rfl, ⟨h3, h4⟩, by show g_P _ _ _ _ t9.heap; rw [ht9]; exact hG⟩, hS.F ht9⟩) hS.2.2 dJ7_fill_53178_20
      · have hi : i < n := Nat.lt_of_not_le (fun h9 => c_1 ((nI_leI (by omega) (by omega)).mpr h9))
        refine lv_aload_n hx hb dJ7_fill_53178_10 rfl (lv_at hl 1 rfl) ?_
        refine lv_iload_n hx hb dJ7_fill_53178_11 rfl (lv_at hl 0 rfl) ?_
        refine lv_iload_n hx hb dJ7_fill_53178_12 rfl (lv_at hl 2 rfl) ?_
        refine o_iast hx hb hK hG hS (cd := cd) (fun _ => hO _) (hi) (by first | decide | omega) dJ7_fill_53178_13 (fun H locs hG hS => ?_)
        refine lv_iinc (v := nI (i + 1)) (lv' := [(2, .int (nI (i + 1))), (0, .ref (ad cd)), (1, .int x), (3, .int (nI n))]) hx hb dJ7_fill_53178_14 hl (k := 0) rfl (nI_add i 1) (by decide) rfl (fun ls hl => ?_)
        refine lv_goto (tgt := 5) hx hb dJ7_fill_53178_17 (by decide) ?_
        exact ih (i + 1) _ _ _ (by omega) (by omega) (fun c hc9 => by rw [g2_ne _ _ _ hc9]; exact h3 c hc9) (fun j hj => by rw [g2_self]; by_cases h9 : j = i; rw [h9, upd_self]; rw [upd_ne _ _ h9]; exact h4 j (by omega)) hG hS ls (lv_sub hl [0, 1, 2, 3] rfl)
  exact loop (n + 1) 0 g s.heap [] (Nat.zero_le n) (by omega) (fun _ _ => rfl) (fun j hj => absurd hj (Nat.not_lt_zero j)) hG hS ls (lv_sub hl [1, 2, 3, 0] rfl)

set_option maxHeartbeats 4000000 in
set_option maxRecDepth 100000 in
theorem c_goOnFrom (l : Launch) {D : va_G} {C : g_C} {g : g_k → Nat → Int32} {ad ln : g_k → Nat} {ex : g_k → Option va_E} {B : Nat} {n : Nat} (hn : n ≤ 10) (hc : g (1, 0, 0) 4 = nI n) {f : Nat} (hf : f < n) {x : Int32} (hxf : bt x f = true) {R : Nat → Nat} {T : Nat} (hR : ∀ i, i < 10 → g (10, 0, 0) i = nI (R i) ∧ R i ≤ T) (hT : T < 2 ^ 30) : Met l yX1_goOnFrom wsX1_goOnFrom ({ frames := 3, cells := 0, slots := 0, locals := 69 } : Room) (va_Pc [.ref (ad (2, 0, 0)), .int (nI f), .int x] (g_S D C (lay C g ad ln ex) ad B)) (va_Qv (fun (g1 : g_k → Nat → Int32) => ∃ R1 : Nat → Nat, (∀ i, i < 10 → g1 (10, 0, 0) i = nI (R1 i) ∧ R1 i ≤ T) ∧ (∀ c, c ≠ (10, 0, 0) → g1 c = g c) ∧ (∀ i, i < 10 → bt x i = true ∨ n ≤ i → R1 i = R i) ∧ ∀ i, i < n → bt x i = false → go_P g f R i (R1 i)) (fun g1 t => g_P D (lay C g1 ad ln ex) ad B t.heap) (g_A B)) 0 0 (g_A B) := by
  refine Met.ofW (cc := cX1_goOnFrom) (maxL := 5) (ret := none) (by decide) rfl ?_
  intro p e s m args below meth c s₁ B₀ hml hv
  obtain ⟨rfl, hG, hF⟩ := hv
  have hK := hF.1
  have hN := hF.2.1
  have hB := hF.2.2.2
  have hx := B₀.exec
  have hb := B₀.bytes
  have hr := B₀.returns
  have hts := atoms_spec (ws := wsX1_goOnFrom) B₀.pre
  have hown : s.vm.findClass RX1 = some m.cls := findClass_of_methodNamed B₀.named
  have hlocks := B₀.notSynchronized
  have hS : va_S (g_A B) s.heap s.heap [] := va_S.rf
  have hi1 : ∀ w ∈ wsX10, w ∈ wsX1_goOnFrom := by decide +kernel
  have hi2 : ∀ w ∈ wsX20, w ∈ wsX1_goOnFrom := by decide +kernel
  have hl := lv_entry [.ref (ad (2, 0, 0)), .int (nI f), .int x] (n := 5) (Nat.le_of_ble_eq_true rfl)
  rw [lg_entry_eq]
  generalize (lg_sl [.ref (ad (2, 0, 0)), .int (nI f), .int x] ++ List.replicate (5 - (lg_sl [.ref (ad (2, 0, 0)), .int (nI f), .int x]).length) Slot.unset).toArray = ls at hl ⊢
  have hl : lv_has ls 5 [(0, .ref (ad (2, 0, 0))), (1, .int (nI f)), (2, .int x)] := hl
  refine lv_iconst (v := nI 0) hx hb dX1_goOnFrom_0 (by decide) ?_
  refine lv_istore_n (lv' := [(3, .int (nI 0)), (0, .ref (ad (2, 0, 0))), (1, .int (nI f)), (2, .int x)]) hx hb dX1_goOnFrom_1 rfl hl (by decide) rfl (fun ls hl => ?_)
  have loop : ∀ (k j : Nat) (g1 : g_k → Nat → Int32) (H : Heap) (locs : List Loc) (R1 : Nat → Nat), j ≤ n → n < j + k → (∀ i, i < 10 → g1 (10, 0, 0) i = nI (R1 i) ∧ R1 i ≤ T) → (∀ c, c ≠ (10, 0, 0) → g1 c = g c) → (∀ i, i < 10 → bt x i = true ∨ j ≤ i → R1 i = R i) → (∀ i, i < j → bt x i = false → go_P g f R i (R1 i)) → g_P D (lay C g1 ad ln ex) ad B H → va_S (g_A B) s.heap H locs → ∀ ls, lv_has ls 5 [(3, .int (nI j)), (0, .ref (ad (2, 0, 0))), (1, .int (nI f)), (2, .int x)] → W p l e (headSpec wsX1_goOnFrom ({ frames := 3, cells := 0, slots := 0, locals := 69 } : Room)).room s m ([.ref (ad (2, 0, 0)), .int (nI f), .int x]).toArray below meth c H locs 0 0 (MQ below (va_Qv (fun (g1 : g_k → Nat → Int32) => ∃ R1 : Nat → Nat, (∀ i, i < 10 → g1 (10, 0, 0) i = nI (R1 i) ∧ R1 i ≤ T) ∧ (∀ c, c ≠ (10, 0, 0) → g1 c = g c) ∧ (∀ i, i < 10 → bt x i = true ∨ n ≤ i → R1 i = R i) ∧ ∀ i, i < n → bt x i = false → go_P g f R i (R1 i)) (fun g1 t => g_P D (lay C g1 ad ln ex) ad B t.heap) (g_A B)) ([.ref (ad (2, 0, 0)), .int (nI f), .int x]).toArray s 0 0 (g_A B)) (F0 m 2 ls []) := by
    intro k
    induction k with
    | zero => intro j g1 H locs R1 h1 h2; exact absurd h2 (by omega)
    | succ k ih =>
      intro j g1 H locs R1 h1 h2 h3 h4 h5 h6 hG hS ls hl
      refine lv_iload_n hx hb dX1_goOnFrom_2 rfl (lv_at hl 0 rfl) ?_
      refine lv_aload_n hx hb dX1_goOnFrom_3 rfl (lv_at hl 1 rfl) ?_
      refine g_get hx hb hts hi1 hown hK hG (lay_search) rfl 0 (by decide) (hts (.fieldLink RX1 15 "Satellitering$Search" "sky" "LSatellitering$Sky;") (by decide +kernel)) rfl dX1_goOnFrom_4 ?_
      refine g_getN hx hb hts hi2 hown hK hG (lay_sky) rfl 4 (by decide) (va_Nw.use rfl hN.2.2.2.2.2.2.2.2.2.2.2.1) rfl dX1_goOnFrom_7 ?_
      refine lv_to (y := nI n) (by rw [h4 _ (by decide)]; exact hc) ?_
      refine lv_icmp_ge (tgt := 73) hx hb dX1_goOnFrom_10 (by decide) (fun c_1 => ?_) (fun c_1 => ?_)
      · have hi : j = n := by have := (nI_leI (by omega) (by omega)).mp c_1; omega
        subst hi
        exact W.vret hx hb hr (fun t9 ht9 hW9 => ⟨⟨_, rfl, ⟨R1, h3, h4, h5, h6⟩, by show g_P _ _ _ _ t9.heap; rw [ht9]; exact hG⟩, hS.F ht9⟩) hS.2.2 dX1_goOnFrom_73
      · have hi : j < n := Nat.lt_of_not_le (fun h9 => c_1 ((nI_leI (by omega) (by omega)).mpr h9))
        have hRj := (hR j (by omega)).2
        have hRf := (hR f (by omega)).2
        have hse : ∀ t, see g1 f j t = see g f j t := fun t => see_ext h4
        refine lv_iload_n hx hb dX1_goOnFrom_13 rfl (lv_at hl 3 rfl) ?_
        refine lv_iload_n hx hb dX1_goOnFrom_14 rfl (lv_at hl 0 rfl) ?_
        refine lv_ishr hx hb dX1_goOnFrom_15 ?_
        refine lv_iconst (v := nI 1) hx hb dX1_goOnFrom_16 (by decide) ?_
        refine lv_iand hx hb dX1_goOnFrom_17 ?_
        refine lv_if_ne (tgt := 67) hx hb dX1_goOnFrom_18 (by decide) (fun c_2 => ?_) (fun c_2 => ?_)
        · have hbit : bt x j = true := eq_true_of_ne_false (fun h9 => c_2 ((b_test _ (by omega)).mpr h9))
          refine lv_iinc (v := nI (j + 1)) (lv' := [(3, .int (nI (j + 1))), (0, .ref (ad (2, 0, 0))), (1, .int (nI f)), (2, .int x)]) hx hb dX1_goOnFrom_67 hl (k := 0) rfl (nI_add j 1) (by decide) rfl (fun ls hl => ?_)
          refine lv_goto (tgt := 2) hx hb dX1_goOnFrom_70 (by decide) ?_
          exact ih (j + 1) g1 H locs R1 (by omega) (by omega) h3 h4 (fun i hi9 h9 => h5 i hi9 (h9.imp id (fun z => by omega))) (fun i hi9 hx9 => by rcases Nat.lt_or_eq_of_le (Nat.le_of_lt_succ hi9) with h9 | h9; exact h6 i h9 hx9; rw [h9, hbit] at hx9; cases hx9) hG hS ls (lv_sub hl [0, 1, 2, 3] rfl)
        · have hbit : bt x j = false := (b_test _ (by omega)).mp c_2
          refine lv_aload_n hx hb dX1_goOnFrom_21 rfl (lv_at hl 1 rfl) ?_
          refine g_get hx hb hts hi1 hown hK hG (lay_search) rfl 0 (by decide) (hts (.fieldLink RX1 15 "Satellitering$Search" "sky" "LSatellitering$Sky;") (by decide +kernel)) rfl dX1_goOnFrom_22 ?_
          refine lv_iload_n hx hb dX1_goOnFrom_25 rfl (lv_at hl 2 rfl) ?_
          refine lv_iload_n hx hb dX1_goOnFrom_26 rfl (lv_at hl 0 rfl) ?_
          refine lv_aload_n hx hb dX1_goOnFrom_27 rfl (lv_at hl 1 rfl) ?_
          refine g_get hx hb hts hi1 hown hK hG (lay_search) rfl 1 (by decide) (hts (.fieldLink RX1 9 "Satellitering$Search" "reached" "[I") (by decide +kernel)) rfl dX1_goOnFrom_28 ?_
          refine lv_iload_n hx hb dX1_goOnFrom_31 rfl (lv_at hl 2 rfl) ?_
          refine g_iald hx hb hK hG (lay_reached) (by omega) (by first | decide | omega) dX1_goOnFrom_32 ?_
          refine lv_to (y := nI (R f)) (by rw [(h3 f (by omega)).1, h5 f (by omega) (Or.inl hxf)]) ?_
          refine vp_callSi (W.runV (As := [.int (nI f), .int (nI j), .int (nI (R f))]) (rest := []) ⟨hx, hb, hml, hown, hts⟩ (c_firstContact l (show f < 10 by omega) (show j < 32 by omega) (show R f + 360 < 2 ^ 31 by omega)) (cwV 3 hts gX1_goOnFrom_X2_firstContact rfl rfl rfl (by decide +kernel) ⟨Nat.le_of_ble_eq_true rfl, Nat.le_of_ble_eq_true rfl⟩) (g_preV hF hG hS (lay_sky) rfl) rfl rfl hl.1 rfl (lv_room (Nat.le_of_ble_eq_true rfl)) dX1_goOnFrom_33 ⟨Nat.le_of_ble_eq_true rfl, Nat.le_of_ble_eq_true rfl⟩) (fun r_3 h_4 => ?_)
          refine lv_istore (lv' := [(4, .int r_3), (3, .int (nI j)), (0, .ref (ad (2, 0, 0))), (1, .int (nI f)), (2, .int x)]) hx hb dX1_goOnFrom_36 hl (by decide) rfl (fun ls hl => ?_)
          refine lv_iload hx hb dX1_goOnFrom_38 (lv_at hl 0 rfl) ?_
          refine lv_iconst (v := (-1)) hx hb dX1_goOnFrom_40 (by decide) ?_
          refine lv_icmp_eq (tgt := 67) hx hb dX1_goOnFrom_41 (by decide) (fun c_5 => ?_) (fun c_5 => ?_)
          · have hno : ∀ k, k < 360 → see g f j (R f + k) = false := by
              rcases h_4 with ⟨k9, k1, -, -, k4⟩ | ⟨k1, -⟩
              · rw [k4] at c_5; exact absurd c_5 (nI_m1 (by omega))
              · intro k hk; rw [← hse]; exact k1 k hk
            refine lv_iinc (v := nI (j + 1)) (lv' := [(3, .int (nI (j + 1))), (4, .int r_3), (0, .ref (ad (2, 0, 0))), (1, .int (nI f)), (2, .int x)]) hx hb dX1_goOnFrom_67 hl (k := 1) rfl (nI_add j 1) (by decide) rfl (fun ls hl => ?_)
            refine lv_goto (tgt := 2) hx hb dX1_goOnFrom_70 (by decide) ?_
            exact ih (j + 1) g1 H locs R1 (by omega) (by omega) h3 h4 (fun i hi9 h9 => h5 i hi9 (h9.imp id (fun z => by omega))) (fun i hi9 hx9 => by rcases Nat.lt_or_eq_of_le (Nat.le_of_lt_succ hi9) with h9 | h9; exact h6 i h9 hx9; subst h9; rw [h5 i (by omega) (Or.inr (Nat.le_refl i))]; exact ⟨Nat.le_refl _, (fun k hk hs9 => by rw [hno k hk] at hs9; cases hs9), Or.inl rfl⟩) hG hS ls (lv_sub hl [0, 2, 3, 4] rfl)
          · obtain ⟨k0, k1, k2, k3, k4⟩ : ∃ k0, k0 < 360 ∧ see g f j (R f + k0) = true ∧ (∀ i, i < k0 → see g f j (R f + i) = false) ∧ r_3 = nI (R f + k0) := by
              rcases h_4 with ⟨k9, k1, k2, k3, k4⟩ | ⟨-, k1⟩
              · exact ⟨k9, k1, by rw [← hse]; exact k2, fun i hi9 => by rw [← hse]; exact k3 i hi9, k4⟩
              · exact absurd k1 c_5
            subst k4
            refine lv_iload hx hb dX1_goOnFrom_44 (lv_at hl 0 rfl) ?_
            refine lv_iconst (v := nI 1) hx hb dX1_goOnFrom_46 (by decide) ?_
            refine lv_iadd hx hb dX1_goOnFrom_47 ?_
            refine lv_to (y := nI ((R f + k0) + 1)) (nI_add (R f + k0) 1) ?_
            refine lv_aload_n hx hb dX1_goOnFrom_48 rfl (lv_at hl 2 rfl) ?_
            refine g_get hx hb hts hi1 hown hK hG (lay_search) rfl 1 (by decide) (hts (.fieldLink RX1 9 "Satellitering$Search" "reached" "[I") (by decide +kernel)) rfl dX1_goOnFrom_49 ?_
            refine lv_iload_n hx hb dX1_goOnFrom_52 rfl (lv_at hl 1 rfl) ?_
            refine g_iald hx hb hK hG (lay_reached) (by omega) (by first | decide | omega) dX1_goOnFrom_53 ?_
            refine lv_to (y := nI (R j)) (by rw [(h3 j (by omega)).1, h5 j (by omega) (Or.inr (Nat.le_refl j))]) ?_
            have hleast : ∀ k, k < 360 → see g f j (R f + k) = true → R f + k0 + 1 ≤ R f + k + 1 := fun k hk hs9 => Nat.succ_le_succ (Nat.add_le_add_left (Nat.le_of_not_lt (fun h8 => by rw [k3 k h8] at hs9; cases hs9)) _)
            refine lv_icmp_ge (tgt := 67) hx hb dX1_goOnFrom_54 (by decide) (fun c_6 => ?_) (fun c_6 => ?_)
            · have hle : R j ≤ R f + k0 + 1 := (nI_leI (by omega) (by omega)).mp c_6
              refine lv_iinc (v := nI (j + 1)) (lv' := [(3, .int (nI (j + 1))), (4, .int (nI (R f + k0))), (0, .ref (ad (2, 0, 0))), (1, .int (nI f)), (2, .int x)]) hx hb dX1_goOnFrom_67 hl (k := 1) rfl (nI_add j 1) (by decide) rfl (fun ls hl => ?_)
              refine lv_goto (tgt := 2) hx hb dX1_goOnFrom_70 (by decide) ?_
              exact ih (j + 1) g1 H locs R1 (by omega) (by omega) h3 h4 (fun i hi9 h9 => h5 i hi9 (h9.imp id (fun z => by omega))) (fun i hi9 hx9 => by rcases Nat.lt_or_eq_of_le (Nat.le_of_lt_succ hi9) with h9 | h9; exact h6 i h9 hx9; subst h9; rw [h5 i (by omega) (Or.inr (Nat.le_refl i))]; exact ⟨Nat.le_refl _, fun k hk hs9 => Nat.le_trans hle ((hleast) k hk hs9), Or.inl rfl⟩) hG hS ls (lv_sub hl [0, 2, 3, 4] rfl)
            · have hlt : R f + k0 + 1 < R j := Nat.lt_of_not_le (fun h9 => c_6 ((nI_leI (by omega) (by omega)).mpr h9))
              refine lv_aload_n hx hb dX1_goOnFrom_57 rfl (lv_at hl 2 rfl) ?_
              refine g_get hx hb hts hi1 hown hK hG (lay_search) rfl 1 (by decide) (hts (.fieldLink RX1 9 "Satellitering$Search" "reached" "[I") (by decide +kernel)) rfl dX1_goOnFrom_58 ?_
              refine lv_iload_n hx hb dX1_goOnFrom_61 rfl (lv_at hl 1 rfl) ?_
              refine lv_iload hx hb dX1_goOnFrom_62 (lv_at hl 0 rfl) ?_
              refine lv_iconst (v := nI 1) hx hb dX1_goOnFrom_64 (by decide) ?_
              refine lv_iadd hx hb dX1_goOnFrom_65 ?_
              refine lv_to (y := nI ((R f + k0) + 1)) (nI_add (R f + k0) 1) ?_
              refine o_iast hx hb hK hG hS (cd := (10, 0, 0)) (fun _ => lay_reached) (by omega) (by first | decide | omega) dX1_goOnFrom_66 (fun H locs hG hS => ?_)
              refine lv_iinc (v := nI (j + 1)) (lv' := [(3, .int (nI (j + 1))), (4, .int (nI (R f + k0))), (0, .ref (ad (2, 0, 0))), (1, .int (nI f)), (2, .int x)]) hx hb dX1_goOnFrom_67 hl (k := 1) rfl (nI_add j 1) (by decide) rfl (fun ls hl => ?_)
              refine lv_goto (tgt := 2) hx hb dX1_goOnFrom_70 (by decide) ?_
              refine ih (j + 1) _ _ _ (fun i => if i = j then R f + k0 + 1 else R1 i) (by omega) (by omega) (fun i hi9 => ?_) (fun c hc9 => by rw [g2_ne _ _ _ hc9]; exact h4 c hc9) (fun i hi9 h9 => ?_) (fun i hi9 hx9 => ?_) hG hS ls (lv_sub hl [0, 2, 3, 4] rfl)
              · rw [g2_self]
                by_cases e9 : i = j
                · rw [if_pos e9, e9, upd_self]; exact ⟨rfl, by omega⟩
                · rw [if_neg e9, upd_ne _ _ e9]; exact h3 i hi9
              · by_cases e9 : i = j
                · rcases h9 with h9 | h9
                  · rw [e9, hbit] at h9; cases h9
                  · omega
                · rw [if_neg e9]; exact h5 i hi9 (h9.imp id (fun z => by omega))
              · by_cases e9 : i = j
                · rw [if_pos e9, e9]; exact ⟨Nat.le_of_lt hlt, hleast, Or.inr ⟨k0, k1, k2, rfl⟩⟩
                · rw [if_neg e9]; exact h6 i (by omega) hx9
  exact loop (n + 1) 0 g s.heap [] R (Nat.zero_le n) (by omega) hR (fun _ _ => rfl) (fun _ _ _ => rfl) (fun i hi => absurd hi (Nat.not_lt_zero i)) hG hS ls (lv_sub hl [0, 1, 2, 3] rfl)
end
section
theorem go_ext {g g1 : g_k → Nat → Int32} (h : ∀ c, c ≠ (10, 0, 0) → g1 c = g c) {f i r : Nat} {R : Nat → Nat} (hp : go_P g1 f R i r) : go_P g f R i r := by
  obtain ⟨a1, a2, a3⟩ := hp
  refine ⟨a1, fun k hk hs => a2 k hk (by rw [see_ext h]; exact hs), a3.imp id ?_⟩
  rintro ⟨k, k1, k2, k3⟩
  exact ⟨k, k1, by rw [← see_ext h]; exact k2, k3⟩
theorem b_set {x : Int32} {q i : Nat} (hq : q < 32) (hi : i < 32) : bt (x ||| nI 1 <<< (nI q &&& 31)) i = (bt x i || decide (i = q)) := by rw [b_or, b_bit hq hi]

set_option maxHeartbeats 4000000 in
set_option maxRecDepth 100000 in
theorem c_byContacts (l : Launch) {D : va_G} {C : g_C} {g : g_k → Nat → Int32} {ad ln : g_k → Nat} {ex : g_k → Option va_E} {B : Nat} {n : Nat} (hn : n ≤ 10) (hc : g (1, 0, 0) 4 = nI n) {a b t : Nat} (ha : a < n) (hb9 : b < n) (ht : t < 2 ^ 29) : Met l yX1_byContacts wsX1_byContacts ({ frames := 4, cells := 0, slots := 0, locals := 93 } : Room) (va_Pc [.ref (ad (2, 0, 0)), .int (nI a), .int (nI b), .int (nI t)] (g_S D C (lay C g ad ln ex) ad B)) (va_Qi (fun (r : Int32) (g1 : g_k → Nat → Int32) => arr_P g n a t b r ∧ ∀ c, c ≠ (10, 0, 0) → g1 c = g c) (fun g1 t => g_P D (lay C g1 ad ln ex) ad B t.heap) (g_A B)) 0 0 (g_A B) := by
  refine Met.ofW (cc := cX1_byContacts) (maxL := 8) (ret := (some .int)) (by decide) rfl ?_
  intro p e s m args below meth c s₁ B₀ hml hv
  obtain ⟨rfl, hG, hF⟩ := hv
  have hK := hF.1
  have hN := hF.2.1
  have hB := hF.2.2.2
  have hx := B₀.exec
  have hb := B₀.bytes
  have hr := B₀.returns
  have hts := atoms_spec (ws := wsX1_byContacts) B₀.pre
  have hown : s.vm.findClass RX1 = some m.cls := findClass_of_methodNamed B₀.named
  have hlocks := B₀.notSynchronized
  have hS : va_S (g_A B) s.heap s.heap [] := va_S.rf
  have hi1 : ∀ w ∈ wsX10, w ∈ wsX1_byContacts := by decide +kernel
  have hi2 : ∀ w ∈ wsX20, w ∈ wsX1_byContacts := by decide +kernel
  have hl := lv_entry [.ref (ad (2, 0, 0)), .int (nI a), .int (nI b), .int (nI t)] (n := 8) (Nat.le_of_ble_eq_true rfl)
  rw [lg_entry_eq]
  generalize (lg_sl [.ref (ad (2, 0, 0)), .int (nI a), .int (nI b), .int (nI t)] ++ List.replicate (8 - (lg_sl [.ref (ad (2, 0, 0)), .int (nI a), .int (nI b), .int (nI t)]).length) Slot.unset).toArray = ls at hl ⊢
  have hl : lv_has ls 8 [(0, .ref (ad (2, 0, 0))), (1, .int (nI a)), (2, .int (nI b)), (3, .int (nI t))] := hl
  refine lv_iload_n hx hb dX1_byContacts_0 rfl (lv_at hl 3 rfl) ?_
  refine lv_sipush (v := nI 400) hx hb dX1_byContacts_1 (by decide) ?_
  refine lv_iadd hx hb dX1_byContacts_4 ?_
  refine lv_to (y := nI (t + 400)) (nI_add t 400) ?_
  refine lv_iconst (v := nI 1) hx hb dX1_byContacts_5 (by decide) ?_
  refine lv_iadd hx hb dX1_byContacts_6 ?_
  refine lv_to (y := nI ((t + 400) + 1)) (nI_add (t + 400) 1) ?_
  refine lv_to (y := nI (t + 401)) (rfl) ?_
  refine lv_istore (lv' := [(4, .int (nI (t + 401))), (0, .ref (ad (2, 0, 0))), (1, .int (nI a)), (2, .int (nI b)), (3, .int (nI t))]) hx hb dX1_byContacts_7 hl (by decide) rfl (fun ls hl => ?_)
  refine lv_aload_n hx hb dX1_byContacts_9 rfl (lv_at hl 1 rfl) ?_
  refine g_get hx hb hts hi1 hown hK hG (lay_search) rfl 1 (by decide) (hts (.fieldLink RX1 9 "Satellitering$Search" "reached" "[I") (by decide +kernel)) rfl dX1_byContacts_10 ?_
  refine lv_iload hx hb dX1_byContacts_13 (lv_at hl 0 rfl) ?_
  refine va_callv (va_runS (As := [.ref (ad (10, 0, 0)), .int (nI (t + 401))]) (rest := []) ⟨hx, hb, hml, hown, hts⟩ (c_fill l (cd := (10, 0, 0)) (n := 10) (fun _ => lay_reached) (by decide)) (va_cwS 2 hts gX1_byContacts_J7_fill_53178 rfl rfl rfl (by decide +kernel) ⟨Nat.le_of_ble_eq_true rfl, Nat.le_of_ble_eq_true rfl⟩) (g_preS hF hG hS) rfl rfl hl.1 rfl (lv_room (Nat.le_of_ble_eq_true rfl)) dX1_byContacts_15 ⟨Nat.le_of_ble_eq_true rfl, Nat.le_of_ble_eq_true rfl⟩) hS (fun q _ h => h) (fun q h => h) (fun g_3 t9 H locs ht9 _ h_2 hB1 _ _ hS => ?_)
  have hG : g_P D (lay C g_3 ad ln ex) ad B H := by rw [← ht9]; exact hB1
  refine lv_aload_n hx hb dX1_byContacts_18 rfl (lv_at hl 1 rfl) ?_
  refine g_get hx hb hts hi1 hown hK hG (lay_search) rfl 1 (by decide) (hts (.fieldLink RX1 9 "Satellitering$Search" "reached" "[I") (by decide +kernel)) rfl dX1_byContacts_19 ?_
  refine lv_iload_n hx hb dX1_byContacts_22 rfl (lv_at hl 2 rfl) ?_
  refine lv_iload_n hx hb dX1_byContacts_23 rfl (lv_at hl 4 rfl) ?_
  refine o_iast hx hb hK hG hS (cd := (10, 0, 0)) (fun _ => lay_reached) (by omega) (by first | decide | omega) dX1_byContacts_24 (fun H locs hG hS => ?_)
  refine lv_iconst (v := nI 0) hx hb dX1_byContacts_25 (by decide) ?_
  refine lv_istore (lv' := [(5, .int (nI 0)), (4, .int (nI (t + 401))), (0, .ref (ad (2, 0, 0))), (1, .int (nI a)), (2, .int (nI b)), (3, .int (nI t))]) hx hb dX1_byContacts_26 hl (by decide) rfl (fun ls hl => ?_)
  refine lv_iconst (v := nI 0) hx hb dX1_byContacts_28 (by decide) ?_
  refine lv_istore (lv' := [(6, .int (nI 0)), (5, .int (nI 0)), (4, .int (nI (t + 401))), (0, .ref (ad (2, 0, 0))), (1, .int (nI a)), (2, .int (nI b)), (3, .int (nI t))]) hx hb dX1_byContacts_29 hl (by decide) rfl (fun ls hl => ?_)
  have fin : ∀ (g1 : g_k → Nat → Int32) (H : Heap) (locs : List Loc) (x : Int32) (R : Nat → Nat), (∀ j, j < 10 → g1 (10, 0, 0) j = nI (R j) ∧ R j ≤ t + 401) → (∀ c, c ≠ (10, 0, 0) → g1 c = g c) → dj g n a t x R → (bt x b = true ∨ ∀ k, k ≤ 400 → fl g n a t k b → R b ≤ t + k) → g_P D (lay C g1 ad ln ex) ad B H → va_S (g_A B) s.heap H locs → ∀ ls, lv_has ls 8 [(4, .int (nI (t + 401))), (0, .ref (ad (2, 0, 0))), (2, .int (nI b))] → W p l e (headSpec wsX1_byContacts ({ frames := 4, cells := 0, slots := 0, locals := 93 } : Room)).room s m ([.ref (ad (2, 0, 0)), .int (nI a), .int (nI b), .int (nI t)]).toArray below meth c H locs 0 0 (MQ below (va_Qi (fun (r : Int32) (g1 : g_k → Nat → Int32) => arr_P g n a t b r ∧ ∀ c, c ≠ (10, 0, 0) → g1 c = g c) (fun g1 t => g_P D (lay C g1 ad ln ex) ad B t.heap) (g_A B)) ([.ref (ad (2, 0, 0)), .int (nI a), .int (nI b), .int (nI t)]).toArray s 0 0 (g_A B)) (F0 m 91 ls []) := by
    intro g1 H locs x R h1 h2 h3 h4 hG hS ls hl
    have hRb := (h1 b (by omega)).2
    have hend := dj_end (by omega) ha hb9 h3 h4
    refine lv_aload_n hx hb dX1_byContacts_91 rfl (lv_at hl 1 rfl) ?_
    refine g_get hx hb hts hi1 hown hK hG (lay_search) rfl 1 (by decide) (hts (.fieldLink RX1 9 "Satellitering$Search" "reached" "[I") (by decide +kernel)) rfl dX1_byContacts_92 ?_
    refine lv_iload_n hx hb dX1_byContacts_95 rfl (lv_at hl 2 rfl) ?_
    refine g_iald hx hb hK hG (lay_reached) (by omega) (by first | decide | omega) dX1_byContacts_96 ?_
    refine lv_to (y := nI (R b)) ((h1 b (by omega)).1) ?_
    refine lv_iload hx hb dX1_byContacts_97 (lv_at hl 0 rfl) ?_
    refine lv_icmp_ge (tgt := 111) hx hb dX1_byContacts_99 (by decide) (fun c_4 => ?_) (fun c_4 => ?_)
    · have hle : t + 401 ≤ R b := (nI_leI (by omega) (by omega)).mp c_4
      refine lv_iconst (v := (-1)) hx hb dX1_byContacts_111 (by decide) ?_
      exact W.iret (v := (-1)) hx hb hr (fun t9 ht9 hW9 => ⟨⟨_, _, rfl, ⟨by rcases hend with ⟨z, -⟩ | ⟨-, z⟩; omega; exact Or.inr ⟨z, rfl⟩, h2⟩, by show g_P _ _ _ _ t9.heap; rw [ht9]; exact hG⟩, hS.F ht9⟩) hS.2.2 dX1_byContacts_112
    · have hlt : R b < t + 401 := Nat.lt_of_not_le (fun h9 => c_4 ((nI_leI (by omega) (by omega)).mpr h9))
      refine lv_aload_n hx hb dX1_byContacts_102 rfl (lv_at hl 1 rfl) ?_
      refine g_get hx hb hts hi1 hown hK hG (lay_search) rfl 1 (by decide) (hts (.fieldLink RX1 9 "Satellitering$Search" "reached" "[I") (by decide +kernel)) rfl dX1_byContacts_103 ?_
      refine lv_iload_n hx hb dX1_byContacts_106 rfl (lv_at hl 2 rfl) ?_
      refine g_iald hx hb hK hG (lay_reached) (by omega) (by first | decide | omega) dX1_byContacts_107 ?_
      refine lv_to (y := nI (R b)) ((h1 b (by omega)).1) ?_
      refine lv_goto (tgt := 112) hx hb dX1_byContacts_108 (by decide) ?_
      exact W.iret (v := nI (R b)) hx hb hr (fun t9 ht9 hW9 => ⟨⟨_, _, rfl, ⟨by rcases hend with ⟨-, k, k1, k2, k3, k4⟩ | ⟨z, -⟩; exact Or.inl ⟨k, k1, k2, k3, by rw [k4]⟩; omega, h2⟩, by show g_P _ _ _ _ t9.heap; rw [ht9]; exact hG⟩, hS.F ht9⟩) hS.2.2 dX1_byContacts_112
  have loop : ∀ (k i : Nat) (g1 : g_k → Nat → Int32) (H : Heap) (locs : List Loc) (x : Int32) (R : Nat → Nat), i ≤ n → n < i + k → (∀ j, j < 10 → g1 (10, 0, 0) j = nI (R j) ∧ R j ≤ t + 401) → (∀ c, c ≠ (10, 0, 0) → g1 c = g c) → dj g n a t x R → b_cnt x n = i → g_P D (lay C g1 ad ln ex) ad B H → va_S (g_A B) s.heap H locs → ∀ ls, lv_has ls 8 [(6, .int (nI i)), (5, .int x), (4, .int (nI (t + 401))), (0, .ref (ad (2, 0, 0))), (1, .int (nI a)), (2, .int (nI b)), (3, .int (nI t))] → W p l e (headSpec wsX1_byContacts ({ frames := 4, cells := 0, slots := 0, locals := 93 } : Room)).room s m ([.ref (ad (2, 0, 0)), .int (nI a), .int (nI b), .int (nI t)]).toArray below meth c H locs 0 0 (MQ below (va_Qi (fun (r : Int32) (g1 : g_k → Nat → Int32) => arr_P g n a t b r ∧ ∀ c, c ≠ (10, 0, 0) → g1 c = g c) (fun g1 t => g_P D (lay C g1 ad ln ex) ad B t.heap) (g_A B)) ([.ref (ad (2, 0, 0)), .int (nI a), .int (nI b), .int (nI t)]).toArray s 0 0 (g_A B)) (F0 m 31 ls []) := by
    intro k
    induction k with
    | zero => intro i g1 H locs x R h1 h2; exact absurd h2 (by omega)
    | succ k ih =>
      intro i g1 H locs x R h1 h2 h3 h4 h5 h6 hG hS ls hl
      refine lv_iload hx hb dX1_byContacts_31 (lv_at hl 0 rfl) ?_
      refine lv_aload_n hx hb dX1_byContacts_33 rfl (lv_at hl 3 rfl) ?_
      refine g_get hx hb hts hi1 hown hK hG (lay_search) rfl 0 (by decide) (hts (.fieldLink RX1 15 "Satellitering$Search" "sky" "LSatellitering$Sky;") (by decide +kernel)) rfl dX1_byContacts_34 ?_
      refine g_getN hx hb hts hi2 hown hK hG (lay_sky) rfl 4 (by decide) (va_Nw.use rfl hN.2.2.2.2.2.2.2.2.2.2.2.1) rfl dX1_byContacts_37 ?_
      refine lv_to (y := nI n) (by rw [h4 _ (by decide)]; exact hc) ?_
      refine lv_icmp_ge (tgt := 91) hx hb dX1_byContacts_40 (by decide) (fun c_5 => ?_) (fun c_5 => ?_)
      · have hi : i = n := by have := (nI_leI (by omega) (by omega)).mp c_5; omega
        exact fin g1 H locs x R h3 h4 h5 (Or.inl (b_cnt_all x n (by rw [h6, hi]) b hb9)) hG hS ls (lv_sub hl [2, 3, 5] rfl)
      · have hi : i < n := Nat.lt_of_not_le (fun h9 => c_5 ((nI_leI (by omega) (by omega)).mpr h9))
        refine lv_aload_n hx hb dX1_byContacts_43 rfl (lv_at hl 3 rfl) ?_
        refine lv_iload hx hb dX1_byContacts_44 (lv_at hl 1 rfl) ?_
        refine lv_iload hx hb dX1_byContacts_46 (lv_at hl 2 rfl) ?_
        have hc1 : g1 (1, 0, 0) 4 = nI n := by rw [h4 _ (by decide)]; exact hc
        refine vp_callSi (W.runV (As := [.int x, .int (nI (t + 401))]) (rest := []) ⟨hx, hb, hml, hown, hts⟩ (c_earliestReached l hn hc1 (x := x) (R := R) (T := t + 401) h3 (by omega)) (cwV 2 hts gX1_byContacts_X1_earliestReached rfl rfl rfl (by decide +kernel) ⟨Nat.le_of_ble_eq_true rfl, Nat.le_of_ble_eq_true rfl⟩) (g_preV hF hG hS (lay_search) rfl) rfl rfl hl.1 rfl (lv_room (Nat.le_of_ble_eq_true rfl)) dX1_byContacts_48 ⟨Nat.le_of_ble_eq_true rfl, Nat.le_of_ble_eq_true rfl⟩) (fun r_6 h_7 => ?_)
        refine lv_istore (lv' := [(7, .int r_6), (6, .int (nI i)), (5, .int x), (4, .int (nI (t + 401))), (0, .ref (ad (2, 0, 0))), (1, .int (nI a)), (2, .int (nI b)), (3, .int (nI t))]) hx hb dX1_byContacts_51 hl (by decide) rfl (fun ls hl => ?_)
        refine lv_iload hx hb dX1_byContacts_53 (lv_at hl 0 rfl) ?_
        refine lv_iconst (v := (-1)) hx hb dX1_byContacts_55 (by decide) ?_
        refine lv_icmp_eq (tgt := 91) hx hb dX1_byContacts_56 (by decide) (fun c_8 => ?_) (fun c_8 => ?_)
        · have hall : ∀ j, j < n → bt x j = false → t + 401 ≤ R j := by
            rcases h_7 with ⟨-, z⟩ | ⟨q, z1, z2, -⟩
            · exact z
            · rw [z2] at c_8; exact absurd c_8 (nI_m1 (by omega))
          exact fin g1 H locs x R h3 h4 h5 (by by_cases hxb : bt x b = true; exact Or.inl hxb; exact Or.inr (fun k hk hf => absurd hf (dj_key (by omega) ha h5 (Nat.le_refl _) hall k (by omega) b hb9 (eq_false_of_ne_true hxb)))) hG hS ls (lv_sub hl [3, 4, 6] rfl)
        · obtain ⟨q, q1, q2, q3, q4, q5⟩ : ∃ q, q < n ∧ r_6 = nI q ∧ bt x q = false ∧ R q < t + 401 ∧ ∀ j, j < n → bt x j = false → R q ≤ R j := by
            rcases h_7 with ⟨z, -⟩ | z
            · exact absurd z c_8
            · exact z
          subst q2
          refine lv_iload hx hb dX1_byContacts_59 (lv_at hl 0 rfl) ?_
          refine lv_iload_n hx hb dX1_byContacts_61 rfl (lv_at hl 6 rfl) ?_
          refine lv_icmp_ne (tgt := 68) hx hb dX1_byContacts_62 (by decide) (fun c_9 => ?_) (fun c_9 => ?_)
          · refine lv_iload hx hb dX1_byContacts_68 (lv_at hl 2 rfl) ?_
            refine lv_iconst (v := nI 1) hx hb dX1_byContacts_70 (by decide) ?_
            refine lv_iload hx hb dX1_byContacts_71 (lv_at hl 0 rfl) ?_
            refine lv_ishl hx hb dX1_byContacts_73 ?_
            refine lv_ior hx hb dX1_byContacts_74 ?_
            refine lv_istore (lv' := [(5, .int (x ||| ((nI 1) <<< ((nI q) &&& 31)))), (7, .int (nI q)), (6, .int (nI i)), (4, .int (nI (t + 401))), (0, .ref (ad (2, 0, 0))), (1, .int (nI a)), (2, .int (nI b)), (3, .int (nI t))]) hx hb dX1_byContacts_75 hl (by decide) rfl (fun ls hl => ?_)
            refine lv_aload_n hx hb dX1_byContacts_77 rfl (lv_at hl 4 rfl) ?_
            refine lv_iload hx hb dX1_byContacts_78 (lv_at hl 1 rfl) ?_
            refine lv_iload hx hb dX1_byContacts_80 (lv_at hl 0 rfl) ?_
            have hyb : ∀ v, v < n → bt (x ||| ((nI 1) <<< ((nI q) &&& 31))) v = (bt x v || decide (v = q)) := fun v hv => b_set (by omega) (by omega)
            refine va_callv (va_runV (As := [.int (nI q), .int (x ||| ((nI 1) <<< ((nI q) &&& 31)))]) (rest := []) ⟨hx, hb, hml, hown, hts⟩ (c_goOnFrom l hn hc1 q1 (x := x ||| ((nI 1) <<< ((nI q) &&& 31))) (by rw [hyb q q1]; simp) (R := R) (T := t + 401) h3 (by omega)) (cwV 2 hts gX1_byContacts_X1_goOnFrom rfl rfl rfl (by decide +kernel) ⟨Nat.le_of_ble_eq_true rfl, Nat.le_of_ble_eq_true rfl⟩) (g_preV hF hG hS (lay_search) rfl) rfl rfl hl.1 rfl (lv_room (Nat.le_of_ble_eq_true rfl)) dX1_byContacts_82 ⟨Nat.le_of_ble_eq_true rfl, Nat.le_of_ble_eq_true rfl⟩) hS (fun q _ h => h) (fun q h => h) (fun g_12 t9 H locs ht9 _ h_11 hB1 _ _ hS => ?_)
            have hG : g_P D (lay C g_12 ad ln ex) ad B H := by rw [← ht9]; exact hB1
            obtain ⟨R1, a1, a2, a3, a4⟩ := h_11
            refine lv_iinc (v := nI (i + 1)) (lv' := [(6, .int (nI (i + 1))), (5, .int (x ||| ((nI 1) <<< ((nI q) &&& 31)))), (7, .int (nI q)), (4, .int (nI (t + 401))), (0, .ref (ad (2, 0, 0))), (1, .int (nI a)), (2, .int (nI b)), (3, .int (nI t))]) hx hb dX1_byContacts_85 hl (k := 2) rfl (nI_add i 1) (by decide) rfl (fun ls hl => ?_)
            refine lv_goto (tgt := 31) hx hb dX1_byContacts_88 (by decide) ?_
            exact ih (i + 1) g_12 H locs (x ||| ((nI 1) <<< ((nI q) &&& 31))) R1 (by omega) (by omega) a1 (fun c hc9 => by rw [a2 c hc9]; exact h4 c hc9) (dj_go (by omega) ha h5 q1 q3 (by omega) q5 hyb (fun v hv hv9 => a3 v (by omega) (Or.inl hv9)) (fun v hv hv9 => go_ext h4 (a4 v hv hv9))) (by rw [b_cnt_add q3 n (fun v hv => hyb v hv), h6, if_pos q1]) hG hS ls (lv_sub hl [0, 1, 3, 4, 5, 6, 7] rfl)
          · have hqb : q = b := (nI_eq (by omega) (by omega)).mp c_9
            subst hqb
            refine lv_goto (tgt := 91) hx hb dX1_byContacts_65 (by decide) ?_
            exact fin g1 H locs x R h3 h4 h5 (Or.inr (fun k hk hf => by rcases Nat.lt_or_ge (t + k) (R q) with z | z; exact absurd hf (dj_key (by omega) ha h5 (m := R q) (by omega) q5 k z q q1 q3); exact z)) hG hS ls (lv_sub hl [3, 4, 6] rfl)
  refine loop (n + 1) 0 _ _ _ (nI 0) (fun i => if i = a then t else t + 401) (Nat.zero_le n) (by omega) (fun j hj => ?_) (fun c hc9 => by rw [g2_ne _ _ _ hc9]; exact h_2.1 c hc9) (dj_0 (by omega) ha (fun v _ => rfl)) ?_ hG hS ls (lv_sub hl [0, 1, 2, 3, 4, 5, 6] rfl)
  · rw [g2_self]
    by_cases e9 : j = a
    · rw [if_pos e9, e9, upd_self]; exact ⟨rfl, by omega⟩
    · rw [if_neg e9, upd_ne _ _ e9]; exact ⟨h_2.2 j hj, Nat.le_refl _⟩
  · have hz : ∀ m, b_cnt (nI 0) m = 0 := fun m => by
      induction m with
      | zero => rfl
      | succ m ih => rw [b_cnt, ih, nI_0, b_0]; rfl
    exact hz n
end
section
/-- a contract of a method for which the machine has no row of its own, whatever its class is called -/
theorem g_ofWF {l : Launch} {y : MethodName} {ws ws' : List Cond} {rm : Room} {Pc : Array Value → State → Prop} {Qc : Array Value → State → Outcome → State → Prop} {mc ms : Nat} {free : Addr → Prop} {cc : ByteArray} {maxL : Nat} {ret : Option FieldType} (hy : plainFor y = true) (hw : ws = Cond.code y cc maxL ret :: ws')
    (body : ∀ p e s m args below meth c s₁, BodyLoose p l y (headSpec ws rm) cc maxL ret e s m args below meth c s₁ → c.maxLocals = maxL → Pc args s → W p l e (headSpec ws rm).room s m args below meth c s.heap [] 0 0 (MQ below Qc args s mc ms free) (entryFrame m args maxL)) : Met l y ws rm Pc Qc mc ms free := by
  refine MetFree.of_bodySF (code := cc) (maxLocals := maxL) (ret := ret) hy ?_ ?_
  · intro args s m h hn
    obtain ⟨meth, c, h1, h2, h3, h4, h5, h6, -, -⟩ := Cond.code_spec hn (atoms_spec (ws := ws) h _ (by rw [hw]; exact List.mem_cons_self))
    exact ⟨meth, c, h1, h2, h3, h4, h5, h6⟩
  · intro p e s m args below meth c s₁ B hml hP _
    have hh0 : s₁.heap = s.heap := by rw [B.state]; rfl
    obtain ⟨t, a1, o, b1, b2, b3⟩ := body p e s m args below meth c s₁ B hml hP s₁ hh0 (Stand.of_body B)
    exact ⟨t, o, a1, b1, b2, ⟨b3.1, b3.2⟩⟩

theorem n_xor (a b : Nat) : nI a ^^^ nI b = nI (a ^^^ b) := by
  apply Int32.toBitVec_inj.1
  show BitVec.ofNat 32 a ^^^ BitVec.ofNat 32 b = BitVec.ofNat 32 (a ^^^ b)
  apply BitVec.eq_of_getLsbD_eq
  intro i hi
  simp [hi]

set_option maxHeartbeats 4000000 in
set_option maxRecDepth 100000 in
theorem c_commonReach (l : Launch) {D : va_G} {C : g_C} {g : g_k → Nat → Int32} {ad ln : g_k → Nat} {ex : g_k → Option va_E} {B : Nat} {a b : Nat} (ha : a < 10) (hb9 : b < 10) : Met l yX2_commonReach wsX2_commonReach ({ frames := 1, cells := 0, slots := 0, locals := 21 } : Room) (va_Pc [.ref (ad (1, 0, 0)), .int (nI a), .int (nI b)] (g_S D C (lay C g ad ln ex) ad B)) (vp_Si (fun r => g (8, 0, 0) a = -1 → g (8, 0, 0) b = -1 → r = -1)) 0 0 (fun _ => False) := by
  refine Met.ofW (cc := cX2_commonReach) (maxL := 3) (ret := (some .int)) (by decide) rfl ?_
  intro p e s m args below meth c s₁ B₀ hml hv
  obtain ⟨rfl, hG, hF⟩ := hv
  have hK := hF.1
  have hN := hF.2.1
  have hB := hF.2.2.2
  have hx := B₀.exec
  have hb := B₀.bytes
  have hr := B₀.returns
  have hts := atoms_spec (ws := wsX2_commonReach) B₀.pre
  have hown : s.vm.findClass RX2 = some m.cls := findClass_of_methodNamed B₀.named
  have hlocks := B₀.notSynchronized
  have hS : va_S (g_A B) s.heap s.heap [] := va_S.rf
  have hi2 : ∀ w ∈ wsX20, w ∈ wsX2_commonReach := by decide +kernel
  have hl := lv_entry [.ref (ad (1, 0, 0)), .int (nI a), .int (nI b)] (n := 3) (Nat.le_of_ble_eq_true rfl)
  rw [lg_entry_eq]
  generalize (lg_sl [.ref (ad (1, 0, 0)), .int (nI a), .int (nI b)] ++ List.replicate (3 - (lg_sl [.ref (ad (1, 0, 0)), .int (nI a), .int (nI b)]).length) Slot.unset).toArray = ls at hl ⊢
  have hl : lv_has ls 3 [(0, .ref (ad (1, 0, 0))), (1, .int (nI a)), (2, .int (nI b))] := hl
  refine lv_aload_n hx hb dX2_commonReach_0 rfl (lv_at hl 0 rfl) ?_
  refine g_get hx hb hts hi2 hown hK hG (lay_sky) rfl 2 (by decide) (hts (.fieldLink RX2 18 "Satellitering$Sky" "reaches" "[I") (by decide +kernel)) rfl dX2_commonReach_1 ?_
  refine lv_iload_n hx hb dX2_commonReach_4 rfl (lv_at hl 1 rfl) ?_
  refine g_iald hx hb hK hG (lay_reaches) (ha) (by first | decide | omega) dX2_commonReach_5 ?_
  refine lv_iconst (v := (-1)) hx hb dX2_commonReach_6 (by decide) ?_
  refine lv_icmp_ne (tgt := 17) hx hb dX2_commonReach_7 (by decide) (fun c_1 => ?_) (fun c_1 => ?_)
  · refine lv_aload_n hx hb dX2_commonReach_17 rfl (lv_at hl 0 rfl) ?_
    refine g_get hx hb hts hi2 hown hK hG (lay_sky) rfl 2 (by decide) (hts (.fieldLink RX2 18 "Satellitering$Sky" "reaches" "[I") (by decide +kernel)) rfl dX2_commonReach_18 ?_
    refine lv_iload_n hx hb dX2_commonReach_21 rfl (lv_at hl 2 rfl) ?_
    refine g_iald hx hb hK hG (lay_reaches) (hb9) (by first | decide | omega) dX2_commonReach_22 ?_
    refine lv_iconst (v := (-1)) hx hb dX2_commonReach_23 (by decide) ?_
    refine lv_icmp_ne (tgt := 34) hx hb dX2_commonReach_24 (by decide) (fun c_2 => ?_) (fun c_2 => ?_)
    · refine lv_aload_n hx hb dX2_commonReach_34 rfl (lv_at hl 0 rfl) ?_
      refine g_get hx hb hts hi2 hown hK hG (lay_sky) rfl 2 (by decide) (hts (.fieldLink RX2 18 "Satellitering$Sky" "reaches" "[I") (by decide +kernel)) rfl dX2_commonReach_35 ?_
      refine lv_iload_n hx hb dX2_commonReach_38 rfl (lv_at hl 1 rfl) ?_
      refine g_iald hx hb hK hG (lay_reaches) (ha) (by first | decide | omega) dX2_commonReach_39 ?_
      refine lv_aload_n hx hb dX2_commonReach_40 rfl (lv_at hl 0 rfl) ?_
      refine g_get hx hb hts hi2 hown hK hG (lay_sky) rfl 2 (by decide) (hts (.fieldLink RX2 18 "Satellitering$Sky" "reaches" "[I") (by decide +kernel)) rfl dX2_commonReach_41 ?_
      refine lv_iload_n hx hb dX2_commonReach_44 rfl (lv_at hl 2 rfl) ?_
      refine g_iald hx hb hK hG (lay_reaches) (hb9) (by first | decide | omega) dX2_commonReach_45 ?_
      refine va_mmin hx hb (hml.trans hl.1.symm) hown (hts (.methodLink RX2 44 Lib.Math.min.name) (by decide +kernel)) (hts (.static Lib.Math.min.name) (by decide +kernel)) (hts (.initialized "java/lang/Math") (by decide +kernel)) (hts (.code Lib.Math.min.name Lib.Math.min.code 2 (some .int)) (by decide +kernel)) (Nat.le_of_ble_eq_true rfl) (Nat.le_of_ble_eq_true rfl) (Nat.le_of_ble_eq_true rfl) (Nat.le_of_ble_eq_true rfl) dX2_commonReach_46 ?_
      refine lv_topi (fun r_3 er_3 => ?_)
      exact W.iret (v := r_3) hx hb hr (fun t9 ht9 hW9 => ⟨_, rfl, fun z1 _ => absurd z1 c_1, ht9⟩) (fun q h => nomatch h) dX2_commonReach_49
    · refine lv_aload_n hx hb dX2_commonReach_27 rfl (lv_at hl 0 rfl) ?_
      refine g_get hx hb hts hi2 hown hK hG (lay_sky) rfl 2 (by decide) (hts (.fieldLink RX2 18 "Satellitering$Sky" "reaches" "[I") (by decide +kernel)) rfl dX2_commonReach_28 ?_
      refine lv_iload_n hx hb dX2_commonReach_31 rfl (lv_at hl 1 rfl) ?_
      refine g_iald hx hb hK hG (lay_reaches) (ha) (by first | decide | omega) dX2_commonReach_32 ?_
      exact W.iret (v := g (8, 0, 0) a) hx hb hr (fun t9 ht9 hW9 => ⟨_, rfl, fun z1 _ => absurd z1 c_1, ht9⟩) (fun q h => nomatch h) dX2_commonReach_33
  · refine lv_aload_n hx hb dX2_commonReach_10 rfl (lv_at hl 0 rfl) ?_
    refine g_get hx hb hts hi2 hown hK hG (lay_sky) rfl 2 (by decide) (hts (.fieldLink RX2 18 "Satellitering$Sky" "reaches" "[I") (by decide +kernel)) rfl dX2_commonReach_11 ?_
    refine lv_iload_n hx hb dX2_commonReach_14 rfl (lv_at hl 2 rfl) ?_
    refine g_iald hx hb hK hG (lay_reaches) (hb9) (by first | decide | omega) dX2_commonReach_15 ?_
    exact W.iret (v := g (8, 0, 0) b) hx hb hr (fun t9 ht9 hW9 => ⟨_, rfl, fun _ z2 => z2, ht9⟩) (fun q h => nomatch h) dX2_commonReach_16

theorem n_dist {p q : Nat} (hp : p < 360) (hq : q < 360) {s r : Int32} (es : (if 0 ≤ nI p - nI q then nI p - nI q else 0 - (nI p - nI q)) = s) (er : (if nI 360 - s < s then nI 360 - s else s) = r) : 0 ≤ r := by
  have h1 : (nI p - nI q).toInt = (p : Int) - q := pk_sub_toInt (by omega) (by omega)
  have h0 : (0 : Int32).toInt = 0 := by decide
  have h3 : (nI 360).toInt = 360 := by decide
  have hs : 0 ≤ s.toInt ∧ s.toInt < 360 := by
    rw [← es]
    by_cases c : 0 ≤ nI p - nI q
    · rw [if_pos c]; rw [Int32.le_iff_toInt_le, h0, h1] at c; rw [h1]; omega
    · rw [if_neg c]; rw [Int32.le_iff_toInt_le, h0, h1] at c
      rw [Int32.toInt_sub, h0, h1, Int.bmod_eq_of_le (by omega) (by omega)]; omega
  have h4 : (nI 360 - s).toInt = 360 - s.toInt := by rw [Int32.toInt_sub, h3, Int.bmod_eq_of_le (by omega) (by omega)]
  rw [← er, Int32.le_iff_toInt_le, h0]
  by_cases c : nI 360 - s < s
  · rw [if_pos c, h4]; omega
  · rw [if_neg c]; omega
theorem n_tdI (x : Int) : (x.tdiv 360 = x / 360 ∧ x.tmod 360 = x % 360 ∧ 0 ≤ x) ∨ (x.tdiv 360 = -((-x) / 360) ∧ x.tmod 360 = -((-x) % 360) ∧ x < 0) := by
  by_cases h : 0 ≤ x
  · exact Or.inl ⟨Int.tdiv_eq_ediv_of_nonneg h, Int.tmod_eq_emod_of_nonneg h, h⟩
  · have e : x = -(-x) := by omega
    refine Or.inr ⟨?_, ?_, by omega⟩
    · rw [← Int.tdiv_eq_ediv_of_nonneg (by omega : 0 ≤ -x), Int.neg_tdiv, Int.neg_neg]
    · rw [← Int.tmod_eq_emod_of_nonneg (by omega : 0 ≤ -x), Int.neg_tmod, Int.neg_neg]
theorem n_tmod (x : Int32) : (x - x / nI 360 * nI 360).toInt = x.toInt.tmod 360 := by
  have h3 : (nI 360).toInt = 360 := by decide
  have hl := Int32.le_toInt x
  have hu := Int32.toInt_lt x
  have td := n_tdI x.toInt
  have e1 : (x / nI 360).toInt = x.toInt.tdiv 360 := by
    rw [Int32.toInt_div, h3]
    exact Int.bmod_eq_of_le (by omega) (by omega)
  have e2 : (x / nI 360 * nI 360).toInt = x.toInt.tdiv 360 * 360 := by
    rw [Int32.toInt_mul, h3, e1]
    exact Int.bmod_eq_of_le (by omega) (by omega)
  rw [Int32.toInt_sub, e2, Int.bmod_eq_of_le (by omega) (by omega)]
  omega
theorem n_floor (x r : Int32) (h : (0 ≤ x ^^^ nI 360 ∧ r = x - x / nI 360 * nI 360) ∨ (¬ 0 ≤ x ^^^ nI 360 ∧ x - x / nI 360 * nI 360 = 0 ∧ r = x - x / nI 360 * nI 360) ∨ (¬ 0 ≤ x ^^^ nI 360 ∧ x - x / nI 360 * nI 360 ≠ 0 ∧ r = x - x / nI 360 * nI 360 + nI 360)) : ∃ p, p < 360 ∧ r = nI p := by
  have ht := n_tmod x
  have td := n_tdI x.toInt
  generalize x - x / nI 360 * nI 360 = y at h ht
  have h0 : (0 : Int32).toInt = 0 := by decide
  have h3 : (nI 360).toInt = 360 := by decide
  have sgn : ∀ z : Int32, (0 ≤ z) ↔ z.toBitVec.msb = false := fun z => by
    rw [Int32.le_iff_toInt_le, h0]
    show 0 ≤ z.toBitVec.toInt ↔ _
    rw [BitVec.msb_eq_toInt]
    simp
  have sx : (0 ≤ x ^^^ nI 360) ↔ 0 ≤ x.toInt := by
    rw [sgn, ← h0, ← Int32.le_iff_toInt_le, sgn, Int32.toBitVec_xor, BitVec.msb_xor, show (nI 360).toBitVec.msb = false by decide]
    simp
  rcases h with ⟨a1, rfl⟩ | ⟨_, a2, rfl⟩ | ⟨a1, a2, rfl⟩
  · rw [sx] at a1
    exact ⟨r.toInt.toNat, by omega, Int32.toInt_inj.mp (by rw [nI_toInt (by omega)]; omega)⟩
  · exact ⟨0, by decide, a2.trans (by decide)⟩
  · rw [sx] at a1
    have a3 : y.toInt ≠ 0 := fun z => a2 (Int32.toInt_inj.mp (z.trans h0.symm))
    refine ⟨(y.toInt + 360).toNat, by omega, Int32.toInt_inj.mp ?_⟩
    rw [nI_toInt (by omega), Int32.toInt_add, h3, Int.bmod_eq_of_le (by omega) (by omega)]
    omega

set_option maxHeartbeats 4000000 in
set_option maxRecDepth 100000 in
theorem c_distance (l : Launch) {D : va_G} {C : g_C} {g : g_k → Nat → Int32} {ad ln : g_k → Nat} {ex : g_k → Option va_E} {B : Nat} {x y : Int32} : Met l yX2_distance wsX2_distance ({ frames := 1, cells := 0, slots := 0, locals := 21 } : Room) (va_Pc [.int x, .int y] (g_S D C (lay C g ad ln ex) ad B)) (vp_Si (fun r => ∀ p q, p < 360 → q < 360 → x = nI p → y = nI q → 0 ≤ r)) 0 0 (fun _ => False) := by
  refine Met.ofW (cc := cX2_distance) (maxL := 3) (ret := (some .int)) (by decide) rfl ?_
  intro p e s m args below meth c s₁ B₀ hml hv
  obtain ⟨rfl, hG, hF⟩ := hv
  have hK := hF.1
  have hN := hF.2.1
  have hB := hF.2.2.2
  have hx := B₀.exec
  have hb := B₀.bytes
  have hr := B₀.returns
  have hts := atoms_spec (ws := wsX2_distance) B₀.pre
  have hown : s.vm.findClass RX2 = some m.cls := findClass_of_methodNamed B₀.named
  have hlocks := B₀.notSynchronized
  have hS : va_S (g_A B) s.heap s.heap [] := va_S.rf
  have hl := lv_entry [.int x, .int y] (n := 3) (Nat.le_of_ble_eq_true rfl)
  rw [lg_entry_eq]
  generalize (lg_sl [.int x, .int y] ++ List.replicate (3 - (lg_sl [.int x, .int y]).length) Slot.unset).toArray = ls at hl ⊢
  have hl : lv_has ls 3 [(0, .int x), (1, .int y)] := hl
  refine lv_iload_n hx hb dX2_distance_0 rfl (lv_at hl 0 rfl) ?_
  refine lv_iload_n hx hb dX2_distance_1 rfl (lv_at hl 1 rfl) ?_
  refine lv_isub hx hb dX2_distance_2 ?_
  refine va_mabs hx hb (hml.trans hl.1.symm) hown (hts (.methodLink RX2 49 Lib.Math.abs.name) (by decide +kernel)) (hts (.static Lib.Math.abs.name) (by decide +kernel)) (hts (.initialized "java/lang/Math") (by decide +kernel)) (hts (.code Lib.Math.abs.name Lib.Math.abs.code 1 (some .int)) (by decide +kernel)) (Nat.le_of_ble_eq_true rfl) (Nat.le_of_ble_eq_true rfl) (Nat.le_of_ble_eq_true rfl) (Nat.le_of_ble_eq_true rfl) dX2_distance_3 ?_
  refine lv_topi (fun r_1 er_1 => ?_)
  refine lv_istore_n (lv' := [(2, .int r_1), (0, .int x), (1, .int y)]) hx hb dX2_distance_6 rfl hl (by decide) rfl (fun ls hl => ?_)
  refine lv_iload_n hx hb dX2_distance_7 rfl (lv_at hl 0 rfl) ?_
  refine lv_sipush (v := nI 360) hx hb dX2_distance_8 (by decide) ?_
  refine lv_iload_n hx hb dX2_distance_11 rfl (lv_at hl 0 rfl) ?_
  refine lv_isub hx hb dX2_distance_12 ?_
  refine va_mmin hx hb (hml.trans hl.1.symm) hown (hts (.methodLink RX2 44 Lib.Math.min.name) (by decide +kernel)) (hts (.static Lib.Math.min.name) (by decide +kernel)) (hts (.initialized "java/lang/Math") (by decide +kernel)) (hts (.code Lib.Math.min.name Lib.Math.min.code 2 (some .int)) (by decide +kernel)) (Nat.le_of_ble_eq_true rfl) (Nat.le_of_ble_eq_true rfl) (Nat.le_of_ble_eq_true rfl) (Nat.le_of_ble_eq_true rfl) dX2_distance_13 ?_
  refine lv_topi (fun r_2 er_2 => ?_)
  exact W.iret (v := r_2) hx hb hr (fun t9 ht9 hW9 => ⟨_, rfl, fun p q hp hq e1 e2 => by subst e1; subst e2; exact n_dist hp hq er_1.symm er_2.symm, ht9⟩) (fun q h => nomatch h) dX2_distance_16

set_option maxHeartbeats 4000000 in
set_option maxRecDepth 100000 in
theorem c_floorMod (l : Launch) {D : va_G} {C : g_C} {g : g_k → Nat → Int32} {ad ln : g_k → Nat} {ex : g_k → Option va_E} {B : Nat} {x : Int32} : Met l yJ9_floorMod_7cf53 wsJ9_floorMod_7cf53 ({ frames := 0, cells := 0, slots := 0, locals := 0 } : Room) (va_Pc [.int x, .int (nI 360)] (g_S D C (lay C g ad ln ex) ad B)) (vp_Si (fun r => (∃ p, p < 360 ∧ r = nI p) ∧ (∀ p, p < 360 → x = nI p → r = nI p))) 0 0 (fun _ => False) := by
  refine g_ofWF (cc := cJ9_floorMod_7cf53) (maxL := 3) (ret := (some .int)) (by decide +kernel) rfl ?_
  intro p e s m args below meth c s₁ B₀ hml hv
  obtain ⟨rfl, hG, hF⟩ := hv
  have hK := hF.1
  have hN := hF.2.1
  have hB := hF.2.2.2
  have hx := B₀.exec
  have hb := B₀.bytes
  have hr := B₀.returns
  have hts := atoms_spec (ws := wsJ9_floorMod_7cf53) B₀.pre
  have hown : s.vm.findClass RJ9 = some m.cls := findClass_of_methodNamed B₀.named
  have hlocks := B₀.notSynchronized
  have hS : va_S (g_A B) s.heap s.heap [] := va_S.rf
  have hl := lv_entry [.int x, .int (nI 360)] (n := 3) (Nat.le_of_ble_eq_true rfl)
  rw [lg_entry_eq]
  generalize (lg_sl [.int x, .int (nI 360)] ++ List.replicate (3 - (lg_sl [.int x, .int (nI 360)]).length) Slot.unset).toArray = ls at hl ⊢
  have hl : lv_has ls 3 [(0, .int x), (1, .int (nI 360))] := hl
  refine lv_iload_n hx hb dJ9_floorMod_7cf53_0 rfl (lv_at hl 0 rfl) ?_
  refine lv_iload_n hx hb dJ9_floorMod_7cf53_1 rfl (lv_at hl 1 rfl) ?_
  refine lv_irem hx hb dJ9_floorMod_7cf53_2 (by decide) ?_
  refine lv_istore_n (lv' := [(2, .int (x - x / (nI 360) * (nI 360))), (0, .int x), (1, .int (nI 360))]) hx hb dJ9_floorMod_7cf53_3 rfl hl (by decide) rfl (fun ls hl => ?_)
  refine lv_iload_n hx hb dJ9_floorMod_7cf53_4 rfl (lv_at hl 1 rfl) ?_
  refine lv_iload_n hx hb dJ9_floorMod_7cf53_5 rfl (lv_at hl 2 rfl) ?_
  refine lv_ixor hx hb dJ9_floorMod_7cf53_6 ?_
  refine lv_if_ge (tgt := 18) hx hb dJ9_floorMod_7cf53_7 (by decide) (fun c_1 => ?_) (fun c_1 => ?_)
  · refine lv_iload_n hx hb dJ9_floorMod_7cf53_18 rfl (lv_at hl 0 rfl) ?_
    exact W.iret (v := x - x / (nI 360) * (nI 360)) hx hb hr (fun t9 ht9 hW9 => ⟨_, rfl, ⟨n_floor x _ (Or.inl ⟨c_1, rfl⟩), fun p hp hxp => by rw [hxp]; exact (pk_rem (by omega) (by decide) (by decide)).trans (by rw [Nat.mod_eq_of_lt hp])⟩, ht9⟩) (fun q h => nomatch h) dJ9_floorMod_7cf53_19
  · refine lv_iload_n hx hb dJ9_floorMod_7cf53_10 rfl (lv_at hl 0 rfl) ?_
    refine lv_if_eq (tgt := 18) hx hb dJ9_floorMod_7cf53_11 (by decide) (fun c_2 => ?_) (fun c_2 => ?_)
    · refine lv_iload_n hx hb dJ9_floorMod_7cf53_18 rfl (lv_at hl 0 rfl) ?_
      exact W.iret (v := x - x / (nI 360) * (nI 360)) hx hb hr (fun t9 ht9 hW9 => ⟨_, rfl, ⟨n_floor x _ (Or.inr (Or.inl ⟨c_1, c_2, rfl⟩)), (fun p hp hxp => absurd (show (0 : Int32) ≤ x ^^^ nI 360 by rw [hxp, n_xor]; exact nI_pos' (Nat.lt_trans (Nat.xor_lt_two_pow (n := 9) (by omega) (by decide)) (by decide))) c_1)⟩, ht9⟩) (fun q h => nomatch h) dJ9_floorMod_7cf53_19
    · refine lv_iload_n hx hb dJ9_floorMod_7cf53_14 rfl (lv_at hl 0 rfl) ?_
      refine lv_iload_n hx hb dJ9_floorMod_7cf53_15 rfl (lv_at hl 2 rfl) ?_
      refine lv_iadd hx hb dJ9_floorMod_7cf53_16 ?_
      exact W.iret (v := (x - x / (nI 360) * (nI 360)) + (nI 360)) hx hb hr (fun t9 ht9 hW9 => ⟨_, rfl, ⟨n_floor x _ (Or.inr (Or.inr ⟨c_1, c_2, rfl⟩)), (fun p hp hxp => absurd (show (0 : Int32) ≤ x ^^^ nI 360 by rw [hxp, n_xor]; exact nI_pos' (Nat.lt_trans (Nat.xor_lt_two_pow (n := 9) (by omega) (by decide)) (by decide))) c_1)⟩, ht9⟩) (fun q h => nomatch h) dJ9_floorMod_7cf53_17

set_option maxHeartbeats 4000000 in
set_option maxRecDepth 100000 in
theorem c_placeOf (l : Launch) {D : va_G} {C : g_C} {g : g_k → Nat → Int32} {ad ln : g_k → Nat} {ex : g_k → Option va_E} {B : Nat} {a t : Nat} (ha : a < 10) : Met l yX2_placeOf wsX2_placeOf ({ frames := 1, cells := 0, slots := 0, locals := 22 } : Room) (va_Pc [.ref (ad (1, 0, 0)), .int (nI a), .int (nI t)] (g_S D C (lay C g ad ln ex) ad B)) (vp_Si (fun r => (∃ p, p < 360 ∧ r = nI p) ∧ (∀ p, p < 360 → g (6, 0, 0) a = nI p → t = 0 → r = nI p))) 0 0 (fun _ => False) := by
  refine Met.ofW (cc := cX2_placeOf) (maxL := 3) (ret := (some .int)) (by decide) rfl ?_
  intro p e s m args below meth c s₁ B₀ hml hv
  obtain ⟨rfl, hG, hF⟩ := hv
  have hK := hF.1
  have hN := hF.2.1
  have hB := hF.2.2.2
  have hx := B₀.exec
  have hb := B₀.bytes
  have hr := B₀.returns
  have hts := atoms_spec (ws := wsX2_placeOf) B₀.pre
  have hown : s.vm.findClass RX2 = some m.cls := findClass_of_methodNamed B₀.named
  have hlocks := B₀.notSynchronized
  have hS : va_S (g_A B) s.heap s.heap [] := va_S.rf
  have hi2 : ∀ w ∈ wsX20, w ∈ wsX2_placeOf := by decide +kernel
  have hl := lv_entry [.ref (ad (1, 0, 0)), .int (nI a), .int (nI t)] (n := 3) (Nat.le_of_ble_eq_true rfl)
  rw [lg_entry_eq]
  generalize (lg_sl [.ref (ad (1, 0, 0)), .int (nI a), .int (nI t)] ++ List.replicate (3 - (lg_sl [.ref (ad (1, 0, 0)), .int (nI a), .int (nI t)]).length) Slot.unset).toArray = ls at hl ⊢
  have hl : lv_has ls 3 [(0, .ref (ad (1, 0, 0))), (1, .int (nI a)), (2, .int (nI t))] := hl
  refine lv_aload_n hx hb dX2_placeOf_0 rfl (lv_at hl 0 rfl) ?_
  refine g_get hx hb hts hi2 hown hK hG (lay_sky) rfl 0 (by decide) (hts (.fieldLink RX2 9 "Satellitering$Sky" "places" "[I") (by decide +kernel)) rfl dX2_placeOf_1 ?_
  refine lv_iload_n hx hb dX2_placeOf_4 rfl (lv_at hl 1 rfl) ?_
  refine g_iald hx hb hK hG (lay_places) (ha) (by first | decide | omega) dX2_placeOf_5 ?_
  refine lv_iload_n hx hb dX2_placeOf_6 rfl (lv_at hl 2 rfl) ?_
  refine lv_aload_n hx hb dX2_placeOf_7 rfl (lv_at hl 0 rfl) ?_
  refine g_get hx hb hts hi2 hown hK hG (lay_sky) rfl 1 (by decide) (hts (.fieldLink RX2 15 "Satellitering$Sky" "speeds" "[I") (by decide +kernel)) rfl dX2_placeOf_8 ?_
  refine lv_iload_n hx hb dX2_placeOf_11 rfl (lv_at hl 1 rfl) ?_
  refine g_iald hx hb hK hG (lay_speeds) (ha) (by first | decide | omega) dX2_placeOf_12 ?_
  refine lv_imul hx hb dX2_placeOf_13 ?_
  refine lv_iadd hx hb dX2_placeOf_14 ?_
  refine lv_sipush (v := nI 360) hx hb dX2_placeOf_15 (by decide) ?_
  refine vp_callSi (W.runS (As := [.int ((g (6, 0, 0) a) + ((nI t) * (g (7, 0, 0) a))), .int (nI 360)]) (rest := []) ⟨hx, hb, hml, hown, hts⟩ (c_floorMod l ) (va_cwS 2 hts gX2_placeOf_J9_floorMod_7cf53 rfl rfl rfl (by decide +kernel) ⟨Nat.le_of_ble_eq_true rfl, Nat.le_of_ble_eq_true rfl⟩) (g_preS hF hG hS) rfl rfl hl.1 rfl (lv_room (Nat.le_of_ble_eq_true rfl)) dX2_placeOf_18 ⟨Nat.le_of_ble_eq_true rfl, Nat.le_of_ble_eq_true rfl⟩) (fun r_1 h_2 => ?_)
  exact W.iret (v := r_1) hx hb hr (fun t9 ht9 hW9 => ⟨_, rfl, ⟨h_2.1, fun p hp hgp h0 => h_2.2 p hp (by rw [hgp, h0, nI_0, Int32.zero_mul, Int32.add_zero])⟩, ht9⟩) (fun q h => nomatch h) dX2_placeOf_21

/-- at minute t nothing is marked, or both see each other from now on -/
def mk_P (g g1 : g_k → Nat → Int32) (a b t : Nat) : Prop := (g1 (20, a, 0) t = g (20, a, 0) t ∧ g1 (20, b, 0) t = g (20, b, 0) t) ∨ (g1 (20, a, 0) t = g (20, a, 0) t ||| nI 1 <<< (nI b &&& 31) ∧ g1 (20, b, 0) t = g (20, b, 0) t ||| nI 1 <<< (nI a &&& 31))

set_option maxHeartbeats 4000000 in
set_option maxRecDepth 100000 in
theorem c_markContacts (l : Launch) {D : va_G} {C : g_C} {g : g_k → Nat → Int32} {ad ln : g_k → Nat} {ex : g_k → Option va_E} {B : Nat} {a b : Nat} (ha : a < 10) (hb9 : b < 10) (hab : a ≠ b) : Met l yX2_markContacts wsX2_markContacts ({ frames := 2, cells := 0, slots := 0, locals := 44 } : Room) (va_Pc [.ref (ad (1, 0, 0)), .int (nI a), .int (nI b)] (g_S D C (lay C g ad ln ex) ad B)) (va_Qv (fun (g1 : g_k → Nat → Int32) => (∀ c, c ≠ (20, a, 0) → c ≠ (20, b, 0) → g1 c = g c) ∧ (∀ t, t < 360 → mk_P g g1 a b t) ∧ (g (8, 0, 0) a = -1 → g (8, 0, 0) b = -1 → g1 = g)) (fun g1 t => g_P D (lay C g1 ad ln ex) ad B t.heap) (g_A B)) 0 0 (g_A B) := by
  refine Met.ofW (cc := cX2_markContacts) (maxL := 5) (ret := none) (by decide) rfl ?_
  intro p e s m args below meth c s₁ B₀ hml hv
  obtain ⟨rfl, hG, hF⟩ := hv
  have hK := hF.1
  have hN := hF.2.1
  have hB := hF.2.2.2
  have hx := B₀.exec
  have hb := B₀.bytes
  have hr := B₀.returns
  have hts := atoms_spec (ws := wsX2_markContacts) B₀.pre
  have hown : s.vm.findClass RX2 = some m.cls := findClass_of_methodNamed B₀.named
  have hlocks := B₀.notSynchronized
  have hS : va_S (g_A B) s.heap s.heap [] := va_S.rf
  have hi2 : ∀ w ∈ wsX20, w ∈ wsX2_markContacts := by decide +kernel
  have hl := lv_entry [.ref (ad (1, 0, 0)), .int (nI a), .int (nI b)] (n := 5) (Nat.le_of_ble_eq_true rfl)
  rw [lg_entry_eq]
  generalize (lg_sl [.ref (ad (1, 0, 0)), .int (nI a), .int (nI b)] ++ List.replicate (5 - (lg_sl [.ref (ad (1, 0, 0)), .int (nI a), .int (nI b)]).length) Slot.unset).toArray = ls at hl ⊢
  have hl : lv_has ls 5 [(0, .ref (ad (1, 0, 0))), (1, .int (nI a)), (2, .int (nI b))] := hl
  refine lv_aload_n hx hb dX2_markContacts_0 rfl (lv_at hl 0 rfl) ?_
  refine lv_iload_n hx hb dX2_markContacts_1 rfl (lv_at hl 1 rfl) ?_
  refine lv_iload_n hx hb dX2_markContacts_2 rfl (lv_at hl 2 rfl) ?_
  refine vp_callSi (W.runV (As := [.int (nI a), .int (nI b)]) (rest := []) ⟨hx, hb, hml, hown, hts⟩ (c_commonReach l ha hb9) (cwV 2 hts gX2_markContacts_X2_commonReach rfl rfl rfl (by decide +kernel) ⟨Nat.le_of_ble_eq_true rfl, Nat.le_of_ble_eq_true rfl⟩) (g_preV hF hG hS (lay_sky) rfl) rfl rfl hl.1 rfl (lv_room (Nat.le_of_ble_eq_true rfl)) dX2_markContacts_3 ⟨Nat.le_of_ble_eq_true rfl, Nat.le_of_ble_eq_true rfl⟩) (fun r_1 h_2 => ?_)
  refine lv_istore_n (lv' := [(3, .int r_1), (0, .ref (ad (1, 0, 0))), (1, .int (nI a)), (2, .int (nI b))]) hx hb dX2_markContacts_6 rfl hl (by decide) rfl (fun ls hl => ?_)
  refine lv_iconst (v := nI 0) hx hb dX2_markContacts_7 (by decide) ?_
  refine lv_istore (lv' := [(4, .int (nI 0)), (3, .int r_1), (0, .ref (ad (1, 0, 0))), (1, .int (nI a)), (2, .int (nI b))]) hx hb dX2_markContacts_8 hl (by decide) rfl (fun ls hl => ?_)
  have loop : ∀ (k i : Nat) (g1 : g_k → Nat → Int32) (H : Heap) (locs : List Loc), i ≤ 360 → 360 < i + k → (∀ c, c ≠ (20, a, 0) → c ≠ (20, b, 0) → g1 c = g c) ∧ (∀ t, t < i → mk_P g g1 a b t) ∧ (g (8, 0, 0) a = -1 → g (8, 0, 0) b = -1 → g1 = g) → (∀ t, i ≤ t → g1 (20, a, 0) t = g (20, a, 0) t ∧ g1 (20, b, 0) t = g (20, b, 0) t) → g_P D (lay C g1 ad ln ex) ad B H → va_S (g_A B) s.heap H locs → ∀ ls, lv_has ls 5 [(4, .int (nI i)), (3, .int r_1), (0, .ref (ad (1, 0, 0))), (1, .int (nI a)), (2, .int (nI b))] → W p l e (headSpec wsX2_markContacts ({ frames := 2, cells := 0, slots := 0, locals := 44 } : Room)).room s m ([.ref (ad (1, 0, 0)), .int (nI a), .int (nI b)]).toArray below meth c H locs 0 0 (MQ below (va_Qv (fun (g1 : g_k → Nat → Int32) => (∀ c, c ≠ (20, a, 0) → c ≠ (20, b, 0) → g1 c = g c) ∧ (∀ t, t < 360 → mk_P g g1 a b t) ∧ (g (8, 0, 0) a = -1 → g (8, 0, 0) b = -1 → g1 = g)) (fun g1 t => g_P D (lay C g1 ad ln ex) ad B t.heap) (g_A B)) ([.ref (ad (1, 0, 0)), .int (nI a), .int (nI b)]).toArray s 0 0 (g_A B)) (F0 m 10 ls []) := by
    intro k
    induction k with
    | zero => intro i g1 H locs h1 h2; exact absurd h2 (by omega)
    | succ k ih =>
      intro i g1 H locs h1 h2 h3 h4 hG hS ls hl
      refine lv_iload hx hb dX2_markContacts_10 (lv_at hl 0 rfl) ?_
      refine lv_sipush (v := nI 360) hx hb dX2_markContacts_12 (by decide) ?_
      refine lv_icmp_ge (tgt := 75) hx hb dX2_markContacts_15 (by decide) (fun c_3 => ?_) (fun c_3 => ?_)
      · have hi : i = 360 := by have := (nI_leI (by omega) (by omega)).mp c_3; omega
        subst hi
        exact W.vret hx hb hr (fun t9 ht9 hW9 => ⟨⟨_, rfl, h3, by show g_P _ _ _ _ t9.heap; rw [ht9]; exact hG⟩, hS.F ht9⟩) hS.2.2 dX2_markContacts_75
      · have hi : i < 360 := Nat.lt_of_not_le (fun h9 => c_3 ((nI_leI (by omega) (by omega)).mpr h9))
        refine lv_aload_n hx hb dX2_markContacts_18 rfl (lv_at hl 2 rfl) ?_
        refine lv_iload_n hx hb dX2_markContacts_19 rfl (lv_at hl 3 rfl) ?_
        refine lv_iload hx hb dX2_markContacts_20 (lv_at hl 0 rfl) ?_
        refine vp_callSi (W.runV (As := [.int (nI a), .int (nI i)]) (rest := []) ⟨hx, hb, hml, hown, hts⟩ (c_placeOf l ha) (cwV 2 hts gX2_markContacts_X2_placeOf rfl rfl rfl (by decide +kernel) ⟨Nat.le_of_ble_eq_true rfl, Nat.le_of_ble_eq_true rfl⟩) (g_preV hF hG hS (lay_sky) rfl) rfl rfl hl.1 rfl (lv_room (Nat.le_of_ble_eq_true rfl)) dX2_markContacts_22 ⟨Nat.le_of_ble_eq_true rfl, Nat.le_of_ble_eq_true rfl⟩) (fun r_4 h_5 => ?_)
        refine lv_aload_n hx hb dX2_markContacts_25 rfl (lv_at hl 2 rfl) ?_
        refine lv_iload_n hx hb dX2_markContacts_26 rfl (lv_at hl 4 rfl) ?_
        refine lv_iload hx hb dX2_markContacts_27 (lv_at hl 0 rfl) ?_
        refine vp_callSi (W.runV (As := [.int (nI b), .int (nI i)]) (rest := [.int r_4]) ⟨hx, hb, hml, hown, hts⟩ (c_placeOf l hb9) (cwV 2 hts gX2_markContacts_X2_placeOf rfl rfl rfl (by decide +kernel) ⟨Nat.le_of_ble_eq_true rfl, Nat.le_of_ble_eq_true rfl⟩) (g_preV hF hG hS (lay_sky) rfl) rfl rfl hl.1 rfl (lv_room (Nat.le_of_ble_eq_true rfl)) dX2_markContacts_29 ⟨Nat.le_of_ble_eq_true rfl, Nat.le_of_ble_eq_true rfl⟩) (fun r_6 h_7 => ?_)
        refine vp_callSi (W.runS (As := [.int r_4, .int r_6]) (rest := []) ⟨hx, hb, hml, hown, hts⟩ (c_distance l ) (va_cwS 2 hts gX2_markContacts_X2_distance rfl rfl rfl (by decide +kernel) ⟨Nat.le_of_ble_eq_true rfl, Nat.le_of_ble_eq_true rfl⟩) (g_preS hF hG hS) rfl rfl hl.1 rfl (lv_room (Nat.le_of_ble_eq_true rfl)) dX2_markContacts_32 ⟨Nat.le_of_ble_eq_true rfl, Nat.le_of_ble_eq_true rfl⟩) (fun r_8 h_9 => ?_)
        refine lv_iload_n hx hb dX2_markContacts_35 rfl (lv_at hl 1 rfl) ?_
        refine lv_icmp_gt (tgt := 69) hx hb dX2_markContacts_36 (by decide) (fun c_10 => ?_) (fun c_10 => ?_)
        · refine lv_iinc (v := nI (i + 1)) (lv' := [(4, .int (nI (i + 1))), (3, .int r_1), (0, .ref (ad (1, 0, 0))), (1, .int (nI a)), (2, .int (nI b))]) hx hb dX2_markContacts_69 hl (k := 0) rfl (nI_add i 1) (by decide) rfl (fun ls hl => ?_)
          refine lv_goto (tgt := 10) hx hb dX2_markContacts_72 (by decide) ?_
          exact ih (i + 1) g1 H locs (by omega) (by omega) ⟨h3.1, fun t ht9 => (by rcases Nat.lt_or_eq_of_le (Nat.le_of_lt_succ ht9) with h9 | h9; exact h3.2.1 t h9; rw [h9]; exact Or.inl (h4 i (Nat.le_refl i))), h3.2.2⟩ (fun t ht9 => h4 t (by omega)) hG hS ls (lv_sub hl [0, 1, 2, 3, 4] rfl)
        · refine lv_aload_n hx hb dX2_markContacts_39 rfl (lv_at hl 2 rfl) ?_
          refine g_get hx hb hts hi2 hown hK hG (lay_sky) rfl 3 (by decide) (hts (.fieldLink RX2 23 "Satellitering$Sky" "seen" "[[I") (by decide +kernel)) rfl dX2_markContacts_40 ?_
          refine lv_iload_n hx hb dX2_markContacts_43 rfl (lv_at hl 3 rfl) ?_
          refine o_seen hx hb hK hG (ha) dX2_markContacts_44 ?_
          refine lv_iload hx hb dX2_markContacts_45 (lv_at hl 0 rfl) ?_
          refine lv_dup2_11 hx hb dX2_markContacts_47 rfl rfl ?_
          refine g_iald hx hb hK hG (lay_row (ha)) (hi) (by first | decide | omega) dX2_markContacts_48 ?_
          refine lv_iconst (v := nI 1) hx hb dX2_markContacts_49 (by decide) ?_
          refine lv_iload_n hx hb dX2_markContacts_50 rfl (lv_at hl 4 rfl) ?_
          refine lv_ishl hx hb dX2_markContacts_51 ?_
          refine lv_ior hx hb dX2_markContacts_52 ?_
          refine o_iast hx hb hK hG hS (cd := (20, a, 0)) (fun _ => lay_row (ha)) (hi) (by first | decide | omega) dX2_markContacts_53 (fun H locs hG hS => ?_)
          have hne : ((20, b, 0) : g_k) ≠ (20, a, 0) := fun h9 => hab (congrArg (fun z : g_k => z.2.1) h9).symm
          refine lv_aload_n hx hb dX2_markContacts_54 rfl (lv_at hl 2 rfl) ?_
          refine g_get hx hb hts hi2 hown hK hG (lay_sky) rfl 3 (by decide) (hts (.fieldLink RX2 23 "Satellitering$Sky" "seen" "[[I") (by decide +kernel)) rfl dX2_markContacts_55 ?_
          refine lv_iload_n hx hb dX2_markContacts_58 rfl (lv_at hl 4 rfl) ?_
          refine o_seen hx hb hK hG (hb9) dX2_markContacts_59 ?_
          refine lv_iload hx hb dX2_markContacts_60 (lv_at hl 0 rfl) ?_
          refine lv_dup2_11 hx hb dX2_markContacts_62 rfl rfl ?_
          refine g_iald hx hb hK hG (lay_row (hb9)) (hi) (by first | decide | omega) dX2_markContacts_63 ?_
          refine lv_to (y := g1 (20, b, 0) i) (by rw [g2_ne _ _ _ hne]) ?_
          refine lv_iconst (v := nI 1) hx hb dX2_markContacts_64 (by decide) ?_
          refine lv_iload_n hx hb dX2_markContacts_65 rfl (lv_at hl 3 rfl) ?_
          refine lv_ishl hx hb dX2_markContacts_66 ?_
          refine lv_ior hx hb dX2_markContacts_67 ?_
          refine o_iast hx hb hK hG hS (cd := (20, b, 0)) (fun _ => lay_row (hb9)) (hi) (by first | decide | omega) dX2_markContacts_68 (fun H locs hG hS => ?_)
          refine lv_iinc (v := nI (i + 1)) (lv' := [(4, .int (nI (i + 1))), (3, .int r_1), (0, .ref (ad (1, 0, 0))), (1, .int (nI a)), (2, .int (nI b))]) hx hb dX2_markContacts_69 hl (k := 0) rfl (nI_add i 1) (by decide) rfl (fun ls hl => ?_)
          refine lv_goto (tgt := 10) hx hb dX2_markContacts_72 (by decide) ?_
          refine ih (i + 1) _ _ _ (by omega) (by omega) ⟨fun c c1 c2 => by rw [g2_ne _ _ _ c2, g2_ne _ _ _ c1]; exact h3.1 c c1 c2, fun t ht9 => ?_, fun z1 z2 => ?_⟩ (fun t ht9 => ?_) hG hS ls (lv_sub hl [0, 1, 2, 3, 4] rfl)
          · unfold mk_P
            rw [g2_self, g2_ne _ _ _ (Ne.symm hne), g2_self, g2_ne _ _ _ hne]
            rcases Nat.lt_or_eq_of_le (Nat.le_of_lt_succ ht9) with h9 | h9
            · rw [upd_ne _ _ (by omega), upd_ne _ _ (by omega)]; exact h3.2.1 t h9
            · rw [h9, upd_self, upd_self, (h4 i (Nat.le_refl i)).1, (h4 i (Nat.le_refl i)).2]; exact Or.inr ⟨rfl, rfl⟩
          · obtain ⟨p9, hp9, e9⟩ := h_5.1
            obtain ⟨q9, hq9, f9⟩ := h_7.1
            have n9 := h_9 p9 q9 hp9 hq9 e9 f9
            have m9 := c_10
            rw [h_2 z1 z2] at m9
            rw [Int32.le_iff_toInt_le, show (0 : Int32).toInt = 0 from by decide] at n9
            rw [Int32.lt_iff_toInt_lt, show (-1 : Int32).toInt = -1 from by decide] at m9
            exact absurd m9 (by omega)
          · rw [g2_self, g2_ne _ _ _ (Ne.symm hne), g2_self, g2_ne _ _ _ hne, upd_ne _ _ (by omega), upd_ne _ _ (by omega)]
            exact h4 t (by omega)
  exact loop 361 0 g s.heap [] (by decide) (by decide) ⟨fun _ _ _ => rfl, fun t ht9 => absurd ht9 (Nat.not_lt_zero t), fun _ _ => rfl⟩ (fun _ _ => ⟨rfl, rfl⟩) hG hS ls (lv_sub hl [0, 1, 2, 3, 4] rfl)

/-- who sees whom, of n nodes: both ways, and none itself -/
def sk1 (g : g_k → Nat → Int32) (n : Nat) : Prop := ∀ a b t, a < 10 → b < 32 → see g a b t = true → a < n ∧ b < n ∧ a ≠ b ∧ see g b a t = true
theorem sk1_up {g : g_k → Nat → Int32} {n m : Nat} (h : sk1 g n) (hm : n ≤ m) : sk1 g m := fun a b t ha hb hs => by
  obtain ⟨a1, a2, a3, a4⟩ := h a b t ha hb hs
  exact ⟨by omega, by omega, a3, a4⟩
theorem sk1_cong {g g1 : g_k → Nat → Int32} {n : Nat} (h : sk1 g n) (he : ∀ i, g1 (20, i, 0) = g (20, i, 0)) : sk1 g1 n := fun a b t ha hb hs => by
  have e : ∀ a b t, see g1 a b t = see g a b t := fun a b t => by unfold see; rw [he]
  rw [e] at hs ⊢
  exact h a b t ha hb hs
theorem mk_see {g g1 : g_k → Nat → Int32} {a b : Nat} (ha : a < 10) (hb : b < 10) (hab : a ≠ b) (h1 : ∀ c, c ≠ (20, a, 0) → c ≠ (20, b, 0) → g1 c = g c) (h2 : ∀ t, t < 360 → mk_P g g1 a b t) (t : Nat) : (∀ u v, v < 32 → see g1 u v t = see g u v t) ∨ (∀ u v, v < 32 → see g1 u v t = (see g u v t || ((decide (u = a) && decide (v = b)) || (decide (u = b) && decide (v = a))))) := by
  have hne : ∀ i, i ≠ a → i ≠ b → g1 (20, i, 0) = g (20, i, 0) := fun i i1 i2 => h1 _ (fun h9 => i1 (congrArg (fun z : g_k => z.2.1) h9)) (fun h9 => i2 (congrArg (fun z : g_k => z.2.1) h9))
  have ht : t % 360 < 360 := Nat.mod_lt _ (by decide)
  rcases h2 (t % 360) ht with ⟨e1, e2⟩ | ⟨e1, e2⟩
  · refine Or.inl (fun u v _ => ?_)
    unfold see
    by_cases q1 : u = a
    · rw [q1, e1]
    · by_cases q2 : u = b
      · rw [q2, e2]
      · rw [hne u q1 q2]
  · refine Or.inr (fun u v hv => ?_)
    unfold see
    by_cases q1 : u = a
    · have q3 : ¬ u = b := fun z => hab (by rw [← q1, z])
      have q4 : ¬ a = b := hab
      rw [q1, e1, b_or, b_bit (by omega) hv]
      simp [q4]
    · by_cases q2 : u = b
      · have q4 : ¬ b = a := fun z => hab z.symm
        rw [q2, e2, b_or, b_bit (by omega) hv]
        simp [q4]
      · rw [hne u q1 q2]
        simp [q1, q2]
theorem mk_see1 {g g1 : g_k → Nat → Int32} {a b : Nat} (ha : a < 10) (hb : b < 10) (hab : a ≠ b) (h1 : ∀ c, c ≠ (20, a, 0) → c ≠ (20, b, 0) → g1 c = g c) (h2 : ∀ t, t < 360 → mk_P g g1 a b t) {t u v : Nat} (hv : v < 32) (n1 : ¬ (u = a ∧ v = b)) (n2 : ¬ (u = b ∧ v = a)) : see g1 u v t = see g u v t := by
  rcases mk_see ha hb hab h1 h2 t with key | key
  · exact key u v hv
  · rw [key u v hv]
    have e1 : (decide (u = a) && decide (v = b)) = false := by rw [Bool.and_eq_false_imp]; intro z; exact decide_eq_false (fun z2 => n1 ⟨of_decide_eq_true z, z2⟩)
    have e2 : (decide (u = b) && decide (v = a)) = false := by rw [Bool.and_eq_false_imp]; intro z; exact decide_eq_false (fun z2 => n2 ⟨of_decide_eq_true z, z2⟩)
    rw [e1, e2]
    simp
theorem sk1_mark {g g1 : g_k → Nat → Int32} {n a b : Nat} (h : sk1 g n) (ha : a < n) (hb : b < n) (hn : n ≤ 10) (hab : a ≠ b) (h1 : ∀ c, c ≠ (20, a, 0) → c ≠ (20, b, 0) → g1 c = g c) (h2 : ∀ t, t < 360 → mk_P g g1 a b t) : sk1 g1 n := by
  intro u v t hu hv hs
  have key := mk_see (show a < 10 by omega) (show b < 10 by omega) hab h1 h2 t
  rcases key with key | key
  · rw [key u v hv] at hs
    obtain ⟨a1, a2, a3, a4⟩ := h u v t hu hv hs
    exact ⟨a1, a2, a3, by rw [key v u (by omega)]; exact a4⟩
  · rw [key u v hv, Bool.or_eq_true] at hs
    rcases hs with hs | hs
    · obtain ⟨a1, a2, a3, a4⟩ := h u v t hu hv hs
      exact ⟨a1, a2, a3, by rw [key v u (by omega), a4]; rfl⟩
    · rw [Bool.or_eq_true, Bool.and_eq_true, Bool.and_eq_true, decide_eq_true_eq, decide_eq_true_eq, decide_eq_true_eq, decide_eq_true_eq] at hs
      rcases hs with ⟨z1, z2⟩ | ⟨z1, z2⟩
      · exact ⟨by omega, by omega, by omega, by rw [key v u (by omega), z1, z2]; simp⟩
      · exact ⟨by omega, by omega, by omega, by rw [key v u (by omega), z1, z2]; simp⟩

set_option maxHeartbeats 4000000 in
set_option maxRecDepth 100000 in
theorem c_addNode (l : Launch) {D : va_G} {C : g_C} {g : g_k → Nat → Int32} {ad ln : g_k → Nat} {ex : g_k → Option va_E} {B : Nat} {n : Nat} (hn : n < 10) (hc : g (1, 0, 0) 4 = nI n) (hsk : sk1 g n) {x y z : Int32} : Met l yX2_addNode wsX2_addNode ({ frames := 3, cells := 0, slots := 0, locals := 68 } : Room) (va_Pc [.ref (ad (1, 0, 0)), .int x, .int y, .int z] (g_S D C (lay C g ad ln ex) ad B)) (va_Qi (fun (r : Int32) (g1 : g_k → Nat → Int32) => r = nI n ∧ g1 (1, 0, 0) 4 = nI (n + 1) ∧ g1 (6, 0, 0) = upd (g (6, 0, 0)) n x ∧ g1 (8, 0, 0) = upd (g (8, 0, 0)) n z ∧ (∀ c : g_k, c ≠ (1, 0, 0) → c ≠ (6, 0, 0) → c ≠ (7, 0, 0) → c ≠ (8, 0, 0) → c.1 ≠ 20 → g1 c = g c) ∧ sk1 g1 (n + 1) ∧ (∀ a b t, a < n → b < n → see g1 a b t = see g a b t) ∧ (z = -1 → ∀ b t, b < n → g (8, 0, 0) b = -1 → see g1 n b t = false)) (fun g1 t => g_P D (lay C g1 ad ln ex) ad B t.heap) (g_A B)) 0 0 (g_A B) := by
  refine Met.ofW (cc := cX2_addNode) (maxL := 6) (ret := (some .int)) (by decide) rfl ?_
  intro p e s m args below meth c s₁ B₀ hml hv
  obtain ⟨rfl, hG, hF⟩ := hv
  have hK := hF.1
  have hN := hF.2.1
  have hB := hF.2.2.2
  have hx := B₀.exec
  have hb := B₀.bytes
  have hr := B₀.returns
  have hts := atoms_spec (ws := wsX2_addNode) B₀.pre
  have hown : s.vm.findClass RX2 = some m.cls := findClass_of_methodNamed B₀.named
  have hlocks := B₀.notSynchronized
  have hS : va_S (g_A B) s.heap s.heap [] := va_S.rf
  have hi2 : ∀ w ∈ wsX20, w ∈ wsX2_addNode := by decide +kernel
  have hl := lv_entry [.ref (ad (1, 0, 0)), .int x, .int y, .int z] (n := 6) (Nat.le_of_ble_eq_true rfl)
  rw [lg_entry_eq]
  generalize (lg_sl [.ref (ad (1, 0, 0)), .int x, .int y, .int z] ++ List.replicate (6 - (lg_sl [.ref (ad (1, 0, 0)), .int x, .int y, .int z]).length) Slot.unset).toArray = ls at hl ⊢
  have hl : lv_has ls 6 [(0, .ref (ad (1, 0, 0))), (1, .int x), (2, .int y), (3, .int z)] := hl
  refine lv_aload_n hx hb dX2_addNode_0 rfl (lv_at hl 0 rfl) ?_
  refine g_get hx hb hts hi2 hown hK hG (lay_sky) rfl 4 (by decide) (hts (.fieldLink RX2 26 "Satellitering$Sky" "count" "I") (by decide +kernel)) rfl dX2_addNode_1 ?_
  refine lv_to (y := nI n) (hc) ?_
  refine lv_istore (lv' := [(4, .int (nI n)), (0, .ref (ad (1, 0, 0))), (1, .int x), (2, .int y), (3, .int z)]) hx hb dX2_addNode_4 hl (by decide) rfl (fun ls hl => ?_)
  refine lv_aload_n hx hb dX2_addNode_6 rfl (lv_at hl 1 rfl) ?_
  refine g_get hx hb hts hi2 hown hK hG (lay_sky) rfl 0 (by decide) (hts (.fieldLink RX2 9 "Satellitering$Sky" "places" "[I") (by decide +kernel)) rfl dX2_addNode_7 ?_
  refine lv_iload hx hb dX2_addNode_10 (lv_at hl 0 rfl) ?_
  refine lv_iload_n hx hb dX2_addNode_12 rfl (lv_at hl 2 rfl) ?_
  refine o_iast hx hb hK hG hS (cd := (6, 0, 0)) (fun _ => lay_places) (hn) (by first | decide | omega) dX2_addNode_13 (fun H locs hG hS => ?_)
  refine lv_aload_n hx hb dX2_addNode_14 rfl (lv_at hl 1 rfl) ?_
  refine g_get hx hb hts hi2 hown hK hG (lay_sky) rfl 1 (by decide) (hts (.fieldLink RX2 15 "Satellitering$Sky" "speeds" "[I") (by decide +kernel)) rfl dX2_addNode_15 ?_
  refine lv_iload hx hb dX2_addNode_18 (lv_at hl 0 rfl) ?_
  refine lv_iload_n hx hb dX2_addNode_20 rfl (lv_at hl 3 rfl) ?_
  refine o_iast hx hb hK hG hS (cd := (7, 0, 0)) (fun _ => lay_speeds) (hn) (by first | decide | omega) dX2_addNode_21 (fun H locs hG hS => ?_)
  refine lv_aload_n hx hb dX2_addNode_22 rfl (lv_at hl 1 rfl) ?_
  refine g_get hx hb hts hi2 hown hK hG (lay_sky) rfl 2 (by decide) (hts (.fieldLink RX2 18 "Satellitering$Sky" "reaches" "[I") (by decide +kernel)) rfl dX2_addNode_23 ?_
  refine lv_iload hx hb dX2_addNode_26 (lv_at hl 0 rfl) ?_
  refine lv_iload_n hx hb dX2_addNode_28 rfl (lv_at hl 4 rfl) ?_
  refine o_iast hx hb hK hG hS (cd := (8, 0, 0)) (fun _ => lay_reaches) (hn) (by first | decide | omega) dX2_addNode_29 (fun H locs hG hS => ?_)
  refine lv_aload_n hx hb dX2_addNode_30 rfl (lv_at hl 1 rfl) ?_
  refine lv_dup hx hb dX2_addNode_31 rfl ?_
  refine g_get hx hb hts hi2 hown hK hG (lay_sky) rfl 4 (by decide) (hts (.fieldLink RX2 26 "Satellitering$Sky" "count" "I") (by decide +kernel)) rfl dX2_addNode_32 ?_
  refine lv_to (y := nI n) (by rw [g2_ne _ _ _ (by decide), g2_ne _ _ _ (by decide), g2_ne _ _ _ (by decide)]; exact hc) ?_
  refine lv_iconst (v := nI 1) hx hb dX2_addNode_35 (by decide) ?_
  refine lv_iadd hx hb dX2_addNode_36 ?_
  refine lv_to (y := nI (n + 1)) (nI_add n 1) ?_
  refine o_put hx hb hts hi2 tyX2 tyX2_ok nmX2 hown hK hG hS (cd := (1, 0, 0)) (F_sky ad) (fun _ => lay_sky) rfl 4 (by decide) (hts (.fieldLink RX2 26 "Satellitering$Sky" "count" "I") (by decide +kernel)) rfl rfl (by simp [upd]) (by simp) dX2_addNode_37 (fun H locs hG hS => ?_)
  refine lv_iconst (v := nI 0) hx hb dX2_addNode_40 (by decide) ?_
  refine lv_istore (lv' := [(5, .int (nI 0)), (4, .int (nI n)), (0, .ref (ad (1, 0, 0))), (1, .int x), (2, .int y), (3, .int z)]) hx hb dX2_addNode_41 hl (by decide) rfl (fun ls hl => ?_)
  have loop : ∀ (k i : Nat) (g1 : g_k → Nat → Int32) (H : Heap) (locs : List Loc), i ≤ n → n < i + k → g1 (1, 0, 0) 4 = nI (n + 1) → g1 (6, 0, 0) = upd (g (6, 0, 0)) n x → g1 (8, 0, 0) = upd (g (8, 0, 0)) n z → (∀ c : g_k, c ≠ (1, 0, 0) → c ≠ (6, 0, 0) → c ≠ (7, 0, 0) → c ≠ (8, 0, 0) → c.1 ≠ 20 → g1 c = g c) → sk1 g1 (n + 1) → (∀ a b t, a < n → b < n → see g1 a b t = see g a b t) → (z = -1 → ∀ b t, b < n → g (8, 0, 0) b = -1 → see g1 n b t = false) → g_P D (lay C g1 ad ln ex) ad B H → va_S (g_A B) s.heap H locs → ∀ ls, lv_has ls 6 [(5, .int (nI i)), (4, .int (nI n)), (0, .ref (ad (1, 0, 0)))] → W p l e (headSpec wsX2_addNode ({ frames := 3, cells := 0, slots := 0, locals := 68 } : Room)).room s m ([.ref (ad (1, 0, 0)), .int x, .int y, .int z]).toArray below meth c H locs 0 0 (MQ below (va_Qi (fun (r : Int32) (g1 : g_k → Nat → Int32) => r = nI n ∧ g1 (1, 0, 0) 4 = nI (n + 1) ∧ g1 (6, 0, 0) = upd (g (6, 0, 0)) n x ∧ g1 (8, 0, 0) = upd (g (8, 0, 0)) n z ∧ (∀ c : g_k, c ≠ (1, 0, 0) → c ≠ (6, 0, 0) → c ≠ (7, 0, 0) → c ≠ (8, 0, 0) → c.1 ≠ 20 → g1 c = g c) ∧ sk1 g1 (n + 1) ∧ (∀ a b t, a < n → b < n → see g1 a b t = see g a b t) ∧ (z = -1 → ∀ b t, b < n → g (8, 0, 0) b = -1 → see g1 n b t = false)) (fun g1 t => g_P D (lay C g1 ad ln ex) ad B t.heap) (g_A B)) ([.ref (ad (1, 0, 0)), .int x, .int y, .int z]).toArray s 0 0 (g_A B)) (F0 m 43 ls []) := by
    intro k
    induction k with
    | zero => intro i g1 H locs h1 h2; exact absurd h2 (by omega)
    | succ k ih =>
      intro i g1 H locs h1 h2 h3 h4 h48 h5 h6 h7 h8 hG hS ls hl
      refine lv_iload hx hb dX2_addNode_43 (lv_at hl 0 rfl) ?_
      refine lv_iload hx hb dX2_addNode_45 (lv_at hl 1 rfl) ?_
      refine lv_icmp_ge (tgt := 64) hx hb dX2_addNode_47 (by decide) (fun c_1 => ?_) (fun c_1 => ?_)
      · refine lv_iload hx hb dX2_addNode_64 (lv_at hl 1 rfl) ?_
        exact W.iret (v := nI n) hx hb hr (fun t9 ht9 hW9 => ⟨⟨_, _, rfl, ⟨rfl, h3, h4, h48, h5, h6, h7, h8⟩, by show g_P _ _ _ _ t9.heap; rw [ht9]; exact hG⟩, hS.F ht9⟩) hS.2.2 dX2_addNode_66
      · have hi : i < n := Nat.lt_of_not_le (fun h9 => c_1 ((nI_leI (by omega) (by omega)).mpr h9))
        refine lv_aload_n hx hb dX2_addNode_50 rfl (lv_at hl 2 rfl) ?_
        refine lv_iload hx hb dX2_addNode_51 (lv_at hl 1 rfl) ?_
        refine lv_iload hx hb dX2_addNode_53 (lv_at hl 0 rfl) ?_
        refine va_callv (va_runV (As := [.int (nI n), .int (nI i)]) (rest := []) ⟨hx, hb, hml, hown, hts⟩ (c_markContacts l (show n < 10 by omega) (show i < 10 by omega) (show n ≠ i by omega)) (cwV 2 hts gX2_addNode_X2_markContacts rfl rfl rfl (by decide +kernel) ⟨Nat.le_of_ble_eq_true rfl, Nat.le_of_ble_eq_true rfl⟩) (g_preV hF hG hS (lay_sky) rfl) rfl rfl hl.1 rfl (lv_room (Nat.le_of_ble_eq_true rfl)) dX2_addNode_55 ⟨Nat.le_of_ble_eq_true rfl, Nat.le_of_ble_eq_true rfl⟩) hS (fun q _ h => h) (fun q h => h) (fun g_4 t9 H locs ht9 _ h_3 hB1 _ _ hS => ?_)
        have hG : g_P D (lay C g_4 ad ln ex) ad B H := by rw [← ht9]; exact hB1
        refine lv_iinc (v := nI (i + 1)) (lv' := [(5, .int (nI (i + 1))), (4, .int (nI n)), (0, .ref (ad (1, 0, 0)))]) hx hb dX2_addNode_58 hl (k := 0) rfl (nI_add i 1) (by decide) rfl (fun ls hl => ?_)
        refine lv_goto (tgt := 43) hx hb dX2_addNode_61 (by decide) ?_
        have hr9 : ∀ c : g_k, c.1 ≠ 20 → g_4 c = g1 c := fun c hc9 => h_3.1 c (fun z => hc9 (by rw [z])) (fun z => hc9 (by rw [z]))
        refine ih (i + 1) _ _ _ (by omega) (by omega) (by rw [hr9 _ (by decide)]; exact h3) (by rw [hr9 _ (by decide)]; exact h4) (by rw [hr9 _ (by decide)]; exact h48) (fun c c1 c2 c3 c4 c5 => by rw [hr9 c c5]; exact h5 c c1 c2 c3 c4 c5) (sk1_mark h6 (by omega) (by omega) (by omega) (by omega) h_3.1 h_3.2.1) (fun a b t a1 b1 => (mk_see1 (show n < 10 by omega) (show i < 10 by omega) (by omega) h_3.1 h_3.2.1 (by omega) (by omega) (by omega)).trans (h7 a b t a1 b1)) (fun z1 b t b1 b2 => ?_) hG hS ls (lv_sub hl [0, 1, 2] rfl)
        by_cases e9 : b = i
        · rw [← h8 z1 b t b1 b2]
          unfold see
          rw [h_3.2.2 (by rw [h48, upd_self]; exact z1) (by rw [h48, upd_ne _ _ (by omega), ← e9]; exact b2)]
        · exact (mk_see1 (show n < 10 by omega) (show i < 10 by omega) (by omega) h_3.1 h_3.2.1 (by omega) (by omega) (by omega)).trans (h8 z1 b t b1 b2)
  have hh20 : ∀ i, (g2 (g2 (g2 (g2 g (6, 0, 0) n x) (7, 0, 0) n y) (8, 0, 0) n z) (1, 0, 0) 4 (nI (n + 1))) (20, i, 0) = g (20, i, 0) := fun i => by rw [g2_ne _ _ _ (by intro h9; cases h9), g2_ne _ _ _ (by intro h9; cases h9), g2_ne _ _ _ (by intro h9; cases h9), g2_ne _ _ _ (by intro h9; cases h9)]
  refine loop (n + 1) 0 _ _ _ (Nat.zero_le n) (by omega) (by rw [g2_self, upd_self]) ?_ ?_ (fun c c1 c2 c3 c4 c5 => by rw [g2_ne _ _ _ c1, g2_ne _ _ _ c4, g2_ne _ _ _ c3, g2_ne _ _ _ c2]) (sk1_cong (sk1_up hsk (Nat.le_succ n)) hh20) (fun a b t _ _ => by unfold see; rw [hh20]) (fun _ b t b1 _ => ?_) hG hS ls (lv_sub hl [0, 1, 2] rfl)
  · rw [g2_ne _ _ _ (by decide), g2_ne _ _ _ (by decide), g2_ne _ _ _ (by decide), g2_self]
  · rw [g2_ne _ _ _ (by decide), g2_self, g2_ne _ _ _ (by decide), g2_ne _ _ _ (by decide)]
  · by_cases e9 : see g n b t = true
    · exact absurd (hsk n b t (by omega) (by omega) e9).1 (Nat.lt_irrefl n)
    · rw [Bool.not_eq_true] at e9
      rw [← e9]
      unfold see
      rw [hh20]
end
section
/-- what a timetable's reckoning leaves as it was -/
def tf (k : Nat) (g g1 : g_k → Nat → Int32) : Prop := ∀ c : g_k, (c.1 < 31 ∨ 35 < c.1 ∨ c.2.1 ≠ k) → g1 c = g c
theorem tf_rf {k : Nat} {g : g_k → Nat → Int32} : tf k g g := fun _ _ => rfl
theorem tf_tr {k : Nat} {g g1 g3 : g_k → Nat → Int32} (h : tf k g g1) (h2 : tf k g1 g3) : tf k g g3 := fun c hc => (h2 c hc).trans (h c hc)
theorem tf_of {k : Nat} {g g1 : g_k → Nat → Int32} {c0 : g_k} (h0 : 31 ≤ c0.1 ∧ c0.1 ≤ 35 ∧ c0.2.1 = k) (h : ∀ c, c ≠ c0 → g1 c = g c) : tf k g g1 := fun c hc => h c (fun z => by
  rw [z] at hc
  omega)
theorem sc_in (ln : g_k → Nat) (k : Nat) : 31 ≤ (sc ln k).1 ∧ (sc ln k).1 ≤ 35 ∧ (sc ln k).2.1 = k := by
  unfold sc
  split <;> exact ⟨Nat.le_of_ble_eq_true rfl, Nat.le_of_ble_eq_true rfl, rfl⟩
theorem sb_in (ln : g_k → Nat) (k : Nat) : 31 ≤ (sb ln k).1 ∧ (sb ln k).1 ≤ 35 ∧ (sb ln k).2.1 = k := by
  unfold sb
  split <;> exact ⟨Nat.le_of_ble_eq_true rfl, Nat.le_of_ble_eq_true rfl, rfl⟩
def lf (k : Nat) (ln ln1 : g_k → Nat) : Prop := ∀ c : g_k, c ≠ (31, k, 0) → ln1 c = ln c

set_option maxHeartbeats 4000000 in
set_option maxRecDepth 100000 in
theorem c_soonestThrough (l : Launch) {D : va_G} {C : g_C} {g : g_k → Nat → Int32} {ad ln : g_k → Nat} {ex : g_k → Option va_E} {B : Nat} {n k : Nat} (hn : n ≤ 10) (hc : g (1, 0, 0) 4 = nI n) (hk : k < 10) (hlv : ln (30, k, 0) = 1) {i : Nat} (hi9 : i < 10) {x : Int32} : Met l yX4_soonestThrough wsX4_soonestThrough ({ frames := 0, cells := 0, slots := 0, locals := 0 } : Room) (va_Pc [.ref (ad (31, k, 0)), .int (nI i), .int x] (g_S D C (lay C g ad ln ex) ad B)) (vp_Si (fun r => True)) 0 0 (fun _ => False) := by
  refine Met.ofW (cc := cX4_soonestThrough) (maxL := 5) (ret := (some .int)) (by decide) rfl ?_
  intro p e s m args below meth c s₁ B₀ hml hv
  obtain ⟨rfl, hG, hF⟩ := hv
  have hK := hF.1
  have hN := hF.2.1
  have hB := hF.2.2.2
  have hx := B₀.exec
  have hb := B₀.bytes
  have hr := B₀.returns
  have hts := atoms_spec (ws := wsX4_soonestThrough) B₀.pre
  have hown : s.vm.findClass RX4 = some m.cls := findClass_of_methodNamed B₀.named
  have hlocks := B₀.notSynchronized
  have hS : va_S (g_A B) s.heap s.heap [] := va_S.rf
  have hi2 : ∀ w ∈ wsX20, w ∈ wsX4_soonestThrough := by decide +kernel
  have hi4 : ∀ w ∈ wsX40, w ∈ wsX4_soonestThrough := by decide +kernel
  have hl := lv_entry [.ref (ad (31, k, 0)), .int (nI i), .int x] (n := 5) (Nat.le_of_ble_eq_true rfl)
  rw [lg_entry_eq]
  generalize (lg_sl [.ref (ad (31, k, 0)), .int (nI i), .int x] ++ List.replicate (5 - (lg_sl [.ref (ad (31, k, 0)), .int (nI i), .int x]).length) Slot.unset).toArray = ls at hl ⊢
  have hl : lv_has ls 5 [(0, .ref (ad (31, k, 0))), (1, .int (nI i)), (2, .int x)] := hl
  refine lv_aload_n hx hb dX4_soonestThrough_0 rfl (lv_at hl 0 rfl) ?_
  refine g_get hx hb hts hi4 hown hK hG (lay_time hk hlv) rfl 3 (by decide) (hts (.fieldLink RX4 16 "Satellitering$Timetable" "soonest" "[I") (by decide +kernel)) rfl dX4_soonestThrough_1 ?_
  refine lv_iload_n hx hb dX4_soonestThrough_4 rfl (lv_at hl 1 rfl) ?_
  refine g_iald hx hb hK hG (lay_sc hk hlv) (hi9) (by first | decide | omega) dX4_soonestThrough_5 ?_
  refine lv_istore_n (lv' := [(3, .int (g (sc ln k) i)), (0, .ref (ad (31, k, 0))), (1, .int (nI i)), (2, .int x)]) hx hb dX4_soonestThrough_6 rfl hl (by decide) rfl (fun ls hl => ?_)
  refine lv_iconst (v := nI 0) hx hb dX4_soonestThrough_7 (by decide) ?_
  refine lv_istore (lv' := [(4, .int (nI 0)), (3, .int (g (sc ln k) i)), (0, .ref (ad (31, k, 0))), (1, .int (nI i)), (2, .int x)]) hx hb dX4_soonestThrough_8 hl (by decide) rfl (fun ls hl => ?_)
  have loop : ∀ (q j : Nat) (z : Int32), j ≤ n → n < j + q → ∀ ls, lv_has ls 5 [(4, .int (nI j)), (3, .int z), (0, .ref (ad (31, k, 0))), (1, .int (nI i)), (2, .int x)] → W p l e (headSpec wsX4_soonestThrough ({ frames := 0, cells := 0, slots := 0, locals := 0 } : Room)).room s m ([.ref (ad (31, k, 0)), .int (nI i), .int x]).toArray below meth c s.heap [] 0 0 (MQ below (vp_Si (fun r => True)) ([.ref (ad (31, k, 0)), .int (nI i), .int x]).toArray s 0 0 (fun _ => False)) (F0 m 10 ls []) := by
    intro q
    induction q with
    | zero => intro j z h1 h2; exact absurd h2 (by omega)
    | succ q ih =>
      intro j z h1 h2 ls hl
      refine lv_iload hx hb dX4_soonestThrough_10 (lv_at hl 0 rfl) ?_
      refine lv_aload_n hx hb dX4_soonestThrough_12 rfl (lv_at hl 2 rfl) ?_
      refine g_get hx hb hts hi4 hown hK hG (lay_time hk hlv) rfl 0 (by decide) (hts (.fieldLink RX4 27 "Satellitering$Timetable" "sky" "LSatellitering$Sky;") (by decide +kernel)) rfl dX4_soonestThrough_13 ?_
      refine g_getN hx hb hts hi2 hown hK hG (lay_sky) rfl 4 (by decide) (va_Nw.use rfl hN.2.2.2.2.2.2.2.2.2.2.2.2.1) rfl dX4_soonestThrough_16 ?_
      refine lv_to (y := nI n) (hc) ?_
      refine lv_icmp_ge (tgt := 56) hx hb dX4_soonestThrough_19 (by decide) (fun c_1 => ?_) (fun c_1 => ?_)
      · refine lv_iload_n hx hb dX4_soonestThrough_56 rfl (lv_at hl 1 rfl) ?_
        exact W.iret (v := z) hx hb hr (fun t9 ht9 hW9 => ⟨_, rfl, trivial, ht9⟩) (fun q h => nomatch h) dX4_soonestThrough_57
      · have hi : j < n := Nat.lt_of_not_le (fun h9 => c_1 ((nI_leI (by omega) (by omega)).mpr h9))
        refine lv_iload_n hx hb dX4_soonestThrough_22 rfl (lv_at hl 4 rfl) ?_
        refine lv_iload hx hb dX4_soonestThrough_23 (lv_at hl 0 rfl) ?_
        refine lv_ishr hx hb dX4_soonestThrough_25 ?_
        refine lv_iconst (v := nI 1) hx hb dX4_soonestThrough_26 (by decide) ?_
        refine lv_iand hx hb dX4_soonestThrough_27 ?_
        refine lv_if_eq (tgt := 50) hx hb dX4_soonestThrough_28 (by decide) (fun c_2 => ?_) (fun c_2 => ?_)
        · refine lv_iinc (v := nI (j + 1)) (lv' := [(4, .int (nI (j + 1))), (3, .int z), (0, .ref (ad (31, k, 0))), (1, .int (nI i)), (2, .int x)]) hx hb dX4_soonestThrough_50 hl (k := 0) rfl (nI_add j 1) (by decide) rfl (fun ls hl => ?_)
          refine lv_goto (tgt := 10) hx hb dX4_soonestThrough_53 (by decide) ?_
          exact ih (j + 1) _ (by omega) (by omega) ls (lv_sub hl [0, 1, 2, 3, 4] rfl)
        · refine lv_aload_n hx hb dX4_soonestThrough_31 rfl (lv_at hl 2 rfl) ?_
          refine g_get hx hb hts hi4 hown hK hG (lay_time hk hlv) rfl 3 (by decide) (hts (.fieldLink RX4 16 "Satellitering$Timetable" "soonest" "[I") (by decide +kernel)) rfl dX4_soonestThrough_32 ?_
          refine lv_iload hx hb dX4_soonestThrough_35 (lv_at hl 0 rfl) ?_
          refine g_iald hx hb hK hG (lay_sc hk hlv) (by omega) (by first | decide | omega) dX4_soonestThrough_37 ?_
          refine lv_iload_n hx hb dX4_soonestThrough_38 rfl (lv_at hl 1 rfl) ?_
          refine lv_icmp_ge (tgt := 50) hx hb dX4_soonestThrough_39 (by decide) (fun c_3 => ?_) (fun c_3 => ?_)
          · refine lv_iinc (v := nI (j + 1)) (lv' := [(4, .int (nI (j + 1))), (3, .int z), (0, .ref (ad (31, k, 0))), (1, .int (nI i)), (2, .int x)]) hx hb dX4_soonestThrough_50 hl (k := 0) rfl (nI_add j 1) (by decide) rfl (fun ls hl => ?_)
            refine lv_goto (tgt := 10) hx hb dX4_soonestThrough_53 (by decide) ?_
            exact ih (j + 1) _ (by omega) (by omega) ls (lv_sub hl [0, 1, 2, 3, 4] rfl)
          · refine lv_aload_n hx hb dX4_soonestThrough_42 rfl (lv_at hl 2 rfl) ?_
            refine g_get hx hb hts hi4 hown hK hG (lay_time hk hlv) rfl 3 (by decide) (hts (.fieldLink RX4 16 "Satellitering$Timetable" "soonest" "[I") (by decide +kernel)) rfl dX4_soonestThrough_43 ?_
            refine lv_iload hx hb dX4_soonestThrough_46 (lv_at hl 0 rfl) ?_
            refine g_iald hx hb hK hG (lay_sc hk hlv) (by omega) (by first | decide | omega) dX4_soonestThrough_48 ?_
            refine lv_istore_n (lv' := [(3, .int (g (sc ln k) j)), (4, .int (nI j)), (0, .ref (ad (31, k, 0))), (1, .int (nI i)), (2, .int x)]) hx hb dX4_soonestThrough_49 rfl hl (by decide) rfl (fun ls hl => ?_)
            refine lv_iinc (v := nI (j + 1)) (lv' := [(4, .int (nI (j + 1))), (3, .int (g (sc ln k) j)), (0, .ref (ad (31, k, 0))), (1, .int (nI i)), (2, .int x)]) hx hb dX4_soonestThrough_50 hl (k := 1) rfl (nI_add j 1) (by decide) rfl (fun ls hl => ?_)
            refine lv_goto (tgt := 10) hx hb dX4_soonestThrough_53 (by decide) ?_
            exact ih (j + 1) _ (by omega) (by omega) ls (lv_sub hl [0, 1, 2, 3, 4] rfl)
  exact loop (n + 1) 0 _ (Nat.zero_le n) (by omega) ls (lv_sub hl [0, 1, 2, 3, 4] rfl)

set_option maxHeartbeats 4000000 in
set_option maxRecDepth 100000 in
theorem c_writeDown (l : Launch) {D : va_G} {C : g_C} {g : g_k → Nat → Int32} {ad ln : g_k → Nat} {ex : g_k → Option va_E} {B : Nat} {n k : Nat} (hn : n ≤ 10) (hc : g (1, 0, 0) 4 = nI n) (hk : k < 10) (hlv : ln (30, k, 0) = 1) {t : Nat} (ht : t < 360) : Met l yX4_writeDown wsX4_writeDown ({ frames := 0, cells := 0, slots := 0, locals := 0 } : Room) (va_Pc [.ref (ad (31, k, 0)), .int (nI t)] (g_S D C (lay C g ad ln ex) ad B)) (va_Qv (fun (g1 : g_k → Nat → Int32) => tf k g g1) (fun g1 t => g_P D (lay C g1 ad ln ex) ad B t.heap) (g_A B)) 0 0 (g_A B) := by
  refine Met.ofW (cc := cX4_writeDown) (maxL := 4) (ret := none) (by decide) rfl ?_
  intro p e s m args below meth c s₁ B₀ hml hv
  obtain ⟨rfl, hG, hF⟩ := hv
  have hK := hF.1
  have hN := hF.2.1
  have hB := hF.2.2.2
  have hx := B₀.exec
  have hb := B₀.bytes
  have hr := B₀.returns
  have hts := atoms_spec (ws := wsX4_writeDown) B₀.pre
  have hown : s.vm.findClass RX4 = some m.cls := findClass_of_methodNamed B₀.named
  have hlocks := B₀.notSynchronized
  have hS : va_S (g_A B) s.heap s.heap [] := va_S.rf
  have hi2 : ∀ w ∈ wsX20, w ∈ wsX4_writeDown := by decide +kernel
  have hi4 : ∀ w ∈ wsX40, w ∈ wsX4_writeDown := by decide +kernel
  have hl := lv_entry [.ref (ad (31, k, 0)), .int (nI t)] (n := 4) (Nat.le_of_ble_eq_true rfl)
  rw [lg_entry_eq]
  generalize (lg_sl [.ref (ad (31, k, 0)), .int (nI t)] ++ List.replicate (4 - (lg_sl [.ref (ad (31, k, 0)), .int (nI t)]).length) Slot.unset).toArray = ls at hl ⊢
  have hl : lv_has ls 4 [(0, .ref (ad (31, k, 0))), (1, .int (nI t))] := hl
  refine lv_iconst (v := nI 0) hx hb dX4_writeDown_0 (by decide) ?_
  refine lv_istore_n (lv' := [(2, .int (nI 0)), (0, .ref (ad (31, k, 0))), (1, .int (nI t))]) hx hb dX4_writeDown_1 rfl hl (by decide) rfl (fun ls hl => ?_)
  have loop : ∀ (q j : Nat) (g1 : g_k → Nat → Int32) (H : Heap) (locs : List Loc), j ≤ n → n < j + q → tf k g g1 → g_P D (lay C g1 ad ln ex) ad B H → va_S (g_A B) s.heap H locs → ∀ ls, lv_has ls 4 [(2, .int (nI j)), (0, .ref (ad (31, k, 0))), (1, .int (nI t))] → W p l e (headSpec wsX4_writeDown ({ frames := 0, cells := 0, slots := 0, locals := 0 } : Room)).room s m ([.ref (ad (31, k, 0)), .int (nI t)]).toArray below meth c H locs 0 0 (MQ below (va_Qv (fun (g1 : g_k → Nat → Int32) => tf k g g1) (fun g1 t => g_P D (lay C g1 ad ln ex) ad B t.heap) (g_A B)) ([.ref (ad (31, k, 0)), .int (nI t)]).toArray s 0 0 (g_A B)) (F0 m 2 ls []) := by
    intro q
    induction q with
    | zero => intro j g1 H locs h1 h2; exact absurd h2 (by omega)
    | succ q ih =>
      intro j g1 H locs h1 h2 h3 hG hS ls hl
      refine lv_iload_n hx hb dX4_writeDown_2 rfl (lv_at hl 0 rfl) ?_
      refine lv_aload_n hx hb dX4_writeDown_3 rfl (lv_at hl 1 rfl) ?_
      refine g_get hx hb hts hi4 hown hK hG (lay_time hk hlv) rfl 0 (by decide) (hts (.fieldLink RX4 27 "Satellitering$Timetable" "sky" "LSatellitering$Sky;") (by decide +kernel)) rfl dX4_writeDown_4 ?_
      refine g_getN hx hb hts hi2 hown hK hG (lay_sky) rfl 4 (by decide) (va_Nw.use rfl hN.2.2.2.2.2.2.2.2.2.2.2.2.1) rfl dX4_writeDown_7 ?_
      refine lv_to (y := nI n) (by rw [h3 _ (Or.inl (by decide))]; exact hc) ?_
      refine lv_icmp_ge (tgt := 48) hx hb dX4_writeDown_10 (by decide) (fun c_1 => ?_) (fun c_1 => ?_)
      · exact W.vret hx hb hr (fun t9 ht9 hW9 => ⟨⟨_, rfl, h3, by show g_P _ _ _ _ t9.heap; rw [ht9]; exact hG⟩, hS.F ht9⟩) hS.2.2 dX4_writeDown_48
      · have hi : j < n := Nat.lt_of_not_le (fun h9 => c_1 ((nI_leI (by omega) (by omega)).mpr h9))
        refine lv_aload_n hx hb dX4_writeDown_13 rfl (lv_at hl 1 rfl) ?_
        refine g_get hx hb hts hi4 hown hK hG (lay_time hk hlv) rfl 3 (by decide) (hts (.fieldLink RX4 16 "Satellitering$Timetable" "soonest" "[I") (by decide +kernel)) rfl dX4_writeDown_14 ?_
        refine lv_iload_n hx hb dX4_writeDown_17 rfl (lv_at hl 0 rfl) ?_
        refine g_iald hx hb hK hG (lay_sc hk hlv) (by omega) (by first | decide | omega) dX4_writeDown_18 ?_
        refine lv_iload_n hx hb dX4_writeDown_19 rfl (lv_at hl 2 rfl) ?_
        refine lv_isub hx hb dX4_writeDown_20 ?_
        refine lv_istore_n (lv' := [(3, .int ((g1 (sc ln k) j) - (nI t))), (2, .int (nI j)), (0, .ref (ad (31, k, 0))), (1, .int (nI t))]) hx hb dX4_writeDown_21 rfl hl (by decide) rfl (fun ls hl => ?_)
        refine lv_aload_n hx hb dX4_writeDown_22 rfl (lv_at hl 2 rfl) ?_
        refine g_get hx hb hts hi4 hown hK hG (lay_time hk hlv) rfl 2 (by decide) (hts (.fieldLink RX4 11 "Satellitering$Timetable" "left" "[[I") (by decide +kernel)) rfl dX4_writeDown_23 ?_
        refine lv_iload_n hx hb dX4_writeDown_26 rfl (lv_at hl 1 rfl) ?_
        refine o_left hx hb hK hG hk hlv (by omega) dX4_writeDown_27 ?_
        refine lv_iload_n hx hb dX4_writeDown_28 rfl (lv_at hl 3 rfl) ?_
        refine lv_iload_n hx hb dX4_writeDown_29 rfl (lv_at hl 0 rfl) ?_
        refine lv_sipush (v := nI 400) hx hb dX4_writeDown_30 (by decide) ?_
        refine lv_icmp_gt (tgt := 40) hx hb dX4_writeDown_33 (by decide) (fun c_2 => ?_) (fun c_2 => ?_)
        · refine lv_iconst (v := (-1)) hx hb dX4_writeDown_40 (by decide) ?_
          refine o_iast hx hb hK hG hS (cd := (35, k, j)) (fun _ => lay_leftrow hk (by omega) hlv) (ht) (by first | decide | omega) dX4_writeDown_41 (fun H locs hG hS => ?_)
          refine lv_iinc (v := nI (j + 1)) (lv' := [(2, .int (nI (j + 1))), (3, .int ((g1 (sc ln k) j) - (nI t))), (0, .ref (ad (31, k, 0))), (1, .int (nI t))]) hx hb dX4_writeDown_42 hl (k := 1) rfl (nI_add j 1) (by decide) rfl (fun ls hl => ?_)
          refine lv_goto (tgt := 2) hx hb dX4_writeDown_45 (by decide) ?_
          exact ih (j + 1) _ _ _ (by omega) (by omega) (tf_tr h3 (tf_of (c0 := (35, k, j)) ⟨Nat.le_of_ble_eq_true rfl, Nat.le_of_ble_eq_true rfl, rfl⟩ (fun c hc9 => g2_ne _ _ _ hc9))) hG hS ls (lv_sub hl [0, 2, 3] rfl)
        · refine lv_iload_n hx hb dX4_writeDown_36 rfl (lv_at hl 0 rfl) ?_
          refine lv_goto (tgt := 41) hx hb dX4_writeDown_37 (by decide) ?_
          refine o_iast hx hb hK hG hS (cd := (35, k, j)) (fun _ => lay_leftrow hk (by omega) hlv) (ht) (by first | decide | omega) dX4_writeDown_41 (fun H locs hG hS => ?_)
          refine lv_iinc (v := nI (j + 1)) (lv' := [(2, .int (nI (j + 1))), (3, .int ((g1 (sc ln k) j) - (nI t))), (0, .ref (ad (31, k, 0))), (1, .int (nI t))]) hx hb dX4_writeDown_42 hl (k := 1) rfl (nI_add j 1) (by decide) rfl (fun ls hl => ?_)
          refine lv_goto (tgt := 2) hx hb dX4_writeDown_45 (by decide) ?_
          exact ih (j + 1) _ _ _ (by omega) (by omega) (tf_tr h3 (tf_of (c0 := (35, k, j)) ⟨Nat.le_of_ble_eq_true rfl, Nat.le_of_ble_eq_true rfl, rfl⟩ (fun c hc9 => g2_ne _ _ _ hc9))) hG hS ls (lv_sub hl [0, 2, 3] rfl)
  exact loop (n + 1) 0 g s.heap [] (Nat.zero_le n) (by omega) tf_rf hG hS ls (lv_sub hl [0, 1, 2] rfl)

set_option maxHeartbeats 4000000 in
set_option maxRecDepth 100000 in
theorem c_stepBack (l : Launch) {D : va_G} {C : g_C} {g : g_k → Nat → Int32} {ad ln : g_k → Nat} {ex : g_k → Option va_E} {B : Nat} {n k : Nat} (hn : n ≤ 10) (hc : g (1, 0, 0) 4 = nI n) (hk : k < 10) (hlv : ln (30, k, 0) = 1) {t : Nat} (ht : t < 2 ^ 31) : Met l yX4_stepBack wsX4_stepBack ({ frames := 1, cells := 0, slots := 0, locals := 24 } : Room) (va_Pc [.ref (ad (31, k, 0)), .int (nI t)] (g_S D C (lay C g ad ln ex) ad B)) (va_Qv (fun (u : (g_k → Nat → Int32) × (g_k → Nat)) => tf k g u.1 ∧ lf k ln u.2) (fun u t => g_P D (lay C u.1 ad u.2 ex) ad B t.heap) (g_A B)) 0 0 (g_A B) := by
  refine Met.ofW (cc := cX4_stepBack) (maxL := 4) (ret := none) (by decide) rfl ?_
  intro p e s m args below meth c s₁ B₀ hml hv
  obtain ⟨rfl, hG, hF⟩ := hv
  have hK := hF.1
  have hN := hF.2.1
  have hB := hF.2.2.2
  have hx := B₀.exec
  have hb := B₀.bytes
  have hr := B₀.returns
  have hts := atoms_spec (ws := wsX4_stepBack) B₀.pre
  have hown : s.vm.findClass RX4 = some m.cls := findClass_of_methodNamed B₀.named
  have hlocks := B₀.notSynchronized
  have hS : va_S (g_A B) s.heap s.heap [] := va_S.rf
  have hi2 : ∀ w ∈ wsX20, w ∈ wsX4_stepBack := by decide +kernel
  have hi4 : ∀ w ∈ wsX40, w ∈ wsX4_stepBack := by decide +kernel
  have hl := lv_entry [.ref (ad (31, k, 0)), .int (nI t)] (n := 4) (Nat.le_of_ble_eq_true rfl)
  rw [lg_entry_eq]
  generalize (lg_sl [.ref (ad (31, k, 0)), .int (nI t)] ++ List.replicate (4 - (lg_sl [.ref (ad (31, k, 0)), .int (nI t)]).length) Slot.unset).toArray = ls at hl ⊢
  have hl : lv_has ls 4 [(0, .ref (ad (31, k, 0))), (1, .int (nI t))] := hl
  refine lv_iconst (v := nI 0) hx hb dX4_stepBack_0 (by decide) ?_
  refine lv_istore_n (lv' := [(2, .int (nI 0)), (0, .ref (ad (31, k, 0))), (1, .int (nI t))]) hx hb dX4_stepBack_1 rfl hl (by decide) rfl (fun ls hl => ?_)
  have loop : ∀ (q j : Nat) (g1 : g_k → Nat → Int32) (H : Heap) (locs : List Loc), j ≤ n → n < j + q → tf k g g1 → g_P D (lay C g1 ad ln ex) ad B H → va_S (g_A B) s.heap H locs → ∀ ls, lv_has ls 4 [(2, .int (nI j)), (0, .ref (ad (31, k, 0))), (1, .int (nI t))] → W p l e (headSpec wsX4_stepBack ({ frames := 1, cells := 0, slots := 0, locals := 24 } : Room)).room s m ([.ref (ad (31, k, 0)), .int (nI t)]).toArray below meth c H locs 0 0 (MQ below (va_Qv (fun (u : (g_k → Nat → Int32) × (g_k → Nat)) => tf k g u.1 ∧ lf k ln u.2) (fun u t => g_P D (lay C u.1 ad u.2 ex) ad B t.heap) (g_A B)) ([.ref (ad (31, k, 0)), .int (nI t)]).toArray s 0 0 (g_A B)) (F0 m 2 ls []) := by
    intro q
    induction q with
    | zero => intro j g1 H locs h1 h2; exact absurd h2 (by omega)
    | succ q ih =>
      intro j g1 H locs h1 h2 h3 hG hS ls hl
      refine lv_iload_n hx hb dX4_stepBack_2 rfl (lv_at hl 0 rfl) ?_
      refine lv_aload_n hx hb dX4_stepBack_3 rfl (lv_at hl 1 rfl) ?_
      refine g_get hx hb hts hi4 hown hK hG (lay_time hk hlv) rfl 0 (by decide) (hts (.fieldLink RX4 27 "Satellitering$Timetable" "sky" "LSatellitering$Sky;") (by decide +kernel)) rfl dX4_stepBack_4 ?_
      refine g_getN hx hb hts hi2 hown hK hG (lay_sky) rfl 4 (by decide) (va_Nw.use rfl hN.2.2.2.2.2.2.2.2.2.2.2.2.1) rfl dX4_stepBack_7 ?_
      refine lv_to (y := nI n) (by rw [h3 _ (Or.inl (by decide))]; exact hc) ?_
      refine lv_icmp_ge (tgt := 53) hx hb dX4_stepBack_10 (by decide) (fun c_1 => ?_) (fun c_1 => ?_)
      · refine lv_aload_n hx hb dX4_stepBack_53 rfl (lv_at hl 1 rfl) ?_
        refine g_get hx hb hts hi4 hown hK hG (lay_time hk hlv) rfl 3 (by decide) (hts (.fieldLink RX4 16 "Satellitering$Timetable" "soonest" "[I") (by decide +kernel)) rfl dX4_stepBack_54 ?_
        refine lv_astore_n (lv' := [(2, .ref (ad (sc ln k))), (0, .ref (ad (31, k, 0))), (1, .int (nI t))]) hx hb dX4_stepBack_57 rfl hl (by decide) rfl (fun ls hl => ?_)
        refine lv_aload_n hx hb dX4_stepBack_58 rfl (lv_at hl 1 rfl) ?_
        refine lv_aload_n hx hb dX4_stepBack_59 rfl (lv_at hl 1 rfl) ?_
        refine g_get hx hb hts hi4 hown hK hG (lay_time hk hlv) rfl 4 (by decide) (hts (.fieldLink RX4 20 "Satellitering$Timetable" "soonestBefore" "[I") (by decide +kernel)) rfl dX4_stepBack_60 ?_
        refine g_put hx hb hts hi4 tyX4 tyX4_ok nmX4 hown hK hG hS (cd := (31, k, 0)) (lay_time hk hlv) rfl 3 (by decide) (hts (.fieldLink RX4 16 "Satellitering$Timetable" "soonest" "[I") (by decide +kernel)) rfl rfl rfl (by simp) dX4_stepBack_63 (fun H locs hG hS => ?_)
        refine lv_aload_n hx hb dX4_stepBack_66 rfl (lv_at hl 1 rfl) ?_
        refine lv_aload_n hx hb dX4_stepBack_67 rfl (lv_at hl 0 rfl) ?_
        refine g_put hx hb hts hi4 tyX4 tyX4_ok nmX4 hown hK hG hS (cd := (31, k, 0)) (k_up_self _ _ _) rfl 4 (by decide) (hts (.fieldLink RX4 20 "Satellitering$Timetable" "soonestBefore" "[I") (by decide +kernel)) rfl rfl rfl (by simp) dX4_stepBack_68 (fun H locs hG hS => ?_)
        have hG : g_P D (lay C g1 ad (sw ln k) ex) ad B H := hG.to (lay_sw hk hlv) rfl
        exact W.vret hx hb hr (fun t9 ht9 hW9 => ⟨⟨(g1, (sw ln k)), rfl, ⟨h3, fun c hc9 => sw_ne _ hc9⟩, by show g_P D (lay C g1 ad (sw ln k) ex) ad B t9.heap; rw [ht9]; exact hG⟩, hS.F ht9⟩) hS.2.2 dX4_stepBack_71
      · have hi : j < n := Nat.lt_of_not_le (fun h9 => c_1 ((nI_leI (by omega) (by omega)).mpr h9))
        have hc1 : g1 (1, 0, 0) 4 = nI n := by rw [h3 _ (Or.inl (by decide))]; exact hc
        refine lv_aload_n hx hb dX4_stepBack_13 rfl (lv_at hl 1 rfl) ?_
        refine g_get hx hb hts hi4 hown hK hG (lay_time hk hlv) rfl 0 (by decide) (hts (.fieldLink RX4 27 "Satellitering$Timetable" "sky" "LSatellitering$Sky;") (by decide +kernel)) rfl dX4_stepBack_14 ?_
        refine lv_iload_n hx hb dX4_stepBack_17 rfl (lv_at hl 0 rfl) ?_
        refine lv_iload_n hx hb dX4_stepBack_18 rfl (lv_at hl 2 rfl) ?_
        refine vp_callSi (W.runV (As := [.int (nI j), .int (nI t)]) (rest := []) ⟨hx, hb, hml, hown, hts⟩ (c_seenFrom l (show j < 10 by omega) ht) (cwV 2 hts gX4_stepBack_X2_seenFrom rfl rfl rfl (by decide +kernel) ⟨Nat.le_of_ble_eq_true rfl, Nat.le_of_ble_eq_true rfl⟩) (g_preV hF hG hS (lay_sky) rfl) rfl rfl hl.1 rfl (lv_room (Nat.le_of_ble_eq_true rfl)) dX4_stepBack_19 ⟨Nat.le_of_ble_eq_true rfl, Nat.le_of_ble_eq_true rfl⟩) (fun r_2 h_3 => ?_)
        refine lv_istore_n (lv' := [(3, .int r_2), (2, .int (nI j)), (0, .ref (ad (31, k, 0))), (1, .int (nI t))]) hx hb dX4_stepBack_22 rfl hl (by decide) rfl (fun ls hl => ?_)
        refine lv_aload_n hx hb dX4_stepBack_23 rfl (lv_at hl 2 rfl) ?_
        refine g_get hx hb hts hi4 hown hK hG (lay_time hk hlv) rfl 4 (by decide) (hts (.fieldLink RX4 20 "Satellitering$Timetable" "soonestBefore" "[I") (by decide +kernel)) rfl dX4_stepBack_24 ?_
        refine lv_iload_n hx hb dX4_stepBack_27 rfl (lv_at hl 1 rfl) ?_
        refine lv_iload_n hx hb dX4_stepBack_28 rfl (lv_at hl 1 rfl) ?_
        refine lv_aload_n hx hb dX4_stepBack_29 rfl (lv_at hl 2 rfl) ?_
        refine g_get hx hb hts hi4 hown hK hG (lay_time hk hlv) rfl 1 (by decide) (hts (.fieldLink RX4 31 "Satellitering$Timetable" "goal" "I") (by decide +kernel)) rfl dX4_stepBack_30 ?_
        refine lv_icmp_ne (tgt := 40) hx hb dX4_stepBack_33 (by decide) (fun c_4 => ?_) (fun c_4 => ?_)
        · refine lv_aload_n hx hb dX4_stepBack_40 rfl (lv_at hl 2 rfl) ?_
          refine lv_iload_n hx hb dX4_stepBack_41 rfl (lv_at hl 1 rfl) ?_
          refine lv_iload_n hx hb dX4_stepBack_42 rfl (lv_at hl 0 rfl) ?_
          refine vp_callSi (W.runV (As := [.int (nI j), .int r_2]) (rest := [.int (nI j), .ref (ad (sb ln k))]) ⟨hx, hb, hml, hown, hts⟩ (c_soonestThrough l hn hc1 hk hlv (show j < 10 by omega)) (cwV 2 hts gX4_stepBack_X4_soonestThrough rfl rfl rfl (by decide +kernel) ⟨Nat.le_of_ble_eq_true rfl, Nat.le_of_ble_eq_true rfl⟩) (g_preV hF hG hS (lay_time hk hlv) rfl) rfl rfl hl.1 rfl (lv_room (Nat.le_of_ble_eq_true rfl)) dX4_stepBack_43 ⟨Nat.le_of_ble_eq_true rfl, Nat.le_of_ble_eq_true rfl⟩) (fun r_5 h_6 => ?_)
          refine o_iast hx hb hK hG hS (cd := (sb ln k)) (fun _ => lay_sb hk hlv) (by omega) (by first | decide | omega) dX4_stepBack_46 (fun H locs hG hS => ?_)
          refine lv_iinc (v := nI (j + 1)) (lv' := [(2, .int (nI (j + 1))), (3, .int r_2), (0, .ref (ad (31, k, 0))), (1, .int (nI t))]) hx hb dX4_stepBack_47 hl (k := 1) rfl (nI_add j 1) (by decide) rfl (fun ls hl => ?_)
          refine lv_goto (tgt := 2) hx hb dX4_stepBack_50 (by decide) ?_
          exact ih (j + 1) _ _ _ (by omega) (by omega) (tf_tr h3 (tf_of (sb_in ln k) (fun c hc9 => g2_ne _ _ _ hc9))) hG hS ls (lv_sub hl [0, 2, 3] rfl)
        · refine lv_iload_n hx hb dX4_stepBack_36 rfl (lv_at hl 3 rfl) ?_
          refine lv_goto (tgt := 46) hx hb dX4_stepBack_37 (by decide) ?_
          refine o_iast hx hb hK hG hS (cd := (sb ln k)) (fun _ => lay_sb hk hlv) (by omega) (by first | decide | omega) dX4_stepBack_46 (fun H locs hG hS => ?_)
          refine lv_iinc (v := nI (j + 1)) (lv' := [(2, .int (nI (j + 1))), (3, .int r_2), (0, .ref (ad (31, k, 0))), (1, .int (nI t))]) hx hb dX4_stepBack_47 hl (k := 1) rfl (nI_add j 1) (by decide) rfl (fun ls hl => ?_)
          refine lv_goto (tgt := 2) hx hb dX4_stepBack_50 (by decide) ?_
          exact ih (j + 1) _ _ _ (by omega) (by omega) (tf_tr h3 (tf_of (sb_in ln k) (fun c hc9 => g2_ne _ _ _ hc9))) hG hS ls (lv_sub hl [0, 2, 3] rfl)
  exact loop (n + 1) 0 g s.heap [] (Nat.zero_le n) (by omega) tf_rf hG hS ls (lv_sub hl [0, 1, 2] rfl)

set_option maxHeartbeats 4000000 in
set_option maxRecDepth 100000 in
theorem c_reckon (l : Launch) {D : va_G} {C : g_C} {g : g_k → Nat → Int32} {ad ln : g_k → Nat} {ex : g_k → Option va_E} {B : Nat} {n k : Nat} (hn : n ≤ 10) (hc : g (1, 0, 0) 4 = nI n) (hk : k < 10) (hlv : ln (30, k, 0) = 1) : Met l yX4_reckon wsX4_reckon ({ frames := 2, cells := 0, slots := 0, locals := 47 } : Room) (va_Pc [.ref (ad (31, k, 0))] (g_S D C (lay C g ad ln ex) ad B)) (va_Qv (fun (u : (g_k → Nat → Int32) × (g_k → Nat)) => tf k g u.1 ∧ lf k ln u.2) (fun u t => g_P D (lay C u.1 ad u.2 ex) ad B t.heap) (g_A B)) 0 0 (g_A B) := by
  refine Met.ofW (cc := cX4_reckon) (maxL := 3) (ret := none) (by decide) rfl ?_
  intro p e s m args below meth c s₁ B₀ hml hv
  obtain ⟨rfl, hG, hF⟩ := hv
  have hK := hF.1
  have hN := hF.2.1
  have hB := hF.2.2.2
  have hx := B₀.exec
  have hb := B₀.bytes
  have hr := B₀.returns
  have hts := atoms_spec (ws := wsX4_reckon) B₀.pre
  have hown : s.vm.findClass RX4 = some m.cls := findClass_of_methodNamed B₀.named
  have hlocks := B₀.notSynchronized
  have hS : va_S (g_A B) s.heap s.heap [] := va_S.rf
  have hi2 : ∀ w ∈ wsX20, w ∈ wsX4_reckon := by decide +kernel
  have hi4 : ∀ w ∈ wsX40, w ∈ wsX4_reckon := by decide +kernel
  have hl := lv_entry [.ref (ad (31, k, 0))] (n := 3) (Nat.le_of_ble_eq_true rfl)
  rw [lg_entry_eq]
  generalize (lg_sl [.ref (ad (31, k, 0))] ++ List.replicate (3 - (lg_sl [.ref (ad (31, k, 0))]).length) Slot.unset).toArray = ls at hl ⊢
  have hl : lv_has ls 3 [(0, .ref (ad (31, k, 0)))] := hl
  refine lv_sipush (v := nI 760) hx hb dX4_reckon_0 (by decide) ?_
  refine lv_istore_n (lv' := [(1, .int (nI 760)), (0, .ref (ad (31, k, 0)))]) hx hb dX4_reckon_3 rfl hl (by decide) rfl (fun ls hl => ?_)
  refine lv_aload_n hx hb dX4_reckon_4 rfl (lv_at hl 1 rfl) ?_
  refine g_get hx hb hts hi4 hown hK hG (lay_time hk hlv) rfl 3 (by decide) (hts (.fieldLink RX4 16 "Satellitering$Timetable" "soonest" "[I") (by decide +kernel)) rfl dX4_reckon_5 ?_
  refine lv_iload_n hx hb dX4_reckon_8 rfl (lv_at hl 0 rfl) ?_
  refine va_callv (va_runS (As := [.ref (ad (sc ln k)), .int (nI 760)]) (rest := []) ⟨hx, hb, hml, hown, hts⟩ (c_fill l (cd := sc ln k) (n := 10) (fun _ => lay_sc hk hlv) (by decide)) (va_cwS 2 hts gX4_reckon_J7_fill_53178 rfl rfl rfl (by decide +kernel) ⟨Nat.le_of_ble_eq_true rfl, Nat.le_of_ble_eq_true rfl⟩) (g_preS hF hG hS) rfl rfl hl.1 rfl (lv_room (Nat.le_of_ble_eq_true rfl)) dX4_reckon_9 ⟨Nat.le_of_ble_eq_true rfl, Nat.le_of_ble_eq_true rfl⟩) hS (fun q _ h => h) (fun q h => h) (fun g_3 t9 H locs ht9 _ h_2 hB1 _ _ hS => ?_)
  have hG : g_P D (lay C g_3 ad ln ex) ad B H := by rw [← ht9]; exact hB1
  refine lv_iload_n hx hb dX4_reckon_12 rfl (lv_at hl 0 rfl) ?_
  refine lv_iconst (v := nI 1) hx hb dX4_reckon_13 (by decide) ?_
  refine lv_isub hx hb dX4_reckon_14 ?_
  refine lv_to (y := nI 759) (pk_sub (by decide)) ?_
  refine lv_istore_n (lv' := [(2, .int (nI 759)), (1, .int (nI 760)), (0, .ref (ad (31, k, 0)))]) hx hb dX4_reckon_15 rfl hl (by decide) rfl (fun ls hl => ?_)
  have loop : ∀ (q : Nat) (z : Int32) (g1 : g_k → Nat → Int32) (ln1 : g_k → Nat) (H : Heap) (locs : List Loc), q ≤ 760 → (q = 0 → z = (-1)) → (∀ j, q = j + 1 → z = nI j) → tf k g g1 → lf k ln ln1 → g_P D (lay C g1 ad ln1 ex) ad B H → va_S (g_A B) s.heap H locs → ∀ ls, lv_has ls 3 [(2, .int z), (0, .ref (ad (31, k, 0))), (1, .int (nI 760))] → W p l e (headSpec wsX4_reckon ({ frames := 2, cells := 0, slots := 0, locals := 47 } : Room)).room s m ([.ref (ad (31, k, 0))]).toArray below meth c H locs 0 0 (MQ below (va_Qv (fun (u : (g_k → Nat → Int32) × (g_k → Nat)) => tf k g u.1 ∧ lf k ln u.2) (fun u t => g_P D (lay C u.1 ad u.2 ex) ad B t.heap) (g_A B)) ([.ref (ad (31, k, 0))]).toArray s 0 0 (g_A B)) (F0 m 16 ls []) := by
    intro q
    induction q with
    | zero =>
      intro z g1 ln1 H locs h2 h3 h4 h5 h6 hG hS ls hl
      refine lv_iload_n hx hb dX4_reckon_16 rfl (lv_at hl 0 rfl) ?_
      refine lv_if_lt (tgt := 43) hx hb dX4_reckon_17 (by decide) (fun c_4 => ?_) (fun c_4 => ?_)
      · refine lv_aload_n hx hb dX4_reckon_43 rfl (lv_at hl 1 rfl) ?_
        refine lv_aload_n hx hb dX4_reckon_44 rfl (lv_at hl 1 rfl) ?_
        refine g_get hx hb hts hi4 hown hK hG (lay_time hk (by rw [h6 _ (by intro h9; cases h9)]; exact hlv)) rfl 0 (by decide) (hts (.fieldLink RX4 27 "Satellitering$Timetable" "sky" "LSatellitering$Sky;") (by decide +kernel)) rfl dX4_reckon_45 ?_
        refine g_getN hx hb hts hi2 hown hK hG (lay_sky) rfl 4 (by decide) (va_Nw.use rfl hN.2.2.2.2.2.2.2.2.2.2.2.2.1) rfl dX4_reckon_48 ?_
        refine lv_to (y := nI n) (by rw [h5 _ (Or.inl (by decide))]; exact hc) ?_
        refine o_put hx hb hts hi4 tyX4 tyX4_ok nmX4 hown hK hG hS (cd := (31, k, 0)) (F_time ad ln1 k) (fun _ => lay_time hk (by rw [h6 _ (by intro h9; cases h9)]; exact hlv)) rfl 5 (by decide) (hts (.fieldLink RX4 23 "Satellitering$Timetable" "nodesKnown" "I") (by decide +kernel)) rfl rfl (by simp [upd]) (by simp) dX4_reckon_51 (fun H locs hG hS => ?_)
        exact W.vret hx hb hr (fun t9 ht9 hW9 => ⟨⟨((g2 g1 (31, k, 0) 5 (nI n)), ln1), rfl, ⟨tf_tr h5 (tf_of (c0 := (31, k, 0)) ⟨Nat.le_of_ble_eq_true rfl, Nat.le_of_ble_eq_true rfl, rfl⟩ (fun c hc9 => g2_ne _ _ _ hc9)), h6⟩, by show g_P D (lay C (g2 g1 (31, k, 0) 5 (nI n)) ad ln1 ex) ad B t9.heap; rw [ht9]; exact hG⟩, hS.F ht9⟩) hS.2.2 dX4_reckon_54
      · exact absurd (show z < 0 by rw [h3 rfl]; decide) c_4
    | succ j ih =>
      intro z g1 ln1 H locs h2 h3 h4 h5 h6 hG hS ls hl
      have hz : z = nI j := h4 j rfl
      subst hz
      have hc1 : g1 (1, 0, 0) 4 = nI n := by rw [h5 _ (Or.inl (by decide))]; exact hc
      have hlv1 : ln1 (30, k, 0) = 1 := by rw [h6 _ (by intro h9; cases h9)]; exact hlv
      refine lv_iload_n hx hb dX4_reckon_16 rfl (lv_at hl 0 rfl) ?_
      refine lv_if_lt (tgt := 43) hx hb dX4_reckon_17 (by decide) (fun c_5 => ?_) (fun c_5 => ?_)
      · exact absurd c_5 (nI_pos (by omega))
      · refine lv_aload_n hx hb dX4_reckon_20 rfl (lv_at hl 1 rfl) ?_
        refine lv_iload_n hx hb dX4_reckon_21 rfl (lv_at hl 0 rfl) ?_
        refine va_callv (va_runV (As := [.int (nI j)]) (rest := []) ⟨hx, hb, hml, hown, hts⟩ (c_stepBack l hn hc1 hk hlv1 (show j < 2 ^ 31 by omega)) (cwV 1 hts gX4_reckon_X4_stepBack rfl rfl rfl (by decide +kernel) ⟨Nat.le_of_ble_eq_true rfl, Nat.le_of_ble_eq_true rfl⟩) (g_preV hF hG hS (lay_time hk hlv1) rfl) rfl rfl hl.1 rfl (lv_room (Nat.le_of_ble_eq_true rfl)) dX4_reckon_22 ⟨Nat.le_of_ble_eq_true rfl, Nat.le_of_ble_eq_true rfl⟩) hS (fun q _ h => h) (fun q h => h) (fun u9 t9 H locs ht9 _ h_7 hB1 _ _ hS => ?_)
        obtain ⟨g_8, ln_9⟩ := u9
        dsimp only at h_7
        have hG : g_P D (lay C g_8 ad ln_9 ex) ad B H := by rw [← ht9]; exact hB1
        have h5 := tf_tr h5 h_7.1
        have h6 : lf k ln ln_9 := fun c hc9 => by rw [h_7.2 c hc9]; exact h6 c hc9
        refine lv_iload_n hx hb dX4_reckon_25 rfl (lv_at hl 0 rfl) ?_
        refine lv_sipush (v := nI 360) hx hb dX4_reckon_26 (by decide) ?_
        refine lv_icmp_ge (tgt := 37) hx hb dX4_reckon_29 (by decide) (fun c_11 => ?_) (fun c_11 => ?_)
        · refine lv_iinc (v := (nI j) + (-1)) (lv' := [(2, .int ((nI j) + (-1))), (0, .ref (ad (31, k, 0))), (1, .int (nI 760))]) hx hb dX4_reckon_37 hl (k := 0) rfl (by first | rfl | decide) (by decide) rfl (fun ls hl => ?_)
          refine lv_goto (tgt := 16) hx hb dX4_reckon_40 (by decide) ?_
          exact ih _ _ _ _ _ (by omega) (fun h9 => by subst h9; decide) (fun i h9 => by subst h9; exact pk_m1 i) h5 h6 hG hS ls (lv_sub hl [0, 1, 2] rfl)
        · have hj : j < 360 := Nat.lt_of_not_le (fun h9 => c_11 ((nI_leI (by omega) (by omega)).mpr h9))
          have hc1 : g_8 (1, 0, 0) 4 = nI n := by rw [h5 _ (Or.inl (by decide))]; exact hc
          have hlv1 : ln_9 (30, k, 0) = 1 := by rw [h6 _ (by intro h9; cases h9)]; exact hlv
          refine lv_aload_n hx hb dX4_reckon_32 rfl (lv_at hl 1 rfl) ?_
          refine lv_iload_n hx hb dX4_reckon_33 rfl (lv_at hl 0 rfl) ?_
          refine va_callv (va_runV (As := [.int (nI j)]) (rest := []) ⟨hx, hb, hml, hown, hts⟩ (c_writeDown l (ln := ln_9) hn hc1 hk hlv1 hj) (cwV 1 hts gX4_reckon_X4_writeDown rfl rfl rfl (by decide +kernel) ⟨Nat.le_of_ble_eq_true rfl, Nat.le_of_ble_eq_true rfl⟩) (g_preV hF hG hS (lay_time hk hlv1) rfl) rfl rfl hl.1 rfl (lv_room (Nat.le_of_ble_eq_true rfl)) dX4_reckon_34 ⟨Nat.le_of_ble_eq_true rfl, Nat.le_of_ble_eq_true rfl⟩) hS (fun q _ h => h) (fun q h => h) (fun g_14 t9 H locs ht9 _ h_13 hB1 _ _ hS => ?_)
          have hG : g_P D (lay C g_14 ad ln_9 ex) ad B H := by rw [← ht9]; exact hB1
          refine lv_iinc (v := (nI j) + (-1)) (lv' := [(2, .int ((nI j) + (-1))), (0, .ref (ad (31, k, 0))), (1, .int (nI 760))]) hx hb dX4_reckon_37 hl (k := 0) rfl (by first | rfl | decide) (by decide) rfl (fun ls hl => ?_)
          refine lv_goto (tgt := 16) hx hb dX4_reckon_40 (by decide) ?_
          exact ih _ _ _ _ _ (by omega) (fun h9 => by subst h9; decide) (fun i h9 => by subst h9; exact pk_m1 i) (tf_tr h5 h_13) h6 hG hS ls (lv_sub hl [0, 1, 2] rfl)
  exact loop 760 _ _ _ _ _ (Nat.le_refl _) (fun h9 => absurd h9 (by decide)) (fun j h9 => by rw [show j = 759 by omega]) (tf_of (sc_in ln k) h_2.1) (fun _ _ => rfl) hG hS ls (lv_sub hl [0, 2, 1] rfl)
end
section
set_option maxHeartbeats 4000000 in
set_option maxRecDepth 100000 in
theorem c_nextNode (l : Launch) {D : va_G} {C : g_C} {g : g_k → Nat → Int32} {ad ln : g_k → Nat} {ex : g_k → Option va_E} {B : Nat} {n k : Nat} (hn : n ≤ 10) (hc : g (1, 0, 0) 4 = nI n) (hk : k < 10) (hlv : ln (30, k, 0) = 1) {i t : Nat} (hi9 : i < 10) (ht : t < 2 ^ 30) : Met l yX4_nextNode wsX4_nextNode ({ frames := 3, cells := 0, slots := 0, locals := 69 } : Room) (va_Pc [.ref (ad (31, k, 0)), .int (nI i), .int (nI t)] (g_S D C (lay C g ad ln ex) ad B)) (va_Qi (fun (r : Int32) (u : (g_k → Nat → Int32) × (g_k → Nat)) => (r = (-1) ∨ ∃ o, o < n ∧ r = nI o ∧ see g i o t = true) ∧ tf k g u.1 ∧ lf k ln u.2) (fun u t => g_P D (lay C u.1 ad u.2 ex) ad B t.heap) (g_A B)) 0 0 (g_A B) := by
  refine Met.ofW (cc := cX4_nextNode) (maxL := 6) (ret := (some .int)) (by decide) rfl ?_
  intro p e s m args below meth c s₁ B₀ hml hv
  obtain ⟨rfl, hG, hF⟩ := hv
  have hK := hF.1
  have hN := hF.2.1
  have hB := hF.2.2.2
  have hx := B₀.exec
  have hb := B₀.bytes
  have hr := B₀.returns
  have hts := atoms_spec (ws := wsX4_nextNode) B₀.pre
  have hown : s.vm.findClass RX4 = some m.cls := findClass_of_methodNamed B₀.named
  have hlocks := B₀.notSynchronized
  have hS : va_S (g_A B) s.heap s.heap [] := va_S.rf
  have hi2 : ∀ w ∈ wsX20, w ∈ wsX4_nextNode := by decide +kernel
  have hi4 : ∀ w ∈ wsX40, w ∈ wsX4_nextNode := by decide +kernel
  have hl := lv_entry [.ref (ad (31, k, 0)), .int (nI i), .int (nI t)] (n := 6) (Nat.le_of_ble_eq_true rfl)
  rw [lg_entry_eq]
  generalize (lg_sl [.ref (ad (31, k, 0)), .int (nI i), .int (nI t)] ++ List.replicate (6 - (lg_sl [.ref (ad (31, k, 0)), .int (nI i), .int (nI t)]).length) Slot.unset).toArray = ls at hl ⊢
  have hl : lv_has ls 6 [(0, .ref (ad (31, k, 0))), (1, .int (nI i)), (2, .int (nI t))] := hl
  have rest : ∀ (g1 : g_k → Nat → Int32) (ln1 : g_k → Nat) (H : Heap) (locs : List Loc), tf k g g1 → lf k ln ln1 → g_P D (lay C g1 ad ln1 ex) ad B H → va_S (g_A B) s.heap H locs → ∀ ls, lv_has ls 6 [(0, .ref (ad (31, k, 0))), (1, .int (nI i)), (2, .int (nI t))] → W p l e (headSpec wsX4_nextNode ({ frames := 3, cells := 0, slots := 0, locals := 69 } : Room)).room s m ([.ref (ad (31, k, 0)), .int (nI i), .int (nI t)]).toArray below meth c H locs 0 0 (MQ below (va_Qi (fun (r : Int32) (u : (g_k → Nat → Int32) × (g_k → Nat)) => (r = (-1) ∨ ∃ o, o < n ∧ r = nI o ∧ see g i o t = true) ∧ tf k g u.1 ∧ lf k ln u.2) (fun u t => g_P D (lay C u.1 ad u.2 ex) ad B t.heap) (g_A B)) ([.ref (ad (31, k, 0)), .int (nI i), .int (nI t)]).toArray s 0 0 (g_A B)) (F0 m 18 ls []) := by
    intro g1 ln1 H locs h5 h6 hG hS ls hl
    have hc1 : g1 (1, 0, 0) 4 = nI n := by rw [h5 _ (Or.inl (by decide))]; exact hc
    have hlv1 : ln1 (30, k, 0) = 1 := by rw [h6 _ (by intro h9; cases h9)]; exact hlv
    have hse : ∀ a b t, see g1 a b t = see g a b t := fun a b t => by unfold see; rw [h5 _ (Or.inl (show (20 : Nat) < 31 by decide))]
    refine lv_aload_n hx hb dX4_nextNode_18 rfl (lv_at hl 0 rfl) ?_
    refine g_get hx hb hts hi4 hown hK hG (lay_time hk hlv1) rfl 2 (by decide) (hts (.fieldLink RX4 11 "Satellitering$Timetable" "left" "[[I") (by decide +kernel)) rfl dX4_nextNode_19 ?_
    refine lv_iload_n hx hb dX4_nextNode_22 rfl (lv_at hl 1 rfl) ?_
    refine o_left hx hb hK hG hk hlv1 (hi9) dX4_nextNode_23 ?_
    refine lv_iload_n hx hb dX4_nextNode_24 rfl (lv_at hl 2 rfl) ?_
    refine lv_sipush (v := nI 360) hx hb dX4_nextNode_25 (by decide) ?_
    refine lv_irem hx hb dX4_nextNode_28 (by decide) ?_
    refine lv_to (y := nI (t % 360)) (pk_rem (by omega) (by decide) (by decide)) ?_
    refine g_iald hx hb hK hG (lay_leftrow hk (hi9) hlv1) (Nat.mod_lt _ (by decide)) (by first | decide | omega) dX4_nextNode_29 ?_
    refine lv_istore_n (lv' := [(3, .int (g1 (35, k, i) (t % 360))), (0, .ref (ad (31, k, 0))), (1, .int (nI i)), (2, .int (nI t))]) hx hb dX4_nextNode_30 rfl hl (by decide) rfl (fun ls hl => ?_)
    refine lv_iload_n hx hb dX4_nextNode_31 rfl (lv_at hl 3 rfl) ?_
    refine lv_iconst (v := nI 1) hx hb dX4_nextNode_32 (by decide) ?_
    refine lv_iadd hx hb dX4_nextNode_33 ?_
    refine lv_to (y := nI (t + 1)) (nI_add t 1) ?_
    refine lv_sipush (v := nI 360) hx hb dX4_nextNode_34 (by decide) ?_
    refine lv_irem hx hb dX4_nextNode_37 (by decide) ?_
    refine lv_to (y := nI ((t + 1) % 360)) (pk_rem (by omega) (by decide) (by decide)) ?_
    refine lv_istore (lv' := [(4, .int (nI ((t + 1) % 360))), (3, .int (g1 (35, k, i) (t % 360))), (0, .ref (ad (31, k, 0))), (1, .int (nI i)), (2, .int (nI t))]) hx hb dX4_nextNode_38 hl (by decide) rfl (fun ls hl => ?_)
    refine lv_iload_n hx hb dX4_nextNode_40 rfl (lv_at hl 1 rfl) ?_
    refine lv_iconst (v := nI 1) hx hb dX4_nextNode_41 (by decide) ?_
    refine lv_icmp_lt (tgt := 60) hx hb dX4_nextNode_42 (by decide) (fun c_1 => ?_) (fun c_1 => ?_)
    · refine lv_iconst (v := (-1)) hx hb dX4_nextNode_60 (by decide) ?_
      exact W.iret (v := (-1)) hx hb hr (fun t9 ht9 hW9 => ⟨⟨_, (g1, ln1), rfl, ⟨Or.inl rfl, h5, h6⟩, by show g_P D (lay C g1 ad ln1 ex) ad B t9.heap; rw [ht9]; exact hG⟩, hS.F ht9⟩) hS.2.2 dX4_nextNode_61
    · refine lv_aload_n hx hb dX4_nextNode_45 rfl (lv_at hl 2 rfl) ?_
      refine g_get hx hb hts hi4 hown hK hG (lay_time hk hlv1) rfl 2 (by decide) (hts (.fieldLink RX4 11 "Satellitering$Timetable" "left" "[[I") (by decide +kernel)) rfl dX4_nextNode_46 ?_
      refine lv_iload_n hx hb dX4_nextNode_49 rfl (lv_at hl 3 rfl) ?_
      refine o_left hx hb hK hG hk hlv1 (hi9) dX4_nextNode_50 ?_
      refine lv_iload hx hb dX4_nextNode_51 (lv_at hl 0 rfl) ?_
      refine g_iald hx hb hK hG (lay_leftrow hk (hi9) hlv1) (Nat.mod_lt _ (by decide)) (by first | decide | omega) dX4_nextNode_53 ?_
      refine lv_iload_n hx hb dX4_nextNode_54 rfl (lv_at hl 1 rfl) ?_
      refine lv_iconst (v := nI 1) hx hb dX4_nextNode_55 (by decide) ?_
      refine lv_isub hx hb dX4_nextNode_56 ?_
      refine lv_icmp_ne (tgt := 62) hx hb dX4_nextNode_57 (by decide) (fun c_2 => ?_) (fun c_2 => ?_)
      · refine lv_iconst (v := nI 0) hx hb dX4_nextNode_62 (by decide) ?_
        refine lv_istore (lv' := [(5, .int (nI 0)), (4, .int (nI ((t + 1) % 360))), (3, .int (g1 (35, k, i) (t % 360))), (0, .ref (ad (31, k, 0))), (1, .int (nI i)), (2, .int (nI t))]) hx hb dX4_nextNode_63 hl (by decide) rfl (fun ls hl => ?_)
        have loop : ∀ (q j : Nat), j ≤ n → n < j + q → ∀ ls, lv_has ls 6 [(5, .int (nI j)), (4, .int (nI ((t + 1) % 360))), (3, .int (g1 (35, k, i) (t % 360))), (0, .ref (ad (31, k, 0))), (1, .int (nI i)), (2, .int (nI t))] → W p l e (headSpec wsX4_nextNode ({ frames := 3, cells := 0, slots := 0, locals := 69 } : Room)).room s m ([.ref (ad (31, k, 0)), .int (nI i), .int (nI t)]).toArray below meth c H locs 0 0 (MQ below (va_Qi (fun (r : Int32) (u : (g_k → Nat → Int32) × (g_k → Nat)) => (r = (-1) ∨ ∃ o, o < n ∧ r = nI o ∧ see g i o t = true) ∧ tf k g u.1 ∧ lf k ln u.2) (fun u t => g_P D (lay C u.1 ad u.2 ex) ad B t.heap) (g_A B)) ([.ref (ad (31, k, 0)), .int (nI i), .int (nI t)]).toArray s 0 0 (g_A B)) (F0 m 65 ls []) := by
          intro q
          induction q with
          | zero => intro j h1 h2; exact absurd h2 (by omega)
          | succ q ih =>
            intro j h1 h2 ls hl
            refine lv_iload hx hb dX4_nextNode_65 (lv_at hl 0 rfl) ?_
            refine lv_aload_n hx hb dX4_nextNode_67 rfl (lv_at hl 3 rfl) ?_
            refine g_get hx hb hts hi4 hown hK hG (lay_time hk hlv1) rfl 0 (by decide) (hts (.fieldLink RX4 27 "Satellitering$Timetable" "sky" "LSatellitering$Sky;") (by decide +kernel)) rfl dX4_nextNode_68 ?_
            refine g_getN hx hb hts hi2 hown hK hG (lay_sky) rfl 4 (by decide) (va_Nw.use rfl hN.2.2.2.2.2.2.2.2.2.2.2.2.1) rfl dX4_nextNode_71 ?_
            refine lv_to (y := nI n) (hc1) ?_
            refine lv_icmp_ge (tgt := 116) hx hb dX4_nextNode_74 (by decide) (fun c_3 => ?_) (fun c_3 => ?_)
            · refine lv_iconst (v := (-1)) hx hb dX4_nextNode_116 (by decide) ?_
              exact W.iret (v := (-1)) hx hb hr (fun t9 ht9 hW9 => ⟨⟨_, (g1, ln1), rfl, ⟨Or.inl rfl, h5, h6⟩, by show g_P D (lay C g1 ad ln1 ex) ad B t9.heap; rw [ht9]; exact hG⟩, hS.F ht9⟩) hS.2.2 dX4_nextNode_117
            · have hi : j < n := Nat.lt_of_not_le (fun h9 => c_3 ((nI_leI (by omega) (by omega)).mpr h9))
              refine lv_aload_n hx hb dX4_nextNode_77 rfl (lv_at hl 3 rfl) ?_
              refine g_get hx hb hts hi4 hown hK hG (lay_time hk hlv1) rfl 0 (by decide) (hts (.fieldLink RX4 27 "Satellitering$Timetable" "sky" "LSatellitering$Sky;") (by decide +kernel)) rfl dX4_nextNode_78 ?_
              refine lv_iload_n hx hb dX4_nextNode_81 rfl (lv_at hl 4 rfl) ?_
              refine lv_iload hx hb dX4_nextNode_82 (lv_at hl 0 rfl) ?_
              refine lv_iload_n hx hb dX4_nextNode_84 rfl (lv_at hl 5 rfl) ?_
              refine vp_callSi (W.runV (As := [.int (nI i), .int (nI j), .int (nI t)]) (rest := []) ⟨hx, hb, hml, hown, hts⟩ (c_inContact l (show i < 10 by omega) (show j < 32 by omega) (show t < 2 ^ 31 by omega)) (cwV 3 hts gX4_nextNode_X2_inContact rfl rfl rfl (by decide +kernel) ⟨Nat.le_of_ble_eq_true rfl, Nat.le_of_ble_eq_true rfl⟩) (g_preV hF hG hS (lay_sky) rfl) rfl rfl hl.1 rfl (lv_room (Nat.le_of_ble_eq_true rfl)) dX4_nextNode_85 ⟨Nat.le_of_ble_eq_true rfl, Nat.le_of_ble_eq_true rfl⟩) (fun r_4 h_5 => ?_)
              subst h_5
              refine lv_if_eq (tgt := 110) hx hb dX4_nextNode_88 (by decide) (fun c_6 => ?_) (fun c_6 => ?_)
              · refine lv_iinc (v := nI (j + 1)) (lv' := [(5, .int (nI (j + 1))), (4, .int (nI ((t + 1) % 360))), (3, .int (g1 (35, k, i) (t % 360))), (0, .ref (ad (31, k, 0))), (1, .int (nI i)), (2, .int (nI t))]) hx hb dX4_nextNode_110 hl (k := 0) rfl (nI_add j 1) (by decide) rfl (fun ls hl => ?_)
                refine lv_goto (tgt := 65) hx hb dX4_nextNode_113 (by decide) ?_
                exact ih (j + 1) (by omega) (by omega) ls (lv_sub hl [0, 1, 2, 3, 4, 5] rfl)
              · have hs : see g i j t = true := by
                  rw [← hse]; by_cases h9 : see g1 i j t = true
                  · exact h9
                  · exact absurd (by rw [if_neg h9]; exact nI_0) c_6
                refine lv_aload_n hx hb dX4_nextNode_91 rfl (lv_at hl 3 rfl) ?_
                refine g_get hx hb hts hi4 hown hK hG (lay_time hk hlv1) rfl 2 (by decide) (hts (.fieldLink RX4 11 "Satellitering$Timetable" "left" "[[I") (by decide +kernel)) rfl dX4_nextNode_92 ?_
                refine lv_iload hx hb dX4_nextNode_95 (lv_at hl 0 rfl) ?_
                refine o_left hx hb hK hG hk hlv1 (by omega) dX4_nextNode_97 ?_
                refine lv_iload hx hb dX4_nextNode_98 (lv_at hl 1 rfl) ?_
                refine g_iald hx hb hK hG (lay_leftrow hk (by omega) hlv1) (Nat.mod_lt _ (by decide)) (by first | decide | omega) dX4_nextNode_100 ?_
                refine lv_iload_n hx hb dX4_nextNode_101 rfl (lv_at hl 2 rfl) ?_
                refine lv_iconst (v := nI 1) hx hb dX4_nextNode_102 (by decide) ?_
                refine lv_isub hx hb dX4_nextNode_103 ?_
                refine lv_icmp_ne (tgt := 110) hx hb dX4_nextNode_104 (by decide) (fun c_7 => ?_) (fun c_7 => ?_)
                · refine lv_iinc (v := nI (j + 1)) (lv' := [(5, .int (nI (j + 1))), (4, .int (nI ((t + 1) % 360))), (3, .int (g1 (35, k, i) (t % 360))), (0, .ref (ad (31, k, 0))), (1, .int (nI i)), (2, .int (nI t))]) hx hb dX4_nextNode_110 hl (k := 0) rfl (nI_add j 1) (by decide) rfl (fun ls hl => ?_)
                  refine lv_goto (tgt := 65) hx hb dX4_nextNode_113 (by decide) ?_
                  exact ih (j + 1) (by omega) (by omega) ls (lv_sub hl [0, 1, 2, 3, 4, 5] rfl)
                · refine lv_iload hx hb dX4_nextNode_107 (lv_at hl 0 rfl) ?_
                  exact W.iret (v := nI j) hx hb hr (fun t9 ht9 hW9 => ⟨⟨_, (g1, ln1), rfl, ⟨Or.inr ⟨j, hi, rfl, hs⟩, h5, h6⟩, by show g_P D (lay C g1 ad ln1 ex) ad B t9.heap; rw [ht9]; exact hG⟩, hS.F ht9⟩) hS.2.2 dX4_nextNode_109
        exact loop (n + 1) 0 (Nat.zero_le n) (by omega) ls (lv_sub hl [0, 1, 2, 3, 4, 5] rfl)
      · refine lv_iconst (v := (-1)) hx hb dX4_nextNode_60 (by decide) ?_
        exact W.iret (v := (-1)) hx hb hr (fun t9 ht9 hW9 => ⟨⟨_, (g1, ln1), rfl, ⟨Or.inl rfl, h5, h6⟩, by show g_P D (lay C g1 ad ln1 ex) ad B t9.heap; rw [ht9]; exact hG⟩, hS.F ht9⟩) hS.2.2 dX4_nextNode_61
  refine lv_aload_n hx hb dX4_nextNode_0 rfl (lv_at hl 0 rfl) ?_
  refine g_get hx hb hts hi4 hown hK hG (lay_time hk hlv) rfl 5 (by decide) (hts (.fieldLink RX4 23 "Satellitering$Timetable" "nodesKnown" "I") (by decide +kernel)) rfl dX4_nextNode_1 ?_
  refine lv_aload_n hx hb dX4_nextNode_4 rfl (lv_at hl 0 rfl) ?_
  refine g_get hx hb hts hi4 hown hK hG (lay_time hk hlv) rfl 0 (by decide) (hts (.fieldLink RX4 27 "Satellitering$Timetable" "sky" "LSatellitering$Sky;") (by decide +kernel)) rfl dX4_nextNode_5 ?_
  refine g_getN hx hb hts hi2 hown hK hG (lay_sky) rfl 4 (by decide) (va_Nw.use rfl hN.2.2.2.2.2.2.2.2.2.2.2.2.1) rfl dX4_nextNode_8 ?_
  refine lv_to (y := nI n) (hc) ?_
  refine lv_icmp_eq (tgt := 18) hx hb dX4_nextNode_11 (by decide) (fun c_8 => ?_) (fun c_8 => ?_)
  · exact rest g ln s.heap [] tf_rf (fun _ _ => rfl) hG hS ls (lv_sub hl [0, 1, 2] rfl)
  · refine lv_aload_n hx hb dX4_nextNode_14 rfl (lv_at hl 0 rfl) ?_
    refine va_callv (va_runV (As := []) (rest := []) ⟨hx, hb, hml, hown, hts⟩ (c_reckon l hn hc hk hlv) (cwV 0 hts gX4_nextNode_X4_reckon rfl rfl rfl (by decide +kernel) ⟨Nat.le_of_ble_eq_true rfl, Nat.le_of_ble_eq_true rfl⟩) (g_preV hF hG hS (lay_time hk hlv) rfl) rfl rfl hl.1 rfl (lv_room (Nat.le_of_ble_eq_true rfl)) dX4_nextNode_15 ⟨Nat.le_of_ble_eq_true rfl, Nat.le_of_ble_eq_true rfl⟩) hS (fun q _ h => h) (fun q h => h) (fun u9 t9 H locs ht9 _ h_10 hB1 _ _ hS => ?_)
    obtain ⟨g_11, ln_12⟩ := u9
    dsimp only at h_10
    have hG : g_P D (lay C g_11 ad ln_12 ex) ad B H := by rw [← ht9]; exact hB1
    exact rest _ _ _ _ h_10.1 h_10.2 hG hS ls (lv_sub hl [0, 1, 2] rfl)
end
section
/-! New cells: what a code holds elsewhere stays. -/
theorem g_P_mv {D : va_G} {v v' : g_k → Option va_E} {ad ad' : g_k → Nat} {B : Nat} {H : Heap} {tmp k : g_k} (h : g_P D v ad B H) (ht : v' tmp = none) (hk : v' k = v tmp) (ho : ∀ c, c ≠ k → c ≠ tmp → v' c = v c) (ha : ad' k = ad tmp) (hb : ∀ c, c ≠ k → c ≠ tmp → ad' c = ad c) : g_P D v' ad' B H := by
  obtain ⟨a1, a2, L, a3⟩ := h
  have key : ∀ (c : g_k) (e : va_E), v' c = some e → ∃ d, v d = some e ∧ ad' c = ad d ∧ (d = tmp ∧ c = k ∨ d = c ∧ c ≠ k ∧ c ≠ tmp) := fun c e hc => by
    by_cases q : c = k
    · subst q
      exact ⟨tmp, by rw [← hk]; exact hc, ha, Or.inl ⟨rfl, rfl⟩⟩
    · by_cases q2 : c = tmp
      · subst q2
        rw [ht] at hc
        cases hc
      · exact ⟨c, by rw [← ho c q q2]; exact hc, hb c q q2, Or.inr ⟨rfl, q, q2⟩⟩
  refine ⟨fun c e hc => ?_, fun c c' e e' hc hc' hq => ?_, k :: L, fun c e hc => ?_⟩
  · obtain ⟨d, d1, d2, -⟩ := key c e hc
    rw [d2]
    exact a1 d e d1
  · obtain ⟨d, d1, d2, d3⟩ := key c e hc
    obtain ⟨d', d1', d2', d3'⟩ := key c' e' hc'
    have hdd := a2 d d' e e' d1 d1' (by rw [← d2, ← d2', hq])
    rcases d3 with ⟨z1, z2⟩ | ⟨z1, z2, z3⟩ <;> rcases d3' with ⟨y1, y2⟩ | ⟨y1, y2, y3⟩
    · rw [z2, y2]
    · exact absurd (by rw [← y1, ← hdd, z1]) y3
    · exact absurd (by rw [← z1, hdd, y1]) z3
    · rw [← z1, ← y1, hdd]
  · obtain ⟨d, d1, d2, d3⟩ := key c e hc
    rcases d3 with ⟨z1, z2⟩ | ⟨z1, -, -⟩
    · rw [z2]
      exact List.mem_cons_self
    · rw [← z1]
      exact List.mem_cons_of_mem _ (a3 d e d1)
section CG
variable {C : g_C} {g g' : g_k → Nat → Int32} {ad ad' ln ln' : g_k → Nat} {ex : g_k → Option va_E}
theorem lay_cg (d : g_k) (hg : g' d = g d) (h1 : ∀ k, k ≤ 10 → ad' (k, 0, 0) = ad (k, 0, 0)) (h20 : ∀ i, ad' (20, i, 0) = ad (20, i, 0)) (hS : d = (3, 0, 0) → A_stations ad' ln' = A_stations ad ln) (hM : d = (5, 0, 0) → A_sent ad' ln' = A_sent ad ln)
    (hT : 30 ≤ d.1 → d.1 ≤ 35 → ln' (30, d.2.1, 0) = ln (30, d.2.1, 0) ∧ F_station ad' d.2.1 (g d) = F_station ad d.2.1 (g d) ∧ F_time ad' ln' d.2.1 (g d) = F_time ad ln d.2.1 (g d) ∧ A_left ad' d.2.1 = A_left ad d.2.1)
    (hH : 40 ≤ d.1 → d.1 ≤ 42 → d.2.2 = 0 → (d.2.1 < ln' (5, 0, 0) ↔ d.2.1 < ln (5, 0, 0))) (h40 : d.1 = 40 → d.2.2 = 0 → F_msg ad' ln' d.2.1 (g d) = F_msg ad ln d.2.1 (g d)) (h41 : d.1 = 41 → d.2.2 = 0 → ln' (41, d.2.1, 0) = ln (41, d.2.1, 0)) (h42 : d.1 = 42 → d.2.2 = 0 → ln' (42, d.2.1, 0) = ln (42, d.2.1, 0)) : lay C g' ad' ln' ex d = lay C g ad ln ex d := by
  by_cases d3 : d = (3, 0, 0)
  · subst d3
    rw [lay_stations, lay_stations, hS rfl]
  by_cases d5 : d = (5, 0, 0)
  · subst d5
    rw [lay_sent, lay_sent, hM rfl]
  have eMain : F_main ad' (g d) = F_main ad (g d) := by rw [F_main, F_main, h1 1 (by decide), h1 2 (by decide), h1 3 (by decide), h1 4 (by decide), h1 5 (by decide)]
  have eSky : F_sky ad' (g d) = F_sky ad (g d) := by rw [F_sky, F_sky, h1 6 (by decide), h1 7 (by decide), h1 8 (by decide), h1 9 (by decide)]
  have eSearch : F_search ad' = F_search ad := by rw [F_search, F_search, h1 1 (by decide), h1 10 (by decide)]
  have eSeen : A_seen ad' = A_seen ad := funext fun i => by simp only [A_seen, h20]
  unfold lay
  rw [hg, eMain, eSky, eSearch, eSeen]
  by_cases q1 : 30 ≤ d.1 ∧ d.1 ≤ 35
  · obtain ⟨t1, t2, t3, t4⟩ := hT q1.1 q1.2
    have n40 : ¬ d.1 = 40 := by omega
    have n41 : ¬ d.1 = 41 := by omega
    have n42 : ¬ d.1 = 42 := by omega
    rw [t1, t2, t3, t4]
    simp only [d3, d5, n40, n41, n42, false_and, if_false]
  · have n30 : ¬ d.1 = 30 := by omega
    have n31 : ¬ d.1 = 31 := by omega
    have n32 : ¬ d.1 = 32 := by omega
    have n33 : ¬ d.1 = 33 := by omega
    have n34 : ¬ d.1 = 34 := by omega
    have n35 : ¬ d.1 = 35 := by omega
    by_cases q2 : 40 ≤ d.1 ∧ d.1 ≤ 42
    · by_cases hz : d.2.2 = 0
      · have t1 := hH q2.1 q2.2 hz
        rcases (show d.1 = 40 ∨ d.1 = 41 ∨ d.1 = 42 by omega) with q | q | q
        · have m41 : ¬ d.1 = 41 := by omega
          have m42 : ¬ d.1 = 42 := by omega
          rw [h40 q hz]
          simp only [d3, d5, t1, n30, n31, n32, n33, n34, n35, m41, m42, false_and, if_false]
        · have m40 : ¬ d.1 = 40 := by omega
          have m42 : ¬ d.1 = 42 := by omega
          rw [h41 q hz]
          simp only [d3, d5, t1, n30, n31, n32, n33, n34, n35, m40, m42, false_and, if_false]
        · have m41 : ¬ d.1 = 41 := by omega
          have m40 : ¬ d.1 = 40 := by omega
          rw [h42 q hz]
          simp only [d3, d5, t1, n30, n31, n32, n33, n34, n35, m41, m40, false_and, if_false]
      · simp only [d3, d5, n30, n31, n32, n33, n34, n35, hz, and_false, false_and, if_false]
    · have n40 : ¬ d.1 = 40 := by omega
      have n41 : ¬ d.1 = 41 := by omega
      have n42 : ¬ d.1 = 42 := by omega
      simp only [d3, d5, n30, n31, n32, n33, n34, n35, n40, n41, n42, false_and, if_false]
theorem k3 {a b c x y z : Nat} (h : a ≠ x ∨ b ≠ y ∨ c ≠ z) : ((a, b, c) : g_k) ≠ (x, y, z) := fun e => by
  have e1 : a = x := congrArg (fun w : g_k => w.1) e
  have e2 : b = y := congrArg (fun w : g_k => w.2.1) e
  have e3 : c = z := congrArg (fun w : g_k => w.2.2) e
  omega
/-- a message's row of nodes grows -/
theorem lay_growN {D : va_G} {B : Nat} {H : Heap} {m q N : Nat} {f : Nat → Int32} (hm : m < ln (5, 0, 0)) (hG : g_P D (k_up (k_up (lay C g ad ln ex) (49, 0, 0) (some (.inl (C.1, N, .inl f)))) (40, m, 0) (some (.inr (0, (F_msg ad ln m (g (40, m, 0))).set 6 (.ref q))))) (k_up ad (49, 0, 0) q) B H) :
    g_P D (lay C (k_up g (41, m, 0) f) (k_up ad (41, m, 0) q) (k_up ln (41, m, 0) N) ex) (k_up ad (41, m, 0) q) B H := by
  have e5 : k_up ln (41, m, 0) N (5, 0, 0) = ln (5, 0, 0) := k_up_ne _ _ (k3 (Or.inl (by decide)))
  have na : ∀ k i j, k ≠ 41 → k_up ad (41, m, 0) q (k, i, j) = ad (k, i, j) := fun k i j h => k_up_ne _ _ (k3 (Or.inl h))
  have nl : ∀ k i j, k ≠ 41 → k_up ln (41, m, 0) N (k, i, j) = ln (k, i, j) := fun k i j h => k_up_ne _ _ (k3 (Or.inl h))
  refine g_P_mv (tmp := (49, 0, 0)) (k := (41, m, 0)) hG ?_ ?_ (fun c c1 c2 => ?_) ?_ (fun c c1 c2 => ?_)
  · simp [lay]
  · rw [lay_hopN (by rw [e5]; exact hm), k_up_self, k_up_self, k_up_ne _ _ (k3 (Or.inl (by decide))), k_up_self]
  · by_cases hc : c = (40, m, 0)
    · subst hc
      rw [lay_msg (by rw [e5]; exact hm), k_up_self, k_up_ne _ _ (k3 (Or.inl (by decide)))]
      simp only [F_msg, k_up_self, nl 43 _ _ (by decide), na 31 _ _ (by decide), na 42 _ _ (by decide)]
      rfl
    · rw [k_up_ne _ _ hc, k_up_ne _ _ c2]
      refine lay_cg c (k_up_ne _ _ c1) (fun k hk => na _ _ _ (by omega)) (fun i => na _ _ _ (by decide)) (fun _ => funext fun i => ?_) (fun _ => funext fun i => ?_) (fun h1 h2 => ⟨nl _ _ _ (by decide), ?_, ?_, funext fun i => ?_⟩) (fun _ _ _ => by rw [e5]) (fun h1 h2 => ?_) (fun h1 h2 => ?_) (fun h1 h2 => ?_)
      · simp only [A_stations, na 30 _ _ (by decide), nl 30 _ _ (by decide)]
      · simp only [A_sent, na 40 _ _ (by decide), e5]
      · simp only [F_station, na 31 _ _ (by decide)]
      · simp only [F_time, sc, sb, na 1 _ _ (by decide), na 32 _ _ (by decide), nl 31 _ _ (by decide)]
        split <;> simp only [na 33 _ _ (by decide), na 34 _ _ (by decide)]
      · simp only [A_left, na 35 _ _ (by decide)]
      · have hcm : c.2.1 ≠ m := fun z => hc (by rw [← h1, ← h2, ← z])
        have n2 : ∀ j, k_up ad (41, m, 0) q (41, c.2.1, j) = ad (41, c.2.1, j) := fun j => k_up_ne _ _ (k3 (Or.inr (Or.inl hcm)))
        simp only [F_msg, n2, nl 43 _ _ (by decide), na 31 _ _ (by decide), na 42 _ _ (by decide)]
      · have hcm : c.2.1 ≠ m := fun z => c1 (by rw [← h1, ← h2, ← z])
        exact k_up_ne _ _ (k3 (Or.inr (Or.inl hcm)))
      · exact nl _ _ _ (by decide)
  · rw [k_up_self, k_up_self]
  · rw [k_up_ne _ _ c1, k_up_ne _ _ c2]
/-- a message's row of minutes grows -/
theorem lay_growM {D : va_G} {B : Nat} {H : Heap} {m q N : Nat} {f : Nat → Int32} (hm : m < ln (5, 0, 0)) (hG : g_P D (k_up (k_up (lay C g ad ln ex) (49, 0, 0) (some (.inl (C.1, N, .inl f)))) (40, m, 0) (some (.inr (0, (F_msg ad ln m (g (40, m, 0))).set 7 (.ref q))))) (k_up ad (49, 0, 0) q) B H) :
    g_P D (lay C (k_up g (42, m, 0) f) (k_up ad (42, m, 0) q) (k_up ln (42, m, 0) N) ex) (k_up ad (42, m, 0) q) B H := by
  have e5 : k_up ln (42, m, 0) N (5, 0, 0) = ln (5, 0, 0) := k_up_ne _ _ (k3 (Or.inl (by decide)))
  have na : ∀ k i j, k ≠ 42 → k_up ad (42, m, 0) q (k, i, j) = ad (k, i, j) := fun k i j h => k_up_ne _ _ (k3 (Or.inl h))
  have nl : ∀ k i j, k ≠ 42 → k_up ln (42, m, 0) N (k, i, j) = ln (k, i, j) := fun k i j h => k_up_ne _ _ (k3 (Or.inl h))
  refine g_P_mv (tmp := (49, 0, 0)) (k := (42, m, 0)) hG ?_ ?_ (fun c c1 c2 => ?_) ?_ (fun c c1 c2 => ?_)
  · simp [lay]
  · rw [lay_hopM (by rw [e5]; exact hm), k_up_self, k_up_self, k_up_ne _ _ (k3 (Or.inl (by decide))), k_up_self]
  · by_cases hc : c = (40, m, 0)
    · subst hc
      rw [lay_msg (by rw [e5]; exact hm), k_up_self, k_up_ne _ _ (k3 (Or.inl (by decide)))]
      simp only [F_msg, k_up_self, nl 43 _ _ (by decide), na 31 _ _ (by decide), na 41 _ _ (by decide)]
      rfl
    · rw [k_up_ne _ _ hc, k_up_ne _ _ c2]
      refine lay_cg c (k_up_ne _ _ c1) (fun k hk => na _ _ _ (by omega)) (fun i => na _ _ _ (by decide)) (fun _ => funext fun i => ?_) (fun _ => funext fun i => ?_) (fun h1 h2 => ⟨nl _ _ _ (by decide), ?_, ?_, funext fun i => ?_⟩) (fun _ _ _ => by rw [e5]) (fun h1 h2 => ?_) (fun h1 h2 => ?_) (fun h1 h2 => ?_)
      · simp only [A_stations, na 30 _ _ (by decide), nl 30 _ _ (by decide)]
      · simp only [A_sent, na 40 _ _ (by decide), e5]
      · simp only [F_station, na 31 _ _ (by decide)]
      · simp only [F_time, sc, sb, na 1 _ _ (by decide), na 32 _ _ (by decide), nl 31 _ _ (by decide)]
        split <;> simp only [na 33 _ _ (by decide), na 34 _ _ (by decide)]
      · simp only [A_left, na 35 _ _ (by decide)]
      · have hcm : c.2.1 ≠ m := fun z => hc (by rw [← h1, ← h2, ← z])
        have n2 : ∀ j, k_up ad (42, m, 0) q (42, c.2.1, j) = ad (42, c.2.1, j) := fun j => k_up_ne _ _ (k3 (Or.inr (Or.inl hcm)))
        simp only [F_msg, n2, nl 43 _ _ (by decide), na 31 _ _ (by decide), na 41 _ _ (by decide)]
      · exact nl _ _ _ (by decide)
      · have hcm : c.2.1 ≠ m := fun z => c1 (by rw [← h1, ← h2, ← z])
        exact k_up_ne _ _ (k3 (Or.inr (Or.inl hcm)))
  · rw [k_up_self, k_up_self]
  · rw [k_up_ne _ _ c1, k_up_ne _ _ c2]
end CG
end
section
section CopyI
variable {p : Program} {l : Launch} {e : Env} {R : Room} {s : State} {m : MethodId} {args : Array Value} {below : List Frame} {meth : Method} {c : Code} {H : Heap} {locs : List Loc} {cells slots : Nat} {Q : State → Prop}
variable {cc : ByteArray} {pc : Nat} {ls : Array Slot} {rest : List Value} {D : va_G} {C : g_C} {v : g_k → Option va_E} {ad : g_k → Nat} {B : Nat} {H0 : Heap}
theorem g_copyi (hx : p.tables.exec = Jvm.exec) (hb : c.code = cc) (hml : c.maxLocals = ls.size) {own : String} {index : Nat} (hown : s.vm.findClass own = some m.cls) (hlink : (Cond.methodLink own index arraycopyName).before args s = true) (hnat : (Cond.native arraycopyName).before args s = true) (hstat : (Cond.static arraycopyName).before args s = true) (hini : (Cond.initialized "java/lang/System").before args s = true)
    (hK : va_K D vwCl (g_T C) s) (hG : g_P D v ad B H) (hS : va_S (g_A B) H0 H locs) {c0 c1 : g_k} {a0 a1 : Nat} (ha0 : ad c0 = a0) (ha1 : ad c1 = a1) {n0 n1 : Nat} {f g : Nat → Int32} (he0 : v c0 = some (.inl (C.1, n0, .inl f))) (he1 : v c1 = some (.inl (C.1, n1, .inl g))) {n : Nat} (h4 : n ≤ n0) (h5 : n ≤ n1) (hn : n < 2 ^ 31)
    (hframes : 1 ≤ R.frames) (hlocals : (rest.map fun v => v.category).sum + (nativeFrameWords "java/lang/System" "arraycopy" 5 + 11) ≤ R.locals) (hdg : decode cc pc = .ok (.invokestatic index, 3))
    (kk : ∀ (H1 : Heap) (locs1 : List Loc), g_P D (k_up v c1 (some (.inl (C.1, n1, .inl (va_cpy f g 0 0 n))))) ad B H1 → va_S (g_A B) H0 H1 locs1 → W p l e R s m args below meth c H1 locs1 cells slots Q (F0 m (pc + 3) ls rest)) : W p l e R s m args below meth c H locs cells slots Q (F0 m pc ls (.int (nI n) :: .int (nI 0) :: .ref a1 :: .int (nI 0) :: .ref a0 :: rest)) := by
  subst ha0
  subst ha1
  obtain ⟨L, h1, h2, h3⟩ := g_P_ws hG
  obtain ⟨q0, hq0⟩ := h3 c0 _ he0
  obtain ⟨q1, hq1⟩ := h3 c1 _ he1
  have z0 : (nI 0).toNatClampNeg = 0 := nI_clamp (by decide)
  have zn : (nI n).toNatClampNeg = n := nI_clamp hn
  refine va_copyi hx hb hml hown hlink hnat hstat hini hK h1 h2 hS q0 q1 0 0 hq0 hq1 rfl rfl rfl (nI_pos (by decide)) (nI_pos (by decide)) (nI_pos hn) (by rw [z0, zn]; omega) (by rw [z0, zn]; omega) (fun i _ => rfl) hframes hlocals hdg (fun H1 locs1 p1 _ s1 => kk H1 locs1 (g_P_set hG he1 h3 hq1 ?_) s1)
  rw [z0, zn] at p1
  exact p1
end CopyI

set_option maxHeartbeats 4000000 in
set_option maxRecDepth 100000 in
theorem c_copyOf (l : Launch) {D : va_G} {C : g_C} {g : g_k → Nat → Int32} {ad ln : g_k → Nat} {ex : g_k → Option va_E} {B : Nat} {cd : g_k} {n N : Nat} (hO : ∀ g, lay C g ad ln ex cd = some (.inl (C.1, n, .inl (g cd)))) (h49 : cd ≠ (49, 0, 0)) (hn0 : n < N) (hN0 : N < 2 ^ 26) : Met l yJ7_copyOf_59c91 wsJ7_copyOf_59c91 ({ frames := 1, cells := 1, slots := N, locals := 40 } : Room) (va_Pc [.ref (ad cd), .int (nI N)] (g_S D C (lay C g ad ln ex) ad B)) (va_Qr (fun (f : Nat → Int32) => ∀ j, j < n → f j = g cd j) (fun f q t => g_P D (k_up (lay C g ad ln ex) (49, 0, 0) (some (.inl (C.1, N, .inl f)))) (k_up ad (49, 0, 0) q) B t.heap) (g_A B)) 1 N (g_A B) := by
  refine Met.ofW (cc := cJ7_copyOf_59c91) (maxL := 3) (ret := (some (.array .int))) (by decide) rfl ?_
  intro p e s m args below meth c s₁ B₀ hml hv
  obtain ⟨rfl, hG, hF⟩ := hv
  have hK := hF.1
  have hB := hF.2.2.2
  have hx := B₀.exec
  have hb := B₀.bytes
  have hr := B₀.returns
  have hts := atoms_spec (ws := wsJ7_copyOf_59c91) B₀.pre
  have hown : s.vm.findClass RJ7 = some m.cls := findClass_of_methodNamed B₀.named
  have hlocks := B₀.notSynchronized
  have hS : va_S (g_A B) s.heap s.heap [] := va_S.rf
  have hl := lv_entry [.ref (ad cd), .int (nI N)] (n := 3) (Nat.le_of_ble_eq_true rfl)
  rw [lg_entry_eq]
  generalize (lg_sl [.ref (ad cd), .int (nI N)] ++ List.replicate (3 - (lg_sl [.ref (ad cd), .int (nI N)]).length) Slot.unset).toArray = ls at hl ⊢
  have hl : lv_has ls 3 [(0, .ref (ad cd)), (1, .int (nI N))] := hl
  refine lv_iload_n hx hb dJ7_copyOf_59c91_0 rfl (lv_at hl 1 rfl) ?_
  refine lv_aload_n hx hb dJ7_copyOf_59c91_1 rfl (lv_at hl 0 rfl) ?_
  refine g_alen hx hb hK hG (hO _) dJ7_copyOf_59c91_2 ?_
  refine lv_icmp_ne (tgt := 14) hx hb dJ7_copyOf_59c91_3 (by decide) (fun _ => ?_) (fun c1 => absurd ((nI_eq (by omega) (by omega)).mp c1) (by omega))
  refine lv_iload_n hx hb dJ7_copyOf_59c91_14 rfl (lv_at hl 1 rfl) ?_
  refine g_newa hx hb (hts (.arrayClass .int) (by decide +kernel)) hK hG hS hB (49, 0, 0) (by simp [lay]) (by omega) (by show 0 + 1 ≤ 1; omega) (by show 0 + N ≤ N; omega) dJ7_copyOf_59c91_15 (fun q H hq0 hG hS => ?_)
  have e0 : k_up ad (49, 0, 0) q cd = ad cd := k_up_ne _ _ h49
  refine lv_astore_n (lv' := [(2, .ref q), (0, .ref (ad cd)), (1, .int (nI N))]) hx hb dJ7_copyOf_59c91_17 rfl hl (by decide) rfl (fun ls hl => ?_)
  refine lv_aload_n hx hb dJ7_copyOf_59c91_18 rfl (lv_at hl 1 rfl) ?_
  refine lv_iconst (v := nI 0) hx hb dJ7_copyOf_59c91_19 (by decide) ?_
  refine lv_aload_n hx hb dJ7_copyOf_59c91_20 rfl (lv_at hl 0 rfl) ?_
  refine lv_iconst (v := nI 0) hx hb dJ7_copyOf_59c91_21 (by decide) ?_
  refine lv_aload_n hx hb dJ7_copyOf_59c91_22 rfl (lv_at hl 1 rfl) ?_
  refine W.eq (g2 := F0 m 23 ls [.ref (k_up ad (49, 0, 0) q cd), .int (nI 0), .ref q, .int (nI 0), .ref (ad cd)]) (by rw [e0]) ?_
  refine g_alen hx hb hK hG (by rw [k_up_ne _ _ h49]; exact hO g) dJ7_copyOf_59c91_23 ?_
  refine lv_iload_n hx hb dJ7_copyOf_59c91_24 rfl (lv_at hl 2 rfl) ?_
  refine va_mmin hx hb (hml.trans hl.1.symm) hown (hts (.methodLink RJ7 304 Lib.Math.min.name) (by decide +kernel)) (hts (.static Lib.Math.min.name) (by decide +kernel)) (hts (.initialized "java/lang/Math") (by decide +kernel)) (hts (.code Lib.Math.min.name Lib.Math.min.code 2 (some .int)) (by decide +kernel)) (Nat.le_of_ble_eq_true rfl) (Nat.le_of_ble_eq_true rfl) (Nat.le_of_ble_eq_true rfl) (by show 0 + N ≤ N; omega) dJ7_copyOf_59c91_25 ?_
  refine lv_to (y := nI n) (if_neg (fun h9 => by have := (nI_ltI (by omega) (by omega)).mp h9; omega)) ?_
  refine g_copyi hx hb (hml.trans hl.1.symm) hown (hts (.methodLink RJ7 150 arraycopyName) (by decide +kernel)) (hts (.native arraycopyName) (by decide +kernel)) (hts (.static arraycopyName) (by decide +kernel)) (hts (.initialized "java/lang/System") (by decide +kernel)) hK hG hS (c0 := cd) (c1 := (49, 0, 0)) e0 (k_up_self _ _ _) (by rw [k_up_ne _ _ h49]; exact hO g) (k_up_self _ _ _) (Nat.le_refl n) (Nat.le_of_lt hn0) (by omega) (Nat.le_of_ble_eq_true rfl) (Nat.le_of_ble_eq_true rfl) dJ7_copyOf_59c91_28 (fun H locs hG hS => ?_)
  refine lv_aload_n hx hb dJ7_copyOf_59c91_31 rfl (lv_at hl 0 rfl) ?_
  refine W.widen (k := 1) (n := N) (by omega) (by omega) ?_
  refine W.aret (v := .ref q) hx hb hr (Or.inr ⟨_, rfl⟩) (Or.inr ⟨_, rfl⟩) (fun t9 ht9 hW9 => ⟨⟨va_cpy (g cd) (fun _ => 0) 0 0 n, q, rfl, fun j hj => ?_, ?_⟩, hS.F ht9⟩) hS.2.2 dJ7_copyOf_59c91_32
  · rw [pk_cpy_in (Nat.zero_le j) (by omega)]
    congr 1
    omega
  · show g_P _ _ _ _ t9.heap
    rw [ht9]
    refine hG.to (funext fun d => ?_) rfl
    by_cases hd : d = (49, 0, 0)
    · rw [hd, k_up_self, k_up_self]
    · rw [k_up_ne _ _ hd, k_up_ne _ _ hd, k_up_ne _ _ hd]

/-- a message is handed on: the (h + 1)st time, to o, at minute t -/
def hand_P (g : g_k → Nat → Int32) (ad ln : g_k → Nat) (mg h o t : Nat) (g1 : g_k → Nat → Int32) (ad1 ln1 : g_k → Nat) : Prop :=
  (∀ c, c ≠ (40, mg, 0) → c ≠ (41, mg, 0) → c ≠ (42, mg, 0) → g1 c = g c) ∧ g1 (40, mg, 0) = upd (upd (upd (g (40, mg, 0)) 5 (nI (h + 1))) 2 (nI o)) 3 (nI (t + 1)) ∧ (∀ i, i < h → g1 (41, mg, 0) i = g (41, mg, 0) i ∧ g1 (42, mg, 0) i = g (42, mg, 0) i) ∧ g1 (41, mg, 0) h = nI o ∧ g1 (42, mg, 0) h = nI t ∧
  (∀ c, c ≠ (41, mg, 0) → c ≠ (42, mg, 0) → ad1 c = ad c ∧ ln1 c = ln c) ∧ ln1 (42, mg, 0) = ln1 (41, mg, 0) ∧ h + 1 ≤ ln1 (41, mg, 0) ∧ (ln1 (41, mg, 0) = ln (41, mg, 0) ∨ (h = ln (41, mg, 0) ∧ ln1 (41, mg, 0) = 2 * h))

set_option maxHeartbeats 4000000 in
set_option maxRecDepth 100000 in
theorem c_handTo (l : Launch) {D : va_G} {C : g_C} {g : g_k → Nat → Int32} {ad ln : g_k → Nat} {ex : g_k → Option va_E} {B : Nat} {mg h o t Wd : Nat} (hm : mg < ln (5, 0, 0)) (hh : g (40, mg, 0) 5 = nI h) (hhL : h ≤ ln (41, mg, 0)) (hL2 : ln (42, mg, 0) = ln (41, mg, 0)) (hL : 8 ≤ ln (41, mg, 0) ∧ ln (41, mg, 0) ≤ 2 ^ 20) (hW : h < ln (41, mg, 0) ∨ 4 * h ≤ Wd) : Met l yX0_handTo wsX0_handTo ({ frames := 2, cells := 2, slots := Wd, locals := 62 } : Room) (va_Pc [.ref (ad (40, mg, 0)), .int (nI o), .int (nI t)] (g_S D C (lay C g ad ln ex) ad B)) (va_Qv (fun (u : (g_k → Nat → Int32) × (g_k → Nat) × (g_k → Nat)) => hand_P g ad ln mg h o t u.1 u.2.1 u.2.2) (fun u t => g_P D (lay C u.1 u.2.1 u.2.2 ex) u.2.1 B t.heap) (g_A B)) 2 Wd (g_A B) := by
  refine Met.ofW (cc := cX0_handTo) (maxL := 3) (ret := none) (by decide) rfl ?_
  intro p e s m args below meth c s₁ B₀ hml hv
  obtain ⟨rfl, hG, hF⟩ := hv
  have hK := hF.1
  have hN := hF.2.1
  have hB := hF.2.2.2
  have hx := B₀.exec
  have hb := B₀.bytes
  have hr := B₀.returns
  have hts := atoms_spec (ws := wsX0_handTo) B₀.pre
  have hown : s.vm.findClass RX0 = some m.cls := findClass_of_methodNamed B₀.named
  have hlocks := B₀.notSynchronized
  have hS : va_S (g_A B) s.heap s.heap [] := va_S.rf
  have hi0 : ∀ w ∈ wsX00, w ∈ wsX0_handTo := by decide +kernel
  have hl := lv_entry [.ref (ad (40, mg, 0)), .int (nI o), .int (nI t)] (n := 3) (Nat.le_of_ble_eq_true rfl)
  rw [lg_entry_eq]
  generalize (lg_sl [.ref (ad (40, mg, 0)), .int (nI o), .int (nI t)] ++ List.replicate (3 - (lg_sl [.ref (ad (40, mg, 0)), .int (nI o), .int (nI t)]).length) Slot.unset).toArray = ls at hl ⊢
  have hl : lv_has ls 3 [(0, .ref (ad (40, mg, 0))), (1, .int (nI o)), (2, .int (nI t))] := hl
  have rest : ∀ (g1 : g_k → Nat → Int32) (ad1 ln1 : g_k → Nat) (H : Heap) (locs : List Loc), (∀ c, c ≠ (41, mg, 0) → c ≠ (42, mg, 0) → g1 c = g c ∧ ad1 c = ad c ∧ ln1 c = ln c) → (∀ i, i < h → g1 (41, mg, 0) i = g (41, mg, 0) i ∧ g1 (42, mg, 0) i = g (42, mg, 0) i) → ln1 (42, mg, 0) = ln1 (41, mg, 0) → h + 1 ≤ ln1 (41, mg, 0) → (ln1 (41, mg, 0) = ln (41, mg, 0) ∨ (h = ln (41, mg, 0) ∧ ln1 (41, mg, 0) = 2 * h)) → g_P D (lay C g1 ad1 ln1 ex) ad1 B H → va_S (g_A B) s.heap H locs → ∀ ls, lv_has ls 3 [(0, .ref (ad1 (40, mg, 0))), (1, .int (nI o)), (2, .int (nI t))] → W p l e (headSpec wsX0_handTo ({ frames := 2, cells := 2, slots := Wd, locals := 62 } : Room)).room s m ([.ref (ad (40, mg, 0)), .int (nI o), .int (nI t)]).toArray below meth c H locs 2 Wd (MQ below (va_Qv (fun (u : (g_k → Nat → Int32) × (g_k → Nat) × (g_k → Nat)) => hand_P g ad ln mg h o t u.1 u.2.1 u.2.2) (fun u t => g_P D (lay C u.1 u.2.1 u.2.2 ex) u.2.1 B t.heap) (g_A B)) ([.ref (ad (40, mg, 0)), .int (nI o), .int (nI t)]).toArray s 2 Wd (g_A B)) (F0 m 46 ls []) := by
    intro g1 ad1 ln1 H locs h1 h2 h3 h4 h5 hG hS ls hl
    have e40 : ((40, mg, 0) : g_k) ≠ (41, mg, 0) ∧ ((40, mg, 0) : g_k) ≠ (42, mg, 0) ∧ ((41, mg, 0) : g_k) ≠ (42, mg, 0) := ⟨(k3 (Or.inl (by decide))), (k3 (Or.inl (by decide))), (k3 (Or.inl (by decide)))⟩
    have hh1 : g1 (40, mg, 0) 5 = nI h := by rw [(h1 _ e40.1 e40.2.1).1]; exact hh
    have hm1 : mg < ln1 (5, 0, 0) := by rw [(h1 (5, 0, 0) (by intro h9; cases h9) (by intro h9; cases h9)).2.2]; exact hm
    have hL1 : ln1 (41, mg, 0) < 2 ^ 22 := by rcases h5 with h5 | ⟨h5, h6⟩ <;> omega
    refine lv_aload_n hx hb dX0_handTo_46 rfl (lv_at hl 0 rfl) ?_
    refine g_get hx hb hts hi0 hown hK hG (lay_msg hm1) rfl 6 (by decide) (hts (.fieldLink RX0 19 "Satellitering$Message" "hopNodes" "[I") (by decide +kernel)) rfl dX0_handTo_47 ?_
    refine lv_aload_n hx hb dX0_handTo_50 rfl (lv_at hl 0 rfl) ?_
    refine g_get hx hb hts hi0 hown hK hG (lay_msg hm1) rfl 5 (by decide) (hts (.fieldLink RX0 16 "Satellitering$Message" "hopCount" "I") (by decide +kernel)) rfl dX0_handTo_51 ?_
    refine lv_to (y := nI h) (hh1) ?_
    refine lv_iload_n hx hb dX0_handTo_54 rfl (lv_at hl 1 rfl) ?_
    refine o_iast hx hb hK hG hS (cd := (41, mg, 0)) (fun _ => lay_hopN hm1) (by omega) (by first | decide | omega) dX0_handTo_55 (fun H locs hG hS => ?_)
    refine lv_aload_n hx hb dX0_handTo_56 rfl (lv_at hl 0 rfl) ?_
    refine g_get hx hb hts hi0 hown hK hG (lay_msg hm1) rfl 7 (by decide) (hts (.fieldLink RX0 23 "Satellitering$Message" "hopMinutes" "[I") (by decide +kernel)) rfl dX0_handTo_57 ?_
    refine lv_aload_n hx hb dX0_handTo_60 rfl (lv_at hl 0 rfl) ?_
    refine g_get hx hb hts hi0 hown hK hG (lay_msg hm1) rfl 5 (by decide) (hts (.fieldLink RX0 16 "Satellitering$Message" "hopCount" "I") (by decide +kernel)) rfl dX0_handTo_61 ?_
    refine lv_to (y := nI h) (by rw [g2_ne _ _ _ e40.1]; exact hh1) ?_
    refine lv_iload_n hx hb dX0_handTo_64 rfl (lv_at hl 2 rfl) ?_
    refine o_iast hx hb hK hG hS (cd := (42, mg, 0)) (fun _ => lay_hopM hm1) (by omega) (by first | decide | omega) dX0_handTo_65 (fun H locs hG hS => ?_)
    refine lv_aload_n hx hb dX0_handTo_66 rfl (lv_at hl 0 rfl) ?_
    refine lv_dup hx hb dX0_handTo_67 rfl ?_
    refine g_get hx hb hts hi0 hown hK hG (lay_msg hm1) rfl 5 (by decide) (hts (.fieldLink RX0 16 "Satellitering$Message" "hopCount" "I") (by decide +kernel)) rfl dX0_handTo_68 ?_
    refine lv_to (y := nI h) (by rw [g2_ne _ _ _ e40.2.1, g2_ne _ _ _ e40.1]; exact hh1) ?_
    refine lv_iconst (v := nI 1) hx hb dX0_handTo_71 (by decide) ?_
    refine lv_iadd hx hb dX0_handTo_72 ?_
    refine lv_to (y := nI (h + 1)) (nI_add h 1) ?_
    refine o_put hx hb hts hi0 tyX0 tyX0_ok nmX0 hown hK hG hS (cd := (40, mg, 0)) (F_msg ad1 ln1 mg) (fun _ => lay_msg hm1) rfl 5 (by decide) (hts (.fieldLink RX0 16 "Satellitering$Message" "hopCount" "I") (by decide +kernel)) rfl rfl (by simp [upd]) (by simp) dX0_handTo_73 (fun H locs hG hS => ?_)
    refine lv_aload_n hx hb dX0_handTo_76 rfl (lv_at hl 0 rfl) ?_
    refine lv_iload_n hx hb dX0_handTo_77 rfl (lv_at hl 1 rfl) ?_
    refine o_put hx hb hts hi0 tyX0 tyX0_ok nmX0 hown hK hG hS (cd := (40, mg, 0)) (F_msg ad1 ln1 mg) (fun _ => lay_msg hm1) rfl 2 (by decide) (hts (.fieldLink RX0 26 "Satellitering$Message" "node" "I") (by decide +kernel)) rfl rfl (by simp [upd]) (by simp) dX0_handTo_78 (fun H locs hG hS => ?_)
    refine lv_aload_n hx hb dX0_handTo_81 rfl (lv_at hl 0 rfl) ?_
    refine lv_iload_n hx hb dX0_handTo_82 rfl (lv_at hl 2 rfl) ?_
    refine lv_iconst (v := nI 1) hx hb dX0_handTo_83 (by decide) ?_
    refine lv_iadd hx hb dX0_handTo_84 ?_
    refine lv_to (y := nI (t + 1)) (nI_add t 1) ?_
    refine o_put hx hb hts hi0 tyX0 tyX0_ok nmX0 hown hK hG hS (cd := (40, mg, 0)) (F_msg ad1 ln1 mg) (fun _ => lay_msg hm1) rfl 3 (by decide) (hts (.fieldLink RX0 7 "Satellitering$Message" "since" "I") (by decide +kernel)) rfl rfl (by simp [upd]) (by simp) dX0_handTo_85 (fun H locs hG hS => ?_)
    have hfin : hand_P g ad ln mg h o t (g2 (g2 (g2 (g2 (g2 g1 (41, mg, 0) h (nI o)) (42, mg, 0) h (nI t)) (40, mg, 0) 5 (nI (h + 1))) (40, mg, 0) 2 (nI o)) (40, mg, 0) 3 (nI (t + 1))) ad1 ln1 := by
      refine ⟨fun c c1 c2 c3 => ?_, ?_, fun i hi => ⟨?_, ?_⟩, ?_, ?_, fun c c1 c2 => ⟨(h1 c c1 c2).2.1, (h1 c c1 c2).2.2⟩, h3, h4, h5⟩
      · rw [g2_ne _ _ _ c1, g2_ne _ _ _ c1, g2_ne _ _ _ c1, g2_ne _ _ _ c3, g2_ne _ _ _ c2]; exact (h1 c c2 c3).1
      · rw [g2_self, g2_self, g2_self, g2_ne _ _ _ e40.2.1, g2_ne _ _ _ e40.1, (h1 _ e40.1 e40.2.1).1]
      · rw [g2_ne _ _ _ (Ne.symm e40.1), g2_ne _ _ _ (Ne.symm e40.1), g2_ne _ _ _ (Ne.symm e40.1), g2_ne _ _ _ e40.2.2, g2_self, upd_ne _ _ (by omega)]; exact (h2 i hi).1
      · rw [g2_ne _ _ _ (Ne.symm e40.2.1), g2_ne _ _ _ (Ne.symm e40.2.1), g2_ne _ _ _ (Ne.symm e40.2.1), g2_self, g2_ne _ _ _ (Ne.symm e40.2.2), upd_ne _ _ (by omega)]; exact (h2 i hi).2
      · rw [g2_ne _ _ _ (Ne.symm e40.1), g2_ne _ _ _ (Ne.symm e40.1), g2_ne _ _ _ (Ne.symm e40.1), g2_ne _ _ _ e40.2.2, g2_self, upd_self]
      · rw [g2_ne _ _ _ (Ne.symm e40.2.1), g2_ne _ _ _ (Ne.symm e40.2.1), g2_ne _ _ _ (Ne.symm e40.2.1), g2_self, upd_self]
    exact W.vret hx hb hr (fun t9 ht9 hW9 => ⟨⟨((g2 (g2 (g2 (g2 (g2 g1 (41, mg, 0) h (nI o)) (42, mg, 0) h (nI t)) (40, mg, 0) 5 (nI (h + 1))) (40, mg, 0) 2 (nI o)) (40, mg, 0) 3 (nI (t + 1))), ad1, ln1), rfl, hfin, by show g_P D (lay C (g2 (g2 (g2 (g2 (g2 g1 (41, mg, 0) h (nI o)) (42, mg, 0) h (nI t)) (40, mg, 0) 5 (nI (h + 1))) (40, mg, 0) 2 (nI o)) (40, mg, 0) 3 (nI (t + 1))) ad1 ln1 ex) ad1 B t9.heap; rw [ht9]; exact hG⟩, hS.F ht9⟩) hS.2.2 dX0_handTo_88
  refine lv_aload_n hx hb dX0_handTo_0 rfl (lv_at hl 0 rfl) ?_
  refine g_get hx hb hts hi0 hown hK hG (lay_msg hm) rfl 5 (by decide) (hts (.fieldLink RX0 16 "Satellitering$Message" "hopCount" "I") (by decide +kernel)) rfl dX0_handTo_1 ?_
  refine lv_to (y := nI h) (hh) ?_
  refine lv_aload_n hx hb dX0_handTo_4 rfl (lv_at hl 0 rfl) ?_
  refine g_get hx hb hts hi0 hown hK hG (lay_msg hm) rfl 6 (by decide) (hts (.fieldLink RX0 19 "Satellitering$Message" "hopNodes" "[I") (by decide +kernel)) rfl dX0_handTo_5 ?_
  refine g_alen hx hb hK hG (lay_hopN hm) dX0_handTo_8 ?_
  refine lv_icmp_lt (tgt := 46) hx hb dX0_handTo_9 (by decide) (fun c_1 => ?_) (fun c_1 => ?_)
  · have hlt : h < ln (41, mg, 0) := (nI_ltI (by omega) (by omega)).mp c_1
    refine W.widen (k := 2) (n := Wd) (by omega) (by omega) ?_
    exact rest g ad ln s.heap [] (fun _ _ _ => ⟨rfl, rfl, rfl⟩) (fun _ _ => ⟨rfl, rfl⟩) hL2 (by omega) (Or.inl rfl) hG hS ls (lv_sub hl [0, 1, 2] rfl)
  · have hge : h = ln (41, mg, 0) := Nat.le_antisymm hhL (Nat.le_of_not_lt (fun h9 => c_1 ((nI_ltI (by omega) (by omega)).mpr h9)))
    have hWd : 4 * h ≤ Wd := by rcases hW with h9 | h9 <;> omega
    refine lv_aload_n hx hb dX0_handTo_12 rfl (lv_at hl 0 rfl) ?_
    refine lv_aload_n hx hb dX0_handTo_13 rfl (lv_at hl 0 rfl) ?_
    refine g_get hx hb hts hi0 hown hK hG (lay_msg hm) rfl 6 (by decide) (hts (.fieldLink RX0 19 "Satellitering$Message" "hopNodes" "[I") (by decide +kernel)) rfl dX0_handTo_14 ?_
    refine lv_iconst (v := nI 2) hx hb dX0_handTo_17 (by decide) ?_
    refine lv_aload_n hx hb dX0_handTo_18 rfl (lv_at hl 0 rfl) ?_
    refine g_get hx hb hts hi0 hown hK hG (lay_msg hm) rfl 5 (by decide) (hts (.fieldLink RX0 16 "Satellitering$Message" "hopCount" "I") (by decide +kernel)) rfl dX0_handTo_19 ?_
    refine lv_to (y := nI h) (hh) ?_
    refine lv_imul hx hb dX0_handTo_22 ?_
    refine lv_to (y := nI (2 * h)) (pk_mul 2 h) ?_
    refine va_callr (va_runS (As := [.ref (ad (41, mg, 0)), .int (nI (2 * h))]) (rest := [.ref (ad (40, mg, 0))]) ⟨hx, hb, hml, hown, hts⟩ (c_copyOf l (g := g) (ad := ad) (ln := ln) (cd := (41, mg, 0)) (n := ln (41, mg, 0)) (N := 2 * h) (fun _ => lay_hopN hm) (k3 (Or.inl (by decide))) (by omega) (by omega)) (va_cwS 2 hts gX0_handTo_J7_copyOf_59c91 rfl rfl rfl (by decide +kernel) ⟨Nat.le_of_ble_eq_true rfl, Nat.le_of_ble_eq_true rfl⟩) (g_preS hF hG hS) rfl rfl hl.1 rfl (lv_room (Nat.le_of_ble_eq_true rfl)) dX0_handTo_23 ⟨(by show _ ≤ 2; omega), (by show _ ≤ Wd; omega)⟩) hS (fun q _ h => h) (fun q h => h) (fun f41 q41 t9 H locs ht9 _ hf41 hB1 _ _ hS => ?_)
    have hG : g_P D (k_up (lay C g ad ln ex) (49, 0, 0) (some (.inl (C.1, 2 * h, .inl f41)))) (k_up ad (49, 0, 0) q41) B H := by rw [← ht9]; exact hB1
    refine W.eq (g2 := F0 m 26 ls [.ref q41, .ref (k_up ad (49, 0, 0) q41 (40, mg, 0))]) (by rw [k_up_ne _ _ (k3 (Or.inl (by decide)))]) ?_
    refine g_put hx hb hts hi0 tyX0 tyX0_ok nmX0 hown hK hG hS (cd := (40, mg, 0)) (by rw [k_up_ne _ _ (k3 (Or.inl (by decide)))]; exact lay_msg hm) rfl 6 (by decide) (hts (.fieldLink RX0 19 "Satellitering$Message" "hopNodes" "[I") (by decide +kernel)) rfl rfl rfl (by simp) dX0_handTo_26 (fun H locs hG hS => ?_)
    have hG := lay_growN hm hG
    obtain ⟨ga41, ega41⟩ : ∃ z, z = k_up g (41, mg, 0) f41 := ⟨_, rfl⟩
    obtain ⟨aa41, eaa41⟩ : ∃ z, z = k_up ad (41, mg, 0) q41 := ⟨_, rfl⟩
    obtain ⟨la41, ela41⟩ : ∃ z, z = k_up ln (41, mg, 0) (2 * h) := ⟨_, rfl⟩
    rw [← ega41, ← eaa41, ← ela41] at hG
    have n41 : ∀ c : g_k, c ≠ (41, mg, 0) → ga41 c = g c ∧ aa41 c = ad c ∧ la41 c = ln c := fun c hc9 => ⟨by rw [ega41, k_up_ne _ _ hc9], by rw [eaa41, k_up_ne _ _ hc9], by rw [ela41, k_up_ne _ _ hc9]⟩
    have ea0 : aa41 (40, mg, 0) = ad (40, mg, 0) := (n41 _ (k3 (Or.inl (by decide)))).2.1
    have hl : lv_has ls 3 [(0, .ref (aa41 (40, mg, 0))), (1, .int (nI o)), (2, .int (nI t))] := by rw [ea0]; exact hl
    have hm41 : mg < la41 (5, 0, 0) := by rw [(n41 (5, 0, 0) (by intro h9; cases h9)).2.2]; exact hm
    have hh41 : ga41 (40, mg, 0) 5 = nI h := by rw [(n41 _ (k3 (Or.inl (by decide)))).1]; exact hh
    have hl42 : la41 (42, mg, 0) = h := by rw [(n41 _ (k3 (Or.inl (by decide)))).2.2, hL2, hge]
    refine lv_aload_n hx hb dX0_handTo_29 rfl (lv_at hl 0 rfl) ?_
    refine lv_aload_n hx hb dX0_handTo_30 rfl (lv_at hl 0 rfl) ?_
    refine g_get hx hb hts hi0 hown hK hG (lay_msg hm41) rfl 7 (by decide) (hts (.fieldLink RX0 23 "Satellitering$Message" "hopMinutes" "[I") (by decide +kernel)) rfl dX0_handTo_31 ?_
    refine lv_iconst (v := nI 2) hx hb dX0_handTo_34 (by decide) ?_
    refine lv_aload_n hx hb dX0_handTo_35 rfl (lv_at hl 0 rfl) ?_
    refine g_get hx hb hts hi0 hown hK hG (lay_msg hm41) rfl 5 (by decide) (hts (.fieldLink RX0 16 "Satellitering$Message" "hopCount" "I") (by decide +kernel)) rfl dX0_handTo_36 ?_
    refine lv_to (y := nI h) (hh41) ?_
    refine lv_imul hx hb dX0_handTo_39 ?_
    refine lv_to (y := nI (2 * h)) (pk_mul 2 h) ?_
    refine va_callr (va_runS (As := [.ref (aa41 (42, mg, 0)), .int (nI (2 * h))]) (rest := [.ref (aa41 (40, mg, 0))]) ⟨hx, hb, hml, hown, hts⟩ (c_copyOf l (g := ga41) (ad := aa41) (ln := la41) (cd := (42, mg, 0)) (n := la41 (42, mg, 0)) (N := 2 * h) (fun _ => lay_hopM hm41) (k3 (Or.inl (by decide))) (by omega) (by omega)) (va_cwS 2 hts gX0_handTo_J7_copyOf_59c91 rfl rfl rfl (by decide +kernel) ⟨Nat.le_of_ble_eq_true rfl, Nat.le_of_ble_eq_true rfl⟩) (g_preS hF hG hS) rfl rfl hl.1 rfl (lv_room (Nat.le_of_ble_eq_true rfl)) dX0_handTo_40 ⟨(by show _ ≤ 2; omega), (by show _ ≤ Wd; omega)⟩) hS (fun q _ h => h) (fun q h => h) (fun f42 q42 t9 H locs ht9 _ hf42 hB1 _ _ hS => ?_)
    have hG : g_P D (k_up (lay C ga41 aa41 la41 ex) (49, 0, 0) (some (.inl (C.1, 2 * h, .inl f42)))) (k_up aa41 (49, 0, 0) q42) B H := by rw [← ht9]; exact hB1
    refine W.eq (g2 := F0 m 43 ls [.ref q42, .ref (k_up aa41 (49, 0, 0) q42 (40, mg, 0))]) (by rw [k_up_ne _ _ (k3 (Or.inl (by decide)))]) ?_
    refine g_put hx hb hts hi0 tyX0 tyX0_ok nmX0 hown hK hG hS (cd := (40, mg, 0)) (by rw [k_up_ne _ _ (k3 (Or.inl (by decide)))]; exact lay_msg hm41) rfl 7 (by decide) (hts (.fieldLink RX0 23 "Satellitering$Message" "hopMinutes" "[I") (by decide +kernel)) rfl rfl rfl (by simp) dX0_handTo_43 (fun H locs hG hS => ?_)
    have hG := lay_growM hm41 hG
    obtain ⟨ga42, ega42⟩ : ∃ z, z = k_up ga41 (42, mg, 0) f42 := ⟨_, rfl⟩
    obtain ⟨aa42, eaa42⟩ : ∃ z, z = k_up aa41 (42, mg, 0) q42 := ⟨_, rfl⟩
    obtain ⟨la42, ela42⟩ : ∃ z, z = k_up la41 (42, mg, 0) (2 * h) := ⟨_, rfl⟩
    rw [← ega42, ← eaa42, ← ela42] at hG
    have n42 : ∀ c : g_k, c ≠ (42, mg, 0) → ga42 c = ga41 c ∧ aa42 c = aa41 c ∧ la42 c = la41 c := fun c hc9 => ⟨by rw [ega42, k_up_ne _ _ hc9], by rw [eaa42, k_up_ne _ _ hc9], by rw [ela42, k_up_ne _ _ hc9]⟩
    have ea0 : aa42 (40, mg, 0) = aa41 (40, mg, 0) := (n42 _ (k3 (Or.inl (by decide)))).2.1
    have hl : lv_has ls 3 [(0, .ref (aa42 (40, mg, 0))), (1, .int (nI o)), (2, .int (nI t))] := by rw [ea0]; exact hl
    have hm42 : mg < la42 (5, 0, 0) := by rw [(n42 (5, 0, 0) (by intro h9; cases h9)).2.2]; exact hm41
    have hh42 : ga42 (40, mg, 0) 5 = nI h := by rw [(n42 _ (k3 (Or.inl (by decide)))).1]; exact hh41
    refine W.widen (k := 2) (n := Wd) (by omega) (by omega) ?_
    refine rest ga42 aa42 la42 H locs (fun c c1 c2 => ?_) (fun i hi => ⟨?_, ?_⟩) ?_ ?_ (Or.inr ⟨hge, ?_⟩) hG hS ls (lv_sub hl [0, 1, 2] rfl)
    · exact ⟨((n42 c c2).1).trans (n41 c c1).1, ((n42 c c2).2.1).trans (n41 c c1).2.1, ((n42 c c2).2.2).trans (n41 c c1).2.2⟩
    · rw [(n42 _ (k3 (Or.inl (by decide)))).1, ega41, k_up_self]; exact hf41 i (by omega)
    · rw [ega42, k_up_self, hf42 i (by omega), (n41 _ (k3 (Or.inl (by decide)))).1]
    · rw [(n42 (41, mg, 0) (k3 (Or.inl (by decide)))).2.2, ela41, ela42, k_up_self, k_up_self]
    · rw [(n42 (41, mg, 0) (k3 (Or.inl (by decide)))).2.2, ela41, k_up_self]; omega
    · rw [(n42 (41, mg, 0) (k3 (Or.inl (by decide)))).2.2, ela41, k_up_self]

set_option maxHeartbeats 4000000 in
set_option maxRecDepth 100000 in
theorem c_isAtGoal (l : Launch) {D : va_G} {C : g_C} {g : g_k → Nat → Int32} {ad ln : g_k → Nat} {ex : g_k → Option va_E} {B : Nat} {mg : Nat} (hm : mg < ln (5, 0, 0)) : Met l yX0_isAtGoal wsX0_isAtGoal ({ frames := 0, cells := 0, slots := 0, locals := 0 } : Room) (va_Pc [.ref (ad (40, mg, 0))] (g_S D C (lay C g ad ln ex) ad B)) (vp_Si (fun r => r = if g (40, mg, 0) 2 = g (40, mg, 0) 0 then nI 1 else nI 0)) 0 0 (fun _ => False) := by
  refine Met.ofW (cc := cX0_isAtGoal) (maxL := 1) (ret := (some .boolean)) (by decide) rfl ?_
  intro p e s m args below meth c s₁ B₀ hml hv
  obtain ⟨rfl, hG, hF⟩ := hv
  have hK := hF.1
  have hN := hF.2.1
  have hB := hF.2.2.2
  have hx := B₀.exec
  have hb := B₀.bytes
  have hr := B₀.returns
  have hts := atoms_spec (ws := wsX0_isAtGoal) B₀.pre
  have hown : s.vm.findClass RX0 = some m.cls := findClass_of_methodNamed B₀.named
  have hlocks := B₀.notSynchronized
  have hS : va_S (g_A B) s.heap s.heap [] := va_S.rf
  have hi0 : ∀ w ∈ wsX00, w ∈ wsX0_isAtGoal := by decide +kernel
  have hl := lv_entry [.ref (ad (40, mg, 0))] (n := 1) (Nat.le_of_ble_eq_true rfl)
  rw [lg_entry_eq]
  generalize (lg_sl [.ref (ad (40, mg, 0))] ++ List.replicate (1 - (lg_sl [.ref (ad (40, mg, 0))]).length) Slot.unset).toArray = ls at hl ⊢
  have hl : lv_has ls 1 [(0, .ref (ad (40, mg, 0)))] := hl
  refine lv_aload_n hx hb dX0_isAtGoal_0 rfl (lv_at hl 0 rfl) ?_
  refine g_get hx hb hts hi0 hown hK hG (lay_msg hm) rfl 2 (by decide) (hts (.fieldLink RX0 26 "Satellitering$Message" "node" "I") (by decide +kernel)) rfl dX0_isAtGoal_1 ?_
  refine lv_aload_n hx hb dX0_isAtGoal_4 rfl (lv_at hl 0 rfl) ?_
  refine g_get hx hb hts hi0 hown hK hG (lay_msg hm) rfl 0 (by decide) (hts (.fieldLink RX0 29 "Satellitering$Message" "goal" "I") (by decide +kernel)) rfl dX0_isAtGoal_5 ?_
  refine lv_icmp_ne (tgt := 15) hx hb dX0_isAtGoal_8 (by decide) (fun c_1 => ?_) (fun c_1 => ?_)
  · refine lv_iconst (v := nI 0) hx hb dX0_isAtGoal_15 (by decide) ?_
    exact W.zret (v := nI 0) hx hb hr rfl (fun t9 ht9 hW9 => ⟨_, rfl, (if_neg c_1).symm, ht9⟩) (fun q h => nomatch h) dX0_isAtGoal_16
  · refine lv_iconst (v := nI 1) hx hb dX0_isAtGoal_11 (by decide) ?_
    refine lv_goto (tgt := 16) hx hb dX0_isAtGoal_12 (by decide) ?_
    exact W.zret (v := nI 1) hx hb hr rfl (fun t9 ht9 hW9 => ⟨_, rfl, (if_pos c_1).symm, ht9⟩) (fun q h => nomatch h) dX0_isAtGoal_16
end
section
/-! new int[n][k] -/
section MNA
variable {p : Program} {l : Launch} {e : Env} {R : Room} {s : State} {m : MethodId} {args : Array Value} {below : List Frame} {meth : Method} {c : Code} {H : Heap} {locs : List Loc} {cells slots : Nat} {Q : State → Prop}
variable {cc : ByteArray} {pc : Nat} {ls : Array Slot} {rest : List Value} {D : va_G} {C : g_C} {v : g_k → Option va_E} {ad : g_k → Nat} {B : Nat} {H0 : Heap}
theorem g_outer (c : ClassId) (N h0 : Nat) : ∀ i : Nat, Jvm.Free.Multi.outerC c N h0 i = arrV c N (fun j => va_rf (if j < i then some (h0 + 1 + j) else none))
  | 0 => by
    show ({ cls := c, slots := Array.replicate N .null, vm := .none } : Cell) = _
    rw [arrV_new]
    refine congrArg (arrV c N) (funext fun j => ?_)
    simp [va_rf]
  | i + 1 => by
    show (Jvm.Free.Multi.outerC c N h0 i).setSlot i (.ref (h0 + 1 + i)) = _
    rw [g_outer c N h0 i, arrV_store]
    refine congrArg (arrV c N) (funext fun j => ?_)
    by_cases e : j = i
    · subst e
      simp [updV, va_rf]
    · by_cases h : j < i
      · simp [updV, e, h, Nat.lt_succ_of_lt h]
      · simp [updV, e, h, show ¬ j < i + 1 by omega]
theorem g_mna (hx : p.tables.exec = Jvm.exec) (hb : c.code = cc) {own : String} {index : Nat} (hown : s.vm.findClass own = some m.cls) (hclink : (Cond.classLink own index "[[I").before args s = true) (hover : (Cond.arrayOver (.array .int)).before args s = true) (harr : (Cond.arrayClass .int).before args s = true) (hK : va_K D vwCl (g_T C) s) (hG : g_P D v ad B H) (hS : va_S (g_A B) H0 H locs) (hB : B ≤ H0.size)
    (co : g_k) (cr : Nat → g_k) {N K : Nat} (hcr : ∀ i j, cr i = cr j → i = j) (hco : ∀ i, cr i ≠ co) (hn0 : v co = none) (hnr : ∀ i, i < N → v (cr i) = none) (hN : N < 2 ^ 20) (hKb : K < 2 ^ 20) (hcells : cells + (1 + N) ≤ R.cells) (hslots : slots + (N + N * K) ≤ R.slots) (hdg : decode cc pc = .ok (.multianewarray index 2, 4))
    (kk : ∀ (h : Nat) (H1 : Heap), (∀ (v' : g_k → Option va_E) (ad' : g_k → Nat), v' co = some (.inl (C.2.1, N, .inr (.inr (.inr (.inr (fun i => if i < N then some (ad' (cr i)) else none)))))) → (∀ i, i < N → v' (cr i) = some (.inl (C.1, K, .inl (fun _ => 0)))) → (∀ c, c ≠ co → (∀ i, i < N → c ≠ cr i) → v' c = v c) → ad' co = h → (∀ i, i < N → ad' (cr i) = h + 1 + i) → (∀ c, c ≠ co → (∀ i, i < N → c ≠ cr i) → ad' c = ad c) → g_P D v' ad' B H1) → va_S (g_A B) H0 H1 locs →
      W p l e R s m args below meth c H1 locs (cells + 1 + N) (slots + N + N * K) Q (F0 m (pc + 4) ls (.ref h :: rest))) : W p l e R s m args below meth c H locs cells slots Q (F0 m pc ls (.int (nI K) :: .int (nI N) :: rest)) := by
  intro T hT Xs
  have zN : (nI N).toNatClampNeg = N := nI_clamp (by omega)
  have zK : (nI K).toNatClampNeg = K := nI_clamp (by omega)
  obtain ⟨vm₁, cA, comp, -, fA, fC, -, -, X', step⟩ := Xs.multianewarray2F hx hown hclink hover harr (g := F0 m pc ls (.int (nI K) :: .int (nI N) :: rest)) rfl (by rw [hb]; exact hdg) rfl (nI_pos (by omega)) (nI_pos (by omega)) (by rw [zN]; omega) (by rw [zK]; show K * 4 ≤ 536870912; omega) (by rw [zK]; omega) rfl rfl (by rw [zN]; exact hcells) (by rw [zN, zK]; exact hslots)
  rw [zN, zK] at X' step
  have hcA : C.2.1 = cA := Option.some.inj (((hK.2 1 _ rfl).2 : s.vm.findClass ("[" ++ (FieldType.array .int).toString) = some C.2.1).symm.trans fA)
  have hcI : C.1 = comp := Option.some.inj ((va_nm_int (hK.2 0 _ rfl).2).symm.trans fC)
  subst hcA
  subst hcI
  generalize hFd : Jvm.Free.Multi.fill (T.setVm vm₁) C.2.1 C.1 N K (defaultValue .int) N = F at X' step
  have hTh : (T.setVm vm₁).heap = H := hT
  obtain ⟨f1, f2, -, -⟩ := Jvm.Free.Multi.fill_facts (T.setVm vm₁) C.2.1 C.1 N K (defaultValue .int) N
  rw [hFd, hTh] at f1 f2
  have hold : ∀ x : Nat, x < H.size → F.heap[x]? = H[x]? := fun x hx => by
    have := Jvm.Free.Multi.fill_old (T.setVm vm₁) C.2.1 C.1 N K (defaultValue .int) (a := x) (by rw [hTh]; exact hx) N
    rw [hFd, hTh] at this
    exact this
  have hrow : ∀ j : Nat, j < N → F.heap[H.size + 1 + j]? = some (arrV C.1 K (fun _ => .int 0)) := fun j hj => by
    have := Jvm.Free.Multi.fill_inner (T.setVm vm₁) C.2.1 C.1 N K (defaultValue .int) N j hj
    rw [hFd, hTh] at this
    rw [this, ← arrV_new]
    rfl
  rw [g_outer] at f2
  obtain ⟨t, a1, b1⟩ := kk H.size F.heap (fun v' ad' q1 q2 q3 q4 q5 q6 => by
    obtain ⟨g1, g2, L, g3⟩ := hG
    have cas : ∀ (c : g_k), c = co ∨ (∃ i, i < N ∧ c = cr i) ∨ (c ≠ co ∧ ∀ i, i < N → c ≠ cr i) := fun c => by
      by_cases h1 : c = co
      · exact Or.inl h1
      · by_cases h2 : ∃ i, i < N ∧ c = cr i
        · exact Or.inr (Or.inl h2)
        · exact Or.inr (Or.inr ⟨h1, fun i hi h => h2 ⟨i, hi, h⟩⟩)
    have hlt : ∀ (c : g_k) (e : va_E), v c = some e → ad c < H.size := fun c e hc => (g1 c e hc).1.lt
    refine ⟨fun c e hc => ?_, fun c c' e e' hc hc' hq => ?_, co :: ((List.range N).map cr ++ L), fun c e hc => ?_⟩
    · rcases cas c with h | ⟨i, hi, h⟩ | ⟨h, h'⟩
      · subst h
        rw [q1] at hc
        cases hc
        rw [q4]
        refine ⟨?_, Nat.le_trans hB hS.1⟩
        show F.heap[H.size]? = some (vp_cell _ _)
        rw [f2, vp_cell_q]
        refine congrArg some (congrArg (arrV _ _) (funext fun j => ?_))
        by_cases hj : j < N
        · rw [if_pos hj, if_pos hj, q5 j hj]
        · rw [if_neg hj, if_neg hj]
      · subst h
        rw [q2 i hi] at hc
        cases hc
        rw [q5 i hi]
        exact ⟨hrow i hi, by have := hS.1; omega⟩
      · rw [q3 c h h'] at hc
        rw [q6 c h h']
        exact ⟨(g1 c e hc).1.kept (hold _ (hlt c e hc)), (g1 c e hc).2⟩
    · have low : ∀ c e, v' c = some e → c ≠ co → (∀ i, i < N → c ≠ cr i) → ad' c < H.size := fun c e hc h h' => by
        rw [q6 c h h']
        rw [q3 c h h'] at hc
        exact hlt c e hc
      rcases cas c with h | ⟨i, hi, h⟩ | ⟨h, h'⟩ <;> rcases cas c' with k | ⟨j, hj, k⟩ | ⟨k, k'⟩
      · rw [h, k]
      · rw [h, k, q4, q5 j hj] at hq
        omega
      · have := low c' e' hc' k k'
        rw [h, q4] at hq
        omega
      · rw [h, k, q4, q5 i hi] at hq
        omega
      · rw [h, k, q5 i hi, q5 j hj] at hq
        rw [h, k, show i = j by omega]
      · have := low c' e' hc' k k'
        rw [h, q5 i hi] at hq
        omega
      · have := low c e hc h h'
        rw [k, q4] at hq
        omega
      · have := low c e hc h h'
        rw [k, q5 j hj] at hq
        omega
      · rw [q6 c h h', q6 c' k k'] at hq
        rw [q3 c h h'] at hc
        rw [q3 c' k k'] at hc'
        exact g2 c c' e e' hc hc' hq
    · rcases cas c with h | ⟨i, hi, h⟩ | ⟨h, h'⟩
      · rw [h]
        exact List.mem_cons_self
      · rw [h]
        exact List.mem_cons_of_mem _ (List.mem_append_left _ (List.mem_map.mpr ⟨i, List.mem_range.mpr hi, rfl⟩))
      · rw [q3 c h h'] at hc
        exact List.mem_cons_of_mem _ (List.mem_append_right _ (g3 c e hc))) ⟨by have := hS.1; omega, fun x h1 h2 => (hold x (Nat.lt_of_lt_of_le h1 hS.1)).trans (hS.2.1 x h1 h2), hS.2.2⟩ F rfl X'
  refine ⟨t, step t ?_, b1⟩
  have e : T.heap.size = H.size := by rw [hT]
  rw [e]
  exact a1
end MNA
end
section
section CT
variable {p : Program} {l : Launch} {e : Env} {R : Room} {s : State} {m : MethodId} {args : Array Value} {below : List Frame} {meth : Method} {c : Code} {H : Heap} {locs : List Loc} {cells slots : Nat} {Q : State → Prop}
variable {cc : ByteArray} {pc : Nat} {ls : Array Slot} {rest : List Value} {D : va_G} {C : g_C} {v : g_k → Option va_E} {ad : g_k → Nat} {B : Nat} {H0 : Heap} {tys : List (ClassId × FieldType)}
theorem g_puta (hx : p.tables.exec = Jvm.exec) (hb : c.code = cc) {own Cn : String} {T : u_T} {N ci index : Nat} {Ts : List Cond} (hts : ∀ w ∈ Ts, w.before args s = true) (hin : ∀ w ∈ u_ws Cn T N, w ∈ Ts) (ty0 : Nat → FieldType) (hty : ∀ k, k < N → parseFieldDescriptor (T k).2.2.1 = some (ty0 k)) (hnm : ∀ a, a < N → ∀ b, b < N → a ≠ b → (T a).2.1 ≠ (T b).2.1) (hown : s.vm.findClass own = some m.cls) (hK : va_K D vwCl tys s) (hG : g_P D v ad B H) (hS : va_S (g_A B) H0 H locs) {cd : g_k} {a : Nat} (ha : ad cd = a) {fs : List Value} (he : v cd = some (.inr (ci, fs))) (hc : vwCl[ci]? = some (Cn, T, N)) (k : Nat) (hk : k < N) (hlink : (Cond.fieldLink own index (T k).1 (T k).2.1 (T k).2.2.1).before args s = true) (hfin : (T k).2.2.2 = false ∨ ((T k).2.2.2 = true ∧ meth.name = "<init>" ∧ (T k).1 = own)) {x : Value} (hn : narrow (ty0 k) x = x) (hfit : fits (ty0 k) x = true) (hl : k < fs.length) (hdg : decode cc pc = .ok (.putfield index, 3))
    (kk : ∀ (H1 : Heap) (locs1 : List Loc), g_P D (k_up v cd (some (.inr (ci, fs.set k x)))) ad B H1 → va_S (g_A B) H0 H1 locs1 → W p l e R s m args below meth c H1 locs1 cells slots Q (F0 m (pc + 3) ls rest)) : W p l e R s m args below meth c H locs cells slots Q (F0 m pc ls (x :: .ref a :: rest)) := by
  subst ha
  rcases hfin with h | ⟨h1, h2, h3⟩
  · exact g_put hx hb hts hin ty0 hty hnm hown hK hG hS he hc k hk hlink h hn hfit hl hdg kk
  · exact g_putF hx hb hts hin ty0 hty hnm hown hK hG hS he hc k hk hlink h1 h2 h3 hn hfit hl hdg kk
theorem g_newqa (hx : p.tables.exec = Jvm.exec) (hb : c.code = cc) {own Cn : String} {index : Nat} (hown : s.vm.findClass own = some m.cls) (hclink : (Cond.classLink own index Cn).before args s = true) (hover : va_AO Cn s) {cA : ClassId} (t0 : Nat) (ht : (g_T C)[t0]? = some (cA, .object Cn)) (hK : va_K D vwCl (g_T C) s) (hG : g_P D v ad B H) (hS : va_S (g_A B) H0 H locs) (hB : B ≤ H0.size) (cd : g_k) (hcd : v cd = none) {n : Nat} (hn : n < 2 ^ 20) (hcells : cells + 1 ≤ R.cells) (hslots : slots + n ≤ R.slots) (hdg : decode cc pc = .ok (.anewarray index, 3))
    (kk : ∀ (q : Nat) (H1 : Heap), g_P D (k_up v cd (some (.inl (cA, n, .inr (.inr (.inr (.inr (fun _ => none)))))))) (k_up ad cd q) B H1 → va_S (g_A B) H0 H1 locs → W p l e R s m args below meth c H1 locs (cells + 1) (slots + n) Q (F0 m (pc + 3) ls (.ref q :: rest))) : W p l e R s m args below meth c H locs cells slots Q (F0 m pc ls (.int (nI n) :: rest)) := by
  obtain ⟨L, h1, h2, h3⟩ := g_P_ws hG
  have hn31 : n < 2 ^ 31 := Nat.lt_trans hn (by decide)
  refine va_newq hx hb hown hclink hover hK h1 h2 hS (fun q hq => Nat.le_trans hB hq) (nI_pos hn31) (nI_clamp hn31) (by omega) hcells hslots hdg (fun q cA' H1 k1 p1 d1 s1 => ?_)
  have hcA : cA' = cA := by
    have e1 := (k1.2 4 _ rfl).2
    have e2 := (hK.2 t0 _ ht).2
    obtain ⟨-, -, -, -, -, f1⟩ := e1
    obtain ⟨-, -, -, -, -, f2⟩ := e2
    exact Option.some.inj (f1.symm.trans f2)
  subst hcA
  exact kk q H1 (g_P_push hG hcd h3 p1 d1) s1
end CT

def search_v (C : g_C) (v : g_k → Option va_E) (ad : g_k → Nat) : g_k → Option va_E := fun c => if c = (2, 0, 0) then some (.inr (1, F_search ad)) else if c = (10, 0, 0) then some (.inl (C.1, 10, .inl (fun _ => 0))) else v c
set_option maxHeartbeats 4000000 in
set_option maxRecDepth 100000 in
theorem c_X1_init (l : Launch) {D : va_G} {C : g_C} {v : g_k → Option va_E} {ad : g_k → Nat} {B : Nat} (h0 : v (2, 0, 0) = some (.inr (1, [.null, .null]))) (h1 : v (10, 0, 0) = none) : Met l yX1_init wsX1_init ({ frames := 1, cells := 1, slots := 10, locals := 12 } : Room) (va_Pc [.ref (ad (2, 0, 0)), .ref (ad (1, 0, 0))] (g_S D C v ad B)) (va_Qv (fun (u : (g_k → Option va_E) × (g_k → Nat)) => u.1 = search_v C v u.2 ∧ ∀ c, ¬ (c = (10, 0, 0)) → u.2 c = ad c) (fun u t => g_P D u.1 u.2 B t.heap) (g_A B)) 1 10 (g_A B) := by
  refine Met.ofW (cc := cX1_init) (maxL := 2) (ret := none) (by decide) rfl ?_
  intro p e s m args below meth c s₁ B₀ hml hv
  obtain ⟨rfl, hG, hF⟩ := hv
  have hK := hF.1
  have hB := hF.2.2.2
  have hx := B₀.exec
  have hb := B₀.bytes
  have hr := B₀.returns
  have hts := atoms_spec (ws := wsX1_init) B₀.pre
  have hown : s.vm.findClass RX1 = some m.cls := findClass_of_methodNamed B₀.named
  have hlocks := B₀.notSynchronized
  have hin : meth.name = "<init>" := (name_of_methodNamed B₀.named B₀.method).1
  have hS : va_S (g_A B) s.heap s.heap [] := va_S.rf
  have hi1 : ∀ w ∈ wsX10, w ∈ wsX1_init := by decide +kernel
  have hl := lv_entry [.ref (ad (2, 0, 0)), .ref (ad (1, 0, 0))] (n := 2) (Nat.le_of_ble_eq_true rfl)
  rw [lg_entry_eq]
  generalize (lg_sl [.ref (ad (2, 0, 0)), .ref (ad (1, 0, 0))] ++ List.replicate (2 - (lg_sl [.ref (ad (2, 0, 0)), .ref (ad (1, 0, 0))]).length) Slot.unset).toArray = ls at hl ⊢
  have hl : lv_has ls 2 [(0, .ref (ad (2, 0, 0))), (1, .ref (ad (1, 0, 0)))] := hl
  refine lv_aload_n hx hb dX1_init_0 rfl (lv_at hl 0 rfl) ?_
  refine W.objInit hx hb hown (hts (.methodLink RX1 3 objectInit) (by decide +kernel)) (hts (.instanceMethod objectInit) (by decide +kernel)) (hts (.code objectInit ⟨#[0xb1]⟩ 1 none) (by decide +kernel)) rfl (by rw [hml]; exact hl.1) rfl dX1_init_1 (Nat.le_of_ble_eq_true rfl) (Nat.le_of_ble_eq_true rfl) ?_
  refine W.eq (g2 := F0 m 4 ls []) rfl ?_
  refine lv_aload_n hx hb dX1_init_4 rfl (lv_at hl 0 rfl) ?_
  refine lv_bipush (v := nI 10) hx hb dX1_init_5 (by decide) ?_
  refine g_newa hx hb (hts (.arrayClass .int) (by decide +kernel)) hK hG hS hB (10, 0, 0) (by simp [k_up, h0, h1]) (by decide) (Nat.le_of_ble_eq_true rfl) (Nat.le_of_ble_eq_true rfl) dX1_init_7 (fun q7 H _ hG hS => ?_)
  refine g_puta hx hb hts hi1 tyX1 tyX1_ok nmX1 hown hK hG hS (ci := 1) (cd := (2, 0, 0)) (by simp [k_up, h0, h1]) (fs := [.null, .null]) (by simp [k_up, h0, h1]) rfl 1 (by decide) (hts (.fieldLink RX1 9 "Satellitering$Search" "reached" "[I") (by decide +kernel)) (Or.inr ⟨rfl, hin, rfl⟩) rfl rfl (by simp) dX1_init_9 (fun H locs hG hS => ?_)
  have hG : g_P D (k_up (k_up v (10, 0, 0) (some (.inl (C.1, 10, .inl (fun _ => 0))))) (2, 0, 0) (some (.inr (1, [.null, .ref q7])))) (k_up ad (10, 0, 0) q7) B H := hG
  refine lv_aload_n hx hb dX1_init_12 rfl (lv_at hl 0 rfl) ?_
  refine lv_aload_n hx hb dX1_init_13 rfl (lv_at hl 1 rfl) ?_
  refine g_puta hx hb hts hi1 tyX1 tyX1_ok nmX1 hown hK hG hS (ci := 1) (cd := (2, 0, 0)) (by simp [k_up, h0, h1]) (fs := [.null, .ref q7]) (by simp [k_up, h0, h1]) rfl 0 (by decide) (hts (.fieldLink RX1 15 "Satellitering$Search" "sky" "LSatellitering$Sky;") (by decide +kernel)) (Or.inr ⟨rfl, hin, rfl⟩) rfl rfl (by simp) dX1_init_14 (fun H locs hG hS => ?_)
  have hG : g_P D (k_up (k_up (k_up v (10, 0, 0) (some (.inl (C.1, 10, .inl (fun _ => 0))))) (2, 0, 0) (some (.inr (1, [.null, .ref q7])))) (2, 0, 0) (some (.inr (1, [.ref (ad (1, 0, 0)), .ref q7])))) (k_up ad (10, 0, 0) q7) B H := hG
  have hfin : ((k_up (k_up (k_up v (10, 0, 0) (some (.inl (C.1, 10, .inl (fun _ => 0))))) (2, 0, 0) (some (.inr (1, [.null, .ref q7])))) (2, 0, 0) (some (.inr (1, [.ref (ad (1, 0, 0)), .ref q7])))) = search_v C v (k_up ad (10, 0, 0) q7)) ∧ ∀ c, ¬ (c = (10, 0, 0)) → (k_up ad (10, 0, 0) q7) c = ad c := by
    constructor
    · funext d
      unfold search_v
      by_cases e0 : d = (2, 0, 0)
      · subst e0
        simp [k_up, nI_0]
      by_cases e1 : d = (10, 0, 0)
      · subst e1
        simp [k_up, nI_0]
      simp [k_up, e0, e1]
    · intro d hd
      (try simp only [not_or] at hd)
      simp [k_up, hd]
  exact W.vret hx hb hr (fun t9 ht9 hW9 => ⟨⟨((k_up (k_up (k_up v (10, 0, 0) (some (.inl (C.1, 10, .inl (fun _ => 0))))) (2, 0, 0) (some (.inr (1, [.null, .ref q7])))) (2, 0, 0) (some (.inr (1, [.ref (ad (1, 0, 0)), .ref q7])))), (k_up ad (10, 0, 0) q7)), rfl, hfin, by show g_P D (k_up (k_up (k_up v (10, 0, 0) (some (.inl (C.1, 10, .inl (fun _ => 0))))) (2, 0, 0) (some (.inr (1, [.null, .ref q7])))) (2, 0, 0) (some (.inr (1, [.ref (ad (1, 0, 0)), .ref q7])))) (k_up ad (10, 0, 0) q7) B t9.heap; rw [ht9]; exact hG⟩, hS.F ht9⟩) hS.2.2 dX1_init_17

def station_v (v : g_k → Option va_E) (i : Nat) (ad : g_k → Nat) : g_k → Option va_E := fun c => if c = (30, i, 0) then some (.inr (3, F_station ad i (fun k => if k = 1 then (-1) else 0))) else v c
set_option maxHeartbeats 4000000 in
set_option maxRecDepth 100000 in
theorem c_X3_init (l : Launch) {D : va_G} {C : g_C} {v : g_k → Option va_E} {ad : g_k → Nat} {B : Nat} {i : Nat} (h0 : v (30, i, 0) = some (.inr (3, [.null, .int 0, .int 0]))) : Met l yX3_init wsX3_init ({ frames := 1, cells := 0, slots := 0, locals := 12 } : Room) (va_Pc [.ref (ad (30, i, 0)), .ref (ad (31, i, 0))] (g_S D C v ad B)) (va_Qv (fun (u : (g_k → Option va_E) × (g_k → Nat)) => u.1 = station_v v i u.2 ∧ ∀ c, u.2 c = ad c) (fun u t => g_P D u.1 u.2 B t.heap) (g_A B)) 0 0 (g_A B) := by
  refine Met.ofW (cc := cX3_init) (maxL := 2) (ret := none) (by decide) rfl ?_
  intro p e s m args below meth c s₁ B₀ hml hv
  obtain ⟨rfl, hG, hF⟩ := hv
  have hK := hF.1
  have hB := hF.2.2.2
  have hx := B₀.exec
  have hb := B₀.bytes
  have hr := B₀.returns
  have hts := atoms_spec (ws := wsX3_init) B₀.pre
  have hown : s.vm.findClass RX3 = some m.cls := findClass_of_methodNamed B₀.named
  have hlocks := B₀.notSynchronized
  have hin : meth.name = "<init>" := (name_of_methodNamed B₀.named B₀.method).1
  have hS : va_S (g_A B) s.heap s.heap [] := va_S.rf
  have hi3 : ∀ w ∈ wsX30, w ∈ wsX3_init := by decide +kernel
  have hl := lv_entry [.ref (ad (30, i, 0)), .ref (ad (31, i, 0))] (n := 2) (Nat.le_of_ble_eq_true rfl)
  rw [lg_entry_eq]
  generalize (lg_sl [.ref (ad (30, i, 0)), .ref (ad (31, i, 0))] ++ List.replicate (2 - (lg_sl [.ref (ad (30, i, 0)), .ref (ad (31, i, 0))]).length) Slot.unset).toArray = ls at hl ⊢
  have hl : lv_has ls 2 [(0, .ref (ad (30, i, 0))), (1, .ref (ad (31, i, 0)))] := hl
  refine lv_aload_n hx hb dX3_init_0 rfl (lv_at hl 0 rfl) ?_
  refine W.objInit hx hb hown (hts (.methodLink RX3 3 objectInit) (by decide +kernel)) (hts (.instanceMethod objectInit) (by decide +kernel)) (hts (.code objectInit ⟨#[0xb1]⟩ 1 none) (by decide +kernel)) rfl (by rw [hml]; exact hl.1) rfl dX3_init_1 (Nat.le_of_ble_eq_true rfl) (Nat.le_of_ble_eq_true rfl) ?_
  refine W.eq (g2 := F0 m 4 ls []) rfl ?_
  refine lv_aload_n hx hb dX3_init_4 rfl (lv_at hl 0 rfl) ?_
  refine lv_iconst (v := (-1)) hx hb dX3_init_5 (by decide) ?_
  refine g_puta hx hb hts hi3 tyX3 tyX3_ok nmX3 hown hK hG hS (ci := 3) (cd := (30, i, 0)) (by simp [k_up, h0]) (fs := [.null, .int 0, .int 0]) (by simp [k_up, h0]) rfl 1 (by decide) (hts (.fieldLink RX3 9 "Satellitering$Station" "relay" "I") (by decide +kernel)) (Or.inl rfl) rfl rfl (by simp) dX3_init_6 (fun H locs hG hS => ?_)
  have hG : g_P D (k_up v (30, i, 0) (some (.inr (3, [.null, .int ((-1)), .int 0])))) ad B H := hG
  refine lv_aload_n hx hb dX3_init_9 rfl (lv_at hl 0 rfl) ?_
  refine lv_iconst (v := nI 0) hx hb dX3_init_10 (by decide) ?_
  refine g_puta hx hb hts hi3 tyX3 tyX3_ok nmX3 hown hK hG hS (ci := 3) (cd := (30, i, 0)) (by simp [k_up, h0]) (fs := [.null, .int ((-1)), .int 0]) (by simp [k_up, h0]) rfl 2 (by decide) (hts (.fieldLink RX3 15 "Satellitering$Station" "handoverCount" "I") (by decide +kernel)) (Or.inl rfl) rfl rfl (by simp) dX3_init_11 (fun H locs hG hS => ?_)
  have hG : g_P D (k_up (k_up v (30, i, 0) (some (.inr (3, [.null, .int ((-1)), .int 0])))) (30, i, 0) (some (.inr (3, [.null, .int ((-1)), .int (nI 0)])))) ad B H := hG
  refine lv_aload_n hx hb dX3_init_14 rfl (lv_at hl 0 rfl) ?_
  refine lv_aload_n hx hb dX3_init_15 rfl (lv_at hl 1 rfl) ?_
  refine g_puta hx hb hts hi3 tyX3 tyX3_ok nmX3 hown hK hG hS (ci := 3) (cd := (30, i, 0)) (by simp [k_up, h0]) (fs := [.null, .int ((-1)), .int (nI 0)]) (by simp [k_up, h0]) rfl 0 (by decide) (hts (.fieldLink RX3 18 "Satellitering$Station" "timetable" "LSatellitering$Timetable;") (by decide +kernel)) (Or.inr ⟨rfl, hin, rfl⟩) rfl rfl (by simp) dX3_init_16 (fun H locs hG hS => ?_)
  have hG : g_P D (k_up (k_up (k_up v (30, i, 0) (some (.inr (3, [.null, .int ((-1)), .int 0])))) (30, i, 0) (some (.inr (3, [.null, .int ((-1)), .int (nI 0)])))) (30, i, 0) (some (.inr (3, [.ref (ad (31, i, 0)), .int ((-1)), .int (nI 0)])))) ad B H := hG
  have hfin : ((k_up (k_up (k_up v (30, i, 0) (some (.inr (3, [.null, .int ((-1)), .int 0])))) (30, i, 0) (some (.inr (3, [.null, .int ((-1)), .int (nI 0)])))) (30, i, 0) (some (.inr (3, [.ref (ad (31, i, 0)), .int ((-1)), .int (nI 0)])))) = station_v v i ad) ∧ ∀ c, ad c = ad c := by
    constructor
    · funext d
      unfold station_v
      by_cases e0 : d = (30, i, 0)
      · subst e0
        simp [k_up, nI_0]
      simp [k_up, e0]
    · intro d
      rfl
  exact W.vret hx hb hr (fun t9 ht9 hW9 => ⟨⟨((k_up (k_up (k_up v (30, i, 0) (some (.inr (3, [.null, .int ((-1)), .int 0])))) (30, i, 0) (some (.inr (3, [.null, .int ((-1)), .int (nI 0)])))) (30, i, 0) (some (.inr (3, [.ref (ad (31, i, 0)), .int ((-1)), .int (nI 0)])))), ad), rfl, hfin, by show g_P D (k_up (k_up (k_up v (30, i, 0) (some (.inr (3, [.null, .int ((-1)), .int 0])))) (30, i, 0) (some (.inr (3, [.null, .int ((-1)), .int (nI 0)])))) (30, i, 0) (some (.inr (3, [.ref (ad (31, i, 0)), .int ((-1)), .int (nI 0)])))) ad B t9.heap; rw [ht9]; exact hG⟩, hS.F ht9⟩) hS.2.2 dX3_init_19

def message_v (C : g_C) (v : g_k → Option va_E) (i k : Nat) (x y : Int32) (ad : g_k → Nat) : g_k → Option va_E := fun c => if c = (40, i, 0) then some (.inr (0, [.int y, .ref (ad (31, k, 0)), .int x, .int 0, .int 0, .int 0, .ref (ad (41, i, 0)), .ref (ad (42, i, 0))])) else if c = (41, i, 0) then some (.inl (C.1, 8, .inl (fun _ => 0))) else if c = (42, i, 0) then some (.inl (C.1, 8, .inl (fun _ => 0))) else v c
set_option maxHeartbeats 4000000 in
set_option maxRecDepth 100000 in
theorem c_X0_init (l : Launch) {D : va_G} {C : g_C} {v : g_k → Option va_E} {ad : g_k → Nat} {B : Nat} {i k : Nat} {x y : Int32} (h0 : v (40, i, 0) = some (.inr (0, [.int 0, .null, .int 0, .int 0, .int 0, .int 0, .null, .null]))) (h1 : v (41, i, 0) = none) (h2 : v (42, i, 0) = none) : Met l yX0_init wsX0_init ({ frames := 1, cells := 2, slots := 16, locals := 12 } : Room) (va_Pc [.ref (ad (40, i, 0)), .int x, .int y, .ref (ad (31, k, 0))] (g_S D C v ad B)) (va_Qv (fun (u : (g_k → Option va_E) × (g_k → Nat)) => u.1 = message_v C v i k x y u.2 ∧ ∀ c, ¬ (c = (41, i, 0) ∨ c = (42, i, 0)) → u.2 c = ad c) (fun u t => g_P D u.1 u.2 B t.heap) (g_A B)) 2 16 (g_A B) := by
  refine Met.ofW (cc := cX0_init) (maxL := 4) (ret := none) (by decide) rfl ?_
  intro p e s m args below meth c s₁ B₀ hml hv
  obtain ⟨rfl, hG, hF⟩ := hv
  have hK := hF.1
  have hB := hF.2.2.2
  have hx := B₀.exec
  have hb := B₀.bytes
  have hr := B₀.returns
  have hts := atoms_spec (ws := wsX0_init) B₀.pre
  have hown : s.vm.findClass RX0 = some m.cls := findClass_of_methodNamed B₀.named
  have hlocks := B₀.notSynchronized
  have hin : meth.name = "<init>" := (name_of_methodNamed B₀.named B₀.method).1
  have hS : va_S (g_A B) s.heap s.heap [] := va_S.rf
  have hi0 : ∀ w ∈ wsX00, w ∈ wsX0_init := by decide +kernel
  have hl := lv_entry [.ref (ad (40, i, 0)), .int x, .int y, .ref (ad (31, k, 0))] (n := 4) (Nat.le_of_ble_eq_true rfl)
  rw [lg_entry_eq]
  generalize (lg_sl [.ref (ad (40, i, 0)), .int x, .int y, .ref (ad (31, k, 0))] ++ List.replicate (4 - (lg_sl [.ref (ad (40, i, 0)), .int x, .int y, .ref (ad (31, k, 0))]).length) Slot.unset).toArray = ls at hl ⊢
  have hl : lv_has ls 4 [(0, .ref (ad (40, i, 0))), (1, .int x), (2, .int y), (3, .ref (ad (31, k, 0)))] := hl
  refine lv_aload_n hx hb dX0_init_0 rfl (lv_at hl 0 rfl) ?_
  refine W.objInit hx hb hown (hts (.methodLink RX0 1 objectInit) (by decide +kernel)) (hts (.instanceMethod objectInit) (by decide +kernel)) (hts (.code objectInit ⟨#[0xb1]⟩ 1 none) (by decide +kernel)) rfl (by rw [hml]; exact hl.1) rfl dX0_init_1 (Nat.le_of_ble_eq_true rfl) (Nat.le_of_ble_eq_true rfl) ?_
  refine W.eq (g2 := F0 m 4 ls []) rfl ?_
  refine lv_aload_n hx hb dX0_init_4 rfl (lv_at hl 0 rfl) ?_
  refine lv_iconst (v := nI 0) hx hb dX0_init_5 (by decide) ?_
  refine g_puta hx hb hts hi0 tyX0 tyX0_ok nmX0 hown hK hG hS (ci := 0) (cd := (40, i, 0)) (by simp [k_up, h0, h1, h2]) (fs := [.int 0, .null, .int 0, .int 0, .int 0, .int 0, .null, .null]) (by simp [k_up, h0, h1, h2]) rfl 3 (by decide) (hts (.fieldLink RX0 7 "Satellitering$Message" "since" "I") (by decide +kernel)) (Or.inl rfl) rfl rfl (by simp) dX0_init_6 (fun H locs hG hS => ?_)
  have hG : g_P D (k_up v (40, i, 0) (some (.inr (0, [.int 0, .null, .int 0, .int (nI 0), .int 0, .int 0, .null, .null])))) ad B H := hG
  refine lv_aload_n hx hb dX0_init_9 rfl (lv_at hl 0 rfl) ?_
  refine lv_iconst (v := nI 0) hx hb dX0_init_10 (by decide) ?_
  refine g_puta hx hb hts hi0 tyX0 tyX0_ok nmX0 hown hK hG hS (ci := 0) (cd := (40, i, 0)) (by simp [k_up, h0, h1, h2]) (fs := [.int 0, .null, .int 0, .int (nI 0), .int 0, .int 0, .null, .null]) (by simp [k_up, h0, h1, h2]) rfl 4 (by decide) (hts (.fieldLink RX0 13 "Satellitering$Message" "blocks" "I") (by decide +kernel)) (Or.inl rfl) rfl rfl (by simp) dX0_init_11 (fun H locs hG hS => ?_)
  have hG : g_P D (k_up (k_up v (40, i, 0) (some (.inr (0, [.int 0, .null, .int 0, .int (nI 0), .int 0, .int 0, .null, .null])))) (40, i, 0) (some (.inr (0, [.int 0, .null, .int 0, .int (nI 0), .int (nI 0), .int 0, .null, .null])))) ad B H := hG
  refine lv_aload_n hx hb dX0_init_14 rfl (lv_at hl 0 rfl) ?_
  refine lv_iconst (v := nI 0) hx hb dX0_init_15 (by decide) ?_
  refine g_puta hx hb hts hi0 tyX0 tyX0_ok nmX0 hown hK hG hS (ci := 0) (cd := (40, i, 0)) (by simp [k_up, h0, h1, h2]) (fs := [.int 0, .null, .int 0, .int (nI 0), .int (nI 0), .int 0, .null, .null]) (by simp [k_up, h0, h1, h2]) rfl 5 (by decide) (hts (.fieldLink RX0 16 "Satellitering$Message" "hopCount" "I") (by decide +kernel)) (Or.inl rfl) rfl rfl (by simp) dX0_init_16 (fun H locs hG hS => ?_)
  have hG : g_P D (k_up (k_up (k_up v (40, i, 0) (some (.inr (0, [.int 0, .null, .int 0, .int (nI 0), .int 0, .int 0, .null, .null])))) (40, i, 0) (some (.inr (0, [.int 0, .null, .int 0, .int (nI 0), .int (nI 0), .int 0, .null, .null])))) (40, i, 0) (some (.inr (0, [.int 0, .null, .int 0, .int (nI 0), .int (nI 0), .int (nI 0), .null, .null])))) ad B H := hG
  refine lv_aload_n hx hb dX0_init_19 rfl (lv_at hl 0 rfl) ?_
  refine lv_bipush (v := nI 8) hx hb dX0_init_20 (by decide) ?_
  refine g_newa hx hb (hts (.arrayClass .int) (by decide +kernel)) hK hG hS hB (41, i, 0) (by simp [k_up, h0, h1, h2]) (by decide) (Nat.le_of_ble_eq_true rfl) (Nat.le_of_ble_eq_true rfl) dX0_init_22 (fun q22 H _ hG hS => ?_)
  refine g_puta hx hb hts hi0 tyX0 tyX0_ok nmX0 hown hK hG hS (ci := 0) (cd := (40, i, 0)) (by simp [k_up, h0, h1, h2]) (fs := [.int 0, .null, .int 0, .int (nI 0), .int (nI 0), .int (nI 0), .null, .null]) (by simp [k_up, h0, h1, h2]) rfl 6 (by decide) (hts (.fieldLink RX0 19 "Satellitering$Message" "hopNodes" "[I") (by decide +kernel)) (Or.inl rfl) rfl rfl (by simp) dX0_init_24 (fun H locs hG hS => ?_)
  have hG : g_P D (k_up (k_up (k_up (k_up (k_up v (40, i, 0) (some (.inr (0, [.int 0, .null, .int 0, .int (nI 0), .int 0, .int 0, .null, .null])))) (40, i, 0) (some (.inr (0, [.int 0, .null, .int 0, .int (nI 0), .int (nI 0), .int 0, .null, .null])))) (40, i, 0) (some (.inr (0, [.int 0, .null, .int 0, .int (nI 0), .int (nI 0), .int (nI 0), .null, .null])))) (41, i, 0) (some (.inl (C.1, 8, .inl (fun _ => 0))))) (40, i, 0) (some (.inr (0, [.int 0, .null, .int 0, .int (nI 0), .int (nI 0), .int (nI 0), .ref q22, .null])))) (k_up ad (41, i, 0) q22) B H := hG
  refine lv_aload_n hx hb dX0_init_27 rfl (lv_at hl 0 rfl) ?_
  refine lv_bipush (v := nI 8) hx hb dX0_init_28 (by decide) ?_
  refine g_newa hx hb (hts (.arrayClass .int) (by decide +kernel)) hK hG hS hB (42, i, 0) (by simp [k_up, h0, h1, h2]) (by decide) (Nat.le_of_ble_eq_true rfl) (Nat.le_of_ble_eq_true rfl) dX0_init_30 (fun q30 H _ hG hS => ?_)
  refine g_puta hx hb hts hi0 tyX0 tyX0_ok nmX0 hown hK hG hS (ci := 0) (cd := (40, i, 0)) (by simp [k_up, h0, h1, h2]) (fs := [.int 0, .null, .int 0, .int (nI 0), .int (nI 0), .int (nI 0), .ref q22, .null]) (by simp [k_up, h0, h1, h2]) rfl 7 (by decide) (hts (.fieldLink RX0 23 "Satellitering$Message" "hopMinutes" "[I") (by decide +kernel)) (Or.inl rfl) rfl rfl (by simp) dX0_init_32 (fun H locs hG hS => ?_)
  have hG : g_P D (k_up (k_up (k_up (k_up (k_up (k_up (k_up v (40, i, 0) (some (.inr (0, [.int 0, .null, .int 0, .int (nI 0), .int 0, .int 0, .null, .null])))) (40, i, 0) (some (.inr (0, [.int 0, .null, .int 0, .int (nI 0), .int (nI 0), .int 0, .null, .null])))) (40, i, 0) (some (.inr (0, [.int 0, .null, .int 0, .int (nI 0), .int (nI 0), .int (nI 0), .null, .null])))) (41, i, 0) (some (.inl (C.1, 8, .inl (fun _ => 0))))) (40, i, 0) (some (.inr (0, [.int 0, .null, .int 0, .int (nI 0), .int (nI 0), .int (nI 0), .ref q22, .null])))) (42, i, 0) (some (.inl (C.1, 8, .inl (fun _ => 0))))) (40, i, 0) (some (.inr (0, [.int 0, .null, .int 0, .int (nI 0), .int (nI 0), .int (nI 0), .ref q22, .ref q30])))) (k_up (k_up ad (41, i, 0) q22) (42, i, 0) q30) B H := hG
  refine lv_aload_n hx hb dX0_init_35 rfl (lv_at hl 0 rfl) ?_
  refine lv_iload_n hx hb dX0_init_36 rfl (lv_at hl 1 rfl) ?_
  refine g_puta hx hb hts hi0 tyX0 tyX0_ok nmX0 hown hK hG hS (ci := 0) (cd := (40, i, 0)) (by simp [k_up, h0, h1, h2]) (fs := [.int 0, .null, .int 0, .int (nI 0), .int (nI 0), .int (nI 0), .ref q22, .ref q30]) (by simp [k_up, h0, h1, h2]) rfl 2 (by decide) (hts (.fieldLink RX0 26 "Satellitering$Message" "node" "I") (by decide +kernel)) (Or.inl rfl) rfl rfl (by simp) dX0_init_37 (fun H locs hG hS => ?_)
  have hG : g_P D (k_up (k_up (k_up (k_up (k_up (k_up (k_up (k_up v (40, i, 0) (some (.inr (0, [.int 0, .null, .int 0, .int (nI 0), .int 0, .int 0, .null, .null])))) (40, i, 0) (some (.inr (0, [.int 0, .null, .int 0, .int (nI 0), .int (nI 0), .int 0, .null, .null])))) (40, i, 0) (some (.inr (0, [.int 0, .null, .int 0, .int (nI 0), .int (nI 0), .int (nI 0), .null, .null])))) (41, i, 0) (some (.inl (C.1, 8, .inl (fun _ => 0))))) (40, i, 0) (some (.inr (0, [.int 0, .null, .int 0, .int (nI 0), .int (nI 0), .int (nI 0), .ref q22, .null])))) (42, i, 0) (some (.inl (C.1, 8, .inl (fun _ => 0))))) (40, i, 0) (some (.inr (0, [.int 0, .null, .int 0, .int (nI 0), .int (nI 0), .int (nI 0), .ref q22, .ref q30])))) (40, i, 0) (some (.inr (0, [.int 0, .null, .int x, .int (nI 0), .int (nI 0), .int (nI 0), .ref q22, .ref q30])))) (k_up (k_up ad (41, i, 0) q22) (42, i, 0) q30) B H := hG
  refine lv_aload_n hx hb dX0_init_40 rfl (lv_at hl 0 rfl) ?_
  refine lv_iload_n hx hb dX0_init_41 rfl (lv_at hl 2 rfl) ?_
  refine g_puta hx hb hts hi0 tyX0 tyX0_ok nmX0 hown hK hG hS (ci := 0) (cd := (40, i, 0)) (by simp [k_up, h0, h1, h2]) (fs := [.int 0, .null, .int x, .int (nI 0), .int (nI 0), .int (nI 0), .ref q22, .ref q30]) (by simp [k_up, h0, h1, h2]) rfl 0 (by decide) (hts (.fieldLink RX0 29 "Satellitering$Message" "goal" "I") (by decide +kernel)) (Or.inr ⟨rfl, hin, rfl⟩) rfl rfl (by simp) dX0_init_42 (fun H locs hG hS => ?_)
  have hG : g_P D (k_up (k_up (k_up (k_up (k_up (k_up (k_up (k_up (k_up v (40, i, 0) (some (.inr (0, [.int 0, .null, .int 0, .int (nI 0), .int 0, .int 0, .null, .null])))) (40, i, 0) (some (.inr (0, [.int 0, .null, .int 0, .int (nI 0), .int (nI 0), .int 0, .null, .null])))) (40, i, 0) (some (.inr (0, [.int 0, .null, .int 0, .int (nI 0), .int (nI 0), .int (nI 0), .null, .null])))) (41, i, 0) (some (.inl (C.1, 8, .inl (fun _ => 0))))) (40, i, 0) (some (.inr (0, [.int 0, .null, .int 0, .int (nI 0), .int (nI 0), .int (nI 0), .ref q22, .null])))) (42, i, 0) (some (.inl (C.1, 8, .inl (fun _ => 0))))) (40, i, 0) (some (.inr (0, [.int 0, .null, .int 0, .int (nI 0), .int (nI 0), .int (nI 0), .ref q22, .ref q30])))) (40, i, 0) (some (.inr (0, [.int 0, .null, .int x, .int (nI 0), .int (nI 0), .int (nI 0), .ref q22, .ref q30])))) (40, i, 0) (some (.inr (0, [.int y, .null, .int x, .int (nI 0), .int (nI 0), .int (nI 0), .ref q22, .ref q30])))) (k_up (k_up ad (41, i, 0) q22) (42, i, 0) q30) B H := hG
  refine lv_aload_n hx hb dX0_init_45 rfl (lv_at hl 0 rfl) ?_
  refine lv_aload_n hx hb dX0_init_46 rfl (lv_at hl 3 rfl) ?_
  refine g_puta hx hb hts hi0 tyX0 tyX0_ok nmX0 hown hK hG hS (ci := 0) (cd := (40, i, 0)) (by simp [k_up, h0, h1, h2]) (fs := [.int y, .null, .int x, .int (nI 0), .int (nI 0), .int (nI 0), .ref q22, .ref q30]) (by simp [k_up, h0, h1, h2]) rfl 1 (by decide) (hts (.fieldLink RX0 32 "Satellitering$Message" "timetable" "LSatellitering$Timetable;") (by decide +kernel)) (Or.inr ⟨rfl, hin, rfl⟩) rfl rfl (by simp) dX0_init_47 (fun H locs hG hS => ?_)
  have hG : g_P D (k_up (k_up (k_up (k_up (k_up (k_up (k_up (k_up (k_up (k_up v (40, i, 0) (some (.inr (0, [.int 0, .null, .int 0, .int (nI 0), .int 0, .int 0, .null, .null])))) (40, i, 0) (some (.inr (0, [.int 0, .null, .int 0, .int (nI 0), .int (nI 0), .int 0, .null, .null])))) (40, i, 0) (some (.inr (0, [.int 0, .null, .int 0, .int (nI 0), .int (nI 0), .int (nI 0), .null, .null])))) (41, i, 0) (some (.inl (C.1, 8, .inl (fun _ => 0))))) (40, i, 0) (some (.inr (0, [.int 0, .null, .int 0, .int (nI 0), .int (nI 0), .int (nI 0), .ref q22, .null])))) (42, i, 0) (some (.inl (C.1, 8, .inl (fun _ => 0))))) (40, i, 0) (some (.inr (0, [.int 0, .null, .int 0, .int (nI 0), .int (nI 0), .int (nI 0), .ref q22, .ref q30])))) (40, i, 0) (some (.inr (0, [.int 0, .null, .int x, .int (nI 0), .int (nI 0), .int (nI 0), .ref q22, .ref q30])))) (40, i, 0) (some (.inr (0, [.int y, .null, .int x, .int (nI 0), .int (nI 0), .int (nI 0), .ref q22, .ref q30])))) (40, i, 0) (some (.inr (0, [.int y, .ref (ad (31, k, 0)), .int x, .int (nI 0), .int (nI 0), .int (nI 0), .ref q22, .ref q30])))) (k_up (k_up ad (41, i, 0) q22) (42, i, 0) q30) B H := hG
  have hfin : ((k_up (k_up (k_up (k_up (k_up (k_up (k_up (k_up (k_up (k_up v (40, i, 0) (some (.inr (0, [.int 0, .null, .int 0, .int (nI 0), .int 0, .int 0, .null, .null])))) (40, i, 0) (some (.inr (0, [.int 0, .null, .int 0, .int (nI 0), .int (nI 0), .int 0, .null, .null])))) (40, i, 0) (some (.inr (0, [.int 0, .null, .int 0, .int (nI 0), .int (nI 0), .int (nI 0), .null, .null])))) (41, i, 0) (some (.inl (C.1, 8, .inl (fun _ => 0))))) (40, i, 0) (some (.inr (0, [.int 0, .null, .int 0, .int (nI 0), .int (nI 0), .int (nI 0), .ref q22, .null])))) (42, i, 0) (some (.inl (C.1, 8, .inl (fun _ => 0))))) (40, i, 0) (some (.inr (0, [.int 0, .null, .int 0, .int (nI 0), .int (nI 0), .int (nI 0), .ref q22, .ref q30])))) (40, i, 0) (some (.inr (0, [.int 0, .null, .int x, .int (nI 0), .int (nI 0), .int (nI 0), .ref q22, .ref q30])))) (40, i, 0) (some (.inr (0, [.int y, .null, .int x, .int (nI 0), .int (nI 0), .int (nI 0), .ref q22, .ref q30])))) (40, i, 0) (some (.inr (0, [.int y, .ref (ad (31, k, 0)), .int x, .int (nI 0), .int (nI 0), .int (nI 0), .ref q22, .ref q30])))) = message_v C v i k x y (k_up (k_up ad (41, i, 0) q22) (42, i, 0) q30)) ∧ ∀ c, ¬ (c = (41, i, 0) ∨ c = (42, i, 0)) → (k_up (k_up ad (41, i, 0) q22) (42, i, 0) q30) c = ad c := by
    constructor
    · funext d
      unfold message_v
      by_cases e0 : d = (40, i, 0)
      · subst e0
        simp [k_up, nI_0]
      by_cases e1 : d = (41, i, 0)
      · subst e1
        simp [k_up, nI_0]
      by_cases e2 : d = (42, i, 0)
      · subst e2
        simp [k_up, nI_0]
      simp [k_up, e0, e1, e2]
    · intro d hd
      (try simp only [not_or] at hd)
      simp [k_up, hd]
  exact W.vret hx hb hr (fun t9 ht9 hW9 => ⟨⟨((k_up (k_up (k_up (k_up (k_up (k_up (k_up (k_up (k_up (k_up v (40, i, 0) (some (.inr (0, [.int 0, .null, .int 0, .int (nI 0), .int 0, .int 0, .null, .null])))) (40, i, 0) (some (.inr (0, [.int 0, .null, .int 0, .int (nI 0), .int (nI 0), .int 0, .null, .null])))) (40, i, 0) (some (.inr (0, [.int 0, .null, .int 0, .int (nI 0), .int (nI 0), .int (nI 0), .null, .null])))) (41, i, 0) (some (.inl (C.1, 8, .inl (fun _ => 0))))) (40, i, 0) (some (.inr (0, [.int 0, .null, .int 0, .int (nI 0), .int (nI 0), .int (nI 0), .ref q22, .null])))) (42, i, 0) (some (.inl (C.1, 8, .inl (fun _ => 0))))) (40, i, 0) (some (.inr (0, [.int 0, .null, .int 0, .int (nI 0), .int (nI 0), .int (nI 0), .ref q22, .ref q30])))) (40, i, 0) (some (.inr (0, [.int 0, .null, .int x, .int (nI 0), .int (nI 0), .int (nI 0), .ref q22, .ref q30])))) (40, i, 0) (some (.inr (0, [.int y, .null, .int x, .int (nI 0), .int (nI 0), .int (nI 0), .ref q22, .ref q30])))) (40, i, 0) (some (.inr (0, [.int y, .ref (ad (31, k, 0)), .int x, .int (nI 0), .int (nI 0), .int (nI 0), .ref q22, .ref q30])))), (k_up (k_up ad (41, i, 0) q22) (42, i, 0) q30)), rfl, hfin, by show g_P D (k_up (k_up (k_up (k_up (k_up (k_up (k_up (k_up (k_up (k_up v (40, i, 0) (some (.inr (0, [.int 0, .null, .int 0, .int (nI 0), .int 0, .int 0, .null, .null])))) (40, i, 0) (some (.inr (0, [.int 0, .null, .int 0, .int (nI 0), .int (nI 0), .int 0, .null, .null])))) (40, i, 0) (some (.inr (0, [.int 0, .null, .int 0, .int (nI 0), .int (nI 0), .int (nI 0), .null, .null])))) (41, i, 0) (some (.inl (C.1, 8, .inl (fun _ => 0))))) (40, i, 0) (some (.inr (0, [.int 0, .null, .int 0, .int (nI 0), .int (nI 0), .int (nI 0), .ref q22, .null])))) (42, i, 0) (some (.inl (C.1, 8, .inl (fun _ => 0))))) (40, i, 0) (some (.inr (0, [.int 0, .null, .int 0, .int (nI 0), .int (nI 0), .int (nI 0), .ref q22, .ref q30])))) (40, i, 0) (some (.inr (0, [.int 0, .null, .int x, .int (nI 0), .int (nI 0), .int (nI 0), .ref q22, .ref q30])))) (40, i, 0) (some (.inr (0, [.int y, .null, .int x, .int (nI 0), .int (nI 0), .int (nI 0), .ref q22, .ref q30])))) (40, i, 0) (some (.inr (0, [.int y, .ref (ad (31, k, 0)), .int x, .int (nI 0), .int (nI 0), .int (nI 0), .ref q22, .ref q30])))) (k_up (k_up ad (41, i, 0) q22) (42, i, 0) q30) B t9.heap; rw [ht9]; exact hG⟩, hS.F ht9⟩) hS.2.2 dX0_init_50

def sky_v (C : g_C) (v : g_k → Option va_E) (ad : g_k → Nat) : g_k → Option va_E := fun c => if c = (1, 0, 0) then some (.inr (2, F_sky ad (fun _ => 0))) else if c = (6, 0, 0) then some (.inl (C.1, 10, .inl (fun _ => 0))) else if c = (7, 0, 0) then some (.inl (C.1, 10, .inl (fun _ => 0))) else if c = (8, 0, 0) then some (.inl (C.1, 10, .inl (fun _ => 0))) else if c = (9, 0, 0) then some (.inl (C.2.1, 10, .inr (.inr (.inr (.inr (A_seen ad)))))) else if c.1 = 20 ∧ c.2.1 < 10 ∧ c.2.2 = 0 then some (.inl (C.1, 360, .inl (fun _ => 0))) else v c
set_option maxHeartbeats 4000000 in
set_option maxRecDepth 100000 in
theorem c_X2_init (l : Launch) {D : va_G} {C : g_C} {v : g_k → Option va_E} {ad : g_k → Nat} {B : Nat} (h0 : v (1, 0, 0) = some (.inr (2, [.null, .null, .null, .null, .int 0]))) (h6 : v (6, 0, 0) = none) (h7 : v (7, 0, 0) = none) (h8 : v (8, 0, 0) = none) (h9 : v (9, 0, 0) = none) (hr9 : ∀ i, i < 10 → v (20, i, 0) = none) : Met l yX2_init wsX2_init ({ frames := 1, cells := 14, slots := 3640, locals := 12 } : Room) (va_Pc [.ref (ad (1, 0, 0))] (g_S D C v ad B)) (va_Qv (fun (u : (g_k → Option va_E) × (g_k → Nat)) => u.1 = sky_v C v u.2 ∧ ∀ c, ¬ (c = (6, 0, 0) ∨ c = (7, 0, 0) ∨ c = (8, 0, 0) ∨ c = (9, 0, 0) ∨ (c.1 = 20 ∧ c.2.1 < 10 ∧ c.2.2 = 0)) → u.2 c = ad c) (fun u t => g_P D u.1 u.2 B t.heap) (g_A B)) 14 3640 (g_A B) := by
  refine Met.ofW (cc := cX2_init) (maxL := 1) (ret := none) (by decide) rfl ?_
  intro p e s m args below meth c s₁ B₀ hml hv
  obtain ⟨rfl, hG, hF⟩ := hv
  have hK := hF.1
  have hB := hF.2.2.2
  have hx := B₀.exec
  have hb := B₀.bytes
  have hr := B₀.returns
  have hts := atoms_spec (ws := wsX2_init) B₀.pre
  have hown : s.vm.findClass RX2 = some m.cls := findClass_of_methodNamed B₀.named
  have hlocks := B₀.notSynchronized
  have hin : meth.name = "<init>" := (name_of_methodNamed B₀.named B₀.method).1
  have hS : va_S (g_A B) s.heap s.heap [] := va_S.rf
  have hi2 : ∀ w ∈ wsX20, w ∈ wsX2_init := by decide +kernel
  have hover : (Cond.arrayOver (.array .int)).before [.ref (ad (1, 0, 0))].toArray s = true := hF.2.2.1.2.2.2.2.2.use
  have hl := lv_entry [.ref (ad (1, 0, 0))] (n := 1) (Nat.le_of_ble_eq_true rfl)
  rw [lg_entry_eq]
  generalize (lg_sl [.ref (ad (1, 0, 0))] ++ List.replicate (1 - (lg_sl [.ref (ad (1, 0, 0))]).length) Slot.unset).toArray = ls at hl ⊢
  have hl : lv_has ls 1 [(0, .ref (ad (1, 0, 0)))] := hl
  refine lv_aload_n hx hb dX2_init_0 rfl (lv_at hl 0 rfl) ?_
  refine W.objInit hx hb hown (hts (.methodLink RX2 3 objectInit) (by decide +kernel)) (hts (.instanceMethod objectInit) (by decide +kernel)) (hts (.code objectInit ⟨#[0xb1]⟩ 1 none) (by decide +kernel)) rfl (by rw [hml]; exact hl.1) rfl dX2_init_1 (Nat.le_of_ble_eq_true rfl) (Nat.le_of_ble_eq_true rfl) ?_
  refine W.eq (g2 := F0 m 4 ls []) rfl ?_
  refine lv_aload_n hx hb dX2_init_4 rfl (lv_at hl 0 rfl) ?_
  refine lv_bipush (v := nI 10) hx hb dX2_init_5 (by decide) ?_
  refine g_newa hx hb (hts (.arrayClass .int) (by decide +kernel)) hK hG hS hB (6, 0, 0) (by simp [k_up, h0, h6, h7, h8, h9, hr9]) (by decide) (Nat.le_of_ble_eq_true rfl) (Nat.le_of_ble_eq_true rfl) dX2_init_7 (fun q7 H _ hG hS => ?_)
  refine g_puta hx hb hts hi2 tyX2 tyX2_ok nmX2 hown hK hG hS (ci := 2) (cd := (1, 0, 0)) (by simp [k_up, h0, h6, h7, h8, h9, hr9]) (fs := [.null, .null, .null, .null, .int 0]) (by simp [k_up, h0, h6, h7, h8, h9, hr9]) rfl 0 (by decide) (hts (.fieldLink RX2 9 "Satellitering$Sky" "places" "[I") (by decide +kernel)) (Or.inr ⟨rfl, hin, rfl⟩) rfl rfl (by simp) dX2_init_9 (fun H locs hG hS => ?_)
  have hG : g_P D (k_up (k_up v (6, 0, 0) (some (.inl (C.1, 10, .inl (fun _ => 0))))) (1, 0, 0) (some (.inr (2, [.ref q7, .null, .null, .null, .int 0])))) (k_up ad (6, 0, 0) q7) B H := hG
  refine lv_aload_n hx hb dX2_init_12 rfl (lv_at hl 0 rfl) ?_
  refine lv_bipush (v := nI 10) hx hb dX2_init_13 (by decide) ?_
  refine g_newa hx hb (hts (.arrayClass .int) (by decide +kernel)) hK hG hS hB (7, 0, 0) (by simp [k_up, h0, h6, h7, h8, h9, hr9]) (by decide) (Nat.le_of_ble_eq_true rfl) (Nat.le_of_ble_eq_true rfl) dX2_init_15 (fun q15 H _ hG hS => ?_)
  refine g_puta hx hb hts hi2 tyX2 tyX2_ok nmX2 hown hK hG hS (ci := 2) (cd := (1, 0, 0)) (by simp [k_up, h0, h6, h7, h8, h9, hr9]) (fs := [.ref q7, .null, .null, .null, .int 0]) (by simp [k_up, h0, h6, h7, h8, h9, hr9]) rfl 1 (by decide) (hts (.fieldLink RX2 15 "Satellitering$Sky" "speeds" "[I") (by decide +kernel)) (Or.inr ⟨rfl, hin, rfl⟩) rfl rfl (by simp) dX2_init_17 (fun H locs hG hS => ?_)
  have hG : g_P D (k_up (k_up (k_up (k_up v (6, 0, 0) (some (.inl (C.1, 10, .inl (fun _ => 0))))) (1, 0, 0) (some (.inr (2, [.ref q7, .null, .null, .null, .int 0])))) (7, 0, 0) (some (.inl (C.1, 10, .inl (fun _ => 0))))) (1, 0, 0) (some (.inr (2, [.ref q7, .ref q15, .null, .null, .int 0])))) (k_up (k_up ad (6, 0, 0) q7) (7, 0, 0) q15) B H := hG
  refine lv_aload_n hx hb dX2_init_20 rfl (lv_at hl 0 rfl) ?_
  refine lv_bipush (v := nI 10) hx hb dX2_init_21 (by decide) ?_
  refine g_newa hx hb (hts (.arrayClass .int) (by decide +kernel)) hK hG hS hB (8, 0, 0) (by simp [k_up, h0, h6, h7, h8, h9, hr9]) (by decide) (Nat.le_of_ble_eq_true rfl) (Nat.le_of_ble_eq_true rfl) dX2_init_23 (fun q23 H _ hG hS => ?_)
  refine g_puta hx hb hts hi2 tyX2 tyX2_ok nmX2 hown hK hG hS (ci := 2) (cd := (1, 0, 0)) (by simp [k_up, h0, h6, h7, h8, h9, hr9]) (fs := [.ref q7, .ref q15, .null, .null, .int 0]) (by simp [k_up, h0, h6, h7, h8, h9, hr9]) rfl 2 (by decide) (hts (.fieldLink RX2 18 "Satellitering$Sky" "reaches" "[I") (by decide +kernel)) (Or.inr ⟨rfl, hin, rfl⟩) rfl rfl (by simp) dX2_init_25 (fun H locs hG hS => ?_)
  have hG : g_P D (k_up (k_up (k_up (k_up (k_up (k_up v (6, 0, 0) (some (.inl (C.1, 10, .inl (fun _ => 0))))) (1, 0, 0) (some (.inr (2, [.ref q7, .null, .null, .null, .int 0])))) (7, 0, 0) (some (.inl (C.1, 10, .inl (fun _ => 0))))) (1, 0, 0) (some (.inr (2, [.ref q7, .ref q15, .null, .null, .int 0])))) (8, 0, 0) (some (.inl (C.1, 10, .inl (fun _ => 0))))) (1, 0, 0) (some (.inr (2, [.ref q7, .ref q15, .ref q23, .null, .int 0])))) (k_up (k_up (k_up ad (6, 0, 0) q7) (7, 0, 0) q15) (8, 0, 0) q23) B H := hG
  refine lv_aload_n hx hb dX2_init_28 rfl (lv_at hl 0 rfl) ?_
  refine lv_bipush (v := nI 10) hx hb dX2_init_29 (by decide) ?_
  refine lv_sipush (v := nI 360) hx hb dX2_init_31 (by decide) ?_
  refine g_mna hx hb hown (hts (.classLink RX2 21 "[[I") (by decide +kernel)) hover (hts (.arrayClass .int) (by decide +kernel)) hK hG hS hB (9, 0, 0) (fun jj => (20, jj, 0)) (N := 10) (K := 360) (fun i j h => by simpa using h) (fun i h => by simp at h) (by simp [k_up, h0, h6, h7, h8, h9, hr9]) (fun jj hi => by simp [k_up, h0, h6, h7, h8, h9, hr9, hi]) (by decide) (by decide) (Nat.le_of_ble_eq_true rfl) (Nat.le_of_ble_eq_true rfl) dX2_init_34 (fun q34 H hfor hS => ?_)
  obtain ⟨A9, hA9⟩ : ∃ z, z = (fun c : g_k => if c = (9, 0, 0) then q34 else if c.1 = 20 ∧ c.2.1 < 10 ∧ c.2.2 = 0 then q34 + 1 + c.2.1 else (k_up (k_up (k_up ad (6, 0, 0) q7) (7, 0, 0) q15) (8, 0, 0) q23) c) := ⟨_, rfl⟩
  obtain ⟨V9, hV9⟩ : ∃ z, z = (fun c : g_k => if c = (9, 0, 0) then some (.inl (C.2.1, 10, .inr (.inr (.inr (.inr (fun i => if i < 10 then some (q34 + 1 + i) else none)))))) else if c.1 = 20 ∧ c.2.1 < 10 ∧ c.2.2 = 0 then some (.inl (C.1, 360, .inl (fun _ => 0))) else (k_up (k_up (k_up (k_up (k_up (k_up v (6, 0, 0) (some (.inl (C.1, 10, .inl (fun _ => 0))))) (1, 0, 0) (some (.inr (2, [.ref q7, .null, .null, .null, .int 0])))) (7, 0, 0) (some (.inl (C.1, 10, .inl (fun _ => 0))))) (1, 0, 0) (some (.inr (2, [.ref q7, .ref q15, .null, .null, .int 0])))) (8, 0, 0) (some (.inl (C.1, 10, .inl (fun _ => 0))))) (1, 0, 0) (some (.inr (2, [.ref q7, .ref q15, .ref q23, .null, .int 0])))) c) := ⟨_, rfl⟩
  have hG : g_P D V9 A9 B H := by
    refine hfor V9 A9 ?_ (fun jj hi => by rw [hV9]; simp [hi]) (fun c c1 c2 => ?_) (by rw [hA9]; simp) (fun jj hi => by rw [hA9]; simp [hi]) (fun c c1 c2 => ?_)
    · rw [hV9, hA9]
      simp only [if_true]
      refine congrArg some (congrArg Sum.inl (congrArg (fun z => (C.2.1, 10, Sum.inr (Sum.inr (Sum.inr (Sum.inr z))))) (funext fun jj => ?_)))
      by_cases hi : jj < 10
      · simp [hi]
      · simp [hi]
    · rw [hV9]
      have hr : ¬ (c.1 = 20 ∧ c.2.1 < 10 ∧ c.2.2 = 0) := fun z => c2 c.2.1 z.2.1 (by rw [← z.1, ← z.2.2])
      simp only [if_neg c1, if_neg hr]
    · rw [hA9]
      have hr : ¬ (c.1 = 20 ∧ c.2.1 < 10 ∧ c.2.2 = 0) := fun z => c2 c.2.1 z.2.1 (by rw [← z.1, ← z.2.2])
      simp only [if_neg c1, if_neg hr]
  refine g_puta hx hb hts hi2 tyX2 tyX2_ok nmX2 hown hK hG hS (ci := 2) (cd := (1, 0, 0)) (by simp [k_up, h0, h6, h7, h8, h9, hr9, hV9, hA9]) (fs := [.ref q7, .ref q15, .ref q23, .null, .int 0]) (by simp [k_up, h0, h6, h7, h8, h9, hr9, hV9, hA9]) rfl 3 (by decide) (hts (.fieldLink RX2 23 "Satellitering$Sky" "seen" "[[I") (by decide +kernel)) (Or.inr ⟨rfl, hin, rfl⟩) rfl rfl (by simp) dX2_init_38 (fun H locs hG hS => ?_)
  have hG : g_P D (k_up V9 (1, 0, 0) (some (.inr (2, [.ref q7, .ref q15, .ref q23, .ref q34, .int 0])))) A9 B H := hG
  refine lv_aload_n hx hb dX2_init_41 rfl (lv_at hl 0 rfl) ?_
  refine lv_iconst (v := nI 0) hx hb dX2_init_42 (by decide) ?_
  refine g_puta hx hb hts hi2 tyX2 tyX2_ok nmX2 hown hK hG hS (ci := 2) (cd := (1, 0, 0)) (by simp [k_up, h0, h6, h7, h8, h9, hr9, hV9, hA9]) (fs := [.ref q7, .ref q15, .ref q23, .ref q34, .int 0]) (by simp [k_up, h0, h6, h7, h8, h9, hr9, hV9, hA9]) rfl 4 (by decide) (hts (.fieldLink RX2 26 "Satellitering$Sky" "count" "I") (by decide +kernel)) (Or.inl rfl) rfl rfl (by simp) dX2_init_43 (fun H locs hG hS => ?_)
  have hG : g_P D (k_up (k_up V9 (1, 0, 0) (some (.inr (2, [.ref q7, .ref q15, .ref q23, .ref q34, .int 0])))) (1, 0, 0) (some (.inr (2, [.ref q7, .ref q15, .ref q23, .ref q34, .int (nI 0)])))) A9 B H := hG
  have hfin : ((k_up (k_up V9 (1, 0, 0) (some (.inr (2, [.ref q7, .ref q15, .ref q23, .ref q34, .int 0])))) (1, 0, 0) (some (.inr (2, [.ref q7, .ref q15, .ref q23, .ref q34, .int (nI 0)])))) = sky_v C v A9) ∧ ∀ c, ¬ (c = (6, 0, 0) ∨ c = (7, 0, 0) ∨ c = (8, 0, 0) ∨ c = (9, 0, 0) ∨ (c.1 = 20 ∧ c.2.1 < 10 ∧ c.2.2 = 0)) → A9 c = ad c := by
    constructor
    · funext d
      unfold sky_v
      by_cases e0 : d = (1, 0, 0)
      · subst e0
        simp [k_up, nI_0, hV9, hA9]
      by_cases e1 : d = (6, 0, 0)
      · subst e1
        simp [k_up, nI_0, hV9, hA9]
      by_cases e2 : d = (7, 0, 0)
      · subst e2
        simp [k_up, nI_0, hV9, hA9]
      by_cases e3 : d = (8, 0, 0)
      · subst e3
        simp [k_up, nI_0, hV9, hA9]
      by_cases e4 : d = (9, 0, 0)
      · subst e4
        simp [k_up, nI_0, hV9, hA9]
        funext jj
        by_cases hj : jj < 10
        · simp [A_seen, A_left, k_up, hj]
        · simp [A_seen, A_left, hj]
      simp [k_up, e0, e1, e2, e3, e4, hV9]
    · intro d hd
      (try simp only [not_or] at hd)
      simp [k_up, hd, hA9]
  exact W.vret hx hb hr (fun t9 ht9 hW9 => ⟨⟨((k_up (k_up V9 (1, 0, 0) (some (.inr (2, [.ref q7, .ref q15, .ref q23, .ref q34, .int 0])))) (1, 0, 0) (some (.inr (2, [.ref q7, .ref q15, .ref q23, .ref q34, .int (nI 0)])))), A9), rfl, hfin, by show g_P D (k_up (k_up V9 (1, 0, 0) (some (.inr (2, [.ref q7, .ref q15, .ref q23, .ref q34, .int 0])))) (1, 0, 0) (some (.inr (2, [.ref q7, .ref q15, .ref q23, .ref q34, .int (nI 0)])))) A9 B t9.heap; rw [ht9]; exact hG⟩, hS.F ht9⟩) hS.2.2 dX2_init_46

def time_v (C : g_C) (v : g_k → Option va_E) (i : Nat) (x : Int32) (ad : g_k → Nat) : g_k → Option va_E := fun c => if c = (31, i, 0) then some (.inr (4, [.ref (ad (1, 0, 0)), .int x, .ref (ad (32, i, 0)), .ref (ad (33, i, 0)), .ref (ad (34, i, 0)), .int 0])) else if c = (33, i, 0) then some (.inl (C.1, 10, .inl (fun _ => 0))) else if c = (34, i, 0) then some (.inl (C.1, 10, .inl (fun _ => 0))) else if c = (32, i, 0) then some (.inl (C.2.1, 10, .inr (.inr (.inr (.inr (A_left ad i)))))) else if c.1 = 35 ∧ c.2.1 = i ∧ c.2.2 < 10 then some (.inl (C.1, 360, .inl (fun _ => 0))) else v c
set_option maxHeartbeats 4000000 in
set_option maxRecDepth 100000 in
theorem c_X4_init (l : Launch) {D : va_G} {C : g_C} {v : g_k → Option va_E} {ad : g_k → Nat} {B : Nat} {i : Nat} {x : Int32} (h0 : v (31, i, 0) = some (.inr (4, [.null, .int 0, .null, .null, .null, .int 0]))) (h2 : v (32, i, 0) = none) (h3 : v (33, i, 0) = none) (h4 : v (34, i, 0) = none) (hr9 : ∀ j, j < 10 → v (35, i, j) = none) : Met l yX4_init wsX4_init ({ frames := 1, cells := 13, slots := 3630, locals := 12 } : Room) (va_Pc [.ref (ad (31, i, 0)), .ref (ad (1, 0, 0)), .int x] (g_S D C v ad B)) (va_Qv (fun (u : (g_k → Option va_E) × (g_k → Nat)) => u.1 = time_v C v i x u.2 ∧ ∀ c, ¬ (c = (33, i, 0) ∨ c = (34, i, 0) ∨ c = (32, i, 0) ∨ (c.1 = 35 ∧ c.2.1 = i ∧ c.2.2 < 10)) → u.2 c = ad c) (fun u t => g_P D u.1 u.2 B t.heap) (g_A B)) 13 3630 (g_A B) := by
  refine Met.ofW (cc := cX4_init) (maxL := 3) (ret := none) (by decide) rfl ?_
  intro p e s m args below meth c s₁ B₀ hml hv
  obtain ⟨rfl, hG, hF⟩ := hv
  have hK := hF.1
  have hB := hF.2.2.2
  have hx := B₀.exec
  have hb := B₀.bytes
  have hr := B₀.returns
  have hts := atoms_spec (ws := wsX4_init) B₀.pre
  have hown : s.vm.findClass RX4 = some m.cls := findClass_of_methodNamed B₀.named
  have hlocks := B₀.notSynchronized
  have hin : meth.name = "<init>" := (name_of_methodNamed B₀.named B₀.method).1
  have hS : va_S (g_A B) s.heap s.heap [] := va_S.rf
  have hi4 : ∀ w ∈ wsX40, w ∈ wsX4_init := by decide +kernel
  have hover : (Cond.arrayOver (.array .int)).before [.ref (ad (31, i, 0)), .ref (ad (1, 0, 0)), .int x].toArray s = true := hF.2.2.1.2.2.2.2.2.use
  have hl := lv_entry [.ref (ad (31, i, 0)), .ref (ad (1, 0, 0)), .int x] (n := 3) (Nat.le_of_ble_eq_true rfl)
  rw [lg_entry_eq]
  generalize (lg_sl [.ref (ad (31, i, 0)), .ref (ad (1, 0, 0)), .int x] ++ List.replicate (3 - (lg_sl [.ref (ad (31, i, 0)), .ref (ad (1, 0, 0)), .int x]).length) Slot.unset).toArray = ls at hl ⊢
  have hl : lv_has ls 3 [(0, .ref (ad (31, i, 0))), (1, .ref (ad (1, 0, 0))), (2, .int x)] := hl
  refine lv_aload_n hx hb dX4_init_0 rfl (lv_at hl 0 rfl) ?_
  refine W.objInit hx hb hown (hts (.methodLink RX4 3 objectInit) (by decide +kernel)) (hts (.instanceMethod objectInit) (by decide +kernel)) (hts (.code objectInit ⟨#[0xb1]⟩ 1 none) (by decide +kernel)) rfl (by rw [hml]; exact hl.1) rfl dX4_init_1 (Nat.le_of_ble_eq_true rfl) (Nat.le_of_ble_eq_true rfl) ?_
  refine W.eq (g2 := F0 m 4 ls []) rfl ?_
  refine lv_aload_n hx hb dX4_init_4 rfl (lv_at hl 0 rfl) ?_
  refine lv_bipush (v := nI 10) hx hb dX4_init_5 (by decide) ?_
  refine lv_sipush (v := nI 360) hx hb dX4_init_7 (by decide) ?_
  refine g_mna hx hb hown (hts (.classLink RX4 9 "[[I") (by decide +kernel)) hover (hts (.arrayClass .int) (by decide +kernel)) hK hG hS hB (32, i, 0) (fun jj => (35, i, jj)) (N := 10) (K := 360) (fun i j h => by simpa using h) (fun i h => by simp at h) (by simp [k_up, h0, h2, h3, h4, hr9]) (fun jj hi => by simp [k_up, h0, h2, h3, h4, hr9, hi]) (by decide) (by decide) (Nat.le_of_ble_eq_true rfl) (Nat.le_of_ble_eq_true rfl) dX4_init_10 (fun q10 H hfor hS => ?_)
  obtain ⟨A9, hA9⟩ : ∃ z, z = (fun c : g_k => if c = (32, i, 0) then q10 else if c.1 = 35 ∧ c.2.1 = i ∧ c.2.2 < 10 then q10 + 1 + c.2.2 else ad c) := ⟨_, rfl⟩
  obtain ⟨V9, hV9⟩ : ∃ z, z = (fun c : g_k => if c = (32, i, 0) then some (.inl (C.2.1, 10, .inr (.inr (.inr (.inr (fun i => if i < 10 then some (q10 + 1 + i) else none)))))) else if c.1 = 35 ∧ c.2.1 = i ∧ c.2.2 < 10 then some (.inl (C.1, 360, .inl (fun _ => 0))) else v c) := ⟨_, rfl⟩
  have hG : g_P D V9 A9 B H := by
    refine hfor V9 A9 ?_ (fun jj hi => by rw [hV9]; simp [hi]) (fun c c1 c2 => ?_) (by rw [hA9]; simp) (fun jj hi => by rw [hA9]; simp [hi]) (fun c c1 c2 => ?_)
    · rw [hV9, hA9]
      simp only [if_true]
      refine congrArg some (congrArg Sum.inl (congrArg (fun z => (C.2.1, 10, Sum.inr (Sum.inr (Sum.inr (Sum.inr z))))) (funext fun jj => ?_)))
      by_cases hi : jj < 10
      · simp [hi]
      · simp [hi]
    · rw [hV9]
      have hr : ¬ (c.1 = 35 ∧ c.2.1 = i ∧ c.2.2 < 10) := fun z => c2 c.2.2 z.2.2 (by rw [← z.1, ← z.2.1])
      simp only [if_neg c1, if_neg hr]
    · rw [hA9]
      have hr : ¬ (c.1 = 35 ∧ c.2.1 = i ∧ c.2.2 < 10) := fun z => c2 c.2.2 z.2.2 (by rw [← z.1, ← z.2.1])
      simp only [if_neg c1, if_neg hr]
  refine g_puta hx hb hts hi4 tyX4 tyX4_ok nmX4 hown hK hG hS (ci := 4) (cd := (31, i, 0)) (by simp [k_up, h0, h2, h3, h4, hr9, hV9, hA9]) (fs := [.null, .int 0, .null, .null, .null, .int 0]) (by simp [k_up, h0, h2, h3, h4, hr9, hV9, hA9]) rfl 2 (by decide) (hts (.fieldLink RX4 11 "Satellitering$Timetable" "left" "[[I") (by decide +kernel)) (Or.inr ⟨rfl, hin, rfl⟩) rfl rfl (by simp) dX4_init_14 (fun H locs hG hS => ?_)
  have hG : g_P D (k_up V9 (31, i, 0) (some (.inr (4, [.null, .int 0, .ref q10, .null, .null, .int 0])))) A9 B H := hG
  refine lv_aload_n hx hb dX4_init_17 rfl (lv_at hl 0 rfl) ?_
  refine lv_bipush (v := nI 10) hx hb dX4_init_18 (by decide) ?_
  refine g_newa hx hb (hts (.arrayClass .int) (by decide +kernel)) hK hG hS hB (33, i, 0) (by simp [k_up, h0, h2, h3, h4, hr9, hV9, hA9]) (by decide) (Nat.le_of_ble_eq_true rfl) (Nat.le_of_ble_eq_true rfl) dX4_init_20 (fun q20 H _ hG hS => ?_)
  refine g_puta hx hb hts hi4 tyX4 tyX4_ok nmX4 hown hK hG hS (ci := 4) (cd := (31, i, 0)) (by simp [k_up, h0, h2, h3, h4, hr9, hV9, hA9]) (fs := [.null, .int 0, .ref q10, .null, .null, .int 0]) (by simp [k_up, h0, h2, h3, h4, hr9, hV9, hA9]) rfl 3 (by decide) (hts (.fieldLink RX4 16 "Satellitering$Timetable" "soonest" "[I") (by decide +kernel)) (Or.inl rfl) rfl rfl (by simp) dX4_init_22 (fun H locs hG hS => ?_)
  have hG : g_P D (k_up (k_up (k_up V9 (31, i, 0) (some (.inr (4, [.null, .int 0, .ref q10, .null, .null, .int 0])))) (33, i, 0) (some (.inl (C.1, 10, .inl (fun _ => 0))))) (31, i, 0) (some (.inr (4, [.null, .int 0, .ref q10, .ref q20, .null, .int 0])))) (k_up A9 (33, i, 0) q20) B H := hG
  refine lv_aload_n hx hb dX4_init_25 rfl (lv_at hl 0 rfl) ?_
  refine lv_bipush (v := nI 10) hx hb dX4_init_26 (by decide) ?_
  refine g_newa hx hb (hts (.arrayClass .int) (by decide +kernel)) hK hG hS hB (34, i, 0) (by simp [k_up, h0, h2, h3, h4, hr9, hV9, hA9]) (by decide) (Nat.le_of_ble_eq_true rfl) (Nat.le_of_ble_eq_true rfl) dX4_init_28 (fun q28 H _ hG hS => ?_)
  refine g_puta hx hb hts hi4 tyX4 tyX4_ok nmX4 hown hK hG hS (ci := 4) (cd := (31, i, 0)) (by simp [k_up, h0, h2, h3, h4, hr9, hV9, hA9]) (fs := [.null, .int 0, .ref q10, .ref q20, .null, .int 0]) (by simp [k_up, h0, h2, h3, h4, hr9, hV9, hA9]) rfl 4 (by decide) (hts (.fieldLink RX4 20 "Satellitering$Timetable" "soonestBefore" "[I") (by decide +kernel)) (Or.inl rfl) rfl rfl (by simp) dX4_init_30 (fun H locs hG hS => ?_)
  have hG : g_P D (k_up (k_up (k_up (k_up (k_up V9 (31, i, 0) (some (.inr (4, [.null, .int 0, .ref q10, .null, .null, .int 0])))) (33, i, 0) (some (.inl (C.1, 10, .inl (fun _ => 0))))) (31, i, 0) (some (.inr (4, [.null, .int 0, .ref q10, .ref q20, .null, .int 0])))) (34, i, 0) (some (.inl (C.1, 10, .inl (fun _ => 0))))) (31, i, 0) (some (.inr (4, [.null, .int 0, .ref q10, .ref q20, .ref q28, .int 0])))) (k_up (k_up A9 (33, i, 0) q20) (34, i, 0) q28) B H := hG
  refine lv_aload_n hx hb dX4_init_33 rfl (lv_at hl 0 rfl) ?_
  refine lv_iconst (v := nI 0) hx hb dX4_init_34 (by decide) ?_
  refine g_puta hx hb hts hi4 tyX4 tyX4_ok nmX4 hown hK hG hS (ci := 4) (cd := (31, i, 0)) (by simp [k_up, h0, h2, h3, h4, hr9, hV9, hA9]) (fs := [.null, .int 0, .ref q10, .ref q20, .ref q28, .int 0]) (by simp [k_up, h0, h2, h3, h4, hr9, hV9, hA9]) rfl 5 (by decide) (hts (.fieldLink RX4 23 "Satellitering$Timetable" "nodesKnown" "I") (by decide +kernel)) (Or.inl rfl) rfl rfl (by simp) dX4_init_35 (fun H locs hG hS => ?_)
  have hG : g_P D (k_up (k_up (k_up (k_up (k_up (k_up V9 (31, i, 0) (some (.inr (4, [.null, .int 0, .ref q10, .null, .null, .int 0])))) (33, i, 0) (some (.inl (C.1, 10, .inl (fun _ => 0))))) (31, i, 0) (some (.inr (4, [.null, .int 0, .ref q10, .ref q20, .null, .int 0])))) (34, i, 0) (some (.inl (C.1, 10, .inl (fun _ => 0))))) (31, i, 0) (some (.inr (4, [.null, .int 0, .ref q10, .ref q20, .ref q28, .int 0])))) (31, i, 0) (some (.inr (4, [.null, .int 0, .ref q10, .ref q20, .ref q28, .int (nI 0)])))) (k_up (k_up A9 (33, i, 0) q20) (34, i, 0) q28) B H := hG
  refine lv_aload_n hx hb dX4_init_38 rfl (lv_at hl 0 rfl) ?_
  refine lv_aload_n hx hb dX4_init_39 rfl (lv_at hl 1 rfl) ?_
  refine g_puta hx hb hts hi4 tyX4 tyX4_ok nmX4 hown hK hG hS (ci := 4) (cd := (31, i, 0)) (by simp [k_up, h0, h2, h3, h4, hr9, hV9, hA9]) (fs := [.null, .int 0, .ref q10, .ref q20, .ref q28, .int (nI 0)]) (by simp [k_up, h0, h2, h3, h4, hr9, hV9, hA9]) rfl 0 (by decide) (hts (.fieldLink RX4 27 "Satellitering$Timetable" "sky" "LSatellitering$Sky;") (by decide +kernel)) (Or.inr ⟨rfl, hin, rfl⟩) rfl rfl (by simp) dX4_init_40 (fun H locs hG hS => ?_)
  have hG : g_P D (k_up (k_up (k_up (k_up (k_up (k_up (k_up V9 (31, i, 0) (some (.inr (4, [.null, .int 0, .ref q10, .null, .null, .int 0])))) (33, i, 0) (some (.inl (C.1, 10, .inl (fun _ => 0))))) (31, i, 0) (some (.inr (4, [.null, .int 0, .ref q10, .ref q20, .null, .int 0])))) (34, i, 0) (some (.inl (C.1, 10, .inl (fun _ => 0))))) (31, i, 0) (some (.inr (4, [.null, .int 0, .ref q10, .ref q20, .ref q28, .int 0])))) (31, i, 0) (some (.inr (4, [.null, .int 0, .ref q10, .ref q20, .ref q28, .int (nI 0)])))) (31, i, 0) (some (.inr (4, [.ref (ad (1, 0, 0)), .int 0, .ref q10, .ref q20, .ref q28, .int (nI 0)])))) (k_up (k_up A9 (33, i, 0) q20) (34, i, 0) q28) B H := hG
  refine lv_aload_n hx hb dX4_init_43 rfl (lv_at hl 0 rfl) ?_
  refine lv_iload_n hx hb dX4_init_44 rfl (lv_at hl 2 rfl) ?_
  refine g_puta hx hb hts hi4 tyX4 tyX4_ok nmX4 hown hK hG hS (ci := 4) (cd := (31, i, 0)) (by simp [k_up, h0, h2, h3, h4, hr9, hV9, hA9]) (fs := [.ref (ad (1, 0, 0)), .int 0, .ref q10, .ref q20, .ref q28, .int (nI 0)]) (by simp [k_up, h0, h2, h3, h4, hr9, hV9, hA9]) rfl 1 (by decide) (hts (.fieldLink RX4 31 "Satellitering$Timetable" "goal" "I") (by decide +kernel)) (Or.inr ⟨rfl, hin, rfl⟩) rfl rfl (by simp) dX4_init_45 (fun H locs hG hS => ?_)
  have hG : g_P D (k_up (k_up (k_up (k_up (k_up (k_up (k_up (k_up V9 (31, i, 0) (some (.inr (4, [.null, .int 0, .ref q10, .null, .null, .int 0])))) (33, i, 0) (some (.inl (C.1, 10, .inl (fun _ => 0))))) (31, i, 0) (some (.inr (4, [.null, .int 0, .ref q10, .ref q20, .null, .int 0])))) (34, i, 0) (some (.inl (C.1, 10, .inl (fun _ => 0))))) (31, i, 0) (some (.inr (4, [.null, .int 0, .ref q10, .ref q20, .ref q28, .int 0])))) (31, i, 0) (some (.inr (4, [.null, .int 0, .ref q10, .ref q20, .ref q28, .int (nI 0)])))) (31, i, 0) (some (.inr (4, [.ref (ad (1, 0, 0)), .int 0, .ref q10, .ref q20, .ref q28, .int (nI 0)])))) (31, i, 0) (some (.inr (4, [.ref (ad (1, 0, 0)), .int x, .ref q10, .ref q20, .ref q28, .int (nI 0)])))) (k_up (k_up A9 (33, i, 0) q20) (34, i, 0) q28) B H := hG
  have hfin : ((k_up (k_up (k_up (k_up (k_up (k_up (k_up (k_up V9 (31, i, 0) (some (.inr (4, [.null, .int 0, .ref q10, .null, .null, .int 0])))) (33, i, 0) (some (.inl (C.1, 10, .inl (fun _ => 0))))) (31, i, 0) (some (.inr (4, [.null, .int 0, .ref q10, .ref q20, .null, .int 0])))) (34, i, 0) (some (.inl (C.1, 10, .inl (fun _ => 0))))) (31, i, 0) (some (.inr (4, [.null, .int 0, .ref q10, .ref q20, .ref q28, .int 0])))) (31, i, 0) (some (.inr (4, [.null, .int 0, .ref q10, .ref q20, .ref q28, .int (nI 0)])))) (31, i, 0) (some (.inr (4, [.ref (ad (1, 0, 0)), .int 0, .ref q10, .ref q20, .ref q28, .int (nI 0)])))) (31, i, 0) (some (.inr (4, [.ref (ad (1, 0, 0)), .int x, .ref q10, .ref q20, .ref q28, .int (nI 0)])))) = time_v C v i x (k_up (k_up A9 (33, i, 0) q20) (34, i, 0) q28)) ∧ ∀ c, ¬ (c = (33, i, 0) ∨ c = (34, i, 0) ∨ c = (32, i, 0) ∨ (c.1 = 35 ∧ c.2.1 = i ∧ c.2.2 < 10)) → (k_up (k_up A9 (33, i, 0) q20) (34, i, 0) q28) c = ad c := by
    constructor
    · funext d
      unfold time_v
      by_cases e0 : d = (31, i, 0)
      · subst e0
        simp [k_up, nI_0, hV9, hA9]
      by_cases e1 : d = (33, i, 0)
      · subst e1
        simp [k_up, nI_0, hV9, hA9]
      by_cases e2 : d = (34, i, 0)
      · subst e2
        simp [k_up, nI_0, hV9, hA9]
      by_cases e3 : d = (32, i, 0)
      · subst e3
        simp [k_up, nI_0, hV9, hA9]
        funext jj
        by_cases hj : jj < 10
        · simp [A_seen, A_left, k_up, hj]
        · simp [A_seen, A_left, hj]
      simp [k_up, e0, e1, e2, e3, hV9]
    · intro d hd
      (try simp only [not_or] at hd)
      simp [k_up, hd, hA9]
  exact W.vret hx hb hr (fun t9 ht9 hW9 => ⟨⟨((k_up (k_up (k_up (k_up (k_up (k_up (k_up (k_up V9 (31, i, 0) (some (.inr (4, [.null, .int 0, .ref q10, .null, .null, .int 0])))) (33, i, 0) (some (.inl (C.1, 10, .inl (fun _ => 0))))) (31, i, 0) (some (.inr (4, [.null, .int 0, .ref q10, .ref q20, .null, .int 0])))) (34, i, 0) (some (.inl (C.1, 10, .inl (fun _ => 0))))) (31, i, 0) (some (.inr (4, [.null, .int 0, .ref q10, .ref q20, .ref q28, .int 0])))) (31, i, 0) (some (.inr (4, [.null, .int 0, .ref q10, .ref q20, .ref q28, .int (nI 0)])))) (31, i, 0) (some (.inr (4, [.ref (ad (1, 0, 0)), .int 0, .ref q10, .ref q20, .ref q28, .int (nI 0)])))) (31, i, 0) (some (.inr (4, [.ref (ad (1, 0, 0)), .int x, .ref q10, .ref q20, .ref q28, .int (nI 0)])))), (k_up (k_up A9 (33, i, 0) q20) (34, i, 0) q28)), rfl, hfin, by show g_P D (k_up (k_up (k_up (k_up (k_up (k_up (k_up (k_up V9 (31, i, 0) (some (.inr (4, [.null, .int 0, .ref q10, .null, .null, .int 0])))) (33, i, 0) (some (.inl (C.1, 10, .inl (fun _ => 0))))) (31, i, 0) (some (.inr (4, [.null, .int 0, .ref q10, .ref q20, .null, .int 0])))) (34, i, 0) (some (.inl (C.1, 10, .inl (fun _ => 0))))) (31, i, 0) (some (.inr (4, [.null, .int 0, .ref q10, .ref q20, .ref q28, .int 0])))) (31, i, 0) (some (.inr (4, [.null, .int 0, .ref q10, .ref q20, .ref q28, .int (nI 0)])))) (31, i, 0) (some (.inr (4, [.ref (ad (1, 0, 0)), .int 0, .ref q10, .ref q20, .ref q28, .int (nI 0)])))) (31, i, 0) (some (.inr (4, [.ref (ad (1, 0, 0)), .int x, .ref q10, .ref q20, .ref q28, .int (nI 0)])))) (k_up (k_up A9 (33, i, 0) q20) (34, i, 0) q28) B t9.heap; rw [ht9]; exact hG⟩, hS.F ht9⟩) hS.2.2 dX4_init_48
end
section
set_option maxHeartbeats 4000000 in
set_option maxRecDepth 100000 in
theorem c_inRange (l : Launch) {D : va_G} {C : g_C} {g : g_k → Nat → Int32} {ad ln : g_k → Nat} {ex : g_k → Option va_E} {B : Nat} {x lo hi : Int32} : Met l yX5_inRange wsX5_inRange ({ frames := 0, cells := 0, slots := 0, locals := 0 } : Room) (va_Pc [.int x, .int lo, .int hi] (g_S D C (lay C g ad ln ex) ad B)) (vp_Si (fun r => r = if lo ≤ x ∧ x ≤ hi then nI 1 else nI 0)) 0 0 (fun _ => False) := by
  refine Met.ofW (cc := cX5_inRange) (maxL := 3) (ret := (some .boolean)) (by decide) rfl ?_
  intro p e s m args below meth c s₁ B₀ hml hv
  obtain ⟨rfl, hG, hF⟩ := hv
  have hK := hF.1
  have hN := hF.2.1
  have hB := hF.2.2.2
  have hx := B₀.exec
  have hb := B₀.bytes
  have hr := B₀.returns
  have hts := atoms_spec (ws := wsX5_inRange) B₀.pre
  have hown : s.vm.findClass RX5 = some m.cls := findClass_of_methodNamed B₀.named
  have hlocks := B₀.notSynchronized
  have hS : va_S (g_A B) s.heap s.heap [] := va_S.rf
  have hl := lv_entry [.int x, .int lo, .int hi] (n := 3) (Nat.le_of_ble_eq_true rfl)
  rw [lg_entry_eq]
  generalize (lg_sl [.int x, .int lo, .int hi] ++ List.replicate (3 - (lg_sl [.int x, .int lo, .int hi]).length) Slot.unset).toArray = ls at hl ⊢
  have hl : lv_has ls 3 [(0, .int x), (1, .int lo), (2, .int hi)] := hl
  refine lv_iload_n hx hb dX5_inRange_0 rfl (lv_at hl 0 rfl) ?_
  refine lv_iload_n hx hb dX5_inRange_1 rfl (lv_at hl 1 rfl) ?_
  refine lv_icmp_lt (tgt := 14) hx hb dX5_inRange_2 (by decide) (fun c_1 => ?_) (fun c_1 => ?_)
  · refine lv_iconst (v := nI 0) hx hb dX5_inRange_14 (by decide) ?_
    exact W.zret (v := nI 0) hx hb hr rfl (fun t9 ht9 hW9 => ⟨_, rfl, (if_neg (fun z => absurd z.1 (by rw [Int32.le_iff_toInt_le]; rw [Int32.lt_iff_toInt_lt] at c_1; omega))).symm, ht9⟩) (fun q h => nomatch h) dX5_inRange_15
  · refine lv_iload_n hx hb dX5_inRange_5 rfl (lv_at hl 0 rfl) ?_
    refine lv_iload_n hx hb dX5_inRange_6 rfl (lv_at hl 2 rfl) ?_
    refine lv_icmp_gt (tgt := 14) hx hb dX5_inRange_7 (by decide) (fun c_2 => ?_) (fun c_2 => ?_)
    · refine lv_iconst (v := nI 0) hx hb dX5_inRange_14 (by decide) ?_
      exact W.zret (v := nI 0) hx hb hr rfl (fun t9 ht9 hW9 => ⟨_, rfl, (if_neg (fun z => absurd z.2 (by rw [Int32.le_iff_toInt_le]; rw [Int32.lt_iff_toInt_lt] at c_2; omega))).symm, ht9⟩) (fun q h => nomatch h) dX5_inRange_15
    · refine lv_iconst (v := nI 1) hx hb dX5_inRange_10 (by decide) ?_
      refine lv_goto (tgt := 15) hx hb dX5_inRange_11 (by decide) ?_
      exact W.zret (v := nI 1) hx hb hr rfl (fun t9 ht9 hW9 => ⟨_, rfl, (if_pos ⟨by rw [Int32.le_iff_toInt_le]; rw [Int32.lt_iff_toInt_lt] at c_1; omega, by rw [Int32.le_iff_toInt_le]; rw [Int32.lt_iff_toInt_lt] at c_2; omega⟩).symm, ht9⟩) (fun q h => nomatch h) dX5_inRange_15

set_option maxHeartbeats 4000000 in
set_option maxRecDepth 100000 in
theorem c_requireArgument (l : Launch) {D : va_G} {C : g_C} {g : g_k → Nat → Int32} {ad ln : g_k → Nat} {ex : g_k → Option va_E} {B : Nat}  : Met l yX5_requireArgument wsX5_requireArgument ({ frames := 0, cells := 0, slots := 0, locals := 0 } : Room) (va_Pc [.int (nI 1)] (g_S D C (lay C g ad ln ex) ad B)) (va_Sv (fun _ => True)) 0 0 (fun _ => False) := by
  refine Met.ofW (cc := cX5_requireArgument) (maxL := 1) (ret := none) (by decide) rfl ?_
  intro p e s m args below meth c s₁ B₀ hml hv
  obtain ⟨rfl, hG, hF⟩ := hv
  have hK := hF.1
  have hN := hF.2.1
  have hB := hF.2.2.2
  have hx := B₀.exec
  have hb := B₀.bytes
  have hr := B₀.returns
  have hts := atoms_spec (ws := wsX5_requireArgument) B₀.pre
  have hown : s.vm.findClass RX5 = some m.cls := findClass_of_methodNamed B₀.named
  have hlocks := B₀.notSynchronized
  have hS : va_S (g_A B) s.heap s.heap [] := va_S.rf
  have hl := lv_entry [.int (nI 1)] (n := 1) (Nat.le_of_ble_eq_true rfl)
  rw [lg_entry_eq]
  generalize (lg_sl [.int (nI 1)] ++ List.replicate (1 - (lg_sl [.int (nI 1)]).length) Slot.unset).toArray = ls at hl ⊢
  have hl : lv_has ls 1 [(0, .int (nI 1))] := hl
  refine lv_iload_n hx hb dX5_requireArgument_0 rfl (lv_at hl 0 rfl) ?_
  refine lv_if_ne (tgt := 14) hx hb dX5_requireArgument_1 (by decide) (fun c_1 => ?_) (fun c_1 => ?_)
  · exact W.vret hx hb hr (fun t9 ht9 hW9 => ⟨rfl, trivial, ht9⟩) (fun q h => nomatch h) dX5_requireArgument_14
  · exact absurd (show nI 1 = 0 from c_1) (by decide)

set_option maxHeartbeats 4000000 in
set_option maxRecDepth 100000 in
theorem c_requireMinute (l : Launch) {D : va_G} {C : g_C} {g : g_k → Nat → Int32} {ad ln : g_k → Nat} {ex : g_k → Option va_E} {B : Nat} {t : Nat} (ht : t ≤ 1000000) : Met l yX5_requireMinute wsX5_requireMinute ({ frames := 1, cells := 0, slots := 0, locals := 22 } : Room) (va_Pc [.int (nI t)] (g_S D C (lay C g ad ln ex) ad B)) (va_Sv (fun _ => True)) 0 0 (fun _ => False) := by
  refine Met.ofW (cc := cX5_requireMinute) (maxL := 1) (ret := none) (by decide) rfl ?_
  intro p e s m args below meth c s₁ B₀ hml hv
  obtain ⟨rfl, hG, hF⟩ := hv
  have hK := hF.1
  have hN := hF.2.1
  have hB := hF.2.2.2
  have hx := B₀.exec
  have hb := B₀.bytes
  have hr := B₀.returns
  have hts := atoms_spec (ws := wsX5_requireMinute) B₀.pre
  have hown : s.vm.findClass RX5 = some m.cls := findClass_of_methodNamed B₀.named
  have hlocks := B₀.notSynchronized
  have hS : va_S (g_A B) s.heap s.heap [] := va_S.rf
  have hl := lv_entry [.int (nI t)] (n := 1) (Nat.le_of_ble_eq_true rfl)
  rw [lg_entry_eq]
  generalize (lg_sl [.int (nI t)] ++ List.replicate (1 - (lg_sl [.int (nI t)]).length) Slot.unset).toArray = ls at hl ⊢
  have hl : lv_has ls 1 [(0, .int (nI t))] := hl
  refine lv_iload_n hx hb dX5_requireMinute_0 rfl (lv_at hl 0 rfl) ?_
  refine lv_iconst (v := nI 0) hx hb dX5_requireMinute_1 (by decide) ?_
  refine lv_ldc (v := 1000000) hx hb hown (hts (.constant RX5 147 (1000000)) (by decide +kernel)) dX5_requireMinute_2 ?_
  refine lv_to (y := nI 1000000) (by decide) ?_
  refine vp_callSi (W.runS (As := [.int (nI t), .int (nI 0), .int (nI 1000000)]) (rest := []) ⟨hx, hb, hml, hown, hts⟩ (c_inRange l ) (va_cwS 3 hts gX5_requireMinute_X5_inRange rfl rfl rfl (by decide +kernel) ⟨Nat.le_of_ble_eq_true rfl, Nat.le_of_ble_eq_true rfl⟩) (g_preS hF hG hS) rfl rfl hl.1 rfl (lv_room (Nat.le_of_ble_eq_true rfl)) dX5_requireMinute_4 ⟨Nat.le_of_ble_eq_true rfl, Nat.le_of_ble_eq_true rfl⟩) (fun r_1 h_2 => ?_)
  refine lv_to (y := nI 1) (h_2.trans (if_pos (⟨nI_le (Nat.zero_le t) (by omega), nI_le ht (by decide)⟩))) ?_
  refine va_csv (W.runS (As := [.int (nI 1)]) (rest := []) ⟨hx, hb, hml, hown, hts⟩ (c_requireArgument l ) (va_cwS 1 hts gX5_requireMinute_X5_requireArgument rfl rfl rfl (by decide +kernel) ⟨Nat.le_of_ble_eq_true rfl, Nat.le_of_ble_eq_true rfl⟩) (g_preS hF hG hS) rfl rfl hl.1 rfl (lv_room (Nat.le_of_ble_eq_true rfl)) dX5_requireMinute_7 ⟨Nat.le_of_ble_eq_true rfl, Nat.le_of_ble_eq_true rfl⟩) (fun h_4 => ?_)
  exact W.vret hx hb hr (fun t9 ht9 hW9 => ⟨rfl, trivial, ht9⟩) (fun q h => nomatch h) dX5_requireMinute_10

set_option maxHeartbeats 4000000 in
set_option maxRecDepth 100000 in
theorem c_requireNode (l : Launch) {D : va_G} {C : g_C} {g : g_k → Nat → Int32} {ad ln : g_k → Nat} {ex : g_k → Option va_E} {B : Nat} {n : Nat} (hn : n ≤ 10) (hc : g (1, 0, 0) 4 = nI n) {a : Nat} (ha : a < n) : Met l yX5_requireNode wsX5_requireNode ({ frames := 1, cells := 0, slots := 0, locals := 22 } : Room) (va_Pc [.ref (ad (0, 0, 0)), .int (nI a)] (g_S D C (lay C g ad ln ex) ad B)) (va_Sv (fun _ => True)) 0 0 (fun _ => False) := by
  refine Met.ofW (cc := cX5_requireNode) (maxL := 2) (ret := none) (by decide) rfl ?_
  intro p e s m args below meth c s₁ B₀ hml hv
  obtain ⟨rfl, hG, hF⟩ := hv
  have hK := hF.1
  have hN := hF.2.1
  have hB := hF.2.2.2
  have hx := B₀.exec
  have hb := B₀.bytes
  have hr := B₀.returns
  have hts := atoms_spec (ws := wsX5_requireNode) B₀.pre
  have hown : s.vm.findClass RX5 = some m.cls := findClass_of_methodNamed B₀.named
  have hlocks := B₀.notSynchronized
  have hS : va_S (g_A B) s.heap s.heap [] := va_S.rf
  have hi2 : ∀ w ∈ wsX20, w ∈ wsX5_requireNode := by decide +kernel
  have hi5 : ∀ w ∈ wsX50, w ∈ wsX5_requireNode := by decide +kernel
  have hl := lv_entry [.ref (ad (0, 0, 0)), .int (nI a)] (n := 2) (Nat.le_of_ble_eq_true rfl)
  rw [lg_entry_eq]
  generalize (lg_sl [.ref (ad (0, 0, 0)), .int (nI a)] ++ List.replicate (2 - (lg_sl [.ref (ad (0, 0, 0)), .int (nI a)]).length) Slot.unset).toArray = ls at hl ⊢
  have hl : lv_has ls 2 [(0, .ref (ad (0, 0, 0))), (1, .int (nI a))] := hl
  refine lv_iload_n hx hb dX5_requireNode_0 rfl (lv_at hl 1 rfl) ?_
  refine lv_iconst (v := nI 0) hx hb dX5_requireNode_1 (by decide) ?_
  refine lv_aload_n hx hb dX5_requireNode_2 rfl (lv_at hl 0 rfl) ?_
  refine g_get hx hb hts hi5 hown hK hG (lay_main) rfl 0 (by decide) (hts (.fieldLink RX5 12 "Satellitering" "sky" "LSatellitering$Sky;") (by decide +kernel)) rfl dX5_requireNode_3 ?_
  refine g_getN hx hb hts hi2 hown hK hG (lay_sky) rfl 4 (by decide) (va_Nw.use rfl hN.2.2.2.2.2.2.2.2.2.2.1) rfl dX5_requireNode_6 ?_
  refine lv_to (y := nI n) (hc) ?_
  refine lv_iconst (v := nI 1) hx hb dX5_requireNode_9 (by decide) ?_
  refine lv_isub hx hb dX5_requireNode_10 ?_
  refine lv_to (y := nI (n - 1)) (pk_sub (by omega)) ?_
  refine vp_callSi (W.runS (As := [.int (nI a), .int (nI 0), .int (nI (n - 1))]) (rest := []) ⟨hx, hb, hml, hown, hts⟩ (c_inRange l ) (va_cwS 3 hts gX5_requireNode_X5_inRange rfl rfl rfl (by decide +kernel) ⟨Nat.le_of_ble_eq_true rfl, Nat.le_of_ble_eq_true rfl⟩) (g_preS hF hG hS) rfl rfl hl.1 rfl (lv_room (Nat.le_of_ble_eq_true rfl)) dX5_requireNode_11 ⟨Nat.le_of_ble_eq_true rfl, Nat.le_of_ble_eq_true rfl⟩) (fun r_1 h_2 => ?_)
  refine lv_to (y := nI 1) (h_2.trans (if_pos (⟨nI_le (Nat.zero_le a) (by omega), nI_le (by omega) (by omega)⟩))) ?_
  refine lv_if_ne (tgt := 27) hx hb dX5_requireNode_14 (by decide) (fun c_3 => ?_) (fun c_3 => ?_)
  · exact W.vret hx hb hr (fun t9 ht9 hW9 => ⟨rfl, trivial, ht9⟩) (fun q h => nomatch h) dX5_requireNode_27
  · exact absurd (show nI 1 = 0 from c_3) (by decide)

set_option maxHeartbeats 4000000 in
set_option maxRecDepth 100000 in
theorem c_requireTwo (l : Launch) {D : va_G} {C : g_C} {g : g_k → Nat → Int32} {ad ln : g_k → Nat} {ex : g_k → Option va_E} {B : Nat} {n : Nat} (hn : n ≤ 10) (hc : g (1, 0, 0) 4 = nI n) {a b t : Nat} (ha : a < n) (hb9 : b < n) (ht : t ≤ 1000000) : Met l yX5_requireTwoNodesAndMinute wsX5_requireTwoNodesAndMinute ({ frames := 2, cells := 0, slots := 0, locals := 43 } : Room) (va_Pc [.ref (ad (0, 0, 0)), .int (nI a), .int (nI b), .int (nI t)] (g_S D C (lay C g ad ln ex) ad B)) (va_Sv (fun _ => True)) 0 0 (fun _ => False) := by
  refine Met.ofW (cc := cX5_requireTwoNodesAndMinute) (maxL := 4) (ret := none) (by decide) rfl ?_
  intro p e s m args below meth c s₁ B₀ hml hv
  obtain ⟨rfl, hG, hF⟩ := hv
  have hK := hF.1
  have hN := hF.2.1
  have hB := hF.2.2.2
  have hx := B₀.exec
  have hb := B₀.bytes
  have hr := B₀.returns
  have hts := atoms_spec (ws := wsX5_requireTwoNodesAndMinute) B₀.pre
  have hown : s.vm.findClass RX5 = some m.cls := findClass_of_methodNamed B₀.named
  have hlocks := B₀.notSynchronized
  have hS : va_S (g_A B) s.heap s.heap [] := va_S.rf
  have hl := lv_entry [.ref (ad (0, 0, 0)), .int (nI a), .int (nI b), .int (nI t)] (n := 4) (Nat.le_of_ble_eq_true rfl)
  rw [lg_entry_eq]
  generalize (lg_sl [.ref (ad (0, 0, 0)), .int (nI a), .int (nI b), .int (nI t)] ++ List.replicate (4 - (lg_sl [.ref (ad (0, 0, 0)), .int (nI a), .int (nI b), .int (nI t)]).length) Slot.unset).toArray = ls at hl ⊢
  have hl : lv_has ls 4 [(0, .ref (ad (0, 0, 0))), (1, .int (nI a)), (2, .int (nI b)), (3, .int (nI t))] := hl
  refine lv_aload_n hx hb dX5_requireTwoNodesAndMinute_0 rfl (lv_at hl 0 rfl) ?_
  refine lv_iload_n hx hb dX5_requireTwoNodesAndMinute_1 rfl (lv_at hl 1 rfl) ?_
  refine va_csv (W.runV (As := [.int (nI a)]) (rest := []) ⟨hx, hb, hml, hown, hts⟩ (c_requireNode l hn hc ha) (cwV 1 hts gX5_requireTwoNodesAndMinute_X5_requireNode rfl rfl rfl (by decide +kernel) ⟨Nat.le_of_ble_eq_true rfl, Nat.le_of_ble_eq_true rfl⟩) (g_preV hF hG hS (lay_main) rfl) rfl rfl hl.1 rfl (lv_room (Nat.le_of_ble_eq_true rfl)) dX5_requireTwoNodesAndMinute_2 ⟨Nat.le_of_ble_eq_true rfl, Nat.le_of_ble_eq_true rfl⟩) (fun h_2 => ?_)
  refine lv_aload_n hx hb dX5_requireTwoNodesAndMinute_5 rfl (lv_at hl 0 rfl) ?_
  refine lv_iload_n hx hb dX5_requireTwoNodesAndMinute_6 rfl (lv_at hl 2 rfl) ?_
  refine va_csv (W.runV (As := [.int (nI b)]) (rest := []) ⟨hx, hb, hml, hown, hts⟩ (c_requireNode l hn hc hb9) (cwV 1 hts gX5_requireTwoNodesAndMinute_X5_requireNode rfl rfl rfl (by decide +kernel) ⟨Nat.le_of_ble_eq_true rfl, Nat.le_of_ble_eq_true rfl⟩) (g_preV hF hG hS (lay_main) rfl) rfl rfl hl.1 rfl (lv_room (Nat.le_of_ble_eq_true rfl)) dX5_requireTwoNodesAndMinute_7 ⟨Nat.le_of_ble_eq_true rfl, Nat.le_of_ble_eq_true rfl⟩) (fun h_4 => ?_)
  refine lv_iload_n hx hb dX5_requireTwoNodesAndMinute_10 rfl (lv_at hl 3 rfl) ?_
  refine va_csv (W.runS (As := [.int (nI t)]) (rest := []) ⟨hx, hb, hml, hown, hts⟩ (c_requireMinute l ht) (va_cwS 1 hts gX5_requireTwoNodesAndMinute_X5_requireMinute rfl rfl rfl (by decide +kernel) ⟨Nat.le_of_ble_eq_true rfl, Nat.le_of_ble_eq_true rfl⟩) (g_preS hF hG hS) rfl rfl hl.1 rfl (lv_room (Nat.le_of_ble_eq_true rfl)) dX5_requireTwoNodesAndMinute_11 ⟨Nat.le_of_ble_eq_true rfl, Nat.le_of_ble_eq_true rfl⟩) (fun h_6 => ?_)
  exact W.vret hx hb hr (fun t9 ht9 hW9 => ⟨rfl, trivial, ht9⟩) (fun q h => nomatch h) dX5_requireTwoNodesAndMinute_14

set_option maxHeartbeats 4000000 in
set_option maxRecDepth 100000 in
theorem c_requireStation (l : Launch) {D : va_G} {C : g_C} {g : g_k → Nat → Int32} {ad ln : g_k → Nat} {ex : g_k → Option va_E} {B : Nat} {n : Nat} (hn : n ≤ 10) (hc : g (1, 0, 0) 4 = nI n) {a : Nat} (ha : a < n) (hl9 : ln (30, a, 0) = 1) : Met l yX5_requireStation wsX5_requireStation ({ frames := 2, cells := 0, slots := 0, locals := 43 } : Room) (va_Pc [.ref (ad (0, 0, 0)), .int (nI a)] (g_S D C (lay C g ad ln ex) ad B)) (va_Sr (fun k => k = a) (fun k => .ref (ad (30, k, 0)))) 0 0 (fun _ => False) := by
  refine Met.ofW (cc := cX5_requireStation) (maxL := 3) (ret := (some (.object "Satellitering$Station"))) (by decide) rfl ?_
  intro p e s m args below meth c s₁ B₀ hml hv
  obtain ⟨rfl, hG, hF⟩ := hv
  have hK := hF.1
  have hN := hF.2.1
  have hB := hF.2.2.2
  have hx := B₀.exec
  have hb := B₀.bytes
  have hr := B₀.returns
  have hts := atoms_spec (ws := wsX5_requireStation) B₀.pre
  have hown : s.vm.findClass RX5 = some m.cls := findClass_of_methodNamed B₀.named
  have hlocks := B₀.notSynchronized
  have hS : va_S (g_A B) s.heap s.heap [] := va_S.rf
  have hi5 : ∀ w ∈ wsX50, w ∈ wsX5_requireStation := by decide +kernel
  have hl := lv_entry [.ref (ad (0, 0, 0)), .int (nI a)] (n := 3) (Nat.le_of_ble_eq_true rfl)
  rw [lg_entry_eq]
  generalize (lg_sl [.ref (ad (0, 0, 0)), .int (nI a)] ++ List.replicate (3 - (lg_sl [.ref (ad (0, 0, 0)), .int (nI a)]).length) Slot.unset).toArray = ls at hl ⊢
  have hl : lv_has ls 3 [(0, .ref (ad (0, 0, 0))), (1, .int (nI a))] := hl
  refine lv_aload_n hx hb dX5_requireStation_0 rfl (lv_at hl 0 rfl) ?_
  refine lv_iload_n hx hb dX5_requireStation_1 rfl (lv_at hl 1 rfl) ?_
  refine va_csv (W.runV (As := [.int (nI a)]) (rest := []) ⟨hx, hb, hml, hown, hts⟩ (c_requireNode l hn hc ha) (cwV 1 hts gX5_requireStation_X5_requireNode rfl rfl rfl (by decide +kernel) ⟨Nat.le_of_ble_eq_true rfl, Nat.le_of_ble_eq_true rfl⟩) (g_preV hF hG hS (lay_main) rfl) rfl rfl hl.1 rfl (lv_room (Nat.le_of_ble_eq_true rfl)) dX5_requireStation_2 ⟨Nat.le_of_ble_eq_true rfl, Nat.le_of_ble_eq_true rfl⟩) (fun h_2 => ?_)
  refine lv_aload_n hx hb dX5_requireStation_5 rfl (lv_at hl 0 rfl) ?_
  refine g_get hx hb hts hi5 hown hK hG (lay_main) rfl 2 (by decide) (hts (.fieldLink RX5 27 "Satellitering" "stations" "[LSatellitering$Station;") (by decide +kernel)) rfl dX5_requireStation_6 ?_
  refine lv_iload_n hx hb dX5_requireStation_9 rfl (lv_at hl 1 rfl) ?_
  refine o_stationY hx hb hK hG (show a < 10 by omega) hl9 dX5_requireStation_10 ?_
  refine lv_astore_n (lv' := [(2, .ref (ad (30, a, 0))), (0, .ref (ad (0, 0, 0))), (1, .int (nI a))]) hx hb dX5_requireStation_11 rfl hl (by decide) rfl (fun ls hl => ?_)
  refine lv_aload_n hx hb dX5_requireStation_12 rfl (lv_at hl 0 rfl) ?_
  refine lv_ifnonnull (tgt := 26) hx hb dX5_requireStation_13 (by decide) ?_
  refine lv_aload_n hx hb dX5_requireStation_26 rfl (lv_at hl 0 rfl) ?_
  exact W.aret (v := .ref (ad (30, a, 0))) hx hb hr (Or.inl ⟨_, rfl⟩) (Or.inr ⟨_, rfl⟩) (fun t9 ht9 hW9 => ⟨a, rfl, rfl, ht9⟩) (fun q h => nomatch h) dX5_requireStation_27

set_option maxHeartbeats 4000000 in
set_option maxRecDepth 100000 in
theorem c_requireMessage (l : Launch) {D : va_G} {C : g_C} {g : g_k → Nat → Int32} {ad ln : g_k → Nat} {ex : g_k → Option va_E} {B : Nat} {M : Nat} (hM : ln (5, 0, 0) = M) (hM20 : M ≤ 20) (hs : g (0, 0, 0) 7 = nI M) {a : Nat} (ha : a < M) : Met l yX5_requireMessage wsX5_requireMessage ({ frames := 1, cells := 0, slots := 0, locals := 22 } : Room) (va_Pc [.ref (ad (0, 0, 0)), .int (nI a)] (g_S D C (lay C g ad ln ex) ad B)) (va_Sr (fun k => k = a) (fun k => .ref (ad (40, k, 0)))) 0 0 (fun _ => False) := by
  refine Met.ofW (cc := cX5_requireMessage) (maxL := 2) (ret := (some (.object "Satellitering$Message"))) (by decide) rfl ?_
  intro p e s m args below meth c s₁ B₀ hml hv
  obtain ⟨rfl, hG, hF⟩ := hv
  have hK := hF.1
  have hN := hF.2.1
  have hB := hF.2.2.2
  have hx := B₀.exec
  have hb := B₀.bytes
  have hr := B₀.returns
  have hts := atoms_spec (ws := wsX5_requireMessage) B₀.pre
  have hown : s.vm.findClass RX5 = some m.cls := findClass_of_methodNamed B₀.named
  have hlocks := B₀.notSynchronized
  have hS : va_S (g_A B) s.heap s.heap [] := va_S.rf
  have hi5 : ∀ w ∈ wsX50, w ∈ wsX5_requireMessage := by decide +kernel
  have hl := lv_entry [.ref (ad (0, 0, 0)), .int (nI a)] (n := 2) (Nat.le_of_ble_eq_true rfl)
  rw [lg_entry_eq]
  generalize (lg_sl [.ref (ad (0, 0, 0)), .int (nI a)] ++ List.replicate (2 - (lg_sl [.ref (ad (0, 0, 0)), .int (nI a)]).length) Slot.unset).toArray = ls at hl ⊢
  have hl : lv_has ls 2 [(0, .ref (ad (0, 0, 0))), (1, .int (nI a))] := hl
  refine lv_iload_n hx hb dX5_requireMessage_0 rfl (lv_at hl 1 rfl) ?_
  refine lv_iconst (v := nI 0) hx hb dX5_requireMessage_1 (by decide) ?_
  refine lv_aload_n hx hb dX5_requireMessage_2 rfl (lv_at hl 0 rfl) ?_
  refine g_get hx hb hts hi5 hown hK hG (lay_main) rfl 7 (by decide) (hts (.fieldLink RX5 48 "Satellitering" "sentCount" "I") (by decide +kernel)) rfl dX5_requireMessage_3 ?_
  refine lv_to (y := nI M) (hs) ?_
  refine lv_iconst (v := nI 1) hx hb dX5_requireMessage_6 (by decide) ?_
  refine lv_isub hx hb dX5_requireMessage_7 ?_
  refine lv_to (y := nI (M - 1)) (pk_sub (by omega)) ?_
  refine vp_callSi (W.runS (As := [.int (nI a), .int (nI 0), .int (nI (M - 1))]) (rest := []) ⟨hx, hb, hml, hown, hts⟩ (c_inRange l ) (va_cwS 3 hts gX5_requireMessage_X5_inRange rfl rfl rfl (by decide +kernel) ⟨Nat.le_of_ble_eq_true rfl, Nat.le_of_ble_eq_true rfl⟩) (g_preS hF hG hS) rfl rfl hl.1 rfl (lv_room (Nat.le_of_ble_eq_true rfl)) dX5_requireMessage_8 ⟨Nat.le_of_ble_eq_true rfl, Nat.le_of_ble_eq_true rfl⟩) (fun r_1 h_2 => ?_)
  refine lv_to (y := nI 1) (h_2.trans (if_pos (⟨nI_le (Nat.zero_le a) (by omega), nI_le (by omega) (by omega)⟩))) ?_
  refine lv_if_ne (tgt := 24) hx hb dX5_requireMessage_11 (by decide) (fun c_3 => ?_) (fun c_3 => ?_)
  · refine lv_aload_n hx hb dX5_requireMessage_24 rfl (lv_at hl 0 rfl) ?_
    refine g_get hx hb hts hi5 hown hK hG (lay_main) rfl 4 (by decide) (hts (.fieldLink RX5 37 "Satellitering" "sent" "[LSatellitering$Message;") (by decide +kernel)) rfl dX5_requireMessage_25 ?_
    refine lv_iload_n hx hb dX5_requireMessage_28 rfl (lv_at hl 1 rfl) ?_
    refine o_sent hx hb hK hG (by omega) (by omega) dX5_requireMessage_29 ?_
    exact W.aret (v := .ref (ad (40, a, 0))) hx hb hr (Or.inl ⟨_, rfl⟩) (Or.inr ⟨_, rfl⟩) (fun t9 ht9 hW9 => ⟨a, rfl, rfl, ht9⟩) (fun q h => nomatch h) dX5_requireMessage_30
  · exact absurd (show nI 1 = 0 from c_3) (by decide)

set_option maxHeartbeats 4000000 in
set_option maxRecDepth 100000 in
theorem c_requireHop (l : Launch) {D : va_G} {C : g_C} {g : g_k → Nat → Int32} {ad ln : g_k → Nat} {ex : g_k → Option va_E} {B : Nat} {mg h i : Nat} (hm : mg < ln (5, 0, 0)) (hh : g (40, mg, 0) 5 = nI h) (hh30 : h < 2 ^ 30) (hi9 : i < h) : Met l yX5_requireHop wsX5_requireHop ({ frames := 1, cells := 0, slots := 0, locals := 22 } : Room) (va_Pc [.ref (ad (40, mg, 0)), .int (nI i)] (g_S D C (lay C g ad ln ex) ad B)) (va_Sv (fun _ => True)) 0 0 (fun _ => False) := by
  refine Met.ofW (cc := cX5_requireHop) (maxL := 2) (ret := none) (by decide) rfl ?_
  intro p e s m args below meth c s₁ B₀ hml hv
  obtain ⟨rfl, hG, hF⟩ := hv
  have hK := hF.1
  have hN := hF.2.1
  have hB := hF.2.2.2
  have hx := B₀.exec
  have hb := B₀.bytes
  have hr := B₀.returns
  have hts := atoms_spec (ws := wsX5_requireHop) B₀.pre
  have hown : s.vm.findClass RX5 = some m.cls := findClass_of_methodNamed B₀.named
  have hlocks := B₀.notSynchronized
  have hS : va_S (g_A B) s.heap s.heap [] := va_S.rf
  have hi0 : ∀ w ∈ wsX00, w ∈ wsX5_requireHop := by decide +kernel
  have hl := lv_entry [.ref (ad (40, mg, 0)), .int (nI i)] (n := 2) (Nat.le_of_ble_eq_true rfl)
  rw [lg_entry_eq]
  generalize (lg_sl [.ref (ad (40, mg, 0)), .int (nI i)] ++ List.replicate (2 - (lg_sl [.ref (ad (40, mg, 0)), .int (nI i)]).length) Slot.unset).toArray = ls at hl ⊢
  have hl : lv_has ls 2 [(0, .ref (ad (40, mg, 0))), (1, .int (nI i))] := hl
  refine lv_iload_n hx hb dX5_requireHop_0 rfl (lv_at hl 1 rfl) ?_
  refine lv_iconst (v := nI 0) hx hb dX5_requireHop_1 (by decide) ?_
  refine lv_aload_n hx hb dX5_requireHop_2 rfl (lv_at hl 0 rfl) ?_
  refine g_getN hx hb hts hi0 hown hK hG (lay_msg hm) rfl 5 (by decide) (va_Nw.use rfl hN.2.2.2.1) rfl dX5_requireHop_3 ?_
  refine lv_to (y := nI h) (hh) ?_
  refine lv_iconst (v := nI 1) hx hb dX5_requireHop_6 (by decide) ?_
  refine lv_isub hx hb dX5_requireHop_7 ?_
  refine lv_to (y := nI (h - 1)) (pk_sub (by omega)) ?_
  refine vp_callSi (W.runS (As := [.int (nI i), .int (nI 0), .int (nI (h - 1))]) (rest := []) ⟨hx, hb, hml, hown, hts⟩ (c_inRange l ) (va_cwS 3 hts gX5_requireHop_X5_inRange rfl rfl rfl (by decide +kernel) ⟨Nat.le_of_ble_eq_true rfl, Nat.le_of_ble_eq_true rfl⟩) (g_preS hF hG hS) rfl rfl hl.1 rfl (lv_room (Nat.le_of_ble_eq_true rfl)) dX5_requireHop_8 ⟨Nat.le_of_ble_eq_true rfl, Nat.le_of_ble_eq_true rfl⟩) (fun r_1 h_2 => ?_)
  refine lv_to (y := nI 1) (h_2.trans (if_pos (⟨nI_le (Nat.zero_le i) (by omega), nI_le (by omega) (by omega)⟩))) ?_
  refine lv_if_ne (tgt := 24) hx hb dX5_requireHop_11 (by decide) (fun c_3 => ?_) (fun c_3 => ?_)
  · exact W.vret hx hb hr (fun t9 ht9 hW9 => ⟨rfl, trivial, ht9⟩) (fun q h => nomatch h) dX5_requireHop_24
  · exact absurd (show nI 1 = 0 from c_3) (by decide)

set_option maxHeartbeats 4000000 in
set_option maxRecDepth 100000 in
theorem c_nodes (l : Launch) {D : va_G} {C : g_C} {g : g_k → Nat → Int32} {ad ln : g_k → Nat} {ex : g_k → Option va_E} {B : Nat} {n : Nat} (hn : n ≤ 10) (hc : g (1, 0, 0) 4 = nI n) : Met l yX5_nodes wsX5_nodes ({ frames := 0, cells := 0, slots := 0, locals := 0 } : Room) (va_Pc [.ref (ad (0, 0, 0))] (g_S D C (lay C g ad ln ex) ad B)) (vp_Si (fun r => r = nI n)) 0 0 (fun _ => False) := by
  refine Met.ofW (cc := cX5_nodes) (maxL := 1) (ret := (some .int)) (by decide) rfl ?_
  intro p e s m args below meth c s₁ B₀ hml hv
  obtain ⟨rfl, hG, hF⟩ := hv
  have hK := hF.1
  have hN := hF.2.1
  have hB := hF.2.2.2
  have hx := B₀.exec
  have hb := B₀.bytes
  have hr := B₀.returns
  have hts := atoms_spec (ws := wsX5_nodes) B₀.pre
  have hown : s.vm.findClass RX5 = some m.cls := findClass_of_methodNamed B₀.named
  have hlocks := B₀.notSynchronized
  have hS : va_S (g_A B) s.heap s.heap [] := va_S.rf
  have hi2 : ∀ w ∈ wsX20, w ∈ wsX5_nodes := by decide +kernel
  have hi5 : ∀ w ∈ wsX50, w ∈ wsX5_nodes := by decide +kernel
  have hl := lv_entry [.ref (ad (0, 0, 0))] (n := 1) (Nat.le_of_ble_eq_true rfl)
  rw [lg_entry_eq]
  generalize (lg_sl [.ref (ad (0, 0, 0))] ++ List.replicate (1 - (lg_sl [.ref (ad (0, 0, 0))]).length) Slot.unset).toArray = ls at hl ⊢
  have hl : lv_has ls 1 [(0, .ref (ad (0, 0, 0)))] := hl
  refine lv_aload_n hx hb dX5_nodes_0 rfl (lv_at hl 0 rfl) ?_
  refine g_get hx hb hts hi5 hown hK hG (lay_main) rfl 0 (by decide) (hts (.fieldLink RX5 12 "Satellitering" "sky" "LSatellitering$Sky;") (by decide +kernel)) rfl dX5_nodes_1 ?_
  refine g_getN hx hb hts hi2 hown hK hG (lay_sky) rfl 4 (by decide) (va_Nw.use rfl hN.2.2.2.2.2.2.2.2.2.2.1) rfl dX5_nodes_4 ?_
  refine lv_to (y := nI n) (hc) ?_
  exact W.iret (v := nI n) hx hb hr (fun t9 ht9 hW9 => ⟨_, rfl, rfl, ht9⟩) (fun q h => nomatch h) dX5_nodes_7

set_option maxHeartbeats 4000000 in
set_option maxRecDepth 100000 in
theorem c_now (l : Launch) {D : va_G} {C : g_C} {g : g_k → Nat → Int32} {ad ln : g_k → Nat} {ex : g_k → Option va_E} {B : Nat}  : Met l yX5_now wsX5_now ({ frames := 0, cells := 0, slots := 0, locals := 0 } : Room) (va_Pc [.ref (ad (0, 0, 0))] (g_S D C (lay C g ad ln ex) ad B)) (vp_Si (fun r => r = g (0, 0, 0) 8)) 0 0 (fun _ => False) := by
  refine Met.ofW (cc := cX5_now) (maxL := 1) (ret := (some .int)) (by decide) rfl ?_
  intro p e s m args below meth c s₁ B₀ hml hv
  obtain ⟨rfl, hG, hF⟩ := hv
  have hK := hF.1
  have hN := hF.2.1
  have hB := hF.2.2.2
  have hx := B₀.exec
  have hb := B₀.bytes
  have hr := B₀.returns
  have hts := atoms_spec (ws := wsX5_now) B₀.pre
  have hown : s.vm.findClass RX5 = some m.cls := findClass_of_methodNamed B₀.named
  have hlocks := B₀.notSynchronized
  have hS : va_S (g_A B) s.heap s.heap [] := va_S.rf
  have hi5 : ∀ w ∈ wsX50, w ∈ wsX5_now := by decide +kernel
  have hl := lv_entry [.ref (ad (0, 0, 0))] (n := 1) (Nat.le_of_ble_eq_true rfl)
  rw [lg_entry_eq]
  generalize (lg_sl [.ref (ad (0, 0, 0))] ++ List.replicate (1 - (lg_sl [.ref (ad (0, 0, 0))]).length) Slot.unset).toArray = ls at hl ⊢
  have hl : lv_has ls 1 [(0, .ref (ad (0, 0, 0)))] := hl
  refine lv_aload_n hx hb dX5_now_0 rfl (lv_at hl 0 rfl) ?_
  refine g_get hx hb hts hi5 hown hK hG (lay_main) rfl 8 (by decide) (hts (.fieldLink RX5 51 "Satellitering" "now" "I") (by decide +kernel)) rfl dX5_now_1 ?_
  exact W.iret (v := g (0, 0, 0) 8) hx hb hr (fun t9 ht9 hW9 => ⟨_, rfl, rfl, ht9⟩) (fun q h => nomatch h) dX5_now_4

set_option maxHeartbeats 4000000 in
set_option maxRecDepth 100000 in
theorem c_messages (l : Launch) {D : va_G} {C : g_C} {g : g_k → Nat → Int32} {ad ln : g_k → Nat} {ex : g_k → Option va_E} {B : Nat}  : Met l yX5_messages wsX5_messages ({ frames := 0, cells := 0, slots := 0, locals := 0 } : Room) (va_Pc [.ref (ad (0, 0, 0))] (g_S D C (lay C g ad ln ex) ad B)) (vp_Si (fun r => r = g (0, 0, 0) 7)) 0 0 (fun _ => False) := by
  refine Met.ofW (cc := cX5_messages) (maxL := 1) (ret := (some .int)) (by decide) rfl ?_
  intro p e s m args below meth c s₁ B₀ hml hv
  obtain ⟨rfl, hG, hF⟩ := hv
  have hK := hF.1
  have hN := hF.2.1
  have hB := hF.2.2.2
  have hx := B₀.exec
  have hb := B₀.bytes
  have hr := B₀.returns
  have hts := atoms_spec (ws := wsX5_messages) B₀.pre
  have hown : s.vm.findClass RX5 = some m.cls := findClass_of_methodNamed B₀.named
  have hlocks := B₀.notSynchronized
  have hS : va_S (g_A B) s.heap s.heap [] := va_S.rf
  have hi5 : ∀ w ∈ wsX50, w ∈ wsX5_messages := by decide +kernel
  have hl := lv_entry [.ref (ad (0, 0, 0))] (n := 1) (Nat.le_of_ble_eq_true rfl)
  rw [lg_entry_eq]
  generalize (lg_sl [.ref (ad (0, 0, 0))] ++ List.replicate (1 - (lg_sl [.ref (ad (0, 0, 0))]).length) Slot.unset).toArray = ls at hl ⊢
  have hl : lv_has ls 1 [(0, .ref (ad (0, 0, 0)))] := hl
  refine lv_aload_n hx hb dX5_messages_0 rfl (lv_at hl 0 rfl) ?_
  refine g_get hx hb hts hi5 hown hK hG (lay_main) rfl 7 (by decide) (hts (.fieldLink RX5 48 "Satellitering" "sentCount" "I") (by decide +kernel)) rfl dX5_messages_1 ?_
  exact W.iret (v := g (0, 0, 0) 7) hx hb hr (fun t9 ht9 hW9 => ⟨_, rfl, rfl, ht9⟩) (fun q h => nomatch h) dX5_messages_4

set_option maxHeartbeats 4000000 in
set_option maxRecDepth 100000 in
theorem c_placeAt (l : Launch) {D : va_G} {C : g_C} {g : g_k → Nat → Int32} {ad ln : g_k → Nat} {ex : g_k → Option va_E} {B : Nat} {n : Nat} (hn : n ≤ 10) (hc : g (1, 0, 0) 4 = nI n) {a t : Nat} (ha : a < n) (ht : t ≤ 1000000) : Met l yX5_placeAt wsX5_placeAt ({ frames := 2, cells := 0, slots := 0, locals := 44 } : Room) (va_Pc [.ref (ad (0, 0, 0)), .int (nI a), .int (nI t)] (g_S D C (lay C g ad ln ex) ad B)) (vp_Si (fun r => (∃ p, p < 360 ∧ r = nI p) ∧ (∀ p, p < 360 → g (6, 0, 0) a = nI p → t = 0 → r = nI p))) 0 0 (fun _ => False) := by
  refine Met.ofW (cc := cX5_placeAt) (maxL := 3) (ret := (some .int)) (by decide) rfl ?_
  intro p e s m args below meth c s₁ B₀ hml hv
  obtain ⟨rfl, hG, hF⟩ := hv
  have hK := hF.1
  have hN := hF.2.1
  have hB := hF.2.2.2
  have hx := B₀.exec
  have hb := B₀.bytes
  have hr := B₀.returns
  have hts := atoms_spec (ws := wsX5_placeAt) B₀.pre
  have hown : s.vm.findClass RX5 = some m.cls := findClass_of_methodNamed B₀.named
  have hlocks := B₀.notSynchronized
  have hS : va_S (g_A B) s.heap s.heap [] := va_S.rf
  have hi5 : ∀ w ∈ wsX50, w ∈ wsX5_placeAt := by decide +kernel
  have hl := lv_entry [.ref (ad (0, 0, 0)), .int (nI a), .int (nI t)] (n := 3) (Nat.le_of_ble_eq_true rfl)
  rw [lg_entry_eq]
  generalize (lg_sl [.ref (ad (0, 0, 0)), .int (nI a), .int (nI t)] ++ List.replicate (3 - (lg_sl [.ref (ad (0, 0, 0)), .int (nI a), .int (nI t)]).length) Slot.unset).toArray = ls at hl ⊢
  have hl : lv_has ls 3 [(0, .ref (ad (0, 0, 0))), (1, .int (nI a)), (2, .int (nI t))] := hl
  refine lv_aload_n hx hb dX5_placeAt_0 rfl (lv_at hl 0 rfl) ?_
  refine lv_iload_n hx hb dX5_placeAt_1 rfl (lv_at hl 1 rfl) ?_
  refine va_csv (W.runV (As := [.int (nI a)]) (rest := []) ⟨hx, hb, hml, hown, hts⟩ (c_requireNode l hn hc ha) (cwV 1 hts gX5_placeAt_X5_requireNode rfl rfl rfl (by decide +kernel) ⟨Nat.le_of_ble_eq_true rfl, Nat.le_of_ble_eq_true rfl⟩) (g_preV hF hG hS (lay_main) rfl) rfl rfl hl.1 rfl (lv_room (Nat.le_of_ble_eq_true rfl)) dX5_placeAt_2 ⟨Nat.le_of_ble_eq_true rfl, Nat.le_of_ble_eq_true rfl⟩) (fun h_2 => ?_)
  refine lv_iload_n hx hb dX5_placeAt_5 rfl (lv_at hl 2 rfl) ?_
  refine va_csv (W.runS (As := [.int (nI t)]) (rest := []) ⟨hx, hb, hml, hown, hts⟩ (c_requireMinute l ht) (va_cwS 1 hts gX5_placeAt_X5_requireMinute rfl rfl rfl (by decide +kernel) ⟨Nat.le_of_ble_eq_true rfl, Nat.le_of_ble_eq_true rfl⟩) (g_preS hF hG hS) rfl rfl hl.1 rfl (lv_room (Nat.le_of_ble_eq_true rfl)) dX5_placeAt_6 ⟨Nat.le_of_ble_eq_true rfl, Nat.le_of_ble_eq_true rfl⟩) (fun h_4 => ?_)
  refine lv_aload_n hx hb dX5_placeAt_9 rfl (lv_at hl 0 rfl) ?_
  refine g_get hx hb hts hi5 hown hK hG (lay_main) rfl 0 (by decide) (hts (.fieldLink RX5 12 "Satellitering" "sky" "LSatellitering$Sky;") (by decide +kernel)) rfl dX5_placeAt_10 ?_
  refine lv_iload_n hx hb dX5_placeAt_13 rfl (lv_at hl 1 rfl) ?_
  refine lv_iload_n hx hb dX5_placeAt_14 rfl (lv_at hl 2 rfl) ?_
  refine vp_callSi (W.runV (As := [.int (nI a), .int (nI t)]) (rest := []) ⟨hx, hb, hml, hown, hts⟩ (c_placeOf l (show a < 10 by omega)) (cwV 2 hts gX5_placeAt_X2_placeOf rfl rfl rfl (by decide +kernel) ⟨Nat.le_of_ble_eq_true rfl, Nat.le_of_ble_eq_true rfl⟩) (g_preV hF hG hS (lay_sky) rfl) rfl rfl hl.1 rfl (lv_room (Nat.le_of_ble_eq_true rfl)) dX5_placeAt_15 ⟨Nat.le_of_ble_eq_true rfl, Nat.le_of_ble_eq_true rfl⟩) (fun r_5 h_6 => ?_)
  exact W.iret (v := r_5) hx hb hr (fun t9 ht9 hW9 => ⟨_, rfl, h_6, ht9⟩) (fun q h => nomatch h) dX5_placeAt_18

set_option maxHeartbeats 4000000 in
set_option maxRecDepth 100000 in
theorem c_see (l : Launch) {D : va_G} {C : g_C} {g : g_k → Nat → Int32} {ad ln : g_k → Nat} {ex : g_k → Option va_E} {B : Nat} {n : Nat} (hn : n ≤ 10) (hc : g (1, 0, 0) 4 = nI n) {a b t : Nat} (ha : a < n) (hb9 : b < n) (ht : t ≤ 1000000) : Met l yX5_see wsX5_see ({ frames := 3, cells := 0, slots := 0, locals := 66 } : Room) (va_Pc [.ref (ad (0, 0, 0)), .int (nI a), .int (nI b), .int (nI t)] (g_S D C (lay C g ad ln ex) ad B)) (vp_Si (fun r => r = if see g a b t = true then nI 1 else nI 0)) 0 0 (fun _ => False) := by
  refine Met.ofW (cc := cX5_see) (maxL := 4) (ret := (some .boolean)) (by decide) rfl ?_
  intro p e s m args below meth c s₁ B₀ hml hv
  obtain ⟨rfl, hG, hF⟩ := hv
  have hK := hF.1
  have hN := hF.2.1
  have hB := hF.2.2.2
  have hx := B₀.exec
  have hb := B₀.bytes
  have hr := B₀.returns
  have hts := atoms_spec (ws := wsX5_see) B₀.pre
  have hown : s.vm.findClass RX5 = some m.cls := findClass_of_methodNamed B₀.named
  have hlocks := B₀.notSynchronized
  have hS : va_S (g_A B) s.heap s.heap [] := va_S.rf
  have hi5 : ∀ w ∈ wsX50, w ∈ wsX5_see := by decide +kernel
  have hl := lv_entry [.ref (ad (0, 0, 0)), .int (nI a), .int (nI b), .int (nI t)] (n := 4) (Nat.le_of_ble_eq_true rfl)
  rw [lg_entry_eq]
  generalize (lg_sl [.ref (ad (0, 0, 0)), .int (nI a), .int (nI b), .int (nI t)] ++ List.replicate (4 - (lg_sl [.ref (ad (0, 0, 0)), .int (nI a), .int (nI b), .int (nI t)]).length) Slot.unset).toArray = ls at hl ⊢
  have hl : lv_has ls 4 [(0, .ref (ad (0, 0, 0))), (1, .int (nI a)), (2, .int (nI b)), (3, .int (nI t))] := hl
  refine lv_aload_n hx hb dX5_see_0 rfl (lv_at hl 0 rfl) ?_
  refine lv_iload_n hx hb dX5_see_1 rfl (lv_at hl 1 rfl) ?_
  refine lv_iload_n hx hb dX5_see_2 rfl (lv_at hl 2 rfl) ?_
  refine lv_iload_n hx hb dX5_see_3 rfl (lv_at hl 3 rfl) ?_
  refine va_csv (W.runV (As := [.int (nI a), .int (nI b), .int (nI t)]) (rest := []) ⟨hx, hb, hml, hown, hts⟩ (c_requireTwo l hn hc ha hb9 ht) (cwV 3 hts gX5_see_X5_requireTwoNodesAndMinute rfl rfl rfl (by decide +kernel) ⟨Nat.le_of_ble_eq_true rfl, Nat.le_of_ble_eq_true rfl⟩) (g_preV hF hG hS (lay_main) rfl) rfl rfl hl.1 rfl (lv_room (Nat.le_of_ble_eq_true rfl)) dX5_see_4 ⟨Nat.le_of_ble_eq_true rfl, Nat.le_of_ble_eq_true rfl⟩) (fun h_2 => ?_)
  refine lv_aload_n hx hb dX5_see_7 rfl (lv_at hl 0 rfl) ?_
  refine g_get hx hb hts hi5 hown hK hG (lay_main) rfl 0 (by decide) (hts (.fieldLink RX5 12 "Satellitering" "sky" "LSatellitering$Sky;") (by decide +kernel)) rfl dX5_see_8 ?_
  refine lv_iload_n hx hb dX5_see_11 rfl (lv_at hl 1 rfl) ?_
  refine lv_iload_n hx hb dX5_see_12 rfl (lv_at hl 2 rfl) ?_
  refine lv_iload_n hx hb dX5_see_13 rfl (lv_at hl 3 rfl) ?_
  refine vp_callSi (W.runV (As := [.int (nI a), .int (nI b), .int (nI t)]) (rest := []) ⟨hx, hb, hml, hown, hts⟩ (c_inContact l (show a < 10 by omega) (show b < 32 by omega) (show t < 2 ^ 31 by omega)) (cwV 3 hts gX5_see_X2_inContact rfl rfl rfl (by decide +kernel) ⟨Nat.le_of_ble_eq_true rfl, Nat.le_of_ble_eq_true rfl⟩) (g_preV hF hG hS (lay_sky) rfl) rfl rfl hl.1 rfl (lv_room (Nat.le_of_ble_eq_true rfl)) dX5_see_14 ⟨Nat.le_of_ble_eq_true rfl, Nat.le_of_ble_eq_true rfl⟩) (fun r_3 h_4 => ?_)
  exact W.zret (v := r_3) hx hb hr (by rw [show r_3 = _ from h_4]; split <;> rfl) (fun t9 ht9 hW9 => ⟨_, rfl, h_4, ht9⟩) (fun q h => nomatch h) dX5_see_17

set_option maxHeartbeats 4000000 in
set_option maxRecDepth 100000 in
theorem c_nextContact (l : Launch) {D : va_G} {C : g_C} {g : g_k → Nat → Int32} {ad ln : g_k → Nat} {ex : g_k → Option va_E} {B : Nat} {n : Nat} (hn : n ≤ 10) (hc : g (1, 0, 0) 4 = nI n) {a b t : Nat} (ha : a < n) (hb9 : b < n) (ht : t ≤ 1000000) : Met l yX5_nextContact wsX5_nextContact ({ frames := 3, cells := 0, slots := 0, locals := 69 } : Room) (va_Pc [.ref (ad (0, 0, 0)), .int (nI a), .int (nI b), .int (nI t)] (g_S D C (lay C g ad ln ex) ad B)) (vp_Si (fun r => (∃ k, k < 360 ∧ see g a b (t + k) = true ∧ (∀ j, j < k → see g a b (t + j) = false) ∧ r = nI (t + k)) ∨ ((∀ j, j < 360 → see g a b (t + j) = false) ∧ r = (-1)))) 0 0 (fun _ => False) := by
  refine Met.ofW (cc := cX5_nextContact) (maxL := 4) (ret := (some .int)) (by decide) rfl ?_
  intro p e s m args below meth c s₁ B₀ hml hv
  obtain ⟨rfl, hG, hF⟩ := hv
  have hK := hF.1
  have hN := hF.2.1
  have hB := hF.2.2.2
  have hx := B₀.exec
  have hb := B₀.bytes
  have hr := B₀.returns
  have hts := atoms_spec (ws := wsX5_nextContact) B₀.pre
  have hown : s.vm.findClass RX5 = some m.cls := findClass_of_methodNamed B₀.named
  have hlocks := B₀.notSynchronized
  have hS : va_S (g_A B) s.heap s.heap [] := va_S.rf
  have hi5 : ∀ w ∈ wsX50, w ∈ wsX5_nextContact := by decide +kernel
  have hl := lv_entry [.ref (ad (0, 0, 0)), .int (nI a), .int (nI b), .int (nI t)] (n := 4) (Nat.le_of_ble_eq_true rfl)
  rw [lg_entry_eq]
  generalize (lg_sl [.ref (ad (0, 0, 0)), .int (nI a), .int (nI b), .int (nI t)] ++ List.replicate (4 - (lg_sl [.ref (ad (0, 0, 0)), .int (nI a), .int (nI b), .int (nI t)]).length) Slot.unset).toArray = ls at hl ⊢
  have hl : lv_has ls 4 [(0, .ref (ad (0, 0, 0))), (1, .int (nI a)), (2, .int (nI b)), (3, .int (nI t))] := hl
  refine lv_aload_n hx hb dX5_nextContact_0 rfl (lv_at hl 0 rfl) ?_
  refine lv_iload_n hx hb dX5_nextContact_1 rfl (lv_at hl 1 rfl) ?_
  refine lv_iload_n hx hb dX5_nextContact_2 rfl (lv_at hl 2 rfl) ?_
  refine lv_iload_n hx hb dX5_nextContact_3 rfl (lv_at hl 3 rfl) ?_
  refine va_csv (W.runV (As := [.int (nI a), .int (nI b), .int (nI t)]) (rest := []) ⟨hx, hb, hml, hown, hts⟩ (c_requireTwo l hn hc ha hb9 ht) (cwV 3 hts gX5_nextContact_X5_requireTwoNodesAndMinute rfl rfl rfl (by decide +kernel) ⟨Nat.le_of_ble_eq_true rfl, Nat.le_of_ble_eq_true rfl⟩) (g_preV hF hG hS (lay_main) rfl) rfl rfl hl.1 rfl (lv_room (Nat.le_of_ble_eq_true rfl)) dX5_nextContact_4 ⟨Nat.le_of_ble_eq_true rfl, Nat.le_of_ble_eq_true rfl⟩) (fun h_2 => ?_)
  refine lv_aload_n hx hb dX5_nextContact_7 rfl (lv_at hl 0 rfl) ?_
  refine g_get hx hb hts hi5 hown hK hG (lay_main) rfl 0 (by decide) (hts (.fieldLink RX5 12 "Satellitering" "sky" "LSatellitering$Sky;") (by decide +kernel)) rfl dX5_nextContact_8 ?_
  refine lv_iload_n hx hb dX5_nextContact_11 rfl (lv_at hl 1 rfl) ?_
  refine lv_iload_n hx hb dX5_nextContact_12 rfl (lv_at hl 2 rfl) ?_
  refine lv_iload_n hx hb dX5_nextContact_13 rfl (lv_at hl 3 rfl) ?_
  refine vp_callSi (W.runV (As := [.int (nI a), .int (nI b), .int (nI t)]) (rest := []) ⟨hx, hb, hml, hown, hts⟩ (c_firstContact l (show a < 10 by omega) (show b < 32 by omega) (show t + 360 < 2 ^ 31 by omega)) (cwV 3 hts gX5_nextContact_X2_firstContact rfl rfl rfl (by decide +kernel) ⟨Nat.le_of_ble_eq_true rfl, Nat.le_of_ble_eq_true rfl⟩) (g_preV hF hG hS (lay_sky) rfl) rfl rfl hl.1 rfl (lv_room (Nat.le_of_ble_eq_true rfl)) dX5_nextContact_14 ⟨Nat.le_of_ble_eq_true rfl, Nat.le_of_ble_eq_true rfl⟩) (fun r_3 h_4 => ?_)
  exact W.iret (v := r_3) hx hb hr (fun t9 ht9 hW9 => ⟨_, rfl, h_4, ht9⟩) (fun q h => nomatch h) dX5_nextContact_17

set_option maxHeartbeats 4000000 in
set_option maxRecDepth 100000 in
theorem c_view (l : Launch) {D : va_G} {C : g_C} {g : g_k → Nat → Int32} {ad ln : g_k → Nat} {ex : g_k → Option va_E} {B : Nat} {n : Nat} (hn : n ≤ 10) (hc : g (1, 0, 0) 4 = nI n) {a b t : Nat} (ha : a < n) (hb9 : b < n) (ht : t ≤ 1000000) : Met l yX5_view wsX5_view ({ frames := 3, cells := 0, slots := 0, locals := 69 } : Room) (va_Pc [.ref (ad (0, 0, 0)), .int (nI a), .int (nI b), .int (nI t)] (g_S D C (lay C g ad ln ex) ad B)) (vp_Si (fun r => ∃ k, k ≤ 360 ∧ (∀ j, j < k → see g a b (t + j) = true) ∧ (k < 360 → see g a b (t + k) = false) ∧ r = nI k)) 0 0 (fun _ => False) := by
  refine Met.ofW (cc := cX5_view) (maxL := 4) (ret := (some .int)) (by decide) rfl ?_
  intro p e s m args below meth c s₁ B₀ hml hv
  obtain ⟨rfl, hG, hF⟩ := hv
  have hK := hF.1
  have hN := hF.2.1
  have hB := hF.2.2.2
  have hx := B₀.exec
  have hb := B₀.bytes
  have hr := B₀.returns
  have hts := atoms_spec (ws := wsX5_view) B₀.pre
  have hown : s.vm.findClass RX5 = some m.cls := findClass_of_methodNamed B₀.named
  have hlocks := B₀.notSynchronized
  have hS : va_S (g_A B) s.heap s.heap [] := va_S.rf
  have hi5 : ∀ w ∈ wsX50, w ∈ wsX5_view := by decide +kernel
  have hl := lv_entry [.ref (ad (0, 0, 0)), .int (nI a), .int (nI b), .int (nI t)] (n := 4) (Nat.le_of_ble_eq_true rfl)
  rw [lg_entry_eq]
  generalize (lg_sl [.ref (ad (0, 0, 0)), .int (nI a), .int (nI b), .int (nI t)] ++ List.replicate (4 - (lg_sl [.ref (ad (0, 0, 0)), .int (nI a), .int (nI b), .int (nI t)]).length) Slot.unset).toArray = ls at hl ⊢
  have hl : lv_has ls 4 [(0, .ref (ad (0, 0, 0))), (1, .int (nI a)), (2, .int (nI b)), (3, .int (nI t))] := hl
  refine lv_aload_n hx hb dX5_view_0 rfl (lv_at hl 0 rfl) ?_
  refine lv_iload_n hx hb dX5_view_1 rfl (lv_at hl 1 rfl) ?_
  refine lv_iload_n hx hb dX5_view_2 rfl (lv_at hl 2 rfl) ?_
  refine lv_iload_n hx hb dX5_view_3 rfl (lv_at hl 3 rfl) ?_
  refine va_csv (W.runV (As := [.int (nI a), .int (nI b), .int (nI t)]) (rest := []) ⟨hx, hb, hml, hown, hts⟩ (c_requireTwo l hn hc ha hb9 ht) (cwV 3 hts gX5_view_X5_requireTwoNodesAndMinute rfl rfl rfl (by decide +kernel) ⟨Nat.le_of_ble_eq_true rfl, Nat.le_of_ble_eq_true rfl⟩) (g_preV hF hG hS (lay_main) rfl) rfl rfl hl.1 rfl (lv_room (Nat.le_of_ble_eq_true rfl)) dX5_view_4 ⟨Nat.le_of_ble_eq_true rfl, Nat.le_of_ble_eq_true rfl⟩) (fun h_2 => ?_)
  refine lv_aload_n hx hb dX5_view_7 rfl (lv_at hl 0 rfl) ?_
  refine g_get hx hb hts hi5 hown hK hG (lay_main) rfl 0 (by decide) (hts (.fieldLink RX5 12 "Satellitering" "sky" "LSatellitering$Sky;") (by decide +kernel)) rfl dX5_view_8 ?_
  refine lv_iload_n hx hb dX5_view_11 rfl (lv_at hl 1 rfl) ?_
  refine lv_iload_n hx hb dX5_view_12 rfl (lv_at hl 2 rfl) ?_
  refine lv_iload_n hx hb dX5_view_13 rfl (lv_at hl 3 rfl) ?_
  refine vp_callSi (W.runV (As := [.int (nI a), .int (nI b), .int (nI t)]) (rest := []) ⟨hx, hb, hml, hown, hts⟩ (c_contactLength l (show a < 10 by omega) (show b < 32 by omega) (show t + 360 < 2 ^ 31 by omega)) (cwV 3 hts gX5_view_X2_contactLength rfl rfl rfl (by decide +kernel) ⟨Nat.le_of_ble_eq_true rfl, Nat.le_of_ble_eq_true rfl⟩) (g_preV hF hG hS (lay_sky) rfl) rfl rfl hl.1 rfl (lv_room (Nat.le_of_ble_eq_true rfl)) dX5_view_14 ⟨Nat.le_of_ble_eq_true rfl, Nat.le_of_ble_eq_true rfl⟩) (fun r_3 h_4 => ?_)
  exact W.iret (v := r_3) hx hb hr (fun t9 ht9 hW9 => ⟨_, rfl, h_4, ht9⟩) (fun q h => nomatch h) dX5_view_17

set_option maxHeartbeats 4000000 in
set_option maxRecDepth 100000 in
theorem c_arrival (l : Launch) {D : va_G} {C : g_C} {g : g_k → Nat → Int32} {ad ln : g_k → Nat} {ex : g_k → Option va_E} {B : Nat} {n : Nat} (hn : n ≤ 10) (hc : g (1, 0, 0) 4 = nI n) {a b t : Nat} (ha : a < n) (hb9 : b < n) (ht : t ≤ 1000000) : Met l yX5_arrival wsX5_arrival ({ frames := 5, cells := 0, slots := 0, locals := 120 } : Room) (va_Pc [.ref (ad (0, 0, 0)), .int (nI a), .int (nI b), .int (nI t)] (g_S D C (lay C g ad ln ex) ad B)) (va_Qi (fun (r : Int32) (g1 : g_k → Nat → Int32) => arr_P g n a t b r ∧ ∀ c, c ≠ (10, 0, 0) → g1 c = g c) (fun g1 t => g_P D (lay C g1 ad ln ex) ad B t.heap) (g_A B)) 0 0 (g_A B) := by
  refine Met.ofW (cc := cX5_arrival) (maxL := 4) (ret := (some .int)) (by decide) rfl ?_
  intro p e s m args below meth c s₁ B₀ hml hv
  obtain ⟨rfl, hG, hF⟩ := hv
  have hK := hF.1
  have hN := hF.2.1
  have hB := hF.2.2.2
  have hx := B₀.exec
  have hb := B₀.bytes
  have hr := B₀.returns
  have hts := atoms_spec (ws := wsX5_arrival) B₀.pre
  have hown : s.vm.findClass RX5 = some m.cls := findClass_of_methodNamed B₀.named
  have hlocks := B₀.notSynchronized
  have hS : va_S (g_A B) s.heap s.heap [] := va_S.rf
  have hi5 : ∀ w ∈ wsX50, w ∈ wsX5_arrival := by decide +kernel
  have hl := lv_entry [.ref (ad (0, 0, 0)), .int (nI a), .int (nI b), .int (nI t)] (n := 4) (Nat.le_of_ble_eq_true rfl)
  rw [lg_entry_eq]
  generalize (lg_sl [.ref (ad (0, 0, 0)), .int (nI a), .int (nI b), .int (nI t)] ++ List.replicate (4 - (lg_sl [.ref (ad (0, 0, 0)), .int (nI a), .int (nI b), .int (nI t)]).length) Slot.unset).toArray = ls at hl ⊢
  have hl : lv_has ls 4 [(0, .ref (ad (0, 0, 0))), (1, .int (nI a)), (2, .int (nI b)), (3, .int (nI t))] := hl
  refine lv_aload_n hx hb dX5_arrival_0 rfl (lv_at hl 0 rfl) ?_
  refine lv_iload_n hx hb dX5_arrival_1 rfl (lv_at hl 1 rfl) ?_
  refine lv_iload_n hx hb dX5_arrival_2 rfl (lv_at hl 2 rfl) ?_
  refine lv_iload_n hx hb dX5_arrival_3 rfl (lv_at hl 3 rfl) ?_
  refine va_csv (W.runV (As := [.int (nI a), .int (nI b), .int (nI t)]) (rest := []) ⟨hx, hb, hml, hown, hts⟩ (c_requireTwo l hn hc ha hb9 ht) (cwV 3 hts gX5_arrival_X5_requireTwoNodesAndMinute rfl rfl rfl (by decide +kernel) ⟨Nat.le_of_ble_eq_true rfl, Nat.le_of_ble_eq_true rfl⟩) (g_preV hF hG hS (lay_main) rfl) rfl rfl hl.1 rfl (lv_room (Nat.le_of_ble_eq_true rfl)) dX5_arrival_4 ⟨Nat.le_of_ble_eq_true rfl, Nat.le_of_ble_eq_true rfl⟩) (fun h_2 => ?_)
  refine lv_aload_n hx hb dX5_arrival_7 rfl (lv_at hl 0 rfl) ?_
  refine g_get hx hb hts hi5 hown hK hG (lay_main) rfl 1 (by decide) (hts (.fieldLink RX5 21 "Satellitering" "search" "LSatellitering$Search;") (by decide +kernel)) rfl dX5_arrival_8 ?_
  refine lv_iload_n hx hb dX5_arrival_11 rfl (lv_at hl 1 rfl) ?_
  refine lv_iload_n hx hb dX5_arrival_12 rfl (lv_at hl 2 rfl) ?_
  refine lv_iload_n hx hb dX5_arrival_13 rfl (lv_at hl 3 rfl) ?_
  refine va_calli (va_runV (As := [.int (nI a), .int (nI b), .int (nI t)]) (rest := []) ⟨hx, hb, hml, hown, hts⟩ (c_byContacts l hn hc ha hb9 (show t < 2 ^ 29 by omega)) (cwV 3 hts gX5_arrival_X1_byContacts rfl rfl rfl (by decide +kernel) ⟨Nat.le_of_ble_eq_true rfl, Nat.le_of_ble_eq_true rfl⟩) (g_preV hF hG hS (lay_search) rfl) rfl rfl hl.1 rfl (lv_room (Nat.le_of_ble_eq_true rfl)) dX5_arrival_14 ⟨Nat.le_of_ble_eq_true rfl, Nat.le_of_ble_eq_true rfl⟩) hS (fun q _ h => h) (fun q h => h) (fun r_3 g_5 t9 H locs ht9 _ h_4 hB1 _ _ hS => ?_)
  have hG : g_P D (lay C g_5 ad ln ex) ad B H := by rw [← ht9]; exact hB1
  exact W.iret (v := r_3) hx hb hr (fun t9 ht9 hW9 => ⟨⟨_, _, rfl, h_4, by show g_P _ _ _ _ t9.heap; rw [ht9]; exact hG⟩, hS.F ht9⟩) hS.2.2 dX5_arrival_17

set_option maxHeartbeats 4000000 in
set_option maxRecDepth 100000 in
theorem c_arrivalByFlooding (l : Launch) {D : va_G} {C : g_C} {g : g_k → Nat → Int32} {ad ln : g_k → Nat} {ex : g_k → Option va_E} {B : Nat} {n : Nat} (hn : n ≤ 10) (hc : g (1, 0, 0) 4 = nI n) {a b t : Nat} (ha : a < n) (hb9 : b < n) (ht : t ≤ 1000000) : Met l yX5_arrivalByFlooding wsX5_arrivalByFlooding ({ frames := 3, cells := 0, slots := 0, locals := 71 } : Room) (va_Pc [.ref (ad (0, 0, 0)), .int (nI a), .int (nI b), .int (nI t)] (g_S D C (lay C g ad ln ex) ad B)) (vp_Si (fun r => arr_P g n a t b r)) 0 0 (fun _ => False) := by
  refine Met.ofW (cc := cX5_arrivalByFlooding) (maxL := 4) (ret := (some .int)) (by decide) rfl ?_
  intro p e s m args below meth c s₁ B₀ hml hv
  obtain ⟨rfl, hG, hF⟩ := hv
  have hK := hF.1
  have hN := hF.2.1
  have hB := hF.2.2.2
  have hx := B₀.exec
  have hb := B₀.bytes
  have hr := B₀.returns
  have hts := atoms_spec (ws := wsX5_arrivalByFlooding) B₀.pre
  have hown : s.vm.findClass RX5 = some m.cls := findClass_of_methodNamed B₀.named
  have hlocks := B₀.notSynchronized
  have hS : va_S (g_A B) s.heap s.heap [] := va_S.rf
  have hi5 : ∀ w ∈ wsX50, w ∈ wsX5_arrivalByFlooding := by decide +kernel
  have hl := lv_entry [.ref (ad (0, 0, 0)), .int (nI a), .int (nI b), .int (nI t)] (n := 4) (Nat.le_of_ble_eq_true rfl)
  rw [lg_entry_eq]
  generalize (lg_sl [.ref (ad (0, 0, 0)), .int (nI a), .int (nI b), .int (nI t)] ++ List.replicate (4 - (lg_sl [.ref (ad (0, 0, 0)), .int (nI a), .int (nI b), .int (nI t)]).length) Slot.unset).toArray = ls at hl ⊢
  have hl : lv_has ls 4 [(0, .ref (ad (0, 0, 0))), (1, .int (nI a)), (2, .int (nI b)), (3, .int (nI t))] := hl
  refine lv_aload_n hx hb dX5_arrivalByFlooding_0 rfl (lv_at hl 0 rfl) ?_
  refine lv_iload_n hx hb dX5_arrivalByFlooding_1 rfl (lv_at hl 1 rfl) ?_
  refine lv_iload_n hx hb dX5_arrivalByFlooding_2 rfl (lv_at hl 2 rfl) ?_
  refine lv_iload_n hx hb dX5_arrivalByFlooding_3 rfl (lv_at hl 3 rfl) ?_
  refine va_csv (W.runV (As := [.int (nI a), .int (nI b), .int (nI t)]) (rest := []) ⟨hx, hb, hml, hown, hts⟩ (c_requireTwo l hn hc ha hb9 ht) (cwV 3 hts gX5_arrivalByFlooding_X5_requireTwoNodesAndMinute rfl rfl rfl (by decide +kernel) ⟨Nat.le_of_ble_eq_true rfl, Nat.le_of_ble_eq_true rfl⟩) (g_preV hF hG hS (lay_main) rfl) rfl rfl hl.1 rfl (lv_room (Nat.le_of_ble_eq_true rfl)) dX5_arrivalByFlooding_4 ⟨Nat.le_of_ble_eq_true rfl, Nat.le_of_ble_eq_true rfl⟩) (fun h_2 => ?_)
  refine lv_aload_n hx hb dX5_arrivalByFlooding_7 rfl (lv_at hl 0 rfl) ?_
  refine g_get hx hb hts hi5 hown hK hG (lay_main) rfl 1 (by decide) (hts (.fieldLink RX5 21 "Satellitering" "search" "LSatellitering$Search;") (by decide +kernel)) rfl dX5_arrivalByFlooding_8 ?_
  refine lv_iload_n hx hb dX5_arrivalByFlooding_11 rfl (lv_at hl 1 rfl) ?_
  refine lv_iload_n hx hb dX5_arrivalByFlooding_12 rfl (lv_at hl 2 rfl) ?_
  refine lv_iload_n hx hb dX5_arrivalByFlooding_13 rfl (lv_at hl 3 rfl) ?_
  refine vp_callSi (W.runV (As := [.int (nI a), .int (nI b), .int (nI t)]) (rest := []) ⟨hx, hb, hml, hown, hts⟩ (c_byFlooding l hn hc (show a < 32 by omega) (show b < 32 by omega) (show t < 2 ^ 30 by omega)) (cwV 3 hts gX5_arrivalByFlooding_X1_byFlooding rfl rfl rfl (by decide +kernel) ⟨Nat.le_of_ble_eq_true rfl, Nat.le_of_ble_eq_true rfl⟩) (g_preV hF hG hS (lay_search) rfl) rfl rfl hl.1 rfl (lv_room (Nat.le_of_ble_eq_true rfl)) dX5_arrivalByFlooding_14 ⟨Nat.le_of_ble_eq_true rfl, Nat.le_of_ble_eq_true rfl⟩) (fun r_3 h_4 => ?_)
  exact W.iret (v := r_3) hx hb hr (fun t9 ht9 hW9 => ⟨_, rfl, h_4, ht9⟩) (fun q h => nomatch h) dX5_arrivalByFlooding_17

def bc1 (x : Int32) : Int32 := x - ((x.toUInt32 >>> ((nI 1).toUInt32 &&& Int32.toUInt32 31)).toInt32 &&& 1431655765)
def bc2 (x : Int32) : Int32 := (x &&& 858993459) + ((x.toUInt32 >>> ((nI 2).toUInt32 &&& Int32.toUInt32 31)).toInt32 &&& 858993459)
def bc3 (x : Int32) : Int32 := x + (x.toUInt32 >>> ((nI 4).toUInt32 &&& Int32.toUInt32 31)).toInt32 &&& 252645135
def bc4 (x : Int32) : Int32 := x + (x.toUInt32 >>> ((nI 8).toUInt32 &&& Int32.toUInt32 31)).toInt32
def bc5 (x : Int32) : Int32 := x + (x.toUInt32 >>> ((nI 16).toUInt32 &&& Int32.toUInt32 31)).toInt32
def bc6 (x : Int32) : Int32 := bc5 (bc4 (bc3 (bc2 (bc1 x)))) &&& nI 63
theorem bc_ok : ∀ v, v < 1024 → bc6 (nI v) = nI (b_cnt (nI v) 10) := by decide +kernel
theorem b_small {x : Int32} (h : ∀ i, 10 ≤ i → i < 32 → bt x i = false) : ∃ v, v < 1024 ∧ x = nI v := by
  obtain ⟨j, hj, e⟩ := pk_andE x (m := nI 1023) 10 (by decide +kernel)
  refine ⟨j, hj, ?_⟩
  rw [← e]
  refine b_ext (fun i hi => ?_)
  rw [b_and]
  have e2 : ∀ i, i < 32 → bt (nI 1023) i = decide (i < 10) := by decide +kernel
  rw [e2 i hi]
  by_cases h9 : i < 10
  · simp [h9]
  · rw [h i (by omega) hi]; simp [h9]
theorem bc_of {x : Int32} (h : ∀ i, 10 ≤ i → i < 32 → bt x i = false) : bc6 x = nI (b_cnt x 10) := by
  obtain ⟨v, hv, rfl⟩ := b_small h
  exact bc_ok v hv
theorem fl_lt {g : g_k → Nat → Int32} {n a t : Nat} (hn : n ≤ 10) (hk : sk1 g n) (ha : a < n) : ∀ k v, v < 32 → fl g n a t k v → v < n
  | 0, v, hv, h => by
    have := (fl_0 (by omega) hv).mp h
    omega
  | k + 1, v, hv, h => by
    rcases fl_s.mp h with h | ⟨u, hu, h1, h2⟩
    · exact fl_lt hn hk ha k v hv h
    · exact (hk u v _ (by omega) hv h2).2.1

set_option maxHeartbeats 4000000 in
set_option maxRecDepth 100000 in
theorem c_bitCount (l : Launch) {D : va_G} {C : g_C} {g : g_k → Nat → Int32} {ad ln : g_k → Nat} {ex : g_k → Option va_E} {B : Nat} {x : Int32} : Met l yJ6_bitCount_0f7a4 wsJ6_bitCount_0f7a4 ({ frames := 0, cells := 0, slots := 0, locals := 0 } : Room) (va_Pc [.int x] (g_S D C (lay C g ad ln ex) ad B)) (vp_Si (fun r => r = bc6 x)) 0 0 (fun _ => False) := by
  refine g_ofWF (cc := cJ6_bitCount_0f7a4) (maxL := 1) (ret := (some .int)) (by decide +kernel) rfl ?_
  intro p e s m args below meth c s₁ B₀ hml hv
  obtain ⟨rfl, hG, hF⟩ := hv
  have hK := hF.1
  have hN := hF.2.1
  have hB := hF.2.2.2
  have hx := B₀.exec
  have hb := B₀.bytes
  have hr := B₀.returns
  have hts := atoms_spec (ws := wsJ6_bitCount_0f7a4) B₀.pre
  have hown : s.vm.findClass RJ6 = some m.cls := findClass_of_methodNamed B₀.named
  have hlocks := B₀.notSynchronized
  have hS : va_S (g_A B) s.heap s.heap [] := va_S.rf
  have hl := lv_entry [.int x] (n := 1) (Nat.le_of_ble_eq_true rfl)
  rw [lg_entry_eq]
  generalize (lg_sl [.int x] ++ List.replicate (1 - (lg_sl [.int x]).length) Slot.unset).toArray = ls at hl ⊢
  have hl : lv_has ls 1 [(0, .int x)] := hl
  refine lv_iload_n hx hb dJ6_bitCount_0f7a4_0 rfl (lv_at hl 0 rfl) ?_
  refine lv_iload_n hx hb dJ6_bitCount_0f7a4_1 rfl (lv_at hl 0 rfl) ?_
  refine lv_iconst (v := nI 1) hx hb dJ6_bitCount_0f7a4_2 (by decide) ?_
  refine lv_iushr hx hb dJ6_bitCount_0f7a4_3 (v := (x.toUInt32 >>> ((nI 1).toUInt32 &&& Int32.toUInt32 31)).toInt32) rfl ?_
  refine lv_ldcw (v := 1431655765) hx hb hown (hts (.constant RJ6 265 (1431655765)) (by decide +kernel)) dJ6_bitCount_0f7a4_4 ?_
  refine lv_iand hx hb dJ6_bitCount_0f7a4_7 ?_
  refine lv_isub hx hb dJ6_bitCount_0f7a4_8 ?_
  refine lv_to (y := bc1 x) (rfl) ?_
  refine lv_istore_n (lv' := [(0, .int (bc1 x))]) hx hb dJ6_bitCount_0f7a4_9 rfl hl (by decide) rfl (fun ls hl => ?_)
  refine lv_iload_n hx hb dJ6_bitCount_0f7a4_10 rfl (lv_at hl 0 rfl) ?_
  refine lv_ldcw (v := 858993459) hx hb hown (hts (.constant RJ6 266 (858993459)) (by decide +kernel)) dJ6_bitCount_0f7a4_11 ?_
  refine lv_to (y := nI 858993459) (by decide) ?_
  refine lv_iand hx hb dJ6_bitCount_0f7a4_14 ?_
  refine lv_iload_n hx hb dJ6_bitCount_0f7a4_15 rfl (lv_at hl 0 rfl) ?_
  refine lv_iconst (v := nI 2) hx hb dJ6_bitCount_0f7a4_16 (by decide) ?_
  refine lv_iushr hx hb dJ6_bitCount_0f7a4_17 (v := ((bc1 x).toUInt32 >>> ((nI 2).toUInt32 &&& Int32.toUInt32 31)).toInt32) rfl ?_
  refine lv_ldcw (v := 858993459) hx hb hown (hts (.constant RJ6 266 (858993459)) (by decide +kernel)) dJ6_bitCount_0f7a4_18 ?_
  refine lv_to (y := nI 858993459) (by decide) ?_
  refine lv_iand hx hb dJ6_bitCount_0f7a4_21 ?_
  refine lv_iadd hx hb dJ6_bitCount_0f7a4_22 ?_
  refine lv_to (y := bc2 (bc1 x)) (rfl) ?_
  refine lv_istore_n (lv' := [(0, .int (bc2 (bc1 x)))]) hx hb dJ6_bitCount_0f7a4_23 rfl hl (by decide) rfl (fun ls hl => ?_)
  refine lv_iload_n hx hb dJ6_bitCount_0f7a4_24 rfl (lv_at hl 0 rfl) ?_
  refine lv_iload_n hx hb dJ6_bitCount_0f7a4_25 rfl (lv_at hl 0 rfl) ?_
  refine lv_iconst (v := nI 4) hx hb dJ6_bitCount_0f7a4_26 (by decide) ?_
  refine lv_iushr hx hb dJ6_bitCount_0f7a4_27 (v := ((bc2 (bc1 x)).toUInt32 >>> ((nI 4).toUInt32 &&& Int32.toUInt32 31)).toInt32) rfl ?_
  refine lv_iadd hx hb dJ6_bitCount_0f7a4_28 ?_
  refine lv_ldcw (v := 252645135) hx hb hown (hts (.constant RJ6 267 (252645135)) (by decide +kernel)) dJ6_bitCount_0f7a4_29 ?_
  refine lv_to (y := nI 252645135) (by decide) ?_
  refine lv_iand hx hb dJ6_bitCount_0f7a4_32 ?_
  refine lv_to (y := bc3 (bc2 (bc1 x))) (rfl) ?_
  refine lv_istore_n (lv' := [(0, .int (bc3 (bc2 (bc1 x))))]) hx hb dJ6_bitCount_0f7a4_33 rfl hl (by decide) rfl (fun ls hl => ?_)
  refine lv_iload_n hx hb dJ6_bitCount_0f7a4_34 rfl (lv_at hl 0 rfl) ?_
  refine lv_iload_n hx hb dJ6_bitCount_0f7a4_35 rfl (lv_at hl 0 rfl) ?_
  refine lv_bipush (v := nI 8) hx hb dJ6_bitCount_0f7a4_36 (by decide) ?_
  refine lv_iushr hx hb dJ6_bitCount_0f7a4_38 (v := ((bc3 (bc2 (bc1 x))).toUInt32 >>> ((nI 8).toUInt32 &&& Int32.toUInt32 31)).toInt32) rfl ?_
  refine lv_iadd hx hb dJ6_bitCount_0f7a4_39 ?_
  refine lv_to (y := bc4 (bc3 (bc2 (bc1 x)))) (rfl) ?_
  refine lv_istore_n (lv' := [(0, .int (bc4 (bc3 (bc2 (bc1 x)))))]) hx hb dJ6_bitCount_0f7a4_40 rfl hl (by decide) rfl (fun ls hl => ?_)
  refine lv_iload_n hx hb dJ6_bitCount_0f7a4_41 rfl (lv_at hl 0 rfl) ?_
  refine lv_iload_n hx hb dJ6_bitCount_0f7a4_42 rfl (lv_at hl 0 rfl) ?_
  refine lv_bipush (v := nI 16) hx hb dJ6_bitCount_0f7a4_43 (by decide) ?_
  refine lv_iushr hx hb dJ6_bitCount_0f7a4_45 (v := ((bc4 (bc3 (bc2 (bc1 x)))).toUInt32 >>> ((nI 16).toUInt32 &&& Int32.toUInt32 31)).toInt32) rfl ?_
  refine lv_iadd hx hb dJ6_bitCount_0f7a4_46 ?_
  refine lv_to (y := bc5 (bc4 (bc3 (bc2 (bc1 x))))) (rfl) ?_
  refine lv_istore_n (lv' := [(0, .int (bc5 (bc4 (bc3 (bc2 (bc1 x))))))]) hx hb dJ6_bitCount_0f7a4_47 rfl hl (by decide) rfl (fun ls hl => ?_)
  refine lv_iload_n hx hb dJ6_bitCount_0f7a4_48 rfl (lv_at hl 0 rfl) ?_
  refine lv_bipush (v := nI 63) hx hb dJ6_bitCount_0f7a4_49 (by decide) ?_
  refine lv_iand hx hb dJ6_bitCount_0f7a4_51 ?_
  refine lv_to (y := bc6 x) (rfl) ?_
  exact W.iret (v := bc6 x) hx hb hr (fun t9 ht9 hW9 => ⟨_, rfl, rfl, ht9⟩) (fun q h => nomatch h) dJ6_bitCount_0f7a4_52

set_option maxHeartbeats 4000000 in
set_option maxRecDepth 100000 in
theorem c_spread (l : Launch) {D : va_G} {C : g_C} {g : g_k → Nat → Int32} {ad ln : g_k → Nat} {ex : g_k → Option va_E} {B : Nat} {n : Nat} (hn : n ≤ 10) (hc : g (1, 0, 0) 4 = nI n) (hsk : sk1 g n) {a t k : Nat} (ha : a < n) (ht : t ≤ 1000000) (hk9 : k ≤ 400) : Met l yX5_spread wsX5_spread ({ frames := 3, cells := 0, slots := 0, locals := 71 } : Room) (va_Pc [.ref (ad (0, 0, 0)), .int (nI a), .int (nI t), .int (nI k)] (g_S D C (lay C g ad ln ex) ad B)) (vp_Si (fun r => r = nI (b_cnt (flI g n a t k) 10))) 0 0 (fun _ => False) := by
  refine Met.ofW (cc := cX5_spread) (maxL := 4) (ret := (some .int)) (by decide) rfl ?_
  intro p e s m args below meth c s₁ B₀ hml hv
  obtain ⟨rfl, hG, hF⟩ := hv
  have hK := hF.1
  have hN := hF.2.1
  have hB := hF.2.2.2
  have hx := B₀.exec
  have hb := B₀.bytes
  have hr := B₀.returns
  have hts := atoms_spec (ws := wsX5_spread) B₀.pre
  have hown : s.vm.findClass RX5 = some m.cls := findClass_of_methodNamed B₀.named
  have hlocks := B₀.notSynchronized
  have hS : va_S (g_A B) s.heap s.heap [] := va_S.rf
  have hi5 : ∀ w ∈ wsX50, w ∈ wsX5_spread := by decide +kernel
  have hl := lv_entry [.ref (ad (0, 0, 0)), .int (nI a), .int (nI t), .int (nI k)] (n := 4) (Nat.le_of_ble_eq_true rfl)
  rw [lg_entry_eq]
  generalize (lg_sl [.ref (ad (0, 0, 0)), .int (nI a), .int (nI t), .int (nI k)] ++ List.replicate (4 - (lg_sl [.ref (ad (0, 0, 0)), .int (nI a), .int (nI t), .int (nI k)]).length) Slot.unset).toArray = ls at hl ⊢
  have hl : lv_has ls 4 [(0, .ref (ad (0, 0, 0))), (1, .int (nI a)), (2, .int (nI t)), (3, .int (nI k))] := hl
  refine lv_aload_n hx hb dX5_spread_0 rfl (lv_at hl 0 rfl) ?_
  refine lv_iload_n hx hb dX5_spread_1 rfl (lv_at hl 1 rfl) ?_
  refine va_csv (W.runV (As := [.int (nI a)]) (rest := []) ⟨hx, hb, hml, hown, hts⟩ (c_requireNode l hn hc ha) (cwV 1 hts gX5_spread_X5_requireNode rfl rfl rfl (by decide +kernel) ⟨Nat.le_of_ble_eq_true rfl, Nat.le_of_ble_eq_true rfl⟩) (g_preV hF hG hS (lay_main) rfl) rfl rfl hl.1 rfl (lv_room (Nat.le_of_ble_eq_true rfl)) dX5_spread_2 ⟨Nat.le_of_ble_eq_true rfl, Nat.le_of_ble_eq_true rfl⟩) (fun h_2 => ?_)
  refine lv_iload_n hx hb dX5_spread_5 rfl (lv_at hl 2 rfl) ?_
  refine va_csv (W.runS (As := [.int (nI t)]) (rest := []) ⟨hx, hb, hml, hown, hts⟩ (c_requireMinute l ht) (va_cwS 1 hts gX5_spread_X5_requireMinute rfl rfl rfl (by decide +kernel) ⟨Nat.le_of_ble_eq_true rfl, Nat.le_of_ble_eq_true rfl⟩) (g_preS hF hG hS) rfl rfl hl.1 rfl (lv_room (Nat.le_of_ble_eq_true rfl)) dX5_spread_6 ⟨Nat.le_of_ble_eq_true rfl, Nat.le_of_ble_eq_true rfl⟩) (fun h_4 => ?_)
  refine lv_iload_n hx hb dX5_spread_9 rfl (lv_at hl 3 rfl) ?_
  refine lv_iconst (v := nI 0) hx hb dX5_spread_10 (by decide) ?_
  refine lv_sipush (v := nI 400) hx hb dX5_spread_11 (by decide) ?_
  refine vp_callSi (W.runS (As := [.int (nI k), .int (nI 0), .int (nI 400)]) (rest := []) ⟨hx, hb, hml, hown, hts⟩ (c_inRange l ) (va_cwS 3 hts gX5_spread_X5_inRange rfl rfl rfl (by decide +kernel) ⟨Nat.le_of_ble_eq_true rfl, Nat.le_of_ble_eq_true rfl⟩) (g_preS hF hG hS) rfl rfl hl.1 rfl (lv_room (Nat.le_of_ble_eq_true rfl)) dX5_spread_14 ⟨Nat.le_of_ble_eq_true rfl, Nat.le_of_ble_eq_true rfl⟩) (fun r_5 h_6 => ?_)
  refine lv_to (y := nI 1) (h_6.trans (if_pos (⟨nI_le (Nat.zero_le k) (by omega), nI_le hk9 (by decide)⟩))) ?_
  refine va_csv (W.runS (As := [.int (nI 1)]) (rest := []) ⟨hx, hb, hml, hown, hts⟩ (c_requireArgument l ) (va_cwS 1 hts gX5_spread_X5_requireArgument rfl rfl rfl (by decide +kernel) ⟨Nat.le_of_ble_eq_true rfl, Nat.le_of_ble_eq_true rfl⟩) (g_preS hF hG hS) rfl rfl hl.1 rfl (lv_room (Nat.le_of_ble_eq_true rfl)) dX5_spread_17 ⟨Nat.le_of_ble_eq_true rfl, Nat.le_of_ble_eq_true rfl⟩) (fun h_8 => ?_)
  refine lv_aload_n hx hb dX5_spread_20 rfl (lv_at hl 0 rfl) ?_
  refine g_get hx hb hts hi5 hown hK hG (lay_main) rfl 1 (by decide) (hts (.fieldLink RX5 21 "Satellitering" "search" "LSatellitering$Search;") (by decide +kernel)) rfl dX5_spread_21 ?_
  refine lv_iload_n hx hb dX5_spread_24 rfl (lv_at hl 1 rfl) ?_
  refine lv_iload_n hx hb dX5_spread_25 rfl (lv_at hl 2 rfl) ?_
  refine lv_iload_n hx hb dX5_spread_26 rfl (lv_at hl 3 rfl) ?_
  refine vp_callSi (W.runV (As := [.int (nI a), .int (nI t), .int (nI k)]) (rest := []) ⟨hx, hb, hml, hown, hts⟩ (c_flooded l hn hc (show a < 32 by omega) (show k < 2 ^ 30 by omega) (show t < 2 ^ 30 by omega)) (cwV 3 hts gX5_spread_X1_flooded rfl rfl rfl (by decide +kernel) ⟨Nat.le_of_ble_eq_true rfl, Nat.le_of_ble_eq_true rfl⟩) (g_preV hF hG hS (lay_search) rfl) rfl rfl hl.1 rfl (lv_room (Nat.le_of_ble_eq_true rfl)) dX5_spread_27 ⟨Nat.le_of_ble_eq_true rfl, Nat.le_of_ble_eq_true rfl⟩) (fun r_9 h_10 => ?_)
  refine lv_to (y := flI g n a t k) (h_10) ?_
  refine vp_callSi (W.runS (As := [.int (flI g n a t k)]) (rest := []) ⟨hx, hb, hml, hown, hts⟩ (c_bitCount l ) (va_cwS 1 hts gX5_spread_J6_bitCount_0f7a4 rfl rfl rfl (by decide +kernel) ⟨Nat.le_of_ble_eq_true rfl, Nat.le_of_ble_eq_true rfl⟩) (g_preS hF hG hS) rfl rfl hl.1 rfl (lv_room (Nat.le_of_ble_eq_true rfl)) dX5_spread_30 ⟨Nat.le_of_ble_eq_true rfl, Nat.le_of_ble_eq_true rfl⟩) (fun r_11 h_12 => ?_)
  exact W.iret (v := r_11) hx hb hr (fun t9 ht9 hW9 => ⟨_, rfl, h_12.trans (bc_of (fun i i1 i2 => eq_false_of_ne_true (fun z => absurd (fl_lt hn hsk ha k i i2 z) (by omega)))), ht9⟩) (fun q h => nomatch h) dX5_spread_33

set_option maxHeartbeats 4000000 in
set_option maxRecDepth 100000 in
theorem c_nodeOf (l : Launch) {D : va_G} {C : g_C} {g : g_k → Nat → Int32} {ad ln : g_k → Nat} {ex : g_k → Option va_E} {B : Nat} {M : Nat} (hM : ln (5, 0, 0) = M) (hM20 : M ≤ 20) (hs : g (0, 0, 0) 7 = nI M) {a : Nat} (ha : a < M) : Met l yX5_nodeOf wsX5_nodeOf ({ frames := 2, cells := 0, slots := 0, locals := 43 } : Room) (va_Pc [.ref (ad (0, 0, 0)), .int (nI a)] (g_S D C (lay C g ad ln ex) ad B)) (vp_Si (fun r => r = g (40, a, 0) 2)) 0 0 (fun _ => False) := by
  refine Met.ofW (cc := cX5_nodeOf) (maxL := 2) (ret := (some .int)) (by decide) rfl ?_
  intro p e s m args below meth c s₁ B₀ hml hv
  obtain ⟨rfl, hG, hF⟩ := hv
  have hK := hF.1
  have hN := hF.2.1
  have hB := hF.2.2.2
  have hx := B₀.exec
  have hb := B₀.bytes
  have hr := B₀.returns
  have hts := atoms_spec (ws := wsX5_nodeOf) B₀.pre
  have hown : s.vm.findClass RX5 = some m.cls := findClass_of_methodNamed B₀.named
  have hlocks := B₀.notSynchronized
  have hS : va_S (g_A B) s.heap s.heap [] := va_S.rf
  have hi0 : ∀ w ∈ wsX00, w ∈ wsX5_nodeOf := by decide +kernel
  have hl := lv_entry [.ref (ad (0, 0, 0)), .int (nI a)] (n := 2) (Nat.le_of_ble_eq_true rfl)
  rw [lg_entry_eq]
  generalize (lg_sl [.ref (ad (0, 0, 0)), .int (nI a)] ++ List.replicate (2 - (lg_sl [.ref (ad (0, 0, 0)), .int (nI a)]).length) Slot.unset).toArray = ls at hl ⊢
  have hl : lv_has ls 2 [(0, .ref (ad (0, 0, 0))), (1, .int (nI a))] := hl
  refine lv_aload_n hx hb dX5_nodeOf_0 rfl (lv_at hl 0 rfl) ?_
  refine lv_iload_n hx hb dX5_nodeOf_1 rfl (lv_at hl 1 rfl) ?_
  refine va_csr (W.runV (As := [.int (nI a)]) (rest := []) ⟨hx, hb, hml, hown, hts⟩ (c_requireMessage l hM hM20 hs ha) (cwV 1 hts gX5_nodeOf_X5_requireMessage rfl rfl rfl (by decide +kernel) ⟨Nat.le_of_ble_eq_true rfl, Nat.le_of_ble_eq_true rfl⟩) (g_preV hF hG hS (lay_main) rfl) rfl rfl hl.1 rfl (lv_room (Nat.le_of_ble_eq_true rfl)) dX5_nodeOf_2 ⟨Nat.le_of_ble_eq_true rfl, Nat.le_of_ble_eq_true rfl⟩) (fun k_3 h_2 => ?_)
  rw [show k_3 = a from h_2]
  refine g_getN hx hb hts hi0 hown hK hG (lay_msg (show a < ln (5, 0, 0) by omega)) rfl 2 (by decide) (va_Nw.use rfl hN.2.1) rfl dX5_nodeOf_5 ?_
  exact W.iret (v := g (40, a, 0) 2) hx hb hr (fun t9 ht9 hW9 => ⟨_, rfl, rfl, ht9⟩) (fun q h => nomatch h) dX5_nodeOf_8

set_option maxHeartbeats 4000000 in
set_option maxRecDepth 100000 in
theorem c_hops (l : Launch) {D : va_G} {C : g_C} {g : g_k → Nat → Int32} {ad ln : g_k → Nat} {ex : g_k → Option va_E} {B : Nat} {M : Nat} (hM : ln (5, 0, 0) = M) (hM20 : M ≤ 20) (hs : g (0, 0, 0) 7 = nI M) {a : Nat} (ha : a < M) : Met l yX5_hops wsX5_hops ({ frames := 2, cells := 0, slots := 0, locals := 43 } : Room) (va_Pc [.ref (ad (0, 0, 0)), .int (nI a)] (g_S D C (lay C g ad ln ex) ad B)) (vp_Si (fun r => r = g (40, a, 0) 5)) 0 0 (fun _ => False) := by
  refine Met.ofW (cc := cX5_hops) (maxL := 2) (ret := (some .int)) (by decide) rfl ?_
  intro p e s m args below meth c s₁ B₀ hml hv
  obtain ⟨rfl, hG, hF⟩ := hv
  have hK := hF.1
  have hN := hF.2.1
  have hB := hF.2.2.2
  have hx := B₀.exec
  have hb := B₀.bytes
  have hr := B₀.returns
  have hts := atoms_spec (ws := wsX5_hops) B₀.pre
  have hown : s.vm.findClass RX5 = some m.cls := findClass_of_methodNamed B₀.named
  have hlocks := B₀.notSynchronized
  have hS : va_S (g_A B) s.heap s.heap [] := va_S.rf
  have hi0 : ∀ w ∈ wsX00, w ∈ wsX5_hops := by decide +kernel
  have hl := lv_entry [.ref (ad (0, 0, 0)), .int (nI a)] (n := 2) (Nat.le_of_ble_eq_true rfl)
  rw [lg_entry_eq]
  generalize (lg_sl [.ref (ad (0, 0, 0)), .int (nI a)] ++ List.replicate (2 - (lg_sl [.ref (ad (0, 0, 0)), .int (nI a)]).length) Slot.unset).toArray = ls at hl ⊢
  have hl : lv_has ls 2 [(0, .ref (ad (0, 0, 0))), (1, .int (nI a))] := hl
  refine lv_aload_n hx hb dX5_hops_0 rfl (lv_at hl 0 rfl) ?_
  refine lv_iload_n hx hb dX5_hops_1 rfl (lv_at hl 1 rfl) ?_
  refine va_csr (W.runV (As := [.int (nI a)]) (rest := []) ⟨hx, hb, hml, hown, hts⟩ (c_requireMessage l hM hM20 hs ha) (cwV 1 hts gX5_hops_X5_requireMessage rfl rfl rfl (by decide +kernel) ⟨Nat.le_of_ble_eq_true rfl, Nat.le_of_ble_eq_true rfl⟩) (g_preV hF hG hS (lay_main) rfl) rfl rfl hl.1 rfl (lv_room (Nat.le_of_ble_eq_true rfl)) dX5_hops_2 ⟨Nat.le_of_ble_eq_true rfl, Nat.le_of_ble_eq_true rfl⟩) (fun k_3 h_2 => ?_)
  rw [show k_3 = a from h_2]
  refine g_getN hx hb hts hi0 hown hK hG (lay_msg (show a < ln (5, 0, 0) by omega)) rfl 5 (by decide) (va_Nw.use rfl hN.2.2.2.1) rfl dX5_hops_5 ?_
  exact W.iret (v := g (40, a, 0) 5) hx hb hr (fun t9 ht9 hW9 => ⟨_, rfl, rfl, ht9⟩) (fun q h => nomatch h) dX5_hops_8

set_option maxHeartbeats 4000000 in
set_option maxRecDepth 100000 in
theorem c_blocked (l : Launch) {D : va_G} {C : g_C} {g : g_k → Nat → Int32} {ad ln : g_k → Nat} {ex : g_k → Option va_E} {B : Nat} {M : Nat} (hM : ln (5, 0, 0) = M) (hM20 : M ≤ 20) (hs : g (0, 0, 0) 7 = nI M) {a : Nat} (ha : a < M) : Met l yX5_blocked wsX5_blocked ({ frames := 2, cells := 0, slots := 0, locals := 43 } : Room) (va_Pc [.ref (ad (0, 0, 0)), .int (nI a)] (g_S D C (lay C g ad ln ex) ad B)) (vp_Si (fun r => r = g (40, a, 0) 4)) 0 0 (fun _ => False) := by
  refine Met.ofW (cc := cX5_blocked) (maxL := 2) (ret := (some .int)) (by decide) rfl ?_
  intro p e s m args below meth c s₁ B₀ hml hv
  obtain ⟨rfl, hG, hF⟩ := hv
  have hK := hF.1
  have hN := hF.2.1
  have hB := hF.2.2.2
  have hx := B₀.exec
  have hb := B₀.bytes
  have hr := B₀.returns
  have hts := atoms_spec (ws := wsX5_blocked) B₀.pre
  have hown : s.vm.findClass RX5 = some m.cls := findClass_of_methodNamed B₀.named
  have hlocks := B₀.notSynchronized
  have hS : va_S (g_A B) s.heap s.heap [] := va_S.rf
  have hi0 : ∀ w ∈ wsX00, w ∈ wsX5_blocked := by decide +kernel
  have hl := lv_entry [.ref (ad (0, 0, 0)), .int (nI a)] (n := 2) (Nat.le_of_ble_eq_true rfl)
  rw [lg_entry_eq]
  generalize (lg_sl [.ref (ad (0, 0, 0)), .int (nI a)] ++ List.replicate (2 - (lg_sl [.ref (ad (0, 0, 0)), .int (nI a)]).length) Slot.unset).toArray = ls at hl ⊢
  have hl : lv_has ls 2 [(0, .ref (ad (0, 0, 0))), (1, .int (nI a))] := hl
  refine lv_aload_n hx hb dX5_blocked_0 rfl (lv_at hl 0 rfl) ?_
  refine lv_iload_n hx hb dX5_blocked_1 rfl (lv_at hl 1 rfl) ?_
  refine va_csr (W.runV (As := [.int (nI a)]) (rest := []) ⟨hx, hb, hml, hown, hts⟩ (c_requireMessage l hM hM20 hs ha) (cwV 1 hts gX5_blocked_X5_requireMessage rfl rfl rfl (by decide +kernel) ⟨Nat.le_of_ble_eq_true rfl, Nat.le_of_ble_eq_true rfl⟩) (g_preV hF hG hS (lay_main) rfl) rfl rfl hl.1 rfl (lv_room (Nat.le_of_ble_eq_true rfl)) dX5_blocked_2 ⟨Nat.le_of_ble_eq_true rfl, Nat.le_of_ble_eq_true rfl⟩) (fun k_3 h_2 => ?_)
  rw [show k_3 = a from h_2]
  refine g_getN hx hb hts hi0 hown hK hG (lay_msg (show a < ln (5, 0, 0) by omega)) rfl 4 (by decide) (va_Nw.use rfl hN.2.2.2.2.2.2.1) rfl dX5_blocked_5 ?_
  exact W.iret (v := g (40, a, 0) 4) hx hb hr (fun t9 ht9 hW9 => ⟨_, rfl, rfl, ht9⟩) (fun q h => nomatch h) dX5_blocked_8

set_option maxHeartbeats 4000000 in
set_option maxRecDepth 100000 in
theorem c_arrivedAt (l : Launch) {D : va_G} {C : g_C} {g : g_k → Nat → Int32} {ad ln : g_k → Nat} {ex : g_k → Option va_E} {B : Nat} {M : Nat} (hM : ln (5, 0, 0) = M) (hM20 : M ≤ 20) (hs : g (0, 0, 0) 7 = nI M) {a : Nat} (ha : a < M) (hat : g (40, a, 0) 2 = g (40, a, 0) 0) : Met l yX5_arrivedAt wsX5_arrivedAt ({ frames := 2, cells := 0, slots := 0, locals := 43 } : Room) (va_Pc [.ref (ad (0, 0, 0)), .int (nI a)] (g_S D C (lay C g ad ln ex) ad B)) (vp_Si (fun r => r = g (40, a, 0) 3)) 0 0 (fun _ => False) := by
  refine Met.ofW (cc := cX5_arrivedAt) (maxL := 3) (ret := (some .int)) (by decide) rfl ?_
  intro p e s m args below meth c s₁ B₀ hml hv
  obtain ⟨rfl, hG, hF⟩ := hv
  have hK := hF.1
  have hN := hF.2.1
  have hB := hF.2.2.2
  have hx := B₀.exec
  have hb := B₀.bytes
  have hr := B₀.returns
  have hts := atoms_spec (ws := wsX5_arrivedAt) B₀.pre
  have hown : s.vm.findClass RX5 = some m.cls := findClass_of_methodNamed B₀.named
  have hlocks := B₀.notSynchronized
  have hS : va_S (g_A B) s.heap s.heap [] := va_S.rf
  have hi0 : ∀ w ∈ wsX00, w ∈ wsX5_arrivedAt := by decide +kernel
  have hl := lv_entry [.ref (ad (0, 0, 0)), .int (nI a)] (n := 3) (Nat.le_of_ble_eq_true rfl)
  rw [lg_entry_eq]
  generalize (lg_sl [.ref (ad (0, 0, 0)), .int (nI a)] ++ List.replicate (3 - (lg_sl [.ref (ad (0, 0, 0)), .int (nI a)]).length) Slot.unset).toArray = ls at hl ⊢
  have hl : lv_has ls 3 [(0, .ref (ad (0, 0, 0))), (1, .int (nI a))] := hl
  refine lv_aload_n hx hb dX5_arrivedAt_0 rfl (lv_at hl 0 rfl) ?_
  refine lv_iload_n hx hb dX5_arrivedAt_1 rfl (lv_at hl 1 rfl) ?_
  refine va_csr (W.runV (As := [.int (nI a)]) (rest := []) ⟨hx, hb, hml, hown, hts⟩ (c_requireMessage l hM hM20 hs ha) (cwV 1 hts gX5_arrivedAt_X5_requireMessage rfl rfl rfl (by decide +kernel) ⟨Nat.le_of_ble_eq_true rfl, Nat.le_of_ble_eq_true rfl⟩) (g_preV hF hG hS (lay_main) rfl) rfl rfl hl.1 rfl (lv_room (Nat.le_of_ble_eq_true rfl)) dX5_arrivedAt_2 ⟨Nat.le_of_ble_eq_true rfl, Nat.le_of_ble_eq_true rfl⟩) (fun k_3 h_2 => ?_)
  rw [show k_3 = a from h_2]
  refine lv_astore_n (lv' := [(2, .ref (ad (40, a, 0))), (0, .ref (ad (0, 0, 0))), (1, .int (nI a))]) hx hb dX5_arrivedAt_5 rfl hl (by decide) rfl (fun ls hl => ?_)
  refine lv_aload_n hx hb dX5_arrivedAt_6 rfl (lv_at hl 0 rfl) ?_
  refine vp_callSi (W.runV (As := []) (rest := []) ⟨hx, hb, hml, hown, hts⟩ (c_isAtGoal l (show a < ln (5, 0, 0) by omega)) (cwV 0 hts gX5_arrivedAt_X0_isAtGoal rfl rfl rfl (by decide +kernel) ⟨Nat.le_of_ble_eq_true rfl, Nat.le_of_ble_eq_true rfl⟩) (g_preV hF hG hS (lay_msg (show a < ln (5, 0, 0) by omega)) rfl) rfl rfl hl.1 rfl (lv_room (Nat.le_of_ble_eq_true rfl)) dX5_arrivedAt_7 ⟨Nat.le_of_ble_eq_true rfl, Nat.le_of_ble_eq_true rfl⟩) (fun r_4 h_5 => ?_)
  refine lv_to (y := nI 1) (h_5.trans (if_pos hat)) ?_
  refine lv_if_ne (tgt := 23) hx hb dX5_arrivedAt_10 (by decide) (fun c_6 => ?_) (fun c_6 => ?_)
  · refine lv_aload_n hx hb dX5_arrivedAt_23 rfl (lv_at hl 0 rfl) ?_
    refine g_getN hx hb hts hi0 hown hK hG (lay_msg (show a < ln (5, 0, 0) by omega)) rfl 3 (by decide) (va_Nw.use rfl hN.2.2.1) rfl dX5_arrivedAt_24 ?_
    exact W.iret (v := g (40, a, 0) 3) hx hb hr (fun t9 ht9 hW9 => ⟨_, rfl, rfl, ht9⟩) (fun q h => nomatch h) dX5_arrivedAt_27
  · exact absurd (show nI 1 = 0 from c_6) (by decide)

set_option maxHeartbeats 4000000 in
set_option maxRecDepth 100000 in
theorem c_hopNode (l : Launch) {D : va_G} {C : g_C} {g : g_k → Nat → Int32} {ad ln : g_k → Nat} {ex : g_k → Option va_E} {B : Nat} {M : Nat} (hM : ln (5, 0, 0) = M) (hM20 : M ≤ 20) (hs : g (0, 0, 0) 7 = nI M) {a h i : Nat} (ha : a < M) (hh : g (40, a, 0) 5 = nI h) (hh30 : h < 2 ^ 30) (hi9 : i < h) (hil : i < ln (41, a, 0)) (hL30 : ln (41, a, 0) < 2 ^ 30) : Met l yX5_hopNode wsX5_hopNode ({ frames := 2, cells := 0, slots := 0, locals := 43 } : Room) (va_Pc [.ref (ad (0, 0, 0)), .int (nI a), .int (nI i)] (g_S D C (lay C g ad ln ex) ad B)) (vp_Si (fun r => r = g (41, a, 0) i)) 0 0 (fun _ => False) := by
  refine Met.ofW (cc := cX5_hopNode) (maxL := 4) (ret := (some .int)) (by decide) rfl ?_
  intro p e s m args below meth c s₁ B₀ hml hv
  obtain ⟨rfl, hG, hF⟩ := hv
  have hK := hF.1
  have hN := hF.2.1
  have hB := hF.2.2.2
  have hx := B₀.exec
  have hb := B₀.bytes
  have hr := B₀.returns
  have hts := atoms_spec (ws := wsX5_hopNode) B₀.pre
  have hown : s.vm.findClass RX5 = some m.cls := findClass_of_methodNamed B₀.named
  have hlocks := B₀.notSynchronized
  have hS : va_S (g_A B) s.heap s.heap [] := va_S.rf
  have hi0 : ∀ w ∈ wsX00, w ∈ wsX5_hopNode := by decide +kernel
  have hl := lv_entry [.ref (ad (0, 0, 0)), .int (nI a), .int (nI i)] (n := 4) (Nat.le_of_ble_eq_true rfl)
  rw [lg_entry_eq]
  generalize (lg_sl [.ref (ad (0, 0, 0)), .int (nI a), .int (nI i)] ++ List.replicate (4 - (lg_sl [.ref (ad (0, 0, 0)), .int (nI a), .int (nI i)]).length) Slot.unset).toArray = ls at hl ⊢
  have hl : lv_has ls 4 [(0, .ref (ad (0, 0, 0))), (1, .int (nI a)), (2, .int (nI i))] := hl
  refine lv_aload_n hx hb dX5_hopNode_0 rfl (lv_at hl 0 rfl) ?_
  refine lv_iload_n hx hb dX5_hopNode_1 rfl (lv_at hl 1 rfl) ?_
  refine va_csr (W.runV (As := [.int (nI a)]) (rest := []) ⟨hx, hb, hml, hown, hts⟩ (c_requireMessage l hM hM20 hs ha) (cwV 1 hts gX5_hopNode_X5_requireMessage rfl rfl rfl (by decide +kernel) ⟨Nat.le_of_ble_eq_true rfl, Nat.le_of_ble_eq_true rfl⟩) (g_preV hF hG hS (lay_main) rfl) rfl rfl hl.1 rfl (lv_room (Nat.le_of_ble_eq_true rfl)) dX5_hopNode_2 ⟨Nat.le_of_ble_eq_true rfl, Nat.le_of_ble_eq_true rfl⟩) (fun k_3 h_2 => ?_)
  rw [show k_3 = a from h_2]
  refine lv_astore_n (lv' := [(3, .ref (ad (40, a, 0))), (0, .ref (ad (0, 0, 0))), (1, .int (nI a)), (2, .int (nI i))]) hx hb dX5_hopNode_5 rfl hl (by decide) rfl (fun ls hl => ?_)
  refine lv_aload_n hx hb dX5_hopNode_6 rfl (lv_at hl 0 rfl) ?_
  refine lv_iload_n hx hb dX5_hopNode_7 rfl (lv_at hl 3 rfl) ?_
  refine va_csv (W.runS (As := [.ref (ad (40, a, 0)), .int (nI i)]) (rest := []) ⟨hx, hb, hml, hown, hts⟩ (c_requireHop l (show a < ln (5, 0, 0) by omega) hh hh30 hi9) (va_cwS 2 hts gX5_hopNode_X5_requireHop rfl rfl rfl (by decide +kernel) ⟨Nat.le_of_ble_eq_true rfl, Nat.le_of_ble_eq_true rfl⟩) (g_preS hF hG hS) rfl rfl hl.1 rfl (lv_room (Nat.le_of_ble_eq_true rfl)) dX5_hopNode_8 ⟨Nat.le_of_ble_eq_true rfl, Nat.le_of_ble_eq_true rfl⟩) (fun h_5 => ?_)
  refine lv_aload_n hx hb dX5_hopNode_11 rfl (lv_at hl 0 rfl) ?_
  refine g_getN hx hb hts hi0 hown hK hG (lay_msg (show a < ln (5, 0, 0) by omega)) rfl 6 (by decide) (va_Nw.use rfl hN.2.2.2.2.1) rfl dX5_hopNode_12 ?_
  refine lv_iload_n hx hb dX5_hopNode_15 rfl (lv_at hl 3 rfl) ?_
  refine g_iald hx hb hK hG (lay_hopN (show a < ln (5, 0, 0) by omega)) (hil) (by first | decide | omega) dX5_hopNode_16 ?_
  exact W.iret (v := g (41, a, 0) i) hx hb hr (fun t9 ht9 hW9 => ⟨_, rfl, rfl, ht9⟩) (fun q h => nomatch h) dX5_hopNode_17

set_option maxHeartbeats 4000000 in
set_option maxRecDepth 100000 in
theorem c_hopMinute (l : Launch) {D : va_G} {C : g_C} {g : g_k → Nat → Int32} {ad ln : g_k → Nat} {ex : g_k → Option va_E} {B : Nat} {M : Nat} (hM : ln (5, 0, 0) = M) (hM20 : M ≤ 20) (hs : g (0, 0, 0) 7 = nI M) {a h i : Nat} (ha : a < M) (hh : g (40, a, 0) 5 = nI h) (hh30 : h < 2 ^ 30) (hi9 : i < h) (hil : i < ln (42, a, 0)) (hL30 : ln (42, a, 0) < 2 ^ 30) : Met l yX5_hopMinute wsX5_hopMinute ({ frames := 2, cells := 0, slots := 0, locals := 43 } : Room) (va_Pc [.ref (ad (0, 0, 0)), .int (nI a), .int (nI i)] (g_S D C (lay C g ad ln ex) ad B)) (vp_Si (fun r => r = g (42, a, 0) i)) 0 0 (fun _ => False) := by
  refine Met.ofW (cc := cX5_hopMinute) (maxL := 4) (ret := (some .int)) (by decide) rfl ?_
  intro p e s m args below meth c s₁ B₀ hml hv
  obtain ⟨rfl, hG, hF⟩ := hv
  have hK := hF.1
  have hN := hF.2.1
  have hB := hF.2.2.2
  have hx := B₀.exec
  have hb := B₀.bytes
  have hr := B₀.returns
  have hts := atoms_spec (ws := wsX5_hopMinute) B₀.pre
  have hown : s.vm.findClass RX5 = some m.cls := findClass_of_methodNamed B₀.named
  have hlocks := B₀.notSynchronized
  have hS : va_S (g_A B) s.heap s.heap [] := va_S.rf
  have hi0 : ∀ w ∈ wsX00, w ∈ wsX5_hopMinute := by decide +kernel
  have hl := lv_entry [.ref (ad (0, 0, 0)), .int (nI a), .int (nI i)] (n := 4) (Nat.le_of_ble_eq_true rfl)
  rw [lg_entry_eq]
  generalize (lg_sl [.ref (ad (0, 0, 0)), .int (nI a), .int (nI i)] ++ List.replicate (4 - (lg_sl [.ref (ad (0, 0, 0)), .int (nI a), .int (nI i)]).length) Slot.unset).toArray = ls at hl ⊢
  have hl : lv_has ls 4 [(0, .ref (ad (0, 0, 0))), (1, .int (nI a)), (2, .int (nI i))] := hl
  refine lv_aload_n hx hb dX5_hopMinute_0 rfl (lv_at hl 0 rfl) ?_
  refine lv_iload_n hx hb dX5_hopMinute_1 rfl (lv_at hl 1 rfl) ?_
  refine va_csr (W.runV (As := [.int (nI a)]) (rest := []) ⟨hx, hb, hml, hown, hts⟩ (c_requireMessage l hM hM20 hs ha) (cwV 1 hts gX5_hopMinute_X5_requireMessage rfl rfl rfl (by decide +kernel) ⟨Nat.le_of_ble_eq_true rfl, Nat.le_of_ble_eq_true rfl⟩) (g_preV hF hG hS (lay_main) rfl) rfl rfl hl.1 rfl (lv_room (Nat.le_of_ble_eq_true rfl)) dX5_hopMinute_2 ⟨Nat.le_of_ble_eq_true rfl, Nat.le_of_ble_eq_true rfl⟩) (fun k_3 h_2 => ?_)
  rw [show k_3 = a from h_2]
  refine lv_astore_n (lv' := [(3, .ref (ad (40, a, 0))), (0, .ref (ad (0, 0, 0))), (1, .int (nI a)), (2, .int (nI i))]) hx hb dX5_hopMinute_5 rfl hl (by decide) rfl (fun ls hl => ?_)
  refine lv_aload_n hx hb dX5_hopMinute_6 rfl (lv_at hl 0 rfl) ?_
  refine lv_iload_n hx hb dX5_hopMinute_7 rfl (lv_at hl 3 rfl) ?_
  refine va_csv (W.runS (As := [.ref (ad (40, a, 0)), .int (nI i)]) (rest := []) ⟨hx, hb, hml, hown, hts⟩ (c_requireHop l (show a < ln (5, 0, 0) by omega) hh hh30 hi9) (va_cwS 2 hts gX5_hopMinute_X5_requireHop rfl rfl rfl (by decide +kernel) ⟨Nat.le_of_ble_eq_true rfl, Nat.le_of_ble_eq_true rfl⟩) (g_preS hF hG hS) rfl rfl hl.1 rfl (lv_room (Nat.le_of_ble_eq_true rfl)) dX5_hopMinute_8 ⟨Nat.le_of_ble_eq_true rfl, Nat.le_of_ble_eq_true rfl⟩) (fun h_5 => ?_)
  refine lv_aload_n hx hb dX5_hopMinute_11 rfl (lv_at hl 0 rfl) ?_
  refine g_getN hx hb hts hi0 hown hK hG (lay_msg (show a < ln (5, 0, 0) by omega)) rfl 7 (by decide) (va_Nw.use rfl hN.2.2.2.2.2.1) rfl dX5_hopMinute_12 ?_
  refine lv_iload_n hx hb dX5_hopMinute_15 rfl (lv_at hl 3 rfl) ?_
  refine g_iald hx hb hK hG (lay_hopM (show a < ln (5, 0, 0) by omega)) (hil) (by first | decide | omega) dX5_hopMinute_16 ?_
  exact W.iret (v := g (42, a, 0) i) hx hb hr (fun t9 ht9 hW9 => ⟨_, rfl, rfl, ht9⟩) (fun q h => nomatch h) dX5_hopMinute_17

set_option maxHeartbeats 4000000 in
set_option maxRecDepth 100000 in
theorem c_relayOf (l : Launch) {D : va_G} {C : g_C} {g : g_k → Nat → Int32} {ad ln : g_k → Nat} {ex : g_k → Option va_E} {B : Nat} {n : Nat} (hn : n ≤ 10) (hc : g (1, 0, 0) 4 = nI n) {a : Nat} (ha : a < n) (hl9 : ln (30, a, 0) = 1) : Met l yX5_relayOf wsX5_relayOf ({ frames := 3, cells := 0, slots := 0, locals := 65 } : Room) (va_Pc [.ref (ad (0, 0, 0)), .int (nI a)] (g_S D C (lay C g ad ln ex) ad B)) (vp_Si (fun r => r = g (30, a, 0) 1)) 0 0 (fun _ => False) := by
  refine Met.ofW (cc := cX5_relayOf) (maxL := 2) (ret := (some .int)) (by decide) rfl ?_
  intro p e s m args below meth c s₁ B₀ hml hv
  obtain ⟨rfl, hG, hF⟩ := hv
  have hK := hF.1
  have hN := hF.2.1
  have hB := hF.2.2.2
  have hx := B₀.exec
  have hb := B₀.bytes
  have hr := B₀.returns
  have hts := atoms_spec (ws := wsX5_relayOf) B₀.pre
  have hown : s.vm.findClass RX5 = some m.cls := findClass_of_methodNamed B₀.named
  have hlocks := B₀.notSynchronized
  have hS : va_S (g_A B) s.heap s.heap [] := va_S.rf
  have hi3 : ∀ w ∈ wsX30, w ∈ wsX5_relayOf := by decide +kernel
  have hl := lv_entry [.ref (ad (0, 0, 0)), .int (nI a)] (n := 2) (Nat.le_of_ble_eq_true rfl)
  rw [lg_entry_eq]
  generalize (lg_sl [.ref (ad (0, 0, 0)), .int (nI a)] ++ List.replicate (2 - (lg_sl [.ref (ad (0, 0, 0)), .int (nI a)]).length) Slot.unset).toArray = ls at hl ⊢
  have hl : lv_has ls 2 [(0, .ref (ad (0, 0, 0))), (1, .int (nI a))] := hl
  refine lv_aload_n hx hb dX5_relayOf_0 rfl (lv_at hl 0 rfl) ?_
  refine lv_iload_n hx hb dX5_relayOf_1 rfl (lv_at hl 1 rfl) ?_
  refine va_csr (W.runV (As := [.int (nI a)]) (rest := []) ⟨hx, hb, hml, hown, hts⟩ (c_requireStation l hn hc ha hl9) (cwV 1 hts gX5_relayOf_X5_requireStation rfl rfl rfl (by decide +kernel) ⟨Nat.le_of_ble_eq_true rfl, Nat.le_of_ble_eq_true rfl⟩) (g_preV hF hG hS (lay_main) rfl) rfl rfl hl.1 rfl (lv_room (Nat.le_of_ble_eq_true rfl)) dX5_relayOf_2 ⟨Nat.le_of_ble_eq_true rfl, Nat.le_of_ble_eq_true rfl⟩) (fun k_3 h_2 => ?_)
  rw [show k_3 = a from h_2]
  refine g_getN hx hb hts hi3 hown hK hG (lay_station (show a < 10 by omega) hl9) rfl 1 (by decide) (va_Nw.use rfl hN.2.2.2.2.2.2.2.1) rfl dX5_relayOf_5 ?_
  exact W.iret (v := g (30, a, 0) 1) hx hb hr (fun t9 ht9 hW9 => ⟨_, rfl, rfl, ht9⟩) (fun q h => nomatch h) dX5_relayOf_8

set_option maxHeartbeats 4000000 in
set_option maxRecDepth 100000 in
theorem c_handovers (l : Launch) {D : va_G} {C : g_C} {g : g_k → Nat → Int32} {ad ln : g_k → Nat} {ex : g_k → Option va_E} {B : Nat} {n : Nat} (hn : n ≤ 10) (hc : g (1, 0, 0) 4 = nI n) {a : Nat} (ha : a < n) (hl9 : ln (30, a, 0) = 1) : Met l yX5_handovers wsX5_handovers ({ frames := 3, cells := 0, slots := 0, locals := 65 } : Room) (va_Pc [.ref (ad (0, 0, 0)), .int (nI a)] (g_S D C (lay C g ad ln ex) ad B)) (vp_Si (fun r => r = g (30, a, 0) 2)) 0 0 (fun _ => False) := by
  refine Met.ofW (cc := cX5_handovers) (maxL := 2) (ret := (some .int)) (by decide) rfl ?_
  intro p e s m args below meth c s₁ B₀ hml hv
  obtain ⟨rfl, hG, hF⟩ := hv
  have hK := hF.1
  have hN := hF.2.1
  have hB := hF.2.2.2
  have hx := B₀.exec
  have hb := B₀.bytes
  have hr := B₀.returns
  have hts := atoms_spec (ws := wsX5_handovers) B₀.pre
  have hown : s.vm.findClass RX5 = some m.cls := findClass_of_methodNamed B₀.named
  have hlocks := B₀.notSynchronized
  have hS : va_S (g_A B) s.heap s.heap [] := va_S.rf
  have hi3 : ∀ w ∈ wsX30, w ∈ wsX5_handovers := by decide +kernel
  have hl := lv_entry [.ref (ad (0, 0, 0)), .int (nI a)] (n := 2) (Nat.le_of_ble_eq_true rfl)
  rw [lg_entry_eq]
  generalize (lg_sl [.ref (ad (0, 0, 0)), .int (nI a)] ++ List.replicate (2 - (lg_sl [.ref (ad (0, 0, 0)), .int (nI a)]).length) Slot.unset).toArray = ls at hl ⊢
  have hl : lv_has ls 2 [(0, .ref (ad (0, 0, 0))), (1, .int (nI a))] := hl
  refine lv_aload_n hx hb dX5_handovers_0 rfl (lv_at hl 0 rfl) ?_
  refine lv_iload_n hx hb dX5_handovers_1 rfl (lv_at hl 1 rfl) ?_
  refine va_csr (W.runV (As := [.int (nI a)]) (rest := []) ⟨hx, hb, hml, hown, hts⟩ (c_requireStation l hn hc ha hl9) (cwV 1 hts gX5_handovers_X5_requireStation rfl rfl rfl (by decide +kernel) ⟨Nat.le_of_ble_eq_true rfl, Nat.le_of_ble_eq_true rfl⟩) (g_preV hF hG hS (lay_main) rfl) rfl rfl hl.1 rfl (lv_room (Nat.le_of_ble_eq_true rfl)) dX5_handovers_2 ⟨Nat.le_of_ble_eq_true rfl, Nat.le_of_ble_eq_true rfl⟩) (fun k_3 h_2 => ?_)
  rw [show k_3 = a from h_2]
  refine g_getN hx hb hts hi3 hown hK hG (lay_station (show a < 10 by omega) hl9) rfl 2 (by decide) (va_Nw.use rfl hN.2.2.2.2.2.2.2.2.1) rfl dX5_handovers_5 ?_
  exact W.iret (v := g (30, a, 0) 2) hx hb hr (fun t9 ht9 hW9 => ⟨_, rfl, rfl, ht9⟩) (fun q h => nomatch h) dX5_handovers_8
end
section
/-! What a minute does. -/
def at_c (g : g_k → Nat → Int32) (x : Int32) : Nat → Nat
  | 0 => 0
  | j + 1 => at_c g x j + if g (40, j, 0) 2 = x then 1 else 0
theorem at_c_le (g : g_k → Nat → Int32) (x : Int32) : ∀ n, at_c g x n ≤ n
  | 0 => Nat.le_refl 0
  | n + 1 => by
    have := at_c_le g x n
    rw [at_c]
    split <;> omega
/-- how many of the first messages are where they shall be -/
def cg (g : g_k → Nat → Int32) : Nat → Nat
  | 0 => 0
  | j + 1 => cg g j + if g (40, j, 0) 2 = g (40, j, 0) 0 then 1 else 0
theorem cg_le (g : g_k → Nat → Int32) : ∀ n, cg g n ≤ n
  | 0 => Nat.le_refl 0
  | n + 1 => by
    have := cg_le g n
    rw [cg]
    split <;> omega
theorem cg_cong {g g1 : g_k → Nat → Int32} : ∀ n, (∀ j, j < n → g1 (40, j, 0) = g (40, j, 0)) → cg g1 n = cg g n
  | 0, _ => rfl
  | n + 1, h => by rw [cg, cg, cg_cong n (fun j hj => h j (by omega)), h n (by omega)]
def wd (t : Nat) : Nat := if t < 8 then 0 else if t < 16 then 32 else if t < 32 then 64 else if t < 64 then 128 else if t < 128 then 256 else if t < 256 then 512 else if t < 512 then 1024 else 4 * t
theorem wd_ok {q t : Nat} (h : 8 * 2 ^ q ≤ t) : 4 * (8 * 2 ^ q) ≤ wd t := by
  have c6 : q < 6 ∨ 6 ≤ q := Nat.lt_or_ge q 6
  rcases c6 with c6 | c6
  · have : q = 0 ∨ q = 1 ∨ q = 2 ∨ q = 3 ∨ q = 4 ∨ q = 5 := by omega
    unfold wd
    rcases this with rfl | rfl | rfl | rfl | rfl | rfl <;> (simp at h ⊢; repeat' split) <;> omega
  · have : 2 ^ 6 ≤ 2 ^ q := Nat.pow_le_pow_right (by decide) c6
    have h9 : 512 ≤ t := by omega
    unfold wd
    repeat' split
    all_goals omega
def us (t : Nat) : Nat → Nat
  | 0 => 0
  | p + 1 => us t p + wd (t + p) * 20
/-- message j, from s0 to k: it was handed on h times, to N 1, N 2, .. at the minutes T 0, T 1, .. -/
def mokA (g : g_k → Nat → Int32) (ln : g_k → Nat) (n now j s0 k h : Nat) (N T : Nat → Nat) : Prop := (g (40, j, 0) 0 = nI k ∧ g (40, j, 0) 2 = nI (N h) ∧ g (40, j, 0) 5 = nI h ∧ (0 < h → g (40, j, 0) 3 = nI (T (h - 1) + 1)) ∧ ∃ b, b ≤ now ∧ g (40, j, 0) 4 = nI b) ∧ (h ≤ now ∧ h ≤ ln (41, j, 0) ∧ ln (42, j, 0) = ln (41, j, 0) ∧ ln (41, j, 0) ≤ 2 ^ 20 ∧ ∃ q, ln (41, j, 0) = 8 * 2 ^ q) ∧ N 0 = s0 ∧ N h < n ∧ (∀ i, i < h → g (41, j, 0) i = nI (N (i + 1)) ∧ g (42, j, 0) i = nI (T i) ∧ N i < n ∧ T i < now ∧ see g (N i) (N (i + 1)) (T i) = true ∧ N i ≠ k) ∧ ∀ i, i + 1 < h → T i < T (i + 1)
def mok (g : g_k → Nat → Int32) (ln : g_k → Nat) (n now j s0 k : Nat) : Prop := ∃ (h : Nat) (N T : Nat → Nat), mokA g ln n now j s0 k h N T
theorem see_20 {g g1 : g_k → Nat → Int32} (h : ∀ i, g1 (20, i, 0) = g (20, i, 0)) (a b t : Nat) : see g1 a b t = see g a b t := by
  unfold see
  rw [h]
theorem mokA_cong {g g1 : g_k → Nat → Int32} {ln ln1 : g_k → Nat} {n now j s0 k h : Nat} {N T : Nat → Nat} (hm : mokA g ln n now j s0 k h N T) (h20 : ∀ i, g1 (20, i, 0) = g (20, i, 0)) (h40 : g1 (40, j, 0) = g (40, j, 0)) (h41 : g1 (41, j, 0) = g (41, j, 0)) (h42 : g1 (42, j, 0) = g (42, j, 0)) (l41 : ln1 (41, j, 0) = ln (41, j, 0)) (l42 : ln1 (42, j, 0) = ln (42, j, 0)) : mokA g1 ln1 n now j s0 k h N T := by
  unfold mokA at hm ⊢
  rw [h40, h41, h42, l41, l42]
  refine ⟨hm.1, hm.2.1, hm.2.2.1, hm.2.2.2.1, fun i hi => ?_, hm.2.2.2.2.2⟩
  rw [see_20 h20]
  exact hm.2.2.2.2.1 i hi
theorem mok_cong {g g1 : g_k → Nat → Int32} {ln ln1 : g_k → Nat} {n now j s0 k : Nat} (hm : mok g ln n now j s0 k) (h20 : ∀ i, g1 (20, i, 0) = g (20, i, 0)) (h40 : g1 (40, j, 0) = g (40, j, 0)) (h41 : g1 (41, j, 0) = g (41, j, 0)) (h42 : g1 (42, j, 0) = g (42, j, 0)) (l41 : ln1 (41, j, 0) = ln (41, j, 0)) (l42 : ln1 (42, j, 0) = ln (42, j, 0)) : mok g1 ln1 n now j s0 k := by
  obtain ⟨h, N, T, hm⟩ := hm
  exact ⟨h, N, T, mokA_cong hm h20 h40 h41 h42 l41 l42⟩
theorem mok_now {g : g_k → Nat → Int32} {ln : g_k → Nat} {n now now' j s0 k : Nat} (hm : mok g ln n now j s0 k) (hle : now ≤ now') : mok g ln n now' j s0 k := by
  obtain ⟨h, N, T, ⟨a1, a2, a3, a4, b, b1, b2⟩, ⟨c1, c2⟩, d1, d2, d3, d4⟩ := hm
  refine ⟨h, N, T, ⟨a1, a2, a3, a4, b, by omega, b2⟩, ⟨by omega, c2⟩, d1, d2, fun i hi => ?_, d4⟩
  obtain ⟨e1, e2, e3, e4, e5, e6⟩ := d3 i hi
  exact ⟨e1, e2, e3, by omega, e5, e6⟩
/-- it waits: one more time blocked -/
theorem mok_blk {g g1 : g_k → Nat → Int32} {ln : g_k → Nat} {n now j s0 k b : Nat} (hm : mok g ln n now j s0 k) (hb : g (40, j, 0) 4 = nI b) (hb2 : b ≤ now) (h1 : ∀ c, c ≠ (40, j, 0) → g1 c = g c) (h2 : g1 (40, j, 0) = upd (g (40, j, 0)) 4 (nI (b + 1))) : mok g1 ln n (now + 1) j s0 k := by
  obtain ⟨h, N, T, ⟨a1, a2, a3, a4, _⟩, ⟨c1, c2⟩, d1, d2, d3, d4⟩ := hm
  have e20 : ∀ i, g1 (20, i, 0) = g (20, i, 0) := fun i => h1 _ (by intro h9; cases h9)
  refine ⟨h, N, T, ⟨?_, ?_, ?_, fun z => ?_, b + 1, by omega, ?_⟩, ⟨by omega, c2⟩, d1, d2, fun i hi => ?_, d4⟩
  · rw [h2, upd_ne _ _ (by decide)]; exact a1
  · rw [h2, upd_ne _ _ (by decide)]; exact a2
  · rw [h2, upd_ne _ _ (by decide)]; exact a3
  · rw [h2, upd_ne _ _ (by decide)]; exact a4 z
  · rw [h2, upd_self]
  · obtain ⟨e1, e2, e3, e4, e5, e6⟩ := d3 i hi
    rw [h1 (41, j, 0) (by intro h9; cases h9), h1 (42, j, 0) (by intro h9; cases h9), see_20 e20]
    exact ⟨e1, e2, e3, by omega, e5, e6⟩
/-- it is handed on -/
theorem mok_hand {g g1 : g_k → Nat → Int32} {ad ln ad1 ln1 : g_k → Nat} {n t j s0 k h o : Nat} {N T : Nat → Nat} (hm : mokA g ln n t j s0 k h N T) (hk : N h ≠ k) (ht : t < 2 ^ 19) (ho : o < n) (hs : see g (N h) o t = true) (hp : hand_P g ad ln j h o t g1 ad1 ln1) : mok g1 ln1 n (t + 1) j s0 k := by
  obtain ⟨⟨a1, a2, a3, a4, b, b1, b2⟩, ⟨c1, c2, c3, c4, q, c5⟩, d1, d2, d3, d4⟩ := hm
  obtain ⟨p1, p2, p3, p4, p5, p6, p7, p8, p9⟩ := hp
  have e20 : ∀ i, g1 (20, i, 0) = g (20, i, 0) := fun i => p1 _ (by intro h9; cases h9) (by intro h9; cases h9) (by intro h9; cases h9)
  have nN : ∀ i, i ≤ h → (fun i => if i = h + 1 then o else N i) i = N i := fun i hi => if_neg (by omega)
  have nT : ∀ i, i < h → (fun i => if i = h then t else T i) i = T i := fun i hi => if_neg (by omega)
  refine ⟨h + 1, fun i => if i = h + 1 then o else N i, fun i => if i = h then t else T i, ⟨?_, ?_, ?_, fun z => ?_, b, by omega, ?_⟩, ⟨by omega, p8, p7, ?_, ?_⟩, (nN 0 (Nat.zero_le h)).trans d1, ?_, fun i hi => ?_, fun i hi => ?_⟩
  · rw [p2, upd_ne _ _ (by decide), upd_ne _ _ (by decide), upd_ne _ _ (by decide)]; exact a1
  · rw [p2, upd_ne _ _ (by decide), upd_self]; simp
  · rw [p2, upd_ne _ _ (by decide), upd_ne _ _ (by decide), upd_self]
  · rw [p2, upd_self]; simp
  · rw [p2, upd_ne _ _ (by decide), upd_ne _ _ (by decide), upd_ne _ _ (by decide)]; exact b2
  · rcases p9 with z | ⟨z1, z2⟩ <;> omega
  · rcases p9 with z | ⟨z1, z2⟩
    · exact ⟨q, z.trans c5⟩
    · exact ⟨q + 1, by rw [z2, z1, c5, Nat.pow_succ]; omega⟩
  · simp only [if_true]; exact ho
  · rw [see_20 e20]
    rcases Nat.lt_or_eq_of_le (Nat.le_of_lt_succ hi) with h9 | h9
    · obtain ⟨e1, e2, e3, e4, e5, e6⟩ := d3 i h9
      rw [nN i (by omega), nN (i + 1) (by omega), nT i h9, (p3 i h9).1, (p3 i h9).2]
      exact ⟨e1, e2, e3, by omega, e5, e6⟩
    · subst h9
      rw [nN i (Nat.le_refl i), p4, p5]
      simp only [if_true]
      exact ⟨trivial, trivial, d2, by omega, hs, hk⟩
  · rw [nT i (by omega)]
    by_cases h9 : i + 1 = h
    · simp only [h9, if_true]
      exact (d3 i (by omega)).2.2.2.1
    · rw [nT (i + 1) (by omega)]
      exact d4 i (by omega)
/-- station i's relay is one that it sees at minute t; or it sees none -/
def rel_P (g : g_k → Nat → Int32) (n t i : Nat) : Prop := (g (30, i, 0) 1 = (-1) ∧ ∀ o, o < n → see g i o t = false) ∨ ∃ r, r < n ∧ g (30, i, 0) 1 = nI r ∧ see g i r t = true
def rlw_P (g : g_k → Nat → Int32) (n t i : Nat) : Prop := (g (30, i, 0) 1 = (-1) ∨ ∃ r, r < n ∧ g (30, i, 0) 1 = nI r) ∧ ∃ k, k ≤ t ∧ g (30, i, 0) 2 = nI k
theorem rel_cong {g g1 : g_k → Nat → Int32} {n t i : Nat} (h : rel_P g n t i) (h20 : ∀ i, g1 (20, i, 0) = g (20, i, 0)) (h30 : g1 (30, i, 0) = g (30, i, 0)) : rel_P g1 n t i := by
  unfold rel_P
  rw [h30]
  rcases h with ⟨a1, a2⟩ | ⟨r, a1, a2, a3⟩
  · exact Or.inl ⟨a1, fun o ho => by rw [see_20 h20]; exact a2 o ho⟩
  · exact Or.inr ⟨r, a1, a2, by rw [see_20 h20]; exact a3⟩
theorem rlw_cong {g g1 : g_k → Nat → Int32} {n t i : Nat} (h : rlw_P g n t i) (h30 : g1 (30, i, 0) = g (30, i, 0)) : rlw_P g1 n t i := by
  unfold rlw_P
  rw [h30]
  exact h
theorem rlw_of {g : g_k → Nat → Int32} {n t i k : Nat} (h : rel_P g n t i) (hk : k ≤ t) (h2 : g (30, i, 0) 2 = nI k) : rlw_P g n t i := ⟨by
  rcases h with ⟨a1, a2⟩ | ⟨r, a1, a2, a3⟩
  · exact Or.inl a1
  · exact Or.inr ⟨r, a1, a2⟩, k, hk, h2⟩

set_option maxHeartbeats 4000000 in
set_option maxRecDepth 100000 in
theorem c_messagesAt (l : Launch) {D : va_G} {C : g_C} {g : g_k → Nat → Int32} {ad ln : g_k → Nat} {ex : g_k → Option va_E} {B : Nat} {M : Nat} (hM : ln (5, 0, 0) = M) (hM20 : M ≤ 20) (hs : g (0, 0, 0) 7 = nI M) {x : Int32} : Met l yX5_messagesAt wsX5_messagesAt ({ frames := 0, cells := 0, slots := 0, locals := 0 } : Room) (va_Pc [.ref (ad (0, 0, 0)), .int x] (g_S D C (lay C g ad ln ex) ad B)) (vp_Si (fun r => r = nI (at_c g x M))) 0 0 (fun _ => False) := by
  refine Met.ofW (cc := cX5_messagesAt) (maxL := 4) (ret := (some .int)) (by decide) rfl ?_
  intro p e s m args below meth c s₁ B₀ hml hv
  obtain ⟨rfl, hG, hF⟩ := hv
  have hK := hF.1
  have hN := hF.2.1
  have hB := hF.2.2.2
  have hx := B₀.exec
  have hb := B₀.bytes
  have hr := B₀.returns
  have hts := atoms_spec (ws := wsX5_messagesAt) B₀.pre
  have hown : s.vm.findClass RX5 = some m.cls := findClass_of_methodNamed B₀.named
  have hlocks := B₀.notSynchronized
  have hS : va_S (g_A B) s.heap s.heap [] := va_S.rf
  have hi0 : ∀ w ∈ wsX00, w ∈ wsX5_messagesAt := by decide +kernel
  have hi5 : ∀ w ∈ wsX50, w ∈ wsX5_messagesAt := by decide +kernel
  have hl := lv_entry [.ref (ad (0, 0, 0)), .int x] (n := 4) (Nat.le_of_ble_eq_true rfl)
  rw [lg_entry_eq]
  generalize (lg_sl [.ref (ad (0, 0, 0)), .int x] ++ List.replicate (4 - (lg_sl [.ref (ad (0, 0, 0)), .int x]).length) Slot.unset).toArray = ls at hl ⊢
  have hl : lv_has ls 4 [(0, .ref (ad (0, 0, 0))), (1, .int x)] := hl
  refine lv_iconst (v := nI 0) hx hb dX5_messagesAt_0 (by decide) ?_
  refine lv_istore_n (lv' := [(2, .int (nI 0)), (0, .ref (ad (0, 0, 0))), (1, .int x)]) hx hb dX5_messagesAt_1 rfl hl (by decide) rfl (fun ls hl => ?_)
  refine lv_iconst (v := nI 0) hx hb dX5_messagesAt_2 (by decide) ?_
  refine lv_istore_n (lv' := [(3, .int (nI 0)), (2, .int (nI 0)), (0, .ref (ad (0, 0, 0))), (1, .int x)]) hx hb dX5_messagesAt_3 rfl hl (by decide) rfl (fun ls hl => ?_)
  have loop : ∀ (q j : Nat), j ≤ M → M < j + q → ∀ ls, lv_has ls 4 [(3, .int (nI j)), (2, .int (nI (at_c g x j))), (0, .ref (ad (0, 0, 0))), (1, .int x)] → W p l e (headSpec wsX5_messagesAt ({ frames := 0, cells := 0, slots := 0, locals := 0 } : Room)).room s m ([.ref (ad (0, 0, 0)), .int x]).toArray below meth c s.heap [] 0 0 (MQ below (vp_Si (fun r => r = nI (at_c g x M))) ([.ref (ad (0, 0, 0)), .int x]).toArray s 0 0 (fun _ => False)) (F0 m 4 ls []) := by
    intro q
    induction q with
    | zero => intro j h1 h2; exact absurd h2 (by omega)
    | succ q ih =>
      intro j h1 h2 ls hl
      refine lv_iload_n hx hb dX5_messagesAt_4 rfl (lv_at hl 0 rfl) ?_
      refine lv_aload_n hx hb dX5_messagesAt_5 rfl (lv_at hl 2 rfl) ?_
      refine g_get hx hb hts hi5 hown hK hG (lay_main) rfl 7 (by decide) (hts (.fieldLink RX5 48 "Satellitering" "sentCount" "I") (by decide +kernel)) rfl dX5_messagesAt_6 ?_
      refine lv_to (y := nI M) (hs) ?_
      refine lv_icmp_ge (tgt := 39) hx hb dX5_messagesAt_9 (by decide) (fun c_1 => ?_) (fun c_1 => ?_)
      · have hj : j = M := by have := (nI_leI (by omega) (by omega)).mp c_1; omega
        subst hj
        refine lv_iload_n hx hb dX5_messagesAt_39 rfl (lv_at hl 1 rfl) ?_
        exact W.iret (v := nI (at_c g x j)) hx hb hr (fun t9 ht9 hW9 => ⟨_, rfl, rfl, ht9⟩) (fun q h => nomatch h) dX5_messagesAt_40
      · have hj : j < M := Nat.lt_of_not_le (fun h9 => c_1 ((nI_leI (by omega) (by omega)).mpr h9))
        refine lv_iload_n hx hb dX5_messagesAt_12 rfl (lv_at hl 1 rfl) ?_
        refine lv_aload_n hx hb dX5_messagesAt_13 rfl (lv_at hl 2 rfl) ?_
        refine g_get hx hb hts hi5 hown hK hG (lay_main) rfl 4 (by decide) (hts (.fieldLink RX5 37 "Satellitering" "sent" "[LSatellitering$Message;") (by decide +kernel)) rfl dX5_messagesAt_14 ?_
        refine lv_iload_n hx hb dX5_messagesAt_17 rfl (lv_at hl 0 rfl) ?_
        refine o_sent hx hb hK hG (show j < ln (5, 0, 0) by omega) (show ln (5, 0, 0) ≤ 20 by omega) dX5_messagesAt_18 ?_
        refine g_getN hx hb hts hi0 hown hK hG (lay_msg (show j < ln (5, 0, 0) by omega)) rfl 2 (by decide) (va_Nw.use rfl hN.2.1) rfl dX5_messagesAt_19 ?_
        refine lv_iload_n hx hb dX5_messagesAt_22 rfl (lv_at hl 3 rfl) ?_
        refine lv_icmp_ne (tgt := 30) hx hb dX5_messagesAt_23 (by decide) (fun c_2 => ?_) (fun c_2 => ?_)
        · refine lv_iconst (v := nI 0) hx hb dX5_messagesAt_30 (by decide) ?_
          refine lv_iadd hx hb dX5_messagesAt_31 ?_
          refine lv_to (y := nI ((at_c g x j) + 0)) (nI_add (at_c g x j) 0) ?_
          refine lv_to (y := nI (at_c g x (j + 1))) (by rw [at_c, if_neg c_2]) ?_
          refine lv_istore_n (lv' := [(2, .int (nI (at_c g x (j + 1)))), (3, .int (nI j)), (0, .ref (ad (0, 0, 0))), (1, .int x)]) hx hb dX5_messagesAt_32 rfl hl (by decide) rfl (fun ls hl => ?_)
          refine lv_iinc (v := nI (j + 1)) (lv' := [(3, .int (nI (j + 1))), (2, .int (nI (at_c g x (j + 1)))), (0, .ref (ad (0, 0, 0))), (1, .int x)]) hx hb dX5_messagesAt_33 hl (k := 1) rfl (nI_add j 1) (by decide) rfl (fun ls hl => ?_)
          refine lv_goto (tgt := 4) hx hb dX5_messagesAt_36 (by decide) ?_
          exact ih (j + 1) (by omega) (by omega) ls (lv_sub hl [0, 1, 2, 3] rfl)
        · refine lv_iconst (v := nI 1) hx hb dX5_messagesAt_26 (by decide) ?_
          refine lv_goto (tgt := 31) hx hb dX5_messagesAt_27 (by decide) ?_
          refine lv_iadd hx hb dX5_messagesAt_31 ?_
          refine lv_to (y := nI ((at_c g x j) + 1)) (nI_add (at_c g x j) 1) ?_
          refine lv_to (y := nI (at_c g x (j + 1))) (by rw [at_c, if_pos c_2]) ?_
          refine lv_istore_n (lv' := [(2, .int (nI (at_c g x (j + 1)))), (3, .int (nI j)), (0, .ref (ad (0, 0, 0))), (1, .int x)]) hx hb dX5_messagesAt_32 rfl hl (by decide) rfl (fun ls hl => ?_)
          refine lv_iinc (v := nI (j + 1)) (lv' := [(3, .int (nI (j + 1))), (2, .int (nI (at_c g x (j + 1)))), (0, .ref (ad (0, 0, 0))), (1, .int x)]) hx hb dX5_messagesAt_33 hl (k := 1) rfl (nI_add j 1) (by decide) rfl (fun ls hl => ?_)
          refine lv_goto (tgt := 4) hx hb dX5_messagesAt_36 (by decide) ?_
          exact ih (j + 1) (by omega) (by omega) ls (lv_sub hl [0, 1, 2, 3] rfl)
  exact loop (M + 1) 0 (Nat.zero_le M) (by omega) ls (lv_sub hl [0, 1, 2, 3] rfl)

set_option maxHeartbeats 4000000 in
set_option maxRecDepth 100000 in
theorem c_load (l : Launch) {D : va_G} {C : g_C} {g : g_k → Nat → Int32} {ad ln : g_k → Nat} {ex : g_k → Option va_E} {B : Nat} {n : Nat} (hn : n ≤ 10) (hc : g (1, 0, 0) 4 = nI n) {M : Nat} (hM : ln (5, 0, 0) = M) (hM20 : M ≤ 20) (hs : g (0, 0, 0) 7 = nI M) {a : Nat} (ha : a < n) : Met l yX5_load wsX5_load ({ frames := 2, cells := 0, slots := 0, locals := 43 } : Room) (va_Pc [.ref (ad (0, 0, 0)), .int (nI a)] (g_S D C (lay C g ad ln ex) ad B)) (vp_Si (fun r => r = nI (at_c g (nI a) M))) 0 0 (fun _ => False) := by
  refine Met.ofW (cc := cX5_load) (maxL := 2) (ret := (some .int)) (by decide) rfl ?_
  intro p e s m args below meth c s₁ B₀ hml hv
  obtain ⟨rfl, hG, hF⟩ := hv
  have hK := hF.1
  have hN := hF.2.1
  have hB := hF.2.2.2
  have hx := B₀.exec
  have hb := B₀.bytes
  have hr := B₀.returns
  have hts := atoms_spec (ws := wsX5_load) B₀.pre
  have hown : s.vm.findClass RX5 = some m.cls := findClass_of_methodNamed B₀.named
  have hlocks := B₀.notSynchronized
  have hS : va_S (g_A B) s.heap s.heap [] := va_S.rf
  have hl := lv_entry [.ref (ad (0, 0, 0)), .int (nI a)] (n := 2) (Nat.le_of_ble_eq_true rfl)
  rw [lg_entry_eq]
  generalize (lg_sl [.ref (ad (0, 0, 0)), .int (nI a)] ++ List.replicate (2 - (lg_sl [.ref (ad (0, 0, 0)), .int (nI a)]).length) Slot.unset).toArray = ls at hl ⊢
  have hl : lv_has ls 2 [(0, .ref (ad (0, 0, 0))), (1, .int (nI a))] := hl
  refine lv_aload_n hx hb dX5_load_0 rfl (lv_at hl 0 rfl) ?_
  refine lv_iload_n hx hb dX5_load_1 rfl (lv_at hl 1 rfl) ?_
  refine va_csv (W.runV (As := [.int (nI a)]) (rest := []) ⟨hx, hb, hml, hown, hts⟩ (c_requireNode l hn hc ha) (cwV 1 hts gX5_load_X5_requireNode rfl rfl rfl (by decide +kernel) ⟨Nat.le_of_ble_eq_true rfl, Nat.le_of_ble_eq_true rfl⟩) (g_preV hF hG hS (lay_main) rfl) rfl rfl hl.1 rfl (lv_room (Nat.le_of_ble_eq_true rfl)) dX5_load_2 ⟨Nat.le_of_ble_eq_true rfl, Nat.le_of_ble_eq_true rfl⟩) (fun h_2 => ?_)
  refine lv_aload_n hx hb dX5_load_5 rfl (lv_at hl 0 rfl) ?_
  refine lv_iload_n hx hb dX5_load_6 rfl (lv_at hl 1 rfl) ?_
  refine vp_callSi (W.runV (As := [.int (nI a)]) (rest := []) ⟨hx, hb, hml, hown, hts⟩ (c_messagesAt l hM hM20 hs) (cwV 1 hts gX5_load_X5_messagesAt rfl rfl rfl (by decide +kernel) ⟨Nat.le_of_ble_eq_true rfl, Nat.le_of_ble_eq_true rfl⟩) (g_preV hF hG hS (lay_main) rfl) rfl rfl hl.1 rfl (lv_room (Nat.le_of_ble_eq_true rfl)) dX5_load_7 ⟨Nat.le_of_ble_eq_true rfl, Nat.le_of_ble_eq_true rfl⟩) (fun r_3 h_4 => ?_)
  exact W.iret (v := r_3) hx hb hr (fun t9 ht9 hW9 => ⟨_, rfl, h_4, ht9⟩) (fun q h => nomatch h) dX5_load_10

set_option maxHeartbeats 4000000 in
set_option maxRecDepth 100000 in
theorem c_isFull (l : Launch) {D : va_G} {C : g_C} {g : g_k → Nat → Int32} {ad ln : g_k → Nat} {ex : g_k → Option va_E} {B : Nat} {M : Nat} (hM : ln (5, 0, 0) = M) (hM20 : M ≤ 20) (hs : g (0, 0, 0) 7 = nI M) {a : Nat} (ha : a < 10) : Met l yX5_isFull wsX5_isFull ({ frames := 1, cells := 0, slots := 0, locals := 23 } : Room) (va_Pc [.ref (ad (0, 0, 0)), .int (nI a)] (g_S D C (lay C g ad ln ex) ad B)) (vp_Si (fun r => r = nI 0 ∨ r = nI 1)) 0 0 (fun _ => False) := by
  refine Met.ofW (cc := cX5_isFull) (maxL := 2) (ret := (some .boolean)) (by decide) rfl ?_
  intro p e s m args below meth c s₁ B₀ hml hv
  obtain ⟨rfl, hG, hF⟩ := hv
  have hK := hF.1
  have hN := hF.2.1
  have hB := hF.2.2.2
  have hx := B₀.exec
  have hb := B₀.bytes
  have hr := B₀.returns
  have hts := atoms_spec (ws := wsX5_isFull) B₀.pre
  have hown : s.vm.findClass RX5 = some m.cls := findClass_of_methodNamed B₀.named
  have hlocks := B₀.notSynchronized
  have hS : va_S (g_A B) s.heap s.heap [] := va_S.rf
  have hi5 : ∀ w ∈ wsX50, w ∈ wsX5_isFull := by decide +kernel
  have hl := lv_entry [.ref (ad (0, 0, 0)), .int (nI a)] (n := 2) (Nat.le_of_ble_eq_true rfl)
  rw [lg_entry_eq]
  generalize (lg_sl [.ref (ad (0, 0, 0)), .int (nI a)] ++ List.replicate (2 - (lg_sl [.ref (ad (0, 0, 0)), .int (nI a)]).length) Slot.unset).toArray = ls at hl ⊢
  have hl : lv_has ls 2 [(0, .ref (ad (0, 0, 0))), (1, .int (nI a))] := hl
  refine lv_aload_n hx hb dX5_isFull_0 rfl (lv_at hl 0 rfl) ?_
  refine g_get hx hb hts hi5 hown hK hG (lay_main) rfl 2 (by decide) (hts (.fieldLink RX5 27 "Satellitering" "stations" "[LSatellitering$Station;") (by decide +kernel)) rfl dX5_isFull_1 ?_
  refine lv_iload_n hx hb dX5_isFull_4 rfl (lv_at hl 1 rfl) ?_
  rcases Classical.em (ln (30, a, 0) = 1) with c_1 | c_1
  · refine o_stationY hx hb hK hG ha c_1 dX5_isFull_5 ?_
    refine lv_ifnonnull (tgt := 27) hx hb dX5_isFull_6 (by decide) ?_
    refine lv_iconst (v := nI 0) hx hb dX5_isFull_27 (by decide) ?_
    exact W.zret (v := nI 0) hx hb hr rfl (fun t9 ht9 hW9 => ⟨_, rfl, Or.inl rfl, ht9⟩) (fun q h => nomatch h) dX5_isFull_28
  · refine o_stationN hx hb hK hG ((show a < 10 by omega)) c_1 dX5_isFull_5 ?_
    refine lv_ifnonnullN hx hb dX5_isFull_6 ?_
    refine lv_aload_n hx hb dX5_isFull_9 rfl (lv_at hl 0 rfl) ?_
    refine lv_iload_n hx hb dX5_isFull_10 rfl (lv_at hl 1 rfl) ?_
    refine vp_callSi (W.runV (As := [.int (nI a)]) (rest := []) ⟨hx, hb, hml, hown, hts⟩ (c_messagesAt l hM hM20 hs) (cwV 1 hts gX5_isFull_X5_messagesAt rfl rfl rfl (by decide +kernel) ⟨Nat.le_of_ble_eq_true rfl, Nat.le_of_ble_eq_true rfl⟩) (g_preV hF hG hS (lay_main) rfl) rfl rfl hl.1 rfl (lv_room (Nat.le_of_ble_eq_true rfl)) dX5_isFull_11 ⟨Nat.le_of_ble_eq_true rfl, Nat.le_of_ble_eq_true rfl⟩) (fun r_2 h_3 => ?_)
    refine lv_aload_n hx hb dX5_isFull_14 rfl (lv_at hl 0 rfl) ?_
    refine g_get hx hb hts hi5 hown hK hG (lay_main) rfl 3 (by decide) (hts (.fieldLink RX5 31 "Satellitering" "capacities" "[I") (by decide +kernel)) rfl dX5_isFull_15 ?_
    refine lv_iload_n hx hb dX5_isFull_18 rfl (lv_at hl 1 rfl) ?_
    refine g_iald hx hb hK hG (lay_caps) ((show a < 10 by omega)) (by first | decide | omega) dX5_isFull_19 ?_
    refine lv_icmp_lt (tgt := 27) hx hb dX5_isFull_20 (by decide) (fun c_4 => ?_) (fun c_4 => ?_)
    · refine lv_iconst (v := nI 0) hx hb dX5_isFull_27 (by decide) ?_
      exact W.zret (v := nI 0) hx hb hr rfl (fun t9 ht9 hW9 => ⟨_, rfl, Or.inl rfl, ht9⟩) (fun q h => nomatch h) dX5_isFull_28
    · refine lv_iconst (v := nI 1) hx hb dX5_isFull_23 (by decide) ?_
      refine lv_goto (tgt := 28) hx hb dX5_isFull_24 (by decide) ?_
      exact W.zret (v := nI 1) hx hb hr rfl (fun t9 ht9 hW9 => ⟨_, rfl, Or.inr rfl, ht9⟩) (fun q h => nomatch h) dX5_isFull_28

set_option maxHeartbeats 4000000 in
set_option maxRecDepth 100000 in
theorem c_lookForRelay (l : Launch) {D : va_G} {C : g_C} {g : g_k → Nat → Int32} {ad ln : g_k → Nat} {ex : g_k → Option va_E} {B : Nat} {n : Nat} (hn : n ≤ 10) (hc : g (1, 0, 0) 4 = nI n) {i t kk : Nat} (hi9 : i < 10) (hlv : ln (30, i, 0) = 1) (hnow : g (0, 0, 0) 8 = nI t) (ht : t ≤ 1000000) (hrel : g (30, i, 0) 1 = (-1) ∨ ∃ r, r < n ∧ g (30, i, 0) 1 = nI r) (hkk : g (30, i, 0) 2 = nI kk) : Met l yX5_lookForRelay wsX5_lookForRelay ({ frames := 3, cells := 0, slots := 0, locals := 69 } : Room) (va_Pc [.ref (ad (0, 0, 0)), .int (nI i), .ref (ad (30, i, 0))] (g_S D C (lay C g ad ln ex) ad B)) (va_Qv (fun (g1 : g_k → Nat → Int32) => (∀ c, c ≠ (30, i, 0) → g1 c = g c) ∧ rel_P g1 n t i ∧ ∃ k, k ≤ kk + 1 ∧ g1 (30, i, 0) 2 = nI k ∧ (g (30, i, 0) 1 = (-1) → k = kk)) (fun g1 t => g_P D (lay C g1 ad ln ex) ad B t.heap) (g_A B)) 0 0 (g_A B) := by
  refine Met.ofW (cc := cX5_lookForRelay) (maxL := 7) (ret := none) (by decide) rfl ?_
  intro p e s m args below meth c s₁ B₀ hml hv
  obtain ⟨rfl, hG, hF⟩ := hv
  have hK := hF.1
  have hN := hF.2.1
  have hB := hF.2.2.2
  have hx := B₀.exec
  have hb := B₀.bytes
  have hr := B₀.returns
  have hts := atoms_spec (ws := wsX5_lookForRelay) B₀.pre
  have hown : s.vm.findClass RX5 = some m.cls := findClass_of_methodNamed B₀.named
  have hlocks := B₀.notSynchronized
  have hS : va_S (g_A B) s.heap s.heap [] := va_S.rf
  have hi2 : ∀ w ∈ wsX20, w ∈ wsX5_lookForRelay := by decide +kernel
  have hi3 : ∀ w ∈ wsX30, w ∈ wsX5_lookForRelay := by decide +kernel
  have hi5 : ∀ w ∈ wsX50, w ∈ wsX5_lookForRelay := by decide +kernel
  have hl := lv_entry [.ref (ad (0, 0, 0)), .int (nI i), .ref (ad (30, i, 0))] (n := 7) (Nat.le_of_ble_eq_true rfl)
  rw [lg_entry_eq]
  generalize (lg_sl [.ref (ad (0, 0, 0)), .int (nI i), .ref (ad (30, i, 0))] ++ List.replicate (7 - (lg_sl [.ref (ad (0, 0, 0)), .int (nI i), .ref (ad (30, i, 0))]).length) Slot.unset).toArray = ls at hl ⊢
  have hl : lv_has ls 7 [(0, .ref (ad (0, 0, 0))), (1, .int (nI i)), (2, .ref (ad (30, i, 0)))] := hl
  have rest : ∀ ls, lv_has ls 7 [(0, .ref (ad (0, 0, 0))), (1, .int (nI i)), (2, .ref (ad (30, i, 0)))] → W p l e (headSpec wsX5_lookForRelay ({ frames := 3, cells := 0, slots := 0, locals := 69 } : Room)).room s m ([.ref (ad (0, 0, 0)), .int (nI i), .ref (ad (30, i, 0))]).toArray below meth c s.heap [] 0 0 (MQ below (va_Qv (fun (g1 : g_k → Nat → Int32) => (∀ c, c ≠ (30, i, 0) → g1 c = g c) ∧ rel_P g1 n t i ∧ ∃ k, k ≤ kk + 1 ∧ g1 (30, i, 0) 2 = nI k ∧ (g (30, i, 0) 1 = (-1) → k = kk)) (fun g1 t => g_P D (lay C g1 ad ln ex) ad B t.heap) (g_A B)) ([.ref (ad (0, 0, 0)), .int (nI i), .ref (ad (30, i, 0))]).toArray s 0 0 (g_A B)) (F0 m 28 ls []) := by
    intro ls hl
    refine lv_iconst (v := (-1)) hx hb dX5_lookForRelay_28 (by decide) ?_
    refine lv_istore_n (lv' := [(3, .int (-1)), (0, .ref (ad (0, 0, 0))), (1, .int (nI i)), (2, .ref (ad (30, i, 0)))]) hx hb dX5_lookForRelay_29 rfl hl (by decide) rfl (fun ls hl => ?_)
    refine lv_iconst (v := nI 0) hx hb dX5_lookForRelay_30 (by decide) ?_
    refine lv_istore (lv' := [(4, .int (nI 0)), (3, .int (-1)), (0, .ref (ad (0, 0, 0))), (1, .int (nI i)), (2, .ref (ad (30, i, 0)))]) hx hb dX5_lookForRelay_31 hl (by decide) rfl (fun ls hl => ?_)
    refine lv_iconst (v := nI 0) hx hb dX5_lookForRelay_33 (by decide) ?_
    refine lv_istore (lv' := [(5, .int (nI 0)), (4, .int (nI 0)), (3, .int (-1)), (0, .ref (ad (0, 0, 0))), (1, .int (nI i)), (2, .ref (ad (30, i, 0)))]) hx hb dX5_lookForRelay_34 hl (by decide) rfl (fun ls hl => ?_)
    have loop : ∀ (k q L : Nat) (z : Int32), q ≤ n → n < q + k → L ≤ 360 → ((z = (-1) ∧ L = 0 ∧ ∀ o, o < q → see g i o t = false) ∨ ∃ o, o < n ∧ z = nI o ∧ 0 < L ∧ see g i o t = true) → ∀ ls, lv_has ls 7 [(5, .int (nI q)), (4, .int (nI L)), (3, .int z), (0, .ref (ad (0, 0, 0))), (1, .int (nI i)), (2, .ref (ad (30, i, 0)))] → W p l e (headSpec wsX5_lookForRelay ({ frames := 3, cells := 0, slots := 0, locals := 69 } : Room)).room s m ([.ref (ad (0, 0, 0)), .int (nI i), .ref (ad (30, i, 0))]).toArray below meth c s.heap [] 0 0 (MQ below (va_Qv (fun (g1 : g_k → Nat → Int32) => (∀ c, c ≠ (30, i, 0) → g1 c = g c) ∧ rel_P g1 n t i ∧ ∃ k, k ≤ kk + 1 ∧ g1 (30, i, 0) 2 = nI k ∧ (g (30, i, 0) 1 = (-1) → k = kk)) (fun g1 t => g_P D (lay C g1 ad ln ex) ad B t.heap) (g_A B)) ([.ref (ad (0, 0, 0)), .int (nI i), .ref (ad (30, i, 0))]).toArray s 0 0 (g_A B)) (F0 m 36 ls []) := by
      intro k
      induction k with
      | zero => intro q L z h1 h2; exact absurd h2 (by omega)
      | succ k ih =>
        intro q L z h1 h2 h3 h4 ls hl
        refine lv_iload hx hb dX5_lookForRelay_36 (lv_at hl 0 rfl) ?_
        refine lv_aload_n hx hb dX5_lookForRelay_38 rfl (lv_at hl 3 rfl) ?_
        refine g_get hx hb hts hi5 hown hK hG (lay_main) rfl 0 (by decide) (hts (.fieldLink RX5 12 "Satellitering" "sky" "LSatellitering$Sky;") (by decide +kernel)) rfl dX5_lookForRelay_39 ?_
        refine g_getN hx hb hts hi2 hown hK hG (lay_sky) rfl 4 (by decide) (va_Nw.use rfl hN.2.2.2.2.2.2.2.2.2.2.1) rfl dX5_lookForRelay_42 ?_
        refine lv_to (y := nI n) (hc) ?_
        refine lv_icmp_ge (tgt := 84) hx hb dX5_lookForRelay_45 (by decide) (fun c_1 => ?_) (fun c_1 => ?_)
        · have hq : n ≤ q := (nI_leI (by omega) (by omega)).mp c_1
          have hz : (z = (-1) ∧ ∀ o, o < n → see g i o t = false) ∨ ∃ o, o < n ∧ z = nI o ∧ see g i o t = true := by
            rcases h4 with ⟨a1, a2, a3⟩ | ⟨o, a1, a2, a3, a4⟩
            · exact Or.inl ⟨a1, fun o ho => a3 o (by omega)⟩
            · exact Or.inr ⟨o, a1, a2, a4⟩
          refine lv_iload_n hx hb dX5_lookForRelay_84 rfl (lv_at hl 2 rfl) ?_
          refine lv_iconst (v := (-1)) hx hb dX5_lookForRelay_85 (by decide) ?_
          refine lv_icmp_eq (tgt := 107) hx hb dX5_lookForRelay_86 (by decide) (fun c_2 => ?_) (fun c_2 => ?_)
          · refine lv_aload_n hx hb dX5_lookForRelay_107 rfl (lv_at hl 5 rfl) ?_
            refine lv_iload_n hx hb dX5_lookForRelay_108 rfl (lv_at hl 2 rfl) ?_
            refine o_putN hx hb hts hi3 tyX3 tyX3_ok nmX3 hown hK hG hS (cd := (30, i, 0)) (F_station ad i) (fun _ => lay_station (show i < 10 by omega) hlv) rfl 1 (by decide) (va_Nw.use rfl hN.2.2.2.2.2.2.2.1) rfl rfl (by simp [upd]) (by simp) dX5_lookForRelay_109 (fun H locs hG hS => ?_)
            have e20 : ∀ i, (g2 g (30, i, 0) 1 z) (20, i, 0) = g (20, i, 0) := fun i => by rw [g2_ne _ _ _ (by intro h9; cases h9)]
            exact W.vret hx hb hr (fun t9 ht9 hW9 => ⟨⟨(g2 g (30, i, 0) 1 z), rfl, ⟨fun c hc9 => by rw [g2_ne _ _ _ hc9], (by unfold rel_P; rcases hz with ⟨a1, a2⟩ | ⟨o, a1, a2, a3⟩; exact Or.inl ⟨by rw [g2_self, upd_self]; exact a1, fun o ho => by rw [see_20 (g := g) (g1 := (g2 g (30, i, 0) 1 z)) e20]; exact a2 o ho⟩; exact Or.inr ⟨o, a1, by rw [g2_self, upd_self]; exact a2, by rw [see_20 (g := g) (g1 := (g2 g (30, i, 0) 1 z)) e20]; exact a3⟩), kk, Nat.le_succ kk, (by rw [g2_self, upd_ne _ _ (by decide)]; exact hkk), fun _ => rfl⟩, by show g_P _ _ _ _ t9.heap; rw [ht9]; exact hG⟩, hS.F ht9⟩) hS.2.2 dX5_lookForRelay_112
          · refine lv_aload_n hx hb dX5_lookForRelay_89 rfl (lv_at hl 5 rfl) ?_
            refine g_getN hx hb hts hi3 hown hK hG (lay_station (show i < 10 by omega) hlv) rfl 1 (by decide) (va_Nw.use rfl hN.2.2.2.2.2.2.2.1) rfl dX5_lookForRelay_90 ?_
            refine lv_iconst (v := (-1)) hx hb dX5_lookForRelay_93 (by decide) ?_
            refine lv_icmp_eq (tgt := 107) hx hb dX5_lookForRelay_94 (by decide) (fun c_3 => ?_) (fun c_3 => ?_)
            · refine lv_aload_n hx hb dX5_lookForRelay_107 rfl (lv_at hl 5 rfl) ?_
              refine lv_iload_n hx hb dX5_lookForRelay_108 rfl (lv_at hl 2 rfl) ?_
              refine o_putN hx hb hts hi3 tyX3 tyX3_ok nmX3 hown hK hG hS (cd := (30, i, 0)) (F_station ad i) (fun _ => lay_station (show i < 10 by omega) hlv) rfl 1 (by decide) (va_Nw.use rfl hN.2.2.2.2.2.2.2.1) rfl rfl (by simp [upd]) (by simp) dX5_lookForRelay_109 (fun H locs hG hS => ?_)
              have e20 : ∀ i, (g2 g (30, i, 0) 1 z) (20, i, 0) = g (20, i, 0) := fun i => by rw [g2_ne _ _ _ (by intro h9; cases h9)]
              exact W.vret hx hb hr (fun t9 ht9 hW9 => ⟨⟨(g2 g (30, i, 0) 1 z), rfl, ⟨fun c hc9 => by rw [g2_ne _ _ _ hc9], (by unfold rel_P; rcases hz with ⟨a1, a2⟩ | ⟨o, a1, a2, a3⟩; exact Or.inl ⟨by rw [g2_self, upd_self]; exact a1, fun o ho => by rw [see_20 (g := g) (g1 := (g2 g (30, i, 0) 1 z)) e20]; exact a2 o ho⟩; exact Or.inr ⟨o, a1, by rw [g2_self, upd_self]; exact a2, by rw [see_20 (g := g) (g1 := (g2 g (30, i, 0) 1 z)) e20]; exact a3⟩), kk, Nat.le_succ kk, (by rw [g2_self, upd_ne _ _ (by decide)]; exact hkk), fun _ => rfl⟩, by show g_P _ _ _ _ t9.heap; rw [ht9]; exact hG⟩, hS.F ht9⟩) hS.2.2 dX5_lookForRelay_112
            · refine lv_aload_n hx hb dX5_lookForRelay_97 rfl (lv_at hl 5 rfl) ?_
              refine lv_dup hx hb dX5_lookForRelay_98 rfl ?_
              refine g_getN hx hb hts hi3 hown hK hG (lay_station (show i < 10 by omega) hlv) rfl 2 (by decide) (va_Nw.use rfl hN.2.2.2.2.2.2.2.2.1) rfl dX5_lookForRelay_99 ?_
              refine lv_to (y := nI kk) (hkk) ?_
              refine lv_iconst (v := nI 1) hx hb dX5_lookForRelay_102 (by decide) ?_
              refine lv_iadd hx hb dX5_lookForRelay_103 ?_
              refine lv_to (y := nI (kk + 1)) (nI_add kk 1) ?_
              refine o_putN hx hb hts hi3 tyX3 tyX3_ok nmX3 hown hK hG hS (cd := (30, i, 0)) (F_station ad i) (fun _ => lay_station (show i < 10 by omega) hlv) rfl 2 (by decide) (va_Nw.use rfl hN.2.2.2.2.2.2.2.2.1) rfl rfl (by simp [upd]) (by simp) dX5_lookForRelay_104 (fun H locs hG hS => ?_)
              refine lv_aload_n hx hb dX5_lookForRelay_107 rfl (lv_at hl 5 rfl) ?_
              refine lv_iload_n hx hb dX5_lookForRelay_108 rfl (lv_at hl 2 rfl) ?_
              refine o_putN hx hb hts hi3 tyX3 tyX3_ok nmX3 hown hK hG hS (cd := (30, i, 0)) (F_station ad i) (fun _ => lay_station (show i < 10 by omega) hlv) rfl 1 (by decide) (va_Nw.use rfl hN.2.2.2.2.2.2.2.1) rfl rfl (by simp [upd]) (by simp) dX5_lookForRelay_109 (fun H locs hG hS => ?_)
              have e20 : ∀ i, (g2 (g2 g (30, i, 0) 2 (nI (kk + 1))) (30, i, 0) 1 z) (20, i, 0) = g (20, i, 0) := fun i => by rw [g2_ne _ _ _ (by intro h9; cases h9), g2_ne _ _ _ (by intro h9; cases h9)]
              exact W.vret hx hb hr (fun t9 ht9 hW9 => ⟨⟨(g2 (g2 g (30, i, 0) 2 (nI (kk + 1))) (30, i, 0) 1 z), rfl, ⟨fun c hc9 => by rw [g2_ne _ _ _ hc9, g2_ne _ _ _ hc9], (by unfold rel_P; rcases hz with ⟨a1, a2⟩ | ⟨o, a1, a2, a3⟩; exact Or.inl ⟨by rw [g2_self, upd_self]; exact a1, fun o ho => by rw [see_20 (g := g) (g1 := (g2 (g2 g (30, i, 0) 2 (nI (kk + 1))) (30, i, 0) 1 z)) e20]; exact a2 o ho⟩; exact Or.inr ⟨o, a1, by rw [g2_self, upd_self]; exact a2, by rw [see_20 (g := g) (g1 := (g2 (g2 g (30, i, 0) 2 (nI (kk + 1))) (30, i, 0) 1 z)) e20]; exact a3⟩), kk + 1, Nat.le_refl _, (by rw [g2_self, upd_ne _ _ (by decide), g2_self, upd_self]), fun h9 => absurd h9 c_3⟩, by show g_P _ _ _ _ t9.heap; rw [ht9]; exact hG⟩, hS.F ht9⟩) hS.2.2 dX5_lookForRelay_112
        · have hq : q < n := Nat.lt_of_not_le (fun h9 => c_1 ((nI_leI (by omega) (by omega)).mpr h9))
          refine lv_aload_n hx hb dX5_lookForRelay_48 rfl (lv_at hl 3 rfl) ?_
          refine g_get hx hb hts hi5 hown hK hG (lay_main) rfl 0 (by decide) (hts (.fieldLink RX5 12 "Satellitering" "sky" "LSatellitering$Sky;") (by decide +kernel)) rfl dX5_lookForRelay_49 ?_
          refine lv_iload_n hx hb dX5_lookForRelay_52 rfl (lv_at hl 4 rfl) ?_
          refine lv_iload hx hb dX5_lookForRelay_53 (lv_at hl 0 rfl) ?_
          refine lv_aload_n hx hb dX5_lookForRelay_55 rfl (lv_at hl 3 rfl) ?_
          refine g_get hx hb hts hi5 hown hK hG (lay_main) rfl 8 (by decide) (hts (.fieldLink RX5 51 "Satellitering" "now" "I") (by decide +kernel)) rfl dX5_lookForRelay_56 ?_
          refine lv_to (y := nI t) (hnow) ?_
          refine vp_callSi (W.runV (As := [.int (nI i), .int (nI q), .int (nI t)]) (rest := []) ⟨hx, hb, hml, hown, hts⟩ (c_contactLength l (show i < 10 by omega) (show q < 32 by omega) (show t + 360 < 2 ^ 31 by omega)) (cwV 3 hts gX5_lookForRelay_X2_contactLength rfl rfl rfl (by decide +kernel) ⟨Nat.le_of_ble_eq_true rfl, Nat.le_of_ble_eq_true rfl⟩) (g_preV hF hG hS (lay_sky) rfl) rfl rfl hl.1 rfl (lv_room (Nat.le_of_ble_eq_true rfl)) dX5_lookForRelay_59 ⟨Nat.le_of_ble_eq_true rfl, Nat.le_of_ble_eq_true rfl⟩) (fun r_4 h_5 => ?_)
          obtain ⟨k0, k1, k2, k3, k4⟩ := h_5
          refine lv_to (y := nI k0) (k4) ?_
          refine lv_istore (lv' := [(6, .int (nI k0)), (5, .int (nI q)), (4, .int (nI L)), (3, .int z), (0, .ref (ad (0, 0, 0))), (1, .int (nI i)), (2, .ref (ad (30, i, 0)))]) hx hb dX5_lookForRelay_62 hl (by decide) rfl (fun ls hl => ?_)
          refine lv_iload hx hb dX5_lookForRelay_64 (lv_at hl 0 rfl) ?_
          refine lv_iload hx hb dX5_lookForRelay_66 (lv_at hl 2 rfl) ?_
          refine lv_icmp_le (tgt := 78) hx hb dX5_lookForRelay_68 (by decide) (fun c_6 => ?_) (fun c_6 => ?_)
          · have hle : k0 ≤ L := (nI_leI (by omega) (by omega)).mp c_6
            refine lv_iinc (v := nI (q + 1)) (lv' := [(5, .int (nI (q + 1))), (6, .int (nI k0)), (4, .int (nI L)), (3, .int z), (0, .ref (ad (0, 0, 0))), (1, .int (nI i)), (2, .ref (ad (30, i, 0)))]) hx hb dX5_lookForRelay_78 hl (k := 1) rfl (nI_add q 1) (by decide) rfl (fun ls hl => ?_)
            refine lv_goto (tgt := 36) hx hb dX5_lookForRelay_81 (by decide) ?_
            refine ih (q + 1) L z (by omega) (by omega) h3 ?_ ls (lv_sub hl [0, 2, 3, 4, 5, 6] rfl)
            rcases h4 with ⟨a1, a2, a3⟩ | a1
            · refine Or.inl ⟨a1, a2, fun o ho => ?_⟩
              rcases Nat.lt_or_eq_of_le (Nat.le_of_lt_succ ho) with h9 | h9
              · exact a3 o h9
              · rw [h9]; have h8 := k3 (by omega); rw [show k0 = 0 by omega] at h8; exact h8
            · exact Or.inr a1
          · have hgt : L < k0 := Nat.lt_of_not_le (fun h9 => c_6 ((nI_leI (by omega) (by omega)).mpr h9))
            refine lv_iload hx hb dX5_lookForRelay_71 (lv_at hl 0 rfl) ?_
            refine lv_istore (lv' := [(4, .int (nI k0)), (6, .int (nI k0)), (5, .int (nI q)), (3, .int z), (0, .ref (ad (0, 0, 0))), (1, .int (nI i)), (2, .ref (ad (30, i, 0)))]) hx hb dX5_lookForRelay_73 hl (by decide) rfl (fun ls hl => ?_)
            refine lv_iload hx hb dX5_lookForRelay_75 (lv_at hl 2 rfl) ?_
            refine lv_istore_n (lv' := [(3, .int (nI q)), (4, .int (nI k0)), (6, .int (nI k0)), (5, .int (nI q)), (0, .ref (ad (0, 0, 0))), (1, .int (nI i)), (2, .ref (ad (30, i, 0)))]) hx hb dX5_lookForRelay_77 rfl hl (by decide) rfl (fun ls hl => ?_)
            refine lv_iinc (v := nI (q + 1)) (lv' := [(5, .int (nI (q + 1))), (3, .int (nI q)), (4, .int (nI k0)), (6, .int (nI k0)), (0, .ref (ad (0, 0, 0))), (1, .int (nI i)), (2, .ref (ad (30, i, 0)))]) hx hb dX5_lookForRelay_78 hl (k := 3) rfl (nI_add q 1) (by decide) rfl (fun ls hl => ?_)
            refine lv_goto (tgt := 36) hx hb dX5_lookForRelay_81 (by decide) ?_
            exact ih (q + 1) k0 _ (by omega) (by omega) k1 (Or.inr ⟨q, hq, rfl, by omega, k2 0 (by omega)⟩) ls (lv_sub hl [0, 2, 1, 4, 5, 6] rfl)
    exact loop (n + 1) 0 0 _ (Nat.zero_le n) (by omega) (by decide) (Or.inl ⟨rfl, rfl, fun o ho => absurd ho (Nat.not_lt_zero o)⟩) ls (lv_sub hl [0, 1, 2, 3, 4, 5] rfl)
  refine lv_aload_n hx hb dX5_lookForRelay_0 rfl (lv_at hl 2 rfl) ?_
  refine g_getN hx hb hts hi3 hown hK hG (lay_station (show i < 10 by omega) hlv) rfl 1 (by decide) (va_Nw.use rfl hN.2.2.2.2.2.2.2.1) rfl dX5_lookForRelay_1 ?_
  refine lv_iconst (v := (-1)) hx hb dX5_lookForRelay_4 (by decide) ?_
  refine lv_icmp_eq (tgt := 28) hx hb dX5_lookForRelay_5 (by decide) (fun c_7 => ?_) (fun c_7 => ?_)
  · exact rest ls (lv_sub hl [0, 1, 2] rfl)
  · obtain ⟨r0, hr0, er0⟩ : ∃ r0, r0 < n ∧ g (30, i, 0) 1 = nI r0 := hrel.resolve_left c_7
    refine lv_aload_n hx hb dX5_lookForRelay_8 rfl (lv_at hl 0 rfl) ?_
    refine g_get hx hb hts hi5 hown hK hG (lay_main) rfl 0 (by decide) (hts (.fieldLink RX5 12 "Satellitering" "sky" "LSatellitering$Sky;") (by decide +kernel)) rfl dX5_lookForRelay_9 ?_
    refine lv_iload_n hx hb dX5_lookForRelay_12 rfl (lv_at hl 1 rfl) ?_
    refine lv_aload_n hx hb dX5_lookForRelay_13 rfl (lv_at hl 2 rfl) ?_
    refine g_getN hx hb hts hi3 hown hK hG (lay_station (show i < 10 by omega) hlv) rfl 1 (by decide) (va_Nw.use rfl hN.2.2.2.2.2.2.2.1) rfl dX5_lookForRelay_14 ?_
    refine lv_to (y := nI r0) (er0) ?_
    refine lv_aload_n hx hb dX5_lookForRelay_17 rfl (lv_at hl 0 rfl) ?_
    refine g_get hx hb hts hi5 hown hK hG (lay_main) rfl 8 (by decide) (hts (.fieldLink RX5 51 "Satellitering" "now" "I") (by decide +kernel)) rfl dX5_lookForRelay_18 ?_
    refine lv_to (y := nI t) (hnow) ?_
    refine vp_callSi (W.runV (As := [.int (nI i), .int (nI r0), .int (nI t)]) (rest := []) ⟨hx, hb, hml, hown, hts⟩ (c_inContact l (show i < 10 by omega) (show r0 < 32 by omega) (show t < 2 ^ 31 by omega)) (cwV 3 hts gX5_lookForRelay_X2_inContact rfl rfl rfl (by decide +kernel) ⟨Nat.le_of_ble_eq_true rfl, Nat.le_of_ble_eq_true rfl⟩) (g_preV hF hG hS (lay_sky) rfl) rfl rfl hl.1 rfl (lv_room (Nat.le_of_ble_eq_true rfl)) dX5_lookForRelay_21 ⟨Nat.le_of_ble_eq_true rfl, Nat.le_of_ble_eq_true rfl⟩) (fun r_8 h_9 => ?_)
    refine lv_if_eq (tgt := 28) hx hb dX5_lookForRelay_24 (by decide) (fun c_10 => ?_) (fun c_10 => ?_)
    · exact rest ls (lv_sub hl [0, 1, 2] rfl)
    · have hs : see g i r0 t = true := by
        by_cases h9 : see g i r0 t = true
        · exact h9
        · exact absurd (by rw [show r_8 = _ from h_9, if_neg h9]; exact nI_0) c_10
      exact W.vret hx hb hr (fun t9 ht9 hW9 => ⟨⟨g, rfl, ⟨fun _ _ => rfl, Or.inr ⟨r0, hr0, er0, hs⟩, kk, Nat.le_succ kk, hkk, fun _ => rfl⟩, by show g_P _ _ _ _ t9.heap; rw [ht9]; exact hG⟩, hS.F ht9⟩) hS.2.2 dX5_lookForRelay_27
end
section
/-- message j moves on: what it leaves as it was -/
def mv_P (g : g_k → Nat → Int32) (ad ln : g_k → Nat) (j : Nat) (g1 : g_k → Nat → Int32) (ad1 ln1 : g_k → Nat) : Prop := (∀ c : g_k, (c.1 < 31 ∨ 42 < c.1 ∨ (40 ≤ c.1 ∧ c.2.1 ≠ j)) → g1 c = g c) ∧ (∀ c : g_k, c.1 ≠ 41 → c.1 ≠ 42 → ad1 c = ad c) ∧ (∀ c : g_k, c.1 ≠ 31 → (c.1 ≠ 41 ∧ c.1 ≠ 42 ∨ c.2.1 ≠ j) → ln1 c = ln c)
/-- what the messages' moves leave as it was -/
def mf_P (g : g_k → Nat → Int32) (ad ln : g_k → Nat) (g1 : g_k → Nat → Int32) (ad1 ln1 : g_k → Nat) : Prop := (∀ c : g_k, (c.1 < 31 ∨ 42 < c.1) → g1 c = g c) ∧ (∀ c : g_k, c.1 ≠ 41 → c.1 ≠ 42 → ad1 c = ad c) ∧ (∀ c : g_k, c.1 ≠ 31 → c.1 ≠ 41 → c.1 ≠ 42 → ln1 c = ln c)
theorem mf_rf {g : g_k → Nat → Int32} {ad ln : g_k → Nat} : mf_P g ad ln g ad ln := ⟨fun _ _ => rfl, fun _ _ _ => rfl, fun _ _ _ _ => rfl⟩
theorem mf_mv {g g1 g3 : g_k → Nat → Int32} {ad ln ad1 ln1 ad3 ln3 : g_k → Nat} {j : Nat} (h : mf_P g ad ln g1 ad1 ln1) (h2 : mv_P g1 ad1 ln1 j g3 ad3 ln3) : mf_P g ad ln g3 ad3 ln3 := ⟨fun c hc => (h2.1 c (by omega)).trans (h.1 c hc), fun c c1 c2 => (h2.2.1 c c1 c2).trans (h.2.1 c c1 c2), fun c c1 c2 c3 => (h2.2.2 c c1 (Or.inl ⟨c2, c3⟩)).trans (h.2.2 c c1 c2 c3)⟩
/-- what minutes leave as it was -/
def pf_P (g : g_k → Nat → Int32) (ad ln : g_k → Nat) (g1 : g_k → Nat → Int32) (ad1 ln1 : g_k → Nat) : Prop := (∀ c : g_k, (c.1 < 30 ∨ 42 < c.1) → c ≠ (0, 0, 0) → g1 c = g c) ∧ (∀ c : g_k, c.1 ≠ 41 → c.1 ≠ 42 → ad1 c = ad c) ∧ (∀ c : g_k, c.1 ≠ 31 → c.1 ≠ 41 → c.1 ≠ 42 → ln1 c = ln c)
theorem pf_rf {g : g_k → Nat → Int32} {ad ln : g_k → Nat} : pf_P g ad ln g ad ln := ⟨fun _ _ _ => rfl, fun _ _ _ => rfl, fun _ _ _ _ => rfl⟩
theorem pf_tr {g g1 g3 : g_k → Nat → Int32} {ad ln ad1 ln1 ad3 ln3 : g_k → Nat} (h : pf_P g ad ln g1 ad1 ln1) (h2 : pf_P g1 ad1 ln1 g3 ad3 ln3) : pf_P g ad ln g3 ad3 ln3 := ⟨fun c hc h0 => (h2.1 c hc h0).trans (h.1 c hc h0), fun c c1 c2 => (h2.2.1 c c1 c2).trans (h.2.1 c c1 c2), fun c c1 c2 c3 => (h2.2.2 c c1 c2 c3).trans (h.2.2 c c1 c2 c3)⟩
/-- one minute -/
def pm_P (g : g_k → Nat → Int32) (ad ln : g_k → Nat) (n sta M t t1 : Nat) (src to : Nat → Nat) (r : Int32) (g1 : g_k → Nat → Int32) (ad1 ln1 : g_k → Nat) : Prop := pf_P g ad ln g1 ad1 ln1 ∧ g1 (0, 0, 0) 7 = g (0, 0, 0) 7 ∧ g1 (0, 0, 0) 8 = nI t1 ∧ (∀ j, j < M → mok g1 ln1 n t1 j (src j) (to j)) ∧ (∀ i, i < sta → (t < t1 → rel_P g1 n t1 i) ∧ rlw_P g1 n t1 i) ∧ ∃ q, q ≤ M * (t1 - t) ∧ r = nI q ∧ cg g1 M = cg g M + q

set_option maxHeartbeats 4000000 in
set_option maxRecDepth 100000 in
theorem c_moveOn (l : Launch) {D : va_G} {C : g_C} {g : g_k → Nat → Int32} {ad ln : g_k → Nat} {ex : g_k → Option va_E} {B : Nat} {n : Nat} (hn : n ≤ 10) (hc : g (1, 0, 0) 4 = nI n) {M : Nat} (hM : ln (5, 0, 0) = M) (hM20 : M ≤ 20) (hs : g (0, 0, 0) 7 = nI M) {t j k s0 : Nat} (hj : j < M) (hgo : ln (43, j, 0) = k) (hk : k < 10) (hlv : ln (30, k, 0) = 1) (hnow : g (0, 0, 0) 8 = nI t) (ht : t < 2 ^ 19) (hmk : mok g ln n t j s0 k) (hng : g (40, j, 0) 2 ≠ g (40, j, 0) 0) : Met l yX5_moveOn wsX5_moveOn ({ frames := 4, cells := 2, slots := (wd t), locals := 94 } : Room) (va_Pc [.ref (ad (0, 0, 0)), .ref (ad (40, j, 0))] (g_S D C (lay C g ad ln ex) ad B)) (va_Qv (fun (u : (g_k → Nat → Int32) × (g_k → Nat) × (g_k → Nat)) => mv_P g ad ln j u.1 u.2.1 u.2.2 ∧ mok u.1 u.2.2 n (t + 1) j s0 k) (fun u t => g_P D (lay C u.1 u.2.1 u.2.2 ex) u.2.1 B t.heap) (g_A B)) 2 (wd t) (g_A B) := by
  refine Met.ofW (cc := cX5_moveOn) (maxL := 3) (ret := none) (by decide) rfl ?_
  intro p e s m args below meth c s₁ B₀ hml hv
  obtain ⟨rfl, hG, hF⟩ := hv
  have hK := hF.1
  have hN := hF.2.1
  have hB := hF.2.2.2
  have hx := B₀.exec
  have hb := B₀.bytes
  have hr := B₀.returns
  have hts := atoms_spec (ws := wsX5_moveOn) B₀.pre
  have hown : s.vm.findClass RX5 = some m.cls := findClass_of_methodNamed B₀.named
  have hlocks := B₀.notSynchronized
  have hS : va_S (g_A B) s.heap s.heap [] := va_S.rf
  have hi0 : ∀ w ∈ wsX00, w ∈ wsX5_moveOn := by decide +kernel
  have hi5 : ∀ w ∈ wsX50, w ∈ wsX5_moveOn := by decide +kernel
  have hl := lv_entry [.ref (ad (0, 0, 0)), .ref (ad (40, j, 0))] (n := 3) (Nat.le_of_ble_eq_true rfl)
  rw [lg_entry_eq]
  generalize (lg_sl [.ref (ad (0, 0, 0)), .ref (ad (40, j, 0))] ++ List.replicate (3 - (lg_sl [.ref (ad (0, 0, 0)), .ref (ad (40, j, 0))]).length) Slot.unset).toArray = ls at hl ⊢
  have hl : lv_has ls 3 [(0, .ref (ad (0, 0, 0))), (1, .ref (ad (40, j, 0)))] := hl
  obtain ⟨hq, Nq, Tq, hmA⟩ := hmk
  have hmB := hmA
  obtain ⟨⟨a1, a2, a3, a4, bq, b1, b2⟩, ⟨c1, c2, c3, c4, qq, c5⟩, d1, d2, d3, d4⟩ := hmB
  have hNk : Nq hq ≠ k := fun z => hng (by rw [a1, a2, z])
  have hjl : j < ln (5, 0, 0) := by omega
  refine lv_aload_n hx hb dX5_moveOn_0 rfl (lv_at hl 1 rfl) ?_
  refine g_getN hx hb hts hi0 hown hK hG (lay_msg hjl) rfl 1 (by decide) (va_Nw.use rfl hN.2.2.2.2.2.2.2.2.2.1) rfl dX5_moveOn_1 ?_
  refine W.eq (g2 := F0 m 4 ls [.ref (ad (31, k, 0))]) (by rw [hgo]) ?_
  refine lv_aload_n hx hb dX5_moveOn_4 rfl (lv_at hl 1 rfl) ?_
  refine g_getN hx hb hts hi0 hown hK hG (lay_msg hjl) rfl 2 (by decide) (va_Nw.use rfl hN.2.1) rfl dX5_moveOn_5 ?_
  refine lv_to (y := nI (Nq hq)) (a2) ?_
  refine lv_aload_n hx hb dX5_moveOn_8 rfl (lv_at hl 0 rfl) ?_
  refine g_get hx hb hts hi5 hown hK hG (lay_main) rfl 8 (by decide) (hts (.fieldLink RX5 51 "Satellitering" "now" "I") (by decide +kernel)) rfl dX5_moveOn_9 ?_
  refine lv_to (y := nI t) (hnow) ?_
  refine va_calli (va_runV (As := [.int (nI (Nq hq)), .int (nI t)]) (rest := []) ⟨hx, hb, hml, hown, hts⟩ (c_nextNode l hn hc hk hlv (show Nq hq < 10 by omega) (show t < 2 ^ 30 by omega)) (cwV 2 hts gX5_moveOn_X4_nextNode rfl rfl rfl (by decide +kernel) ⟨Nat.le_of_ble_eq_true rfl, Nat.le_of_ble_eq_true rfl⟩) (g_preV hF hG hS (lay_time hk hlv) rfl) rfl rfl hl.1 rfl (lv_room (Nat.le_of_ble_eq_true rfl)) dX5_moveOn_12 ⟨Nat.le_of_ble_eq_true rfl, Nat.le_of_ble_eq_true rfl⟩) hS (fun q _ h => h) (fun q h => h) (fun r_1 u9 t9 H locs ht9 _ h_2 hB1 _ _ hS => ?_)
  obtain ⟨g_3, ln_4⟩ := u9
  dsimp only at h_2
  have hG : g_P D (lay C g_3 ad ln_4 ex) ad B H := by rw [← ht9]; exact hB1
  have n0 : ∀ c : g_k, (c.1 < 31 ∨ 35 < c.1) → g_3 c = g c := fun c hc9 => h_2.2.1 c (by omega)
  have nL : ∀ c : g_k, c.1 ≠ 31 → ln_4 c = ln c := fun c hc9 => h_2.2.2 c (fun z => hc9 (by rw [z]))
  have hmC : mokA g_3 ln_4 n t j s0 k hq Nq Tq := mokA_cong hmA (fun i => n0 _ (Or.inl (show (20 : Nat) < 31 by decide))) (n0 _ (Or.inr (show (35 : Nat) < 40 by decide))) (n0 _ (Or.inr (show (35 : Nat) < 41 by decide))) (n0 _ (Or.inr (show (35 : Nat) < 42 by decide))) (nL _ (show (41 : Nat) ≠ 31 by decide)) (nL _ (show (42 : Nat) ≠ 31 by decide))
  have hM1 : ln_4 (5, 0, 0) = M := by rw [nL _ (by decide)]; exact hM
  have hs1 : g_3 (0, 0, 0) 7 = nI M := by rw [n0 _ (by decide)]; exact hs
  have hnow1 : g_3 (0, 0, 0) 8 = nI t := by rw [n0 _ (by decide)]; exact hnow
  have e40 : g_3 (40, j, 0) = g (40, j, 0) := n0 _ (Or.inr (show (35 : Nat) < 40 by decide))
  refine lv_istore_n (lv' := [(2, .int r_1), (0, .ref (ad (0, 0, 0))), (1, .ref (ad (40, j, 0)))]) hx hb dX5_moveOn_15 rfl hl (by decide) rfl (fun ls hl => ?_)
  refine lv_iload_n hx hb dX5_moveOn_16 rfl (lv_at hl 0 rfl) ?_
  refine lv_iconst (v := (-1)) hx hb dX5_moveOn_17 (by decide) ?_
  refine lv_icmp_ne (tgt := 22) hx hb dX5_moveOn_18 (by decide) (fun c_6 => ?_) (fun c_6 => ?_)
  · obtain ⟨o, ho, ero, hso⟩ := h_2.1.resolve_left c_6
    subst ero
    refine lv_aload_n hx hb dX5_moveOn_22 rfl (lv_at hl 1 rfl) ?_
    refine lv_iload_n hx hb dX5_moveOn_23 rfl (lv_at hl 0 rfl) ?_
    refine vp_callSi (W.runV (As := [.int (nI o)]) (rest := []) ⟨hx, hb, hml, hown, hts⟩ (c_isFull l hM1 hM20 hs1 (show o < 10 by omega)) (cwV 1 hts gX5_moveOn_X5_isFull rfl rfl rfl (by decide +kernel) ⟨Nat.le_of_ble_eq_true rfl, Nat.le_of_ble_eq_true rfl⟩) (g_preV hF hG hS (lay_main) rfl) rfl rfl hl.1 rfl (lv_room (Nat.le_of_ble_eq_true rfl)) dX5_moveOn_24 ⟨Nat.le_of_ble_eq_true rfl, Nat.le_of_ble_eq_true rfl⟩) (fun r_7 h_8 => ?_)
    refine lv_if_eq (tgt := 43) hx hb dX5_moveOn_27 (by decide) (fun c_9 => ?_) (fun c_9 => ?_)
    · refine lv_aload_n hx hb dX5_moveOn_43 rfl (lv_at hl 2 rfl) ?_
      refine lv_iload_n hx hb dX5_moveOn_44 rfl (lv_at hl 0 rfl) ?_
      refine lv_aload_n hx hb dX5_moveOn_45 rfl (lv_at hl 1 rfl) ?_
      refine g_get hx hb hts hi5 hown hK hG (lay_main) rfl 8 (by decide) (hts (.fieldLink RX5 51 "Satellitering" "now" "I") (by decide +kernel)) rfl dX5_moveOn_46 ?_
      refine lv_to (y := nI t) (hnow1) ?_
      have l41 : ln_4 (41, j, 0) = ln (41, j, 0) := nL _ (show (41 : Nat) ≠ 31 by decide)
      have hW9 : hq < ln_4 (41, j, 0) ∨ 4 * hq ≤ wd t := by
        rcases Nat.lt_or_ge hq (ln_4 (41, j, 0)) with h9 | h9
        · exact Or.inl h9
        · have e9 : hq = 8 * 2 ^ qq := by omega
          rw [e9]
          exact Or.inr (wd_ok (by omega))
      have hL8 : 8 ≤ ln (41, j, 0) := by have := Nat.two_pow_pos qq; omega
      refine va_callv (va_runV (As := [.int (nI o), .int (nI t)]) (rest := []) ⟨hx, hb, hml, hown, hts⟩ (c_handTo l (Wd := wd t) (show j < ln_4 (5, 0, 0) by omega) (show g_3 (40, j, 0) 5 = nI hq by rw [e40]; exact a3) (show hq ≤ ln_4 (41, j, 0) by omega) (by rw [nL _ (show (42 : Nat) ≠ 31 by decide), l41]; exact c3) (by omega) hW9) (cwV 2 hts gX5_moveOn_X0_handTo rfl rfl rfl (by decide +kernel) ⟨Nat.le_of_ble_eq_true rfl, Nat.le_of_ble_eq_true rfl⟩) (g_preV hF hG hS (lay_msg (show j < ln_4 (5, 0, 0) by omega)) rfl) rfl rfl hl.1 rfl (lv_room (Nat.le_of_ble_eq_true rfl)) dX5_moveOn_49 ⟨(by show 0 + 2 ≤ 2; omega), (by show 0 + wd t ≤ wd t; omega)⟩) hS (fun q _ h => h) (fun q h => h) (fun u9 t9 H locs ht9 _ h_11 hB1 _ _ hS => ?_)
      obtain ⟨g_12, ad_14, ln_13⟩ := u9
      dsimp only at h_11
      have hG : g_P D (lay C g_12 ad_14 ln_13 ex) ad_14 B H := by rw [← ht9]; exact hB1
      have hfin := mok_hand hmC hNk ht ho (by rw [see_20 (g := g) (g1 := g_3) (fun i => n0 _ (Or.inl (show (20 : Nat) < 31 by decide)))]; exact hso) h_11
      obtain ⟨p1, -, -, -, -, p6, -⟩ := h_11
      refine W.widen (k := 2) (n := wd t) (by omega) (by omega) ?_
      exact W.vret hx hb hr (fun t9 ht9 hW9 => ⟨⟨(g_12, ad_14, ln_13), rfl, ⟨⟨fun c hc9 => (p1 c (fun z => by rw [z] at hc9; rcases hc9 with h9 | h9 | ⟨_, h9⟩; exact absurd h9 (show ¬ (40 : Nat) < 31 by decide); exact absurd h9 (show ¬ (42 : Nat) < 40 by decide); exact h9 rfl) (fun z => by rw [z] at hc9; rcases hc9 with h9 | h9 | ⟨_, h9⟩; exact absurd h9 (show ¬ (41 : Nat) < 31 by decide); exact absurd h9 (show ¬ (42 : Nat) < 41 by decide); exact h9 rfl) (fun z => by rw [z] at hc9; rcases hc9 with h9 | h9 | ⟨_, h9⟩; exact absurd h9 (show ¬ (42 : Nat) < 31 by decide); exact absurd h9 (show ¬ (42 : Nat) < 42 by decide); exact h9 rfl)).trans (n0 c (by omega)), fun c x1 x2 => (p6 c (fun z => x1 (by rw [z])) (fun z => x2 (by rw [z]))).1, fun c x1 x2 => (p6 c (fun z => by rw [z] at x2; rcases x2 with ⟨x2, _⟩ | x2; exact x2 rfl; exact x2 rfl) (fun z => by rw [z] at x2; rcases x2 with ⟨_, x2⟩ | x2; exact x2 rfl; exact x2 rfl)).2.trans (nL c x1)⟩, hfin⟩, by show g_P D (lay C g_12 ad_14 ln_13 ex) ad_14 B t9.heap; rw [ht9]; exact hG⟩, hS.F ht9⟩) hS.2.2 dX5_moveOn_52
    · refine lv_aload_n hx hb dX5_moveOn_30 rfl (lv_at hl 2 rfl) ?_
      refine lv_dup hx hb dX5_moveOn_31 rfl ?_
      refine g_getN hx hb hts hi0 hown hK hG (lay_msg (show j < ln_4 (5, 0, 0) by omega)) rfl 4 (by decide) (va_Nw.use rfl hN.2.2.2.2.2.2.1) rfl dX5_moveOn_32 ?_
      refine lv_to (y := nI bq) (by rw [e40]; exact b2) ?_
      refine lv_iconst (v := nI 1) hx hb dX5_moveOn_35 (by decide) ?_
      refine lv_iadd hx hb dX5_moveOn_36 ?_
      refine lv_to (y := nI (bq + 1)) (nI_add bq 1) ?_
      refine o_putN hx hb hts hi0 tyX0 tyX0_ok nmX0 hown hK hG hS (cd := (40, j, 0)) (F_msg ad ln_4 j) (fun _ => lay_msg (show j < ln_4 (5, 0, 0) by omega)) rfl 4 (by decide) (va_Nw.use rfl hN.2.2.2.2.2.2.1) rfl rfl (by simp [upd]) (by simp) dX5_moveOn_37 (fun H locs hG hS => ?_)
      refine W.widen (k := 2) (n := wd t) (by omega) (by omega) ?_
      refine lv_goto (tgt := 52) hx hb dX5_moveOn_40 (by decide) ?_
      have hfin : mok (g2 g_3 (40, j, 0) 4 (nI (bq + 1))) ln_4 n (t + 1) j s0 k := mok_blk ⟨hq, Nq, Tq, hmC⟩ (by rw [e40]; exact b2) b1 (fun c hc9 => g2_ne _ _ _ hc9) (g2_self _ _ _ _)
      exact W.vret hx hb hr (fun t9 ht9 hW9 => ⟨⟨((g2 g_3 (40, j, 0) 4 (nI (bq + 1))), ad, ln_4), rfl, ⟨⟨fun c hc9 => (g2_ne _ _ _ (fun z => by rw [z] at hc9; rcases hc9 with h9 | h9 | ⟨_, h9⟩; exact absurd h9 (show ¬ (40 : Nat) < 31 by decide); exact absurd h9 (show ¬ (42 : Nat) < 40 by decide); exact h9 rfl)).trans (n0 c (by omega)), fun _ _ _ => rfl, fun c c1 _ => nL c c1⟩, hfin⟩, by show g_P D (lay C (g2 g_3 (40, j, 0) 4 (nI (bq + 1))) ad ln_4 ex) ad B t9.heap; rw [ht9]; exact hG⟩, hS.F ht9⟩) hS.2.2 dX5_moveOn_52
  · refine W.widen (k := 2) (n := wd t) (by omega) (by omega) ?_
    exact W.vret hx hb hr (fun t9 ht9 hW9 => ⟨⟨(g_3, ad, ln_4), rfl, ⟨⟨fun c hc9 => n0 c (by omega), fun _ _ _ => rfl, fun c c1 _ => nL c c1⟩, mok_now ⟨hq, Nq, Tq, hmC⟩ (Nat.le_succ t)⟩, by show g_P D (lay C g_3 ad ln_4 ex) ad B t9.heap; rw [ht9]; exact hG⟩, hS.F ht9⟩) hS.2.2 dX5_moveOn_21

set_option maxHeartbeats 4000000 in
set_option maxRecDepth 100000 in
theorem c_passOneMinute (l : Launch) {D : va_G} {C : g_C} {g : g_k → Nat → Int32} {ad ln : g_k → Nat} {ex : g_k → Option va_E} {B : Nat} {n : Nat} (hn : n ≤ 10) (hc : g (1, 0, 0) 4 = nI n) {M : Nat} (hM : ln (5, 0, 0) = M) (hM20 : M ≤ 20) (hs : g (0, 0, 0) 7 = nI M) {sta t : Nat} {src to : Nat → Nat} (hsl : ∀ i, i < 10 → (ln (30, i, 0) = 1 ↔ i < sta)) (hstn : sta ≤ n) (hto : ∀ j, j < M → ln (43, j, 0) = to j ∧ to j < sta) (hnow : g (0, 0, 0) 8 = nI t) (hmk : ∀ j, j < M → mok g ln n t j (src j) (to j)) (hrl : ∀ i, i < sta → rlw_P g n t i) (ht : t < 2 ^ 19) : Met l yX5_passOneMinute wsX5_passOneMinute ({ frames := 5, cells := 40, slots := (wd t * 20), locals := 116 } : Room) (va_Pc [.ref (ad (0, 0, 0))] (g_S D C (lay C g ad ln ex) ad B)) (va_Qi (fun (r : Int32) (u : (g_k → Nat → Int32) × (g_k → Nat) × (g_k → Nat)) => pm_P g ad ln n sta M t (t + 1) src to r u.1 u.2.1 u.2.2) (fun u t => g_P D (lay C u.1 u.2.1 u.2.2 ex) u.2.1 B t.heap) (g_A B)) 40 (wd t * 20) (g_A B) := by
  refine Met.ofW (cc := cX5_passOneMinute) (maxL := 4) (ret := (some .int)) (by decide) rfl ?_
  intro p e s m args below meth c s₁ B₀ hml hv
  obtain ⟨rfl, hG, hF⟩ := hv
  have hK := hF.1
  have hN := hF.2.1
  have hB := hF.2.2.2
  have hx := B₀.exec
  have hb := B₀.bytes
  have hr := B₀.returns
  have hts := atoms_spec (ws := wsX5_passOneMinute) B₀.pre
  have hown : s.vm.findClass RX5 = some m.cls := findClass_of_methodNamed B₀.named
  have hlocks := B₀.notSynchronized
  have hS : va_S (g_A B) s.heap s.heap [] := va_S.rf
  have hi2 : ∀ w ∈ wsX20, w ∈ wsX5_passOneMinute := by decide +kernel
  have hi5 : ∀ w ∈ wsX50, w ∈ wsX5_passOneMinute := by decide +kernel
  have hl := lv_entry [.ref (ad (0, 0, 0))] (n := 4) (Nat.le_of_ble_eq_true rfl)
  rw [lg_entry_eq]
  generalize (lg_sl [.ref (ad (0, 0, 0))] ++ List.replicate (4 - (lg_sl [.ref (ad (0, 0, 0))]).length) Slot.unset).toArray = ls at hl ⊢
  have hl : lv_has ls 4 [(0, .ref (ad (0, 0, 0)))] := hl
  refine lv_iconst (v := nI 0) hx hb dX5_passOneMinute_0 (by decide) ?_
  refine lv_istore_n (lv' := [(1, .int (nI 0)), (0, .ref (ad (0, 0, 0)))]) hx hb dX5_passOneMinute_1 rfl hl (by decide) rfl (fun ls hl => ?_)
  refine lv_iconst (v := nI 0) hx hb dX5_passOneMinute_2 (by decide) ?_
  refine lv_istore_n (lv' := [(2, .int (nI 0)), (1, .int (nI 0)), (0, .ref (ad (0, 0, 0)))]) hx hb dX5_passOneMinute_3 rfl hl (by decide) rfl (fun ls hl => ?_)
  have loop : ∀ (k i q : Nat) (g1 : g_k → Nat → Int32) (ad1 ln1 : g_k → Nat) (H : Heap) (locs : List Loc), i ≤ M → M < i + k → mf_P g ad ln g1 ad1 ln1 → (∀ j, j < i → mok g1 ln1 n (t + 1) j (src j) (to j)) → (∀ j, i ≤ j → j < M → mok g1 ln1 n t j (src j) (to j) ∧ g1 (40, j, 0) = g (40, j, 0)) → cg g1 i = cg g i + q → q ≤ i → g_P D (lay C g1 ad1 ln1 ex) ad1 B H → va_S (g_A B) s.heap H locs → ∀ ls, lv_has ls 4 [(2, .int (nI i)), (1, .int (nI q)), (0, .ref (ad1 (0, 0, 0)))] → W p l e (headSpec wsX5_passOneMinute ({ frames := 5, cells := 40, slots := (wd t * 20), locals := 116 } : Room)).room s m ([.ref (ad (0, 0, 0))]).toArray below meth c H locs (2 * i) (wd t * i) (MQ below (va_Qi (fun (r : Int32) (u : (g_k → Nat → Int32) × (g_k → Nat) × (g_k → Nat)) => pm_P g ad ln n sta M t (t + 1) src to r u.1 u.2.1 u.2.2) (fun u t => g_P D (lay C u.1 u.2.1 u.2.2 ex) u.2.1 B t.heap) (g_A B)) ([.ref (ad (0, 0, 0))]).toArray s 40 (wd t * 20) (g_A B)) (F0 m 4 ls []) := by
    intro k
    induction k with
    | zero => intro i q g1 ad1 ln1 H locs h1 h2; exact absurd h2 (by omega)
    | succ k ih =>
      intro i q g1 ad1 ln1 H locs h1 h2 h3 h4 h5 h6 h7 hG hS ls hl
      have hM1 : ln1 (5, 0, 0) = M := by rw [h3.2.2 _ (by decide) (by decide) (by decide)]; exact hM
      have hs1 : g1 (0, 0, 0) 7 = nI M := by rw [h3.1 _ (Or.inl (by decide))]; exact hs
      have hc1 : g1 (1, 0, 0) 4 = nI n := by rw [h3.1 _ (Or.inl (by decide))]; exact hc
      have hnow1 : g1 (0, 0, 0) 8 = nI t := by rw [h3.1 _ (Or.inl (by decide))]; exact hnow
      have hl30 : ∀ i, ln1 (30, i, 0) = ln (30, i, 0) := fun i => h3.2.2 _ (show (30 : Nat) ≠ 31 by decide) (show (30 : Nat) ≠ 41 by decide) (show (30 : Nat) ≠ 42 by decide)
      refine lv_iload_n hx hb dX5_passOneMinute_4 rfl (lv_at hl 0 rfl) ?_
      refine lv_aload_n hx hb dX5_passOneMinute_5 rfl (lv_at hl 2 rfl) ?_
      refine g_get hx hb hts hi5 hown hK hG (lay_main) rfl 7 (by decide) (hts (.fieldLink RX5 48 "Satellitering" "sentCount" "I") (by decide +kernel)) rfl dX5_passOneMinute_6 ?_
      refine lv_to (y := nI M) (hs1) ?_
      refine lv_icmp_ge (tgt := 52) hx hb dX5_passOneMinute_9 (by decide) (fun c_1 => ?_) (fun c_1 => ?_)
      · have hi : M = i := by have := (nI_leI (by omega) (by omega)).mp c_1; omega
        subst hi
        refine W.widen (k := 40) (n := wd t * 20) (by omega) (Nat.mul_le_mul_left (wd t) hM20) ?_
        refine lv_aload_n hx hb dX5_passOneMinute_52 rfl (lv_at hl 2 rfl) ?_
        refine lv_dup hx hb dX5_passOneMinute_53 rfl ?_
        refine g_get hx hb hts hi5 hown hK hG (lay_main) rfl 8 (by decide) (hts (.fieldLink RX5 51 "Satellitering" "now" "I") (by decide +kernel)) rfl dX5_passOneMinute_54 ?_
        refine lv_to (y := nI t) (hnow1) ?_
        refine lv_iconst (v := nI 1) hx hb dX5_passOneMinute_57 (by decide) ?_
        refine lv_iadd hx hb dX5_passOneMinute_58 ?_
        refine lv_to (y := nI (t + 1)) (nI_add t 1) ?_
        refine o_put hx hb hts hi5 tyX5 tyX5_ok nmX5 hown hK hG hS (cd := (0, 0, 0)) (F_main ad1) (fun _ => lay_main) rfl 8 (by decide) (hts (.fieldLink RX5 51 "Satellitering" "now" "I") (by decide +kernel)) rfl rfl (by simp [upd]) (by simp) dX5_passOneMinute_59 (fun H locs hG hS => ?_)
        obtain ⟨gN, egN⟩ : ∃ z, z = (g2 g1 (0, 0, 0) 8 (nI (t + 1))) := ⟨_, rfl⟩
        rw [← egN] at hG
        have gNe : ∀ c, c ≠ (0, 0, 0) → gN c = g1 c := fun c hc9 => by rw [egN]; exact g2_ne _ _ _ hc9
        have gN0 : gN (0, 0, 0) = upd (g1 (0, 0, 0)) 8 (nI (t + 1)) := by rw [egN]; exact g2_self _ _ _ _
        refine lv_iconst (v := nI 0) hx hb dX5_passOneMinute_62 (by decide) ?_
        refine lv_istore_n (lv' := [(2, .int (nI 0)), (1, .int (nI q)), (0, .ref (ad1 (0, 0, 0)))]) hx hb dX5_passOneMinute_63 rfl hl (by decide) rfl (fun ls hl => ?_)
        have loop2 : ∀ (k i2 : Nat) (g3 : g_k → Nat → Int32) (H : Heap) (locs : List Loc), i2 ≤ n → n < i2 + k → (∀ c : g_k, c.1 ≠ 30 → g3 c = gN c) → (∀ j, i2 ≤ j → g3 (30, j, 0) = gN (30, j, 0)) → (∀ j, j < i2 → j < sta → rel_P g3 n (t + 1) j ∧ rlw_P g3 n (t + 1) j) → g_P D (lay C g3 ad1 ln1 ex) ad1 B H → va_S (g_A B) s.heap H locs → ∀ ls, lv_has ls 4 [(2, .int (nI i2)), (1, .int (nI q)), (0, .ref (ad1 (0, 0, 0)))] → W p l e (headSpec wsX5_passOneMinute ({ frames := 5, cells := 40, slots := (wd t * 20), locals := 116 } : Room)).room s m ([.ref (ad (0, 0, 0))]).toArray below meth c H locs 40 (wd t * 20) (MQ below (va_Qi (fun (r : Int32) (u : (g_k → Nat → Int32) × (g_k → Nat) × (g_k → Nat)) => pm_P g ad ln n sta M t (t + 1) src to r u.1 u.2.1 u.2.2) (fun u t => g_P D (lay C u.1 u.2.1 u.2.2 ex) u.2.1 B t.heap) (g_A B)) ([.ref (ad (0, 0, 0))]).toArray s 40 (wd t * 20) (g_A B)) (F0 m 64 ls []) := by
          intro k
          induction k with
          | zero => intro i2 g3 H locs e1 e2; exact absurd e2 (by omega)
          | succ k ih2 =>
            intro i2 g3 H locs e1 e2 e3 e4 e5 hG hS ls hl
            have hc3 : g3 (1, 0, 0) 4 = nI n := by rw [e3 _ (by decide), gNe _ (by decide)]; exact hc1
            have hnow3 : g3 (0, 0, 0) 8 = nI (t + 1) := by rw [e3 _ (by decide), gN0, upd_self]
            refine lv_iload_n hx hb dX5_passOneMinute_64 rfl (lv_at hl 0 rfl) ?_
            refine lv_aload_n hx hb dX5_passOneMinute_65 rfl (lv_at hl 2 rfl) ?_
            refine g_get hx hb hts hi5 hown hK hG (lay_main) rfl 0 (by decide) (hts (.fieldLink RX5 12 "Satellitering" "sky" "LSatellitering$Sky;") (by decide +kernel)) rfl dX5_passOneMinute_66 ?_
            refine g_getN hx hb hts hi2 hown hK hG (lay_sky) rfl 4 (by decide) (va_Nw.use rfl hN.2.2.2.2.2.2.2.2.2.2.1) rfl dX5_passOneMinute_69 ?_
            refine lv_to (y := nI n) (hc3) ?_
            refine lv_icmp_ge (tgt := 98) hx hb dX5_passOneMinute_72 (by decide) (fun c_2 => ?_) (fun c_2 => ?_)
            · have hi2 : n ≤ i2 := (nI_leI (by omega) (by omega)).mp c_2
              refine lv_iload_n hx hb dX5_passOneMinute_98 rfl (lv_at hl 1 rfl) ?_
              have g20 : ∀ i, g3 (20, i, 0) = g1 (20, i, 0) := fun i => (e3 _ (show (20 : Nat) ≠ 30 by decide)).trans (gNe _ (by intro h9; cases h9))
              have g40 : ∀ c : g_k, 40 ≤ c.1 → g3 c = g1 c := fun c hc9 => (e3 c (by omega)).trans (gNe c (fun z => by rw [z] at hc9; exact absurd hc9 (by decide)))
              have hfin : pm_P g ad ln n sta M t (t + 1) src to (nI q) g3 ad1 ln1 := by
                refine ⟨⟨fun c c1 c2 => ?_, h3.2.1, h3.2.2⟩, ?_, hnow3, fun j hj => ?_, fun j hj => ⟨fun _ => (e5 j (by omega) hj).1, (e5 j (by omega) hj).2⟩, q, (by rw [Nat.add_sub_cancel_left, Nat.mul_one]; exact h7), rfl, ?_⟩
                · exact (e3 c (by omega)).trans ((gNe c c2).trans (h3.1 c (by omega)))
                · rw [e3 _ (by decide), gN0, upd_ne _ _ (by decide), h3.1 _ (Or.inl (by decide))]
                · exact mok_cong (h4 j hj) g20 (g40 _ (show (40 : Nat) ≤ 40 by decide)) (g40 _ (show (40 : Nat) ≤ 41 by decide)) (g40 _ (show (40 : Nat) ≤ 42 by decide)) rfl rfl
                · exact (cg_cong _ (fun j _ => g40 _ (show (40 : Nat) ≤ 40 by decide))).trans h6
              exact W.iret (v := nI q) hx hb hr (fun t9 ht9 hW9 => ⟨⟨_, (g3, ad1, ln1), rfl, hfin, by show g_P D (lay C g3 ad1 ln1 ex) ad1 B t9.heap; rw [ht9]; exact hG⟩, hS.F ht9⟩) hS.2.2 dX5_passOneMinute_99
            · have hi2 : i2 < n := Nat.lt_of_not_le (fun h9 => c_2 ((nI_leI (by omega) (by omega)).mpr h9))
              refine lv_aload_n hx hb dX5_passOneMinute_75 rfl (lv_at hl 2 rfl) ?_
              refine g_get hx hb hts hi5 hown hK hG (lay_main) rfl 2 (by decide) (hts (.fieldLink RX5 27 "Satellitering" "stations" "[LSatellitering$Station;") (by decide +kernel)) rfl dX5_passOneMinute_76 ?_
              refine lv_iload_n hx hb dX5_passOneMinute_79 rfl (lv_at hl 0 rfl) ?_
              rcases Classical.em (ln1 (30, i2, 0) = 1) with c_3 | c_3
              · have his : i2 < sta := (hsl i2 (by omega)).mp (by rw [← hl30]; exact c_3)
                have e30 : g3 (30, i2, 0) = g (30, i2, 0) := (e4 i2 (Nat.le_refl i2)).trans ((gNe _ (by intro h9; cases h9)).trans (h3.1 _ (Or.inl (show (30 : Nat) < 31 by decide))))
                obtain ⟨hrw, kk, hkt, hkk⟩ := hrl i2 his
                refine o_stationY hx hb hK hG (show i2 < 10 by omega) c_3 dX5_passOneMinute_80 ?_
                refine lv_astore_n (lv' := [(3, .ref (ad1 (30, i2, 0))), (2, .int (nI i2)), (1, .int (nI q)), (0, .ref (ad1 (0, 0, 0)))]) hx hb dX5_passOneMinute_81 rfl hl (by decide) rfl (fun ls hl => ?_)
                refine lv_aload_n hx hb dX5_passOneMinute_82 rfl (lv_at hl 0 rfl) ?_
                refine lv_ifnull hx hb dX5_passOneMinute_83 ?_
                refine lv_aload_n hx hb dX5_passOneMinute_86 rfl (lv_at hl 3 rfl) ?_
                refine lv_iload_n hx hb dX5_passOneMinute_87 rfl (lv_at hl 1 rfl) ?_
                refine lv_aload_n hx hb dX5_passOneMinute_88 rfl (lv_at hl 0 rfl) ?_
                refine va_callv (va_runV (As := [.int (nI i2), .ref (ad1 (30, i2, 0))]) (rest := []) ⟨hx, hb, hml, hown, hts⟩ (c_lookForRelay l hn hc3 (show i2 < 10 by omega) c_3 hnow3 (show t + 1 ≤ 1000000 by omega) (by rw [e30]; exact hrw) (kk := kk) (by rw [e30]; exact hkk)) (cwV 2 hts gX5_passOneMinute_X5_lookForRelay rfl rfl rfl (by decide +kernel) ⟨Nat.le_of_ble_eq_true rfl, Nat.le_of_ble_eq_true rfl⟩) (g_preV hF hG hS (lay_main) rfl) rfl rfl hl.1 rfl (lv_room (Nat.le_of_ble_eq_true rfl)) dX5_passOneMinute_89 ⟨Nat.le_refl 40, Nat.le_refl (wd t * 20)⟩) hS (fun q _ h => h) (fun q h => h) (fun g_6 t9 H locs ht9 _ h_5 hB1 _ _ hS => ?_)
                have hG : g_P D (lay C g_6 ad1 ln1 ex) ad1 B H := by rw [← ht9]; exact hB1
                refine lv_iinc (v := nI (i2 + 1)) (lv' := [(2, .int (nI (i2 + 1))), (3, .ref (ad1 (30, i2, 0))), (1, .int (nI q)), (0, .ref (ad1 (0, 0, 0)))]) hx hb dX5_passOneMinute_92 hl (k := 1) rfl (nI_add i2 1) (by decide) rfl (fun ls hl => ?_)
                refine lv_goto (tgt := 64) hx hb dX5_passOneMinute_95 (by decide) ?_
                obtain ⟨f1, f2, k9, f3, f4, -⟩ := h_5
                refine ih2 (i2 + 1) g_6 _ _ (by omega) (by omega) (fun c hc9 => (f1 c (fun z => hc9 (by rw [z]))).trans (e3 c hc9)) (fun j hj => (f1 _ (fun z => by have := congrArg (fun y : g_k => y.2.1) z; simp at this; omega)).trans (e4 j (by omega))) (fun j hj hjs => ?_) hG hS ls (lv_sub hl [0, 2, 3] rfl)
                rcases Nat.lt_or_eq_of_le (Nat.le_of_lt_succ hj) with h9 | h9
                · have f30 : g_6 (30, j, 0) = g3 (30, j, 0) := f1 _ (fun z => by have := congrArg (fun y : g_k => y.2.1) z; simp at this; omega)
                  have f20 : ∀ i, g_6 (20, i, 0) = g3 (20, i, 0) := fun i => f1 _ (by intro h9; cases h9)
                  exact ⟨rel_cong (e5 j h9 hjs).1 f20 f30, rlw_cong (e5 j h9 hjs).2 f30⟩
                · rw [h9]
                  exact ⟨f2, rlw_of f2 (by omega) f4⟩
              · refine o_stationN hx hb hK hG ((show i2 < 10 by omega)) c_3 dX5_passOneMinute_80 ?_
                refine lv_astore_nN (lv' := [(3, .null), (2, .int (nI i2)), (1, .int (nI q)), (0, .ref (ad1 (0, 0, 0)))]) hx hb dX5_passOneMinute_81 rfl hl (by decide) rfl (fun ls hl => ?_)
                refine lv_aload_nN hx hb dX5_passOneMinute_82 rfl (lv_at hl 0 rfl) ?_
                refine lv_ifnullN (tgt := 92) hx hb dX5_passOneMinute_83 (by decide) ?_
                refine lv_iinc (v := nI (i2 + 1)) (lv' := [(2, .int (nI (i2 + 1))), (3, .null), (1, .int (nI q)), (0, .ref (ad1 (0, 0, 0)))]) hx hb dX5_passOneMinute_92 hl (k := 1) rfl (nI_add i2 1) (by decide) rfl (fun ls hl => ?_)
                refine lv_goto (tgt := 64) hx hb dX5_passOneMinute_95 (by decide) ?_
                exact ih2 (i2 + 1) g3 _ _ (by omega) (by omega) e3 (fun j hj => e4 j (by omega)) (fun j hj hjs => e5 j (by rcases Nat.lt_or_eq_of_le (Nat.le_of_lt_succ hj) with h9 | h9; exact h9; exact absurd (by rw [hl30]; exact (hsl i2 (by omega)).mpr (h9 ▸ hjs)) c_3) hjs) hG hS ls (lv_sub hl [0, 2, 3] rfl)
        exact loop2 (n + 1) 0 gN _ _ (Nat.zero_le n) (by omega) (fun _ _ => rfl) (fun _ _ => rfl) (fun j hj => absurd hj (Nat.not_lt_zero j)) hG hS ls (lv_sub hl [0, 1, 2] rfl)
      · have hi : i < M := Nat.lt_of_not_le (fun h9 => c_1 ((nI_leI (by omega) (by omega)).mpr h9))
        have hil : i < ln1 (5, 0, 0) := by omega
        refine lv_aload_n hx hb dX5_passOneMinute_12 rfl (lv_at hl 2 rfl) ?_
        refine g_get hx hb hts hi5 hown hK hG (lay_main) rfl 4 (by decide) (hts (.fieldLink RX5 37 "Satellitering" "sent" "[LSatellitering$Message;") (by decide +kernel)) rfl dX5_passOneMinute_13 ?_
        refine lv_iload_n hx hb dX5_passOneMinute_16 rfl (lv_at hl 0 rfl) ?_
        refine o_sent hx hb hK hG hil (show ln1 (5, 0, 0) ≤ 20 by omega) dX5_passOneMinute_17 ?_
        refine lv_astore_n (lv' := [(3, .ref (ad1 (40, i, 0))), (2, .int (nI i)), (1, .int (nI q)), (0, .ref (ad1 (0, 0, 0)))]) hx hb dX5_passOneMinute_18 rfl hl (by decide) rfl (fun ls hl => ?_)
        refine lv_aload_n hx hb dX5_passOneMinute_19 rfl (lv_at hl 0 rfl) ?_
        refine vp_callSi (W.runV (As := []) (rest := []) ⟨hx, hb, hml, hown, hts⟩ (c_isAtGoal l hil) (cwV 0 hts gX5_passOneMinute_X0_isAtGoal rfl rfl rfl (by decide +kernel) ⟨Nat.le_of_ble_eq_true rfl, Nat.le_of_ble_eq_true rfl⟩) (g_preV hF hG hS (lay_msg hil) rfl) rfl rfl hl.1 rfl (lv_room (Nat.le_of_ble_eq_true rfl)) dX5_passOneMinute_20 ⟨(by show 2 * i + 0 ≤ 40; omega), (by show wd t * i + 0 ≤ wd t * 20; exact Nat.mul_le_mul_left _ (by omega))⟩) (fun r_7 h_8 => ?_)
        obtain ⟨hmi, h40⟩ := h5 i (Nat.le_refl i) hi
        refine lv_if_ne (tgt := 46) hx hb dX5_passOneMinute_23 (by decide) (fun c_9 => ?_) (fun c_9 => ?_)
        · have hat : g1 (40, i, 0) 2 = g1 (40, i, 0) 0 := Classical.byContradiction (fun h9 => c_9 (by rw [show r_7 = _ from h_8, if_neg h9]; exact nI_0))
          refine lv_iinc (v := nI (i + 1)) (lv' := [(2, .int (nI (i + 1))), (3, .ref (ad1 (40, i, 0))), (1, .int (nI q)), (0, .ref (ad1 (0, 0, 0)))]) hx hb dX5_passOneMinute_46 hl (k := 1) rfl (nI_add i 1) (by decide) rfl (fun ls hl => ?_)
          refine lv_goto (tgt := 4) hx hb dX5_passOneMinute_49 (by decide) ?_
          refine W.widen (k := 2 * (i + 1)) (n := wd t * (i + 1)) (by omega) (Nat.mul_le_mul_left _ (Nat.le_succ i)) ?_
          refine ih (i + 1) q g1 ad1 ln1 H locs (by omega) (by omega) h3 (fun j hj => ?_) (fun j hj hjM => h5 j (by omega) hjM) ?_ (by omega) hG hS ls (lv_sub hl [0, 2, 3] rfl)
          · rcases Nat.lt_or_eq_of_le (Nat.le_of_lt_succ hj) with h9 | h9
            · exact h4 j h9
            · rw [h9]; exact mok_now hmi (Nat.le_succ t)
          · rw [cg, cg, if_pos hat, if_pos (by rw [← h40]; exact hat), h6]; omega
        · have hng : g1 (40, i, 0) 2 ≠ g1 (40, i, 0) 0 := fun h9 => absurd (show nI 1 = 0 from (((show r_7 = _ from h_8).trans (if_pos h9)).symm).trans c_9) (by decide)
          refine lv_aload_n hx hb dX5_passOneMinute_26 rfl (lv_at hl 3 rfl) ?_
          refine lv_aload_n hx hb dX5_passOneMinute_27 rfl (lv_at hl 0 rfl) ?_
          have hto1 : ln1 (43, i, 0) = to i := by rw [h3.2.2 _ (show (43 : Nat) ≠ 31 by decide) (show (43 : Nat) ≠ 41 by decide) (show (43 : Nat) ≠ 42 by decide)]; exact (hto i hi).1
          have htl := (hto i hi).2
          refine va_callv (va_runV (As := [.ref (ad1 (40, i, 0))]) (rest := []) ⟨hx, hb, hml, hown, hts⟩ (c_moveOn l hn hc1 hM1 hM20 hs1 hi hto1 (show to i < 10 by omega) (by rw [hl30]; exact (hsl _ (by omega)).mpr htl) hnow1 ht hmi hng) (cwV 1 hts gX5_passOneMinute_X5_moveOn rfl rfl rfl (by decide +kernel) ⟨Nat.le_of_ble_eq_true rfl, Nat.le_of_ble_eq_true rfl⟩) (g_preV hF hG hS (lay_main) rfl) rfl rfl hl.1 rfl (lv_room (Nat.le_of_ble_eq_true rfl)) dX5_passOneMinute_28 ⟨(by show 2 * i + 2 ≤ 40; omega), (by show wd t * (i + 1) ≤ wd t * 20; exact Nat.mul_le_mul_left _ (by omega))⟩) hS (fun q _ h => h) (fun q h => h) (fun u9 t9 H locs ht9 _ h_11 hB1 _ _ hS => ?_)
          obtain ⟨g_12, ad_14, ln_13⟩ := u9
          dsimp only at h_11
          have hG : g_P D (lay C g_12 ad_14 ln_13 ex) ad_14 B H := by rw [← ht9]; exact hB1
          have ea0 : ad_14 (40, i, 0) = ad1 (40, i, 0) := h_11.1.2.1 _ (show (40 : Nat) ≠ 41 by decide) (show (40 : Nat) ≠ 42 by decide)
          have ea1 : ad_14 (0, 0, 0) = ad1 (0, 0, 0) := h_11.1.2.1 _ (show (0 : Nat) ≠ 41 by decide) (show (0 : Nat) ≠ 42 by decide)
          have hl : lv_has ls 4 [(3, .ref (ad_14 (40, i, 0))), (2, .int (nI i)), (1, .int (nI q)), (0, .ref (ad_14 (0, 0, 0)))] := by rw [ea0, ea1]; exact hl
          have hil2 : i < ln_13 (5, 0, 0) := by rw [h_11.1.2.2 _ (show (5 : Nat) ≠ 31 by decide) (Or.inl ⟨(show (5 : Nat) ≠ 41 by decide), (show (5 : Nat) ≠ 42 by decide)⟩)]; exact hil
          refine lv_iload_n hx hb dX5_passOneMinute_31 rfl (lv_at hl 2 rfl) ?_
          refine lv_aload_n hx hb dX5_passOneMinute_32 rfl (lv_at hl 0 rfl) ?_
          refine vp_callSi (W.runV (As := []) (rest := [.int (nI q)]) ⟨hx, hb, hml, hown, hts⟩ (c_isAtGoal l hil2) (cwV 0 hts gX5_passOneMinute_X0_isAtGoal rfl rfl rfl (by decide +kernel) ⟨Nat.le_of_ble_eq_true rfl, Nat.le_of_ble_eq_true rfl⟩) (g_preV hF hG hS (lay_msg hil2) rfl) rfl rfl hl.1 rfl (lv_room (Nat.le_of_ble_eq_true rfl)) dX5_passOneMinute_33 ⟨(by show 2 * i + 2 + 0 ≤ 40; omega), (by show wd t * (i + 1) + 0 ≤ wd t * 20; exact Nat.mul_le_mul_left _ (by omega))⟩) (fun r_15 h_16 => ?_)
          have hoth : ∀ c : g_k, 40 ≤ c.1 → c.2.1 ≠ i → g_12 c = g1 c := fun c x1 x2 => h_11.1.1 c (Or.inr (Or.inr ⟨x1, x2⟩))
          have hotl : ∀ c : g_k, c.1 ≠ 31 → c.2.1 ≠ i → ln_13 c = ln1 c := fun c x1 x2 => h_11.1.2.2 c x1 (Or.inr x2)
          refine lv_if_eq (tgt := 43) hx hb dX5_passOneMinute_36 (by decide) (fun c_17 => ?_) (fun c_17 => ?_)
          · have hat : ¬ g_12 (40, i, 0) 2 = g_12 (40, i, 0) 0 := fun h9 => absurd (show nI 1 = 0 from (((show r_15 = _ from h_16).trans (if_pos h9)).symm).trans c_17) (by decide)
            refine lv_iconst (v := nI 0) hx hb dX5_passOneMinute_43 (by decide) ?_
            refine lv_iadd hx hb dX5_passOneMinute_44 ?_
            refine lv_to (y := nI (q + 0)) (nI_add q 0) ?_
            refine lv_istore_n (lv' := [(1, .int (nI (q + 0))), (3, .ref (ad_14 (40, i, 0))), (2, .int (nI i)), (0, .ref (ad_14 (0, 0, 0)))]) hx hb dX5_passOneMinute_45 rfl hl (by decide) rfl (fun ls hl => ?_)
            refine lv_iinc (v := nI (i + 1)) (lv' := [(2, .int (nI (i + 1))), (1, .int (nI (q + 0))), (3, .ref (ad_14 (40, i, 0))), (0, .ref (ad_14 (0, 0, 0)))]) hx hb dX5_passOneMinute_46 hl (k := 2) rfl (nI_add i 1) (by decide) rfl (fun ls hl => ?_)
            refine lv_goto (tgt := 4) hx hb dX5_passOneMinute_49 (by decide) ?_
            refine ih (i + 1) q g_12 ad_14 ln_13 _ _ (by omega) (by omega) (mf_mv h3 h_11.1) (fun j hj => ?_) (fun j hj hjM => ?_) ?_ (by omega) hG hS ls (lv_sub hl [0, 1, 3] rfl)
            · rcases Nat.lt_or_eq_of_le (Nat.le_of_lt_succ hj) with h9 | h9
              · exact mok_cong (h4 j h9) (fun i => h_11.1.1 _ (Or.inl (show (20 : Nat) < 31 by decide))) (hoth _ (show (40 : Nat) ≤ 40 by decide) (show j ≠ i by omega)) (hoth _ (show (40 : Nat) ≤ 41 by decide) (show j ≠ i by omega)) (hoth _ (show (40 : Nat) ≤ 42 by decide) (show j ≠ i by omega)) (hotl _ (show (41 : Nat) ≠ 31 by decide) (show j ≠ i by omega)) (hotl _ (show (42 : Nat) ≠ 31 by decide) (show j ≠ i by omega))
              · rw [h9]; exact h_11.2
            · obtain ⟨x1, x2⟩ := h5 j (by omega) hjM
              exact ⟨mok_cong x1 (fun i => h_11.1.1 _ (Or.inl (show (20 : Nat) < 31 by decide))) (hoth _ (show (40 : Nat) ≤ 40 by decide) (show j ≠ i by omega)) (hoth _ (show (40 : Nat) ≤ 41 by decide) (show j ≠ i by omega)) (hoth _ (show (40 : Nat) ≤ 42 by decide) (show j ≠ i by omega)) (hotl _ (show (41 : Nat) ≠ 31 by decide) (show j ≠ i by omega)) (hotl _ (show (42 : Nat) ≠ 31 by decide) (show j ≠ i by omega)), (hoth _ (show (40 : Nat) ≤ 40 by decide) (show j ≠ i by omega)).trans x2⟩
            · rw [cg, cg, if_neg hat, if_neg (by rw [← h40]; exact hng), cg_cong i (fun j hj => hoth _ (show (40 : Nat) ≤ 40 by decide) (show j ≠ i by omega)), h6]; omega
          · have hat : g_12 (40, i, 0) 2 = g_12 (40, i, 0) 0 := Classical.byContradiction (fun h9 => c_17 (by rw [show r_15 = _ from h_16, if_neg h9]; exact nI_0))
            refine lv_iconst (v := nI 1) hx hb dX5_passOneMinute_39 (by decide) ?_
            refine lv_goto (tgt := 44) hx hb dX5_passOneMinute_40 (by decide) ?_
            refine lv_iadd hx hb dX5_passOneMinute_44 ?_
            refine lv_to (y := nI (q + 1)) (nI_add q 1) ?_
            refine lv_istore_n (lv' := [(1, .int (nI (q + 1))), (3, .ref (ad_14 (40, i, 0))), (2, .int (nI i)), (0, .ref (ad_14 (0, 0, 0)))]) hx hb dX5_passOneMinute_45 rfl hl (by decide) rfl (fun ls hl => ?_)
            refine lv_iinc (v := nI (i + 1)) (lv' := [(2, .int (nI (i + 1))), (1, .int (nI (q + 1))), (3, .ref (ad_14 (40, i, 0))), (0, .ref (ad_14 (0, 0, 0)))]) hx hb dX5_passOneMinute_46 hl (k := 2) rfl (nI_add i 1) (by decide) rfl (fun ls hl => ?_)
            refine lv_goto (tgt := 4) hx hb dX5_passOneMinute_49 (by decide) ?_
            refine ih (i + 1) (q + 1) g_12 ad_14 ln_13 _ _ (by omega) (by omega) (mf_mv h3 h_11.1) (fun j hj => ?_) (fun j hj hjM => ?_) ?_ (by omega) hG hS ls (lv_sub hl [0, 1, 3] rfl)
            · rcases Nat.lt_or_eq_of_le (Nat.le_of_lt_succ hj) with h9 | h9
              · exact mok_cong (h4 j h9) (fun i => h_11.1.1 _ (Or.inl (show (20 : Nat) < 31 by decide))) (hoth _ (show (40 : Nat) ≤ 40 by decide) (show j ≠ i by omega)) (hoth _ (show (40 : Nat) ≤ 41 by decide) (show j ≠ i by omega)) (hoth _ (show (40 : Nat) ≤ 42 by decide) (show j ≠ i by omega)) (hotl _ (show (41 : Nat) ≠ 31 by decide) (show j ≠ i by omega)) (hotl _ (show (42 : Nat) ≠ 31 by decide) (show j ≠ i by omega))
              · rw [h9]; exact h_11.2
            · obtain ⟨x1, x2⟩ := h5 j (by omega) hjM
              exact ⟨mok_cong x1 (fun i => h_11.1.1 _ (Or.inl (show (20 : Nat) < 31 by decide))) (hoth _ (show (40 : Nat) ≤ 40 by decide) (show j ≠ i by omega)) (hoth _ (show (40 : Nat) ≤ 41 by decide) (show j ≠ i by omega)) (hoth _ (show (40 : Nat) ≤ 42 by decide) (show j ≠ i by omega)) (hotl _ (show (41 : Nat) ≠ 31 by decide) (show j ≠ i by omega)) (hotl _ (show (42 : Nat) ≠ 31 by decide) (show j ≠ i by omega)), (hoth _ (show (40 : Nat) ≤ 40 by decide) (show j ≠ i by omega)).trans x2⟩
            · rw [cg, cg, if_pos hat, if_neg (by rw [← h40]; exact hng), cg_cong i (fun j hj => hoth _ (show (40 : Nat) ≤ 40 by decide) (show j ≠ i by omega)), h6]; omega
  exact loop (M + 1) 0 0 g ad ln s.heap [] (Nat.zero_le M) (by omega) mf_rf (fun j hj => absurd hj (Nat.not_lt_zero j)) (fun j _ hj => ⟨hmk j hj, rfl⟩) rfl (Nat.le_refl 0) hG hS ls (lv_sub hl [0, 1, 2] rfl)

theorem pm_rf {g : g_k → Nat → Int32} {ad ln : g_k → Nat} {n sta M t : Nat} {src to : Nat → Nat} (h8 : g (0, 0, 0) 8 = nI t) (hm : ∀ j, j < M → mok g ln n t j (src j) (to j)) (hr : ∀ i, i < sta → rlw_P g n t i) : pm_P g ad ln n sta M t t src to (nI 0) g ad ln := ⟨pf_rf, rfl, h8, hm, fun i hi => ⟨fun h9 => absurd h9 (Nat.lt_irrefl t), hr i hi⟩, 0, Nat.zero_le _, rfl, rfl⟩
theorem pm_tr {g g1 g3 : g_k → Nat → Int32} {ad ln ad1 ln1 ad3 ln3 : g_k → Nat} {n sta M t t1 q : Nat} {src to : Nat → Nat} {r : Int32} (ht : t ≤ t1) (h : pm_P g ad ln n sta M t t1 src to (nI q) g1 ad1 ln1) (hq : q < 2 ^ 31) (hM : M * (t1 - t) < 2 ^ 31) (h2 : pm_P g1 ad1 ln1 n sta M t1 (t1 + 1) src to r g3 ad3 ln3) : ∃ q2, q2 ≤ M ∧ r = nI q2 ∧ pm_P g ad ln n sta M t (t1 + 1) src to (nI (q + q2)) g3 ad3 ln3 := by
  obtain ⟨a1, a2, a3, a4, a5, q1, a6, a7, a8⟩ := h
  obtain ⟨b1, b2, b3, b4, b5, q2, b6, b7, b8⟩ := h2
  have e1 : q = q1 := (nI_eq hq (by omega)).mp a7
  subst e1
  rw [Nat.add_sub_cancel_left, Nat.mul_one] at b6
  refine ⟨q2, b6, b7, pf_tr a1 b1, b2.trans a2, b3, b4, fun i hi => ⟨fun _ => (b5 i hi).1 (Nat.lt_succ_self t1), (b5 i hi).2⟩, q + q2, ?_, rfl, by omega⟩
  have : t1 + 1 - t = (t1 - t) + 1 := by omega
  rw [this, Nat.mul_add, Nat.mul_one]
  omega

theorem us_le (t : Nat) : ∀ {a b : Nat}, a ≤ b → us t a ≤ us t b := by
  intro a b h
  induction b with
  | zero => rw [Nat.le_zero.mp h]; exact Nat.le_refl _
  | succ b ih =>
    rcases Nat.lt_or_eq_of_le h with h | h
    · exact Nat.le_trans (ih (by omega)) (Nat.le_add_right _ _)
    · rw [h]; exact Nat.le_refl _

set_option maxHeartbeats 4000000 in
set_option maxRecDepth 100000 in
theorem c_pass (l : Launch) {D : va_G} {C : g_C} {g : g_k → Nat → Int32} {ad ln : g_k → Nat} {ex : g_k → Option va_E} {B : Nat} {n : Nat} (hn : n ≤ 10) (hc : g (1, 0, 0) 4 = nI n) {M : Nat} (hM : ln (5, 0, 0) = M) (hM20 : M ≤ 20) (hs : g (0, 0, 0) 7 = nI M) {sta t : Nat} {src to : Nat → Nat} (hsl : ∀ i, i < 10 → (ln (30, i, 0) = 1 ↔ i < sta)) (hstn : sta ≤ n) (hto : ∀ j, j < M → ln (43, j, 0) = to j ∧ to j < sta) (hnow : g (0, 0, 0) 8 = nI t) (hmk : ∀ j, j < M → mok g ln n t j (src j) (to j)) (hrl : ∀ i, i < sta → rlw_P g n t i) {k : Nat} (hk1 : 1 ≤ k) (hk30 : k ≤ 30) (ht : t + k < 2 ^ 19) : Met l yX5_pass wsX5_pass ({ frames := 6, cells := (40 * k), slots := (us t k), locals := 139 } : Room) (va_Pc [.ref (ad (0, 0, 0)), .int (nI k)] (g_S D C (lay C g ad ln ex) ad B)) (va_Qi (fun (r : Int32) (u : (g_k → Nat → Int32) × (g_k → Nat) × (g_k → Nat)) => pm_P g ad ln n sta M t (t + k) src to r u.1 u.2.1 u.2.2) (fun u t => g_P D (lay C u.1 u.2.1 u.2.2 ex) u.2.1 B t.heap) (g_A B)) (40 * k) (us t k) (g_A B) := by
  refine Met.ofW (cc := cX5_pass) (maxL := 4) (ret := (some .int)) (by decide) rfl ?_
  intro p e s m args below meth c s₁ B₀ hml hv
  obtain ⟨rfl, hG, hF⟩ := hv
  have hK := hF.1
  have hN := hF.2.1
  have hB := hF.2.2.2
  have hx := B₀.exec
  have hb := B₀.bytes
  have hr := B₀.returns
  have hts := atoms_spec (ws := wsX5_pass) B₀.pre
  have hown : s.vm.findClass RX5 = some m.cls := findClass_of_methodNamed B₀.named
  have hlocks := B₀.notSynchronized
  have hS : va_S (g_A B) s.heap s.heap [] := va_S.rf
  have hi5 : ∀ w ∈ wsX50, w ∈ wsX5_pass := by decide +kernel
  have hl := lv_entry [.ref (ad (0, 0, 0)), .int (nI k)] (n := 4) (Nat.le_of_ble_eq_true rfl)
  rw [lg_entry_eq]
  generalize (lg_sl [.ref (ad (0, 0, 0)), .int (nI k)] ++ List.replicate (4 - (lg_sl [.ref (ad (0, 0, 0)), .int (nI k)]).length) Slot.unset).toArray = ls at hl ⊢
  have hl : lv_has ls 4 [(0, .ref (ad (0, 0, 0))), (1, .int (nI k))] := hl
  refine lv_iload_n hx hb dX5_pass_0 rfl (lv_at hl 1 rfl) ?_
  refine lv_iconst (v := nI 1) hx hb dX5_pass_1 (by decide) ?_
  refine lv_bipush (v := nI 30) hx hb dX5_pass_2 (by decide) ?_
  refine vp_callSi (W.runS (As := [.int (nI k), .int (nI 1), .int (nI 30)]) (rest := []) ⟨hx, hb, hml, hown, hts⟩ (c_inRange l ) (va_cwS 3 hts gX5_pass_X5_inRange rfl rfl rfl (by decide +kernel) ⟨Nat.le_of_ble_eq_true rfl, Nat.le_of_ble_eq_true rfl⟩) (g_preS hF hG hS) rfl rfl hl.1 rfl (lv_room (Nat.le_of_ble_eq_true rfl)) dX5_pass_4 ⟨Nat.le_of_ble_eq_true rfl, Nat.le_of_ble_eq_true rfl⟩) (fun r_1 h_2 => ?_)
  refine lv_to (y := nI 1) (h_2.trans (if_pos (⟨nI_le hk1 (by omega), nI_le hk30 (by decide)⟩))) ?_
  refine va_csv (W.runS (As := [.int (nI 1)]) (rest := []) ⟨hx, hb, hml, hown, hts⟩ (c_requireArgument l ) (va_cwS 1 hts gX5_pass_X5_requireArgument rfl rfl rfl (by decide +kernel) ⟨Nat.le_of_ble_eq_true rfl, Nat.le_of_ble_eq_true rfl⟩) (g_preS hF hG hS) rfl rfl hl.1 rfl (lv_room (Nat.le_of_ble_eq_true rfl)) dX5_pass_7 ⟨Nat.le_of_ble_eq_true rfl, Nat.le_of_ble_eq_true rfl⟩) (fun h_4 => ?_)
  refine lv_aload_n hx hb dX5_pass_10 rfl (lv_at hl 0 rfl) ?_
  refine g_get hx hb hts hi5 hown hK hG (lay_main) rfl 8 (by decide) (hts (.fieldLink RX5 51 "Satellitering" "now" "I") (by decide +kernel)) rfl dX5_pass_11 ?_
  refine lv_to (y := nI t) (hnow) ?_
  refine lv_iload_n hx hb dX5_pass_14 rfl (lv_at hl 1 rfl) ?_
  refine lv_iadd hx hb dX5_pass_15 ?_
  refine lv_to (y := nI (t + k)) (nI_add t k) ?_
  refine lv_ldc (v := 1000000) hx hb hown (hts (.constant RX5 147 (1000000)) (by decide +kernel)) dX5_pass_16 ?_
  refine lv_to (y := nI 1000000) (by decide) ?_
  refine lv_icmp_le (tgt := 31) hx hb dX5_pass_18 (by decide) (fun c_5 => ?_) (fun c_5 => ?_)
  · refine lv_iconst (v := nI 0) hx hb dX5_pass_31 (by decide) ?_
    refine lv_istore_n (lv' := [(2, .int (nI 0)), (0, .ref (ad (0, 0, 0))), (1, .int (nI k))]) hx hb dX5_pass_32 rfl hl (by decide) rfl (fun ls hl => ?_)
    refine lv_iconst (v := nI 0) hx hb dX5_pass_33 (by decide) ?_
    refine lv_istore_n (lv' := [(3, .int (nI 0)), (2, .int (nI 0)), (0, .ref (ad (0, 0, 0))), (1, .int (nI k))]) hx hb dX5_pass_34 rfl hl (by decide) rfl (fun ls hl => ?_)
    have loop : ∀ (f9 p1 q : Nat) (g1 : g_k → Nat → Int32) (ad1 ln1 : g_k → Nat) (H : Heap) (locs : List Loc), p1 ≤ k → k < p1 + f9 → q ≤ 20 * p1 → pm_P g ad ln n sta M t (t + p1) src to (nI q) g1 ad1 ln1 → g_P D (lay C g1 ad1 ln1 ex) ad1 B H → va_S (g_A B) s.heap H locs → ∀ ls, lv_has ls 4 [(3, .int (nI p1)), (2, .int (nI q)), (0, .ref (ad1 (0, 0, 0))), (1, .int (nI k))] → W p l e (headSpec wsX5_pass ({ frames := 6, cells := (40 * k), slots := (us t k), locals := 139 } : Room)).room s m ([.ref (ad (0, 0, 0)), .int (nI k)]).toArray below meth c H locs (40 * p1) (us t p1) (MQ below (va_Qi (fun (r : Int32) (u : (g_k → Nat → Int32) × (g_k → Nat) × (g_k → Nat)) => pm_P g ad ln n sta M t (t + k) src to r u.1 u.2.1 u.2.2) (fun u t => g_P D (lay C u.1 u.2.1 u.2.2 ex) u.2.1 B t.heap) (g_A B)) ([.ref (ad (0, 0, 0)), .int (nI k)]).toArray s (40 * k) (us t k) (g_A B)) (F0 m 35 ls []) := by
      intro f9
      induction f9 with
      | zero => intro p1 q g1 ad1 ln1 H locs h1 h2; exact absurd h2 (by omega)
      | succ f9 ih =>
        intro p1 q g1 ad1 ln1 H locs h1 h2 h3 h4 hG hS ls hl
        refine lv_iload_n hx hb dX5_pass_35 rfl (lv_at hl 0 rfl) ?_
        refine lv_iload_n hx hb dX5_pass_36 rfl (lv_at hl 3 rfl) ?_
        refine lv_icmp_ge (tgt := 53) hx hb dX5_pass_37 (by decide) (fun c_6 => ?_) (fun c_6 => ?_)
        · have hp : k = p1 := by have := (nI_leI (by omega) (by omega)).mp c_6; omega
          subst hp
          refine lv_iload_n hx hb dX5_pass_53 rfl (lv_at hl 1 rfl) ?_
          exact W.iret (v := nI q) hx hb hr (fun t9 ht9 hW9 => ⟨⟨_, (g1, ad1, ln1), rfl, h4, by show g_P D (lay C g1 ad1 ln1 ex) ad1 B t9.heap; rw [ht9]; exact hG⟩, hS.F ht9⟩) hS.2.2 dX5_pass_54
        · have hp : p1 < k := Nat.lt_of_not_le (fun h9 => c_6 ((nI_leI (by omega) (by omega)).mpr h9))
          obtain ⟨⟨f1, f2, f3⟩, f7, f8, fm, fr, -⟩ := id h4
          have hM1 : ln1 (5, 0, 0) = M := by rw [f3 _ (by decide) (by decide) (by decide)]; exact hM
          have hc1 : g1 (1, 0, 0) 4 = nI n := by rw [f1 _ (Or.inl (by decide)) (by decide)]; exact hc
          have hl30 : ∀ i, ln1 (30, i, 0) = ln (30, i, 0) := fun i => f3 _ (show (30 : Nat) ≠ 31 by decide) (show (30 : Nat) ≠ 41 by decide) (show (30 : Nat) ≠ 42 by decide)
          have hl43 : ∀ i, ln1 (43, i, 0) = ln (43, i, 0) := fun i => f3 _ (show (43 : Nat) ≠ 31 by decide) (show (43 : Nat) ≠ 41 by decide) (show (43 : Nat) ≠ 42 by decide)
          refine lv_iload_n hx hb dX5_pass_40 rfl (lv_at hl 1 rfl) ?_
          refine lv_aload_n hx hb dX5_pass_41 rfl (lv_at hl 2 rfl) ?_
          refine va_calli (va_runV (As := []) (rest := [.int (nI q)]) ⟨hx, hb, hml, hown, hts⟩ (c_passOneMinute l hn hc1 hM1 hM20 (f7.trans hs) (sta := sta) (t := t + p1) (src := src) (to := to) (fun i hi => by rw [hl30]; exact hsl i hi) hstn (fun j hj => by rw [hl43]; exact hto j hj) f8 fm (fun i hi => (fr i hi).2) (by omega)) (cwV 0 hts gX5_pass_X5_passOneMinute rfl rfl rfl (by decide +kernel) ⟨Nat.le_of_ble_eq_true rfl, Nat.le_of_ble_eq_true rfl⟩) (g_preV hF hG hS (lay_main) rfl) rfl rfl hl.1 rfl (lv_room (Nat.le_of_ble_eq_true rfl)) dX5_pass_42 ⟨(by show 40 * (p1 + 1) ≤ 40 * k; omega), (by show us t (p1 + 1) ≤ us t k; exact us_le t (by omega))⟩) hS (fun q _ h => h) (fun q h => h) (fun r_7 u9 t9 H locs ht9 _ h_8 hB1 _ _ hS => ?_)
          obtain ⟨g_9, ad_11, ln_10⟩ := u9
          dsimp only at h_8
          have hG : g_P D (lay C g_9 ad_11 ln_10 ex) ad_11 B H := by rw [← ht9]; exact hB1
          obtain ⟨q2, hq2, er2, hpm⟩ := pm_tr (Nat.le_add_right t p1) h4 (by omega) (by have := Nat.mul_le_mul_right (t + p1 - t) hM20; omega) h_8
          have ea0 : ad_11 (0, 0, 0) = ad1 (0, 0, 0) := h_8.1.2.1 _ (show (0 : Nat) ≠ 41 by decide) (show (0 : Nat) ≠ 42 by decide)
          have hl : lv_has ls 4 [(3, .int (nI p1)), (2, .int (nI q)), (0, .ref (ad_11 (0, 0, 0))), (1, .int (nI k))] := by rw [ea0]; exact hl
          subst er2
          refine lv_iadd hx hb dX5_pass_45 ?_
          refine lv_to (y := nI (q + q2)) (nI_add q q2) ?_
          refine lv_istore_n (lv' := [(2, .int (nI (q + q2))), (3, .int (nI p1)), (0, .ref (ad_11 (0, 0, 0))), (1, .int (nI k))]) hx hb dX5_pass_46 rfl hl (by decide) rfl (fun ls hl => ?_)
          refine lv_iinc (v := nI (p1 + 1)) (lv' := [(3, .int (nI (p1 + 1))), (2, .int (nI (q + q2))), (0, .ref (ad_11 (0, 0, 0))), (1, .int (nI k))]) hx hb dX5_pass_47 hl (k := 1) rfl (nI_add p1 1) (by decide) rfl (fun ls hl => ?_)
          refine lv_goto (tgt := 35) hx hb dX5_pass_50 (by decide) ?_
          exact ih (p1 + 1) (q + q2) g_9 ad_11 ln_10 _ _ (by omega) (by omega) (by omega) hpm hG hS ls (lv_sub hl [0, 1, 2, 3] rfl)
    exact loop (k + 1) 0 0 g ad ln s.heap [] (Nat.zero_le k) (by omega) (Nat.zero_le _) (pm_rf hnow hmk hrl) hG hS ls (lv_sub hl [0, 1, 2, 3] rfl)
  · exact absurd (nI_le (show t + k ≤ 1000000 by omega) (by decide)) c_5
end
section
section ASTQ
variable {p : Program} {l : Launch} {e : Env} {R : Room} {s : State} {m : MethodId} {args : Array Value} {below : List Frame} {meth : Method} {c : Code} {H : Heap} {locs : List Loc} {cells slots : Nat} {Q : State → Prop}
variable {cc : ByteArray} {pc : Nat} {ls : Array Slot} {rest : List Value} {D : va_G} {C : g_C} {v : g_k → Option va_E} {ad : g_k → Nat} {B : Nat} {H0 : Heap}
theorem g_aast (hx : p.tables.exec = Jvm.exec) (hb : c.code = cc) (hK : va_K D vwCl (g_T C) s) (hG : g_P D v ad B H) (hS : va_S (g_A B) H0 H locs) {cd dd : g_k} (t0 ci : Nat) {cA : ClassId} {r : vw_C} {n : Nat} {f : Nat → Option Nat} {vs : List Value} (ht : (g_T C)[t0]? = some (cA, .object r.1)) (hc : vwCl[ci]? = some r) (he : v cd = some (.inl (cA, n, .inr (.inr (.inr (.inr f)))))) (hv : v dd = some (.inr (ci, vs))) {j : Nat} (hj : j < n) (hn : n < 2 ^ 31) (hdg : decode cc pc = .ok (.aastore, 1))
    (kk : ∀ (H1 : Heap) (locs1 : List Loc), g_P D (k_up v cd (some (.inl (cA, n, .inr (.inr (.inr (.inr (va_up f j (some (ad dd)))))))))) ad B H1 → va_S (g_A B) H0 H1 locs1 → W p l e R s m args below meth c H1 locs1 cells slots Q (F0 m (pc + 1) ls rest)) : W p l e R s m args below meth c H locs cells slots Q (F0 m pc ls (.ref (ad dd) :: .int (nI j) :: .ref (ad cd) :: rest)) := by
  obtain ⟨L, h1, h2, h3⟩ := g_P_ws hG
  obtain ⟨q0, hq0⟩ := h3 cd _ he
  obtain ⟨qk, hqk⟩ := h3 dd _ hv
  refine va_astq hx hb hK h1 h2 hS q0 t0 qk ci hq0 ht hqk hc (vp_in_nI hj hn) hdg (fun H1 locs1 p1 _ s1 => kk H1 locs1 (g_P_set hG he h3 hq0 ?_) s1)
  rw [nI_clamp (Nat.lt_trans hj hn)] at p1
  exact p1
end ASTQ

set_option maxHeartbeats 4000000 in
set_option maxRecDepth 100000 in
theorem c_setCapacity (l : Launch) {D : va_G} {C : g_C} {g : g_k → Nat → Int32} {ad ln : g_k → Nat} {ex : g_k → Option va_E} {B : Nat} {n : Nat} (hn : n ≤ 10) (hc : g (1, 0, 0) 4 = nI n) {a k : Nat} (ha : a < n) (hnl : ln (30, a, 0) ≠ 1) (hk1 : 1 ≤ k) (hk9 : k ≤ 9) : Met l yX5_setCapacity wsX5_setCapacity ({ frames := 2, cells := 0, slots := 0, locals := 43 } : Room) (va_Pc [.ref (ad (0, 0, 0)), .int (nI a), .int (nI k)] (g_S D C (lay C g ad ln ex) ad B)) (va_Qi (fun (r : Int32) (g1 : g_k → Nat → Int32) => r = g (4, 0, 0) a ∧ (∀ c, c ≠ (4, 0, 0) → g1 c = g c) ∧ g1 (4, 0, 0) = upd (g (4, 0, 0)) a (nI k)) (fun g1 t => g_P D (lay C g1 ad ln ex) ad B t.heap) (g_A B)) 0 0 (g_A B) := by
  refine Met.ofW (cc := cX5_setCapacity) (maxL := 4) (ret := (some .int)) (by decide) rfl ?_
  intro p e s m args below meth c s₁ B₀ hml hv
  obtain ⟨rfl, hG, hF⟩ := hv
  have hK := hF.1
  have hN := hF.2.1
  have hB := hF.2.2.2
  have hx := B₀.exec
  have hb := B₀.bytes
  have hr := B₀.returns
  have hts := atoms_spec (ws := wsX5_setCapacity) B₀.pre
  have hown : s.vm.findClass RX5 = some m.cls := findClass_of_methodNamed B₀.named
  have hlocks := B₀.notSynchronized
  have hS : va_S (g_A B) s.heap s.heap [] := va_S.rf
  have hi5 : ∀ w ∈ wsX50, w ∈ wsX5_setCapacity := by decide +kernel
  have hl := lv_entry [.ref (ad (0, 0, 0)), .int (nI a), .int (nI k)] (n := 4) (Nat.le_of_ble_eq_true rfl)
  rw [lg_entry_eq]
  generalize (lg_sl [.ref (ad (0, 0, 0)), .int (nI a), .int (nI k)] ++ List.replicate (4 - (lg_sl [.ref (ad (0, 0, 0)), .int (nI a), .int (nI k)]).length) Slot.unset).toArray = ls at hl ⊢
  have hl : lv_has ls 4 [(0, .ref (ad (0, 0, 0))), (1, .int (nI a)), (2, .int (nI k))] := hl
  refine lv_aload_n hx hb dX5_setCapacity_0 rfl (lv_at hl 0 rfl) ?_
  refine lv_iload_n hx hb dX5_setCapacity_1 rfl (lv_at hl 1 rfl) ?_
  refine va_csv (W.runV (As := [.int (nI a)]) (rest := []) ⟨hx, hb, hml, hown, hts⟩ (c_requireNode l hn hc ha) (cwV 1 hts gX5_setCapacity_X5_requireNode rfl rfl rfl (by decide +kernel) ⟨Nat.le_of_ble_eq_true rfl, Nat.le_of_ble_eq_true rfl⟩) (g_preV hF hG hS (lay_main) rfl) rfl rfl hl.1 rfl (lv_room (Nat.le_of_ble_eq_true rfl)) dX5_setCapacity_2 ⟨Nat.le_of_ble_eq_true rfl, Nat.le_of_ble_eq_true rfl⟩) (fun h_2 => ?_)
  refine lv_aload_n hx hb dX5_setCapacity_5 rfl (lv_at hl 0 rfl) ?_
  refine g_get hx hb hts hi5 hown hK hG (lay_main) rfl 2 (by decide) (hts (.fieldLink RX5 27 "Satellitering" "stations" "[LSatellitering$Station;") (by decide +kernel)) rfl dX5_setCapacity_6 ?_
  refine lv_iload_n hx hb dX5_setCapacity_9 rfl (lv_at hl 1 rfl) ?_
  refine o_stationN hx hb hK hG ((show a < 10 by omega)) hnl dX5_setCapacity_10 ?_
  refine lv_ifnullN (tgt := 24) hx hb dX5_setCapacity_11 (by decide) ?_
  refine lv_iload_n hx hb dX5_setCapacity_24 rfl (lv_at hl 2 rfl) ?_
  refine lv_iconst (v := nI 1) hx hb dX5_setCapacity_25 (by decide) ?_
  refine lv_bipush (v := nI 9) hx hb dX5_setCapacity_26 (by decide) ?_
  refine vp_callSi (W.runS (As := [.int (nI k), .int (nI 1), .int (nI 9)]) (rest := []) ⟨hx, hb, hml, hown, hts⟩ (c_inRange l ) (va_cwS 3 hts gX5_setCapacity_X5_inRange rfl rfl rfl (by decide +kernel) ⟨Nat.le_of_ble_eq_true rfl, Nat.le_of_ble_eq_true rfl⟩) (g_preS hF hG hS) rfl rfl hl.1 rfl (lv_room (Nat.le_of_ble_eq_true rfl)) dX5_setCapacity_28 ⟨Nat.le_of_ble_eq_true rfl, Nat.le_of_ble_eq_true rfl⟩) (fun r_3 h_4 => ?_)
  refine lv_to (y := nI 1) (h_4.trans (if_pos (⟨nI_le hk1 (by omega), nI_le hk9 (by decide)⟩))) ?_
  refine va_csv (W.runS (As := [.int (nI 1)]) (rest := []) ⟨hx, hb, hml, hown, hts⟩ (c_requireArgument l ) (va_cwS 1 hts gX5_setCapacity_X5_requireArgument rfl rfl rfl (by decide +kernel) ⟨Nat.le_of_ble_eq_true rfl, Nat.le_of_ble_eq_true rfl⟩) (g_preS hF hG hS) rfl rfl hl.1 rfl (lv_room (Nat.le_of_ble_eq_true rfl)) dX5_setCapacity_31 ⟨Nat.le_of_ble_eq_true rfl, Nat.le_of_ble_eq_true rfl⟩) (fun h_6 => ?_)
  refine lv_aload_n hx hb dX5_setCapacity_34 rfl (lv_at hl 0 rfl) ?_
  refine g_get hx hb hts hi5 hown hK hG (lay_main) rfl 3 (by decide) (hts (.fieldLink RX5 31 "Satellitering" "capacities" "[I") (by decide +kernel)) rfl dX5_setCapacity_35 ?_
  refine lv_iload_n hx hb dX5_setCapacity_38 rfl (lv_at hl 1 rfl) ?_
  refine g_iald hx hb hK hG (lay_caps) ((show a < 10 by omega)) (by first | decide | omega) dX5_setCapacity_39 ?_
  refine lv_istore_n (lv' := [(3, .int (g (4, 0, 0) a)), (0, .ref (ad (0, 0, 0))), (1, .int (nI a)), (2, .int (nI k))]) hx hb dX5_setCapacity_40 rfl hl (by decide) rfl (fun ls hl => ?_)
  refine lv_aload_n hx hb dX5_setCapacity_41 rfl (lv_at hl 1 rfl) ?_
  refine g_get hx hb hts hi5 hown hK hG (lay_main) rfl 3 (by decide) (hts (.fieldLink RX5 31 "Satellitering" "capacities" "[I") (by decide +kernel)) rfl dX5_setCapacity_42 ?_
  refine lv_iload_n hx hb dX5_setCapacity_45 rfl (lv_at hl 2 rfl) ?_
  refine lv_iload_n hx hb dX5_setCapacity_46 rfl (lv_at hl 3 rfl) ?_
  refine o_iast hx hb hK hG hS (cd := (4, 0, 0)) (fun _ => lay_caps) ((show a < 10 by omega)) (by first | decide | omega) dX5_setCapacity_47 (fun H locs hG hS => ?_)
  refine lv_iload_n hx hb dX5_setCapacity_48 rfl (lv_at hl 0 rfl) ?_
  exact W.iret (v := g (4, 0, 0) a) hx hb hr (fun t9 ht9 hW9 => ⟨⟨_, (g2 g (4, 0, 0) a (nI k)), rfl, ⟨rfl, fun c hc9 => g2_ne _ _ _ hc9, g2_self _ _ _ _⟩, by show g_P _ _ _ _ t9.heap; rw [ht9]; exact hG⟩, hS.F ht9⟩) hS.2.2 dX5_setCapacity_49

/-- a node was added -/
def add_P (g : g_k → Nat → Int32) (n : Nat) (g1 : g_k → Nat → Int32) : Prop := (∀ c : g_k, c ≠ (0, 0, 0) → c ≠ (1, 0, 0) → c ≠ (4, 0, 0) → c ≠ (6, 0, 0) → c ≠ (7, 0, 0) → c ≠ (8, 0, 0) → c.1 ≠ 20 → g1 c = g c) ∧ g1 (1, 0, 0) 4 = nI (n + 1) ∧ sk1 g1 (n + 1) ∧ ∀ a b t, a < n → b < n → see g1 a b t = see g a b t

set_option maxHeartbeats 4000000 in
set_option maxRecDepth 100000 in
theorem c_addRelay (l : Launch) {D : va_G} {C : g_C} {g : g_k → Nat → Int32} {ad ln : g_k → Nat} {ex : g_k → Option va_E} {B : Nat} {n : Nat} (hn : n < 10) (hc : g (1, 0, 0) 4 = nI n) (hsk : sk1 g n) {x z k rc : Nat} {y : Int32} (hx9 : x < 360) (hy1 : (-30) ≤ y) (hy2 : y ≤ nI 30) (hz9 : z < 180) (hk1 : 1 ≤ k) (hk9 : k ≤ 9) (hrc : g (0, 0, 0) 6 = nI rc) (hrc6 : rc < 6) : Met l yX5_addRelay wsX5_addRelay ({ frames := 4, cells := 0, slots := 0, locals := 93 } : Room) (va_Pc [.ref (ad (0, 0, 0)), .int (nI x), .int y, .int (nI z), .int (nI k)] (g_S D C (lay C g ad ln ex) ad B)) (va_Qi (fun (r : Int32) (g1 : g_k → Nat → Int32) => r = nI n ∧ add_P g n g1 ∧ g1 (0, 0, 0) = upd (g (0, 0, 0)) 6 (nI (rc + 1)) ∧ g1 (4, 0, 0) = upd (g (4, 0, 0)) n (nI k) ∧ g1 (6, 0, 0) = upd (g (6, 0, 0)) n (nI x)) (fun g1 t => g_P D (lay C g1 ad ln ex) ad B t.heap) (g_A B)) 0 0 (g_A B) := by
  refine Met.ofW (cc := cX5_addRelay) (maxL := 6) (ret := (some .int)) (by decide) rfl ?_
  intro p e s m args below meth c s₁ B₀ hml hv
  obtain ⟨rfl, hG, hF⟩ := hv
  have hK := hF.1
  have hN := hF.2.1
  have hB := hF.2.2.2
  have hx := B₀.exec
  have hb := B₀.bytes
  have hr := B₀.returns
  have hts := atoms_spec (ws := wsX5_addRelay) B₀.pre
  have hown : s.vm.findClass RX5 = some m.cls := findClass_of_methodNamed B₀.named
  have hlocks := B₀.notSynchronized
  have hS : va_S (g_A B) s.heap s.heap [] := va_S.rf
  have hi5 : ∀ w ∈ wsX50, w ∈ wsX5_addRelay := by decide +kernel
  have hl := lv_entry [.ref (ad (0, 0, 0)), .int (nI x), .int y, .int (nI z), .int (nI k)] (n := 6) (Nat.le_of_ble_eq_true rfl)
  rw [lg_entry_eq]
  generalize (lg_sl [.ref (ad (0, 0, 0)), .int (nI x), .int y, .int (nI z), .int (nI k)] ++ List.replicate (6 - (lg_sl [.ref (ad (0, 0, 0)), .int (nI x), .int y, .int (nI z), .int (nI k)]).length) Slot.unset).toArray = ls at hl ⊢
  have hl : lv_has ls 6 [(0, .ref (ad (0, 0, 0))), (1, .int (nI x)), (2, .int y), (3, .int (nI z)), (4, .int (nI k))] := hl
  refine lv_iload_n hx hb dX5_addRelay_0 rfl (lv_at hl 1 rfl) ?_
  refine lv_iconst (v := nI 0) hx hb dX5_addRelay_1 (by decide) ?_
  refine lv_sipush (v := nI 359) hx hb dX5_addRelay_2 (by decide) ?_
  refine vp_callSi (W.runS (As := [.int (nI x), .int (nI 0), .int (nI 359)]) (rest := []) ⟨hx, hb, hml, hown, hts⟩ (c_inRange l ) (va_cwS 3 hts gX5_addRelay_X5_inRange rfl rfl rfl (by decide +kernel) ⟨Nat.le_of_ble_eq_true rfl, Nat.le_of_ble_eq_true rfl⟩) (g_preS hF hG hS) rfl rfl hl.1 rfl (lv_room (Nat.le_of_ble_eq_true rfl)) dX5_addRelay_5 ⟨Nat.le_of_ble_eq_true rfl, Nat.le_of_ble_eq_true rfl⟩) (fun r_1 h_2 => ?_)
  refine lv_to (y := nI 1) (h_2.trans (if_pos (⟨nI_le (Nat.zero_le _) (by omega), nI_le (show x ≤ 359 by omega) (by decide)⟩))) ?_
  refine va_csv (W.runS (As := [.int (nI 1)]) (rest := []) ⟨hx, hb, hml, hown, hts⟩ (c_requireArgument l ) (va_cwS 1 hts gX5_addRelay_X5_requireArgument rfl rfl rfl (by decide +kernel) ⟨Nat.le_of_ble_eq_true rfl, Nat.le_of_ble_eq_true rfl⟩) (g_preS hF hG hS) rfl rfl hl.1 rfl (lv_room (Nat.le_of_ble_eq_true rfl)) dX5_addRelay_8 ⟨Nat.le_of_ble_eq_true rfl, Nat.le_of_ble_eq_true rfl⟩) (fun h_4 => ?_)
  refine lv_iload_n hx hb dX5_addRelay_11 rfl (lv_at hl 2 rfl) ?_
  refine lv_bipush (v := (-30)) hx hb dX5_addRelay_12 (by decide) ?_
  refine lv_bipush (v := nI 30) hx hb dX5_addRelay_14 (by decide) ?_
  refine vp_callSi (W.runS (As := [.int y, .int (-30), .int (nI 30)]) (rest := []) ⟨hx, hb, hml, hown, hts⟩ (c_inRange l ) (va_cwS 3 hts gX5_addRelay_X5_inRange rfl rfl rfl (by decide +kernel) ⟨Nat.le_of_ble_eq_true rfl, Nat.le_of_ble_eq_true rfl⟩) (g_preS hF hG hS) rfl rfl hl.1 rfl (lv_room (Nat.le_of_ble_eq_true rfl)) dX5_addRelay_16 ⟨Nat.le_of_ble_eq_true rfl, Nat.le_of_ble_eq_true rfl⟩) (fun r_5 h_6 => ?_)
  refine lv_to (y := nI 1) (h_6.trans (if_pos (⟨hy1, hy2⟩))) ?_
  refine va_csv (W.runS (As := [.int (nI 1)]) (rest := []) ⟨hx, hb, hml, hown, hts⟩ (c_requireArgument l ) (va_cwS 1 hts gX5_addRelay_X5_requireArgument rfl rfl rfl (by decide +kernel) ⟨Nat.le_of_ble_eq_true rfl, Nat.le_of_ble_eq_true rfl⟩) (g_preS hF hG hS) rfl rfl hl.1 rfl (lv_room (Nat.le_of_ble_eq_true rfl)) dX5_addRelay_19 ⟨Nat.le_of_ble_eq_true rfl, Nat.le_of_ble_eq_true rfl⟩) (fun h_8 => ?_)
  refine lv_iload_n hx hb dX5_addRelay_22 rfl (lv_at hl 3 rfl) ?_
  refine lv_iconst (v := nI 0) hx hb dX5_addRelay_23 (by decide) ?_
  refine lv_sipush (v := nI 179) hx hb dX5_addRelay_24 (by decide) ?_
  refine vp_callSi (W.runS (As := [.int (nI z), .int (nI 0), .int (nI 179)]) (rest := []) ⟨hx, hb, hml, hown, hts⟩ (c_inRange l ) (va_cwS 3 hts gX5_addRelay_X5_inRange rfl rfl rfl (by decide +kernel) ⟨Nat.le_of_ble_eq_true rfl, Nat.le_of_ble_eq_true rfl⟩) (g_preS hF hG hS) rfl rfl hl.1 rfl (lv_room (Nat.le_of_ble_eq_true rfl)) dX5_addRelay_27 ⟨Nat.le_of_ble_eq_true rfl, Nat.le_of_ble_eq_true rfl⟩) (fun r_9 h_10 => ?_)
  refine lv_to (y := nI 1) (h_10.trans (if_pos (⟨nI_le (Nat.zero_le _) (by omega), nI_le (show z ≤ 179 by omega) (by decide)⟩))) ?_
  refine va_csv (W.runS (As := [.int (nI 1)]) (rest := []) ⟨hx, hb, hml, hown, hts⟩ (c_requireArgument l ) (va_cwS 1 hts gX5_addRelay_X5_requireArgument rfl rfl rfl (by decide +kernel) ⟨Nat.le_of_ble_eq_true rfl, Nat.le_of_ble_eq_true rfl⟩) (g_preS hF hG hS) rfl rfl hl.1 rfl (lv_room (Nat.le_of_ble_eq_true rfl)) dX5_addRelay_30 ⟨Nat.le_of_ble_eq_true rfl, Nat.le_of_ble_eq_true rfl⟩) (fun h_12 => ?_)
  refine lv_iload hx hb dX5_addRelay_33 (lv_at hl 4 rfl) ?_
  refine lv_iconst (v := nI 1) hx hb dX5_addRelay_35 (by decide) ?_
  refine lv_bipush (v := nI 9) hx hb dX5_addRelay_36 (by decide) ?_
  refine vp_callSi (W.runS (As := [.int (nI k), .int (nI 1), .int (nI 9)]) (rest := []) ⟨hx, hb, hml, hown, hts⟩ (c_inRange l ) (va_cwS 3 hts gX5_addRelay_X5_inRange rfl rfl rfl (by decide +kernel) ⟨Nat.le_of_ble_eq_true rfl, Nat.le_of_ble_eq_true rfl⟩) (g_preS hF hG hS) rfl rfl hl.1 rfl (lv_room (Nat.le_of_ble_eq_true rfl)) dX5_addRelay_38 ⟨Nat.le_of_ble_eq_true rfl, Nat.le_of_ble_eq_true rfl⟩) (fun r_13 h_14 => ?_)
  refine lv_to (y := nI 1) (h_14.trans (if_pos (⟨nI_le hk1 (by omega), nI_le hk9 (by decide)⟩))) ?_
  refine va_csv (W.runS (As := [.int (nI 1)]) (rest := []) ⟨hx, hb, hml, hown, hts⟩ (c_requireArgument l ) (va_cwS 1 hts gX5_addRelay_X5_requireArgument rfl rfl rfl (by decide +kernel) ⟨Nat.le_of_ble_eq_true rfl, Nat.le_of_ble_eq_true rfl⟩) (g_preS hF hG hS) rfl rfl hl.1 rfl (lv_room (Nat.le_of_ble_eq_true rfl)) dX5_addRelay_41 ⟨Nat.le_of_ble_eq_true rfl, Nat.le_of_ble_eq_true rfl⟩) (fun h_16 => ?_)
  refine lv_aload_n hx hb dX5_addRelay_44 rfl (lv_at hl 0 rfl) ?_
  refine g_get hx hb hts hi5 hown hK hG (lay_main) rfl 6 (by decide) (hts (.fieldLink RX5 45 "Satellitering" "relayCount" "I") (by decide +kernel)) rfl dX5_addRelay_45 ?_
  refine lv_to (y := nI rc) (hrc) ?_
  refine lv_bipush (v := nI 6) hx hb dX5_addRelay_48 (by decide) ?_
  refine lv_icmp_lt (tgt := 63) hx hb dX5_addRelay_50 (by decide) (fun c_17 => ?_) (fun c_17 => ?_)
  · refine lv_aload_n hx hb dX5_addRelay_63 rfl (lv_at hl 0 rfl) ?_
    refine g_get hx hb hts hi5 hown hK hG (lay_main) rfl 0 (by decide) (hts (.fieldLink RX5 12 "Satellitering" "sky" "LSatellitering$Sky;") (by decide +kernel)) rfl dX5_addRelay_64 ?_
    refine lv_iload_n hx hb dX5_addRelay_67 rfl (lv_at hl 1 rfl) ?_
    refine lv_iload_n hx hb dX5_addRelay_68 rfl (lv_at hl 2 rfl) ?_
    refine lv_iload_n hx hb dX5_addRelay_69 rfl (lv_at hl 3 rfl) ?_
    refine va_calli (va_runV (As := [.int (nI x), .int y, .int (nI z)]) (rest := []) ⟨hx, hb, hml, hown, hts⟩ (c_addNode l hn hc hsk) (cwV 3 hts gX5_addRelay_X2_addNode rfl rfl rfl (by decide +kernel) ⟨Nat.le_of_ble_eq_true rfl, Nat.le_of_ble_eq_true rfl⟩) (g_preV hF hG hS (lay_sky) rfl) rfl rfl hl.1 rfl (lv_room (Nat.le_of_ble_eq_true rfl)) dX5_addRelay_70 ⟨Nat.le_of_ble_eq_true rfl, Nat.le_of_ble_eq_true rfl⟩) hS (fun q _ h => h) (fun q h => h) (fun r_18 g_20 t9 H locs ht9 _ h_19 hB1 _ _ hS => ?_)
    have hG : g_P D (lay C g_20 ad ln ex) ad B H := by rw [← ht9]; exact hB1
    obtain ⟨er, f1, f2, f3, f4, f5, f6, f7⟩ := h_19
    subst er
    refine lv_istore (lv' := [(5, .int (nI n)), (0, .ref (ad (0, 0, 0))), (1, .int (nI x)), (2, .int y), (3, .int (nI z)), (4, .int (nI k))]) hx hb dX5_addRelay_73 hl (by decide) rfl (fun ls hl => ?_)
    refine lv_aload_n hx hb dX5_addRelay_75 rfl (lv_at hl 1 rfl) ?_
    refine g_get hx hb hts hi5 hown hK hG (lay_main) rfl 3 (by decide) (hts (.fieldLink RX5 31 "Satellitering" "capacities" "[I") (by decide +kernel)) rfl dX5_addRelay_76 ?_
    refine lv_iload hx hb dX5_addRelay_79 (lv_at hl 0 rfl) ?_
    refine lv_iload hx hb dX5_addRelay_81 (lv_at hl 5 rfl) ?_
    refine o_iast hx hb hK hG hS (cd := (4, 0, 0)) (fun _ => lay_caps) (hn) (by first | decide | omega) dX5_addRelay_83 (fun H locs hG hS => ?_)
    refine lv_aload_n hx hb dX5_addRelay_84 rfl (lv_at hl 1 rfl) ?_
    refine lv_dup hx hb dX5_addRelay_85 rfl ?_
    refine g_get hx hb hts hi5 hown hK hG (lay_main) rfl 6 (by decide) (hts (.fieldLink RX5 45 "Satellitering" "relayCount" "I") (by decide +kernel)) rfl dX5_addRelay_86 ?_
    refine lv_to (y := nI rc) (by rw [g2_ne _ _ _ (by decide), f4 _ (by decide) (by decide) (by decide) (by decide) (by decide)]; exact hrc) ?_
    refine lv_iconst (v := nI 1) hx hb dX5_addRelay_89 (by decide) ?_
    refine lv_iadd hx hb dX5_addRelay_90 ?_
    refine lv_to (y := nI (rc + 1)) (nI_add rc 1) ?_
    refine o_put hx hb hts hi5 tyX5 tyX5_ok nmX5 hown hK hG hS (cd := (0, 0, 0)) (F_main ad) (fun _ => lay_main) rfl 6 (by decide) (hts (.fieldLink RX5 45 "Satellitering" "relayCount" "I") (by decide +kernel)) rfl rfl (by simp [upd]) (by simp) dX5_addRelay_91 (fun H locs hG hS => ?_)
    refine lv_iload hx hb dX5_addRelay_94 (lv_at hl 0 rfl) ?_
    have hfr : ∀ c, c ≠ (0, 0, 0) → c ≠ (4, 0, 0) → (g2 (g2 g_20 (4, 0, 0) n (nI k)) (0, 0, 0) 6 (nI (rc + 1))) c = g_20 c := fun c c1 c2 => by rw [g2_ne _ _ _ c1, g2_ne _ _ _ c2]
    have h20 : ∀ i, (g2 (g2 g_20 (4, 0, 0) n (nI k)) (0, 0, 0) 6 (nI (rc + 1))) (20, i, 0) = g_20 (20, i, 0) := fun i => hfr _ (by intro h9; cases h9) (by intro h9; cases h9)
    have hse : ∀ a b t, see (g2 (g2 g_20 (4, 0, 0) n (nI k)) (0, 0, 0) 6 (nI (rc + 1))) a b t = see g_20 a b t := fun a b t => see_20 (g := g_20) (g1 := (g2 (g2 g_20 (4, 0, 0) n (nI k)) (0, 0, 0) 6 (nI (rc + 1)))) h20 a b t
    have hfin : add_P g n (g2 (g2 g_20 (4, 0, 0) n (nI k)) (0, 0, 0) 6 (nI (rc + 1))) ∧ (g2 (g2 g_20 (4, 0, 0) n (nI k)) (0, 0, 0) 6 (nI (rc + 1))) (0, 0, 0) = upd (g (0, 0, 0)) 6 (nI (rc + 1)) ∧ (g2 (g2 g_20 (4, 0, 0) n (nI k)) (0, 0, 0) 6 (nI (rc + 1))) (4, 0, 0) = upd (g (4, 0, 0)) n (nI k) ∧ (g2 (g2 g_20 (4, 0, 0) n (nI k)) (0, 0, 0) 6 (nI (rc + 1))) (6, 0, 0) = upd (g (6, 0, 0)) n (nI x) := by
      refine ⟨⟨fun c c0 c1 c4 c6 c7 c8 c20 => (hfr c c0 c4).trans (f4 c c1 c6 c7 c8 c20), (by rw [hfr _ (by decide) (by decide)]; exact f1), sk1_cong f5 h20, fun a b t a1 b1 => (hse a b t).trans (f6 a b t a1 b1)⟩, ?_, ?_, ?_⟩
      · rw [g2_self, g2_ne _ _ _ (by decide), f4 _ (by decide) (by decide) (by decide) (by decide) (by decide)]
      · rw [g2_ne _ _ _ (by decide), g2_self, f4 _ (by decide) (by decide) (by decide) (by decide) (by decide)]
      · rw [hfr _ (by decide) (by decide)]; exact f2
    exact W.iret (v := nI n) hx hb hr (fun t9 ht9 hW9 => ⟨⟨_, (g2 (g2 g_20 (4, 0, 0) n (nI k)) (0, 0, 0) 6 (nI (rc + 1))), rfl, ⟨rfl, hfin⟩, by show g_P _ _ _ _ t9.heap; rw [ht9]; exact hG⟩, hS.F ht9⟩) hS.2.2 dX5_addRelay_96
  · exact absurd (nI_lt hrc6 (by decide)) c_17

def g_send (g : g_k → Nat → Int32) (M : Nat) (x y : Int32) : g_k → Nat → Int32 := fun c => if c = (40, M, 0) then (fun k => if k = 0 then y else if k = 2 then x else 0) else if c = (41, M, 0) ∨ c = (42, M, 0) then (fun _ => 0) else g c
def ln_send (ln : g_k → Nat) (M b : Nat) : g_k → Nat := fun c => if c = (5, 0, 0) then M + 1 else if c = (41, M, 0) ∨ c = (42, M, 0) then 8 else if c = (43, M, 0) then b else ln c
theorem g_send_ne (g : g_k → Nat → Int32) {M : Nat} {x y : Int32} {c : g_k} (h : c ≠ (40, M, 0)) (h1 : c ≠ (41, M, 0)) (h2 : c ≠ (42, M, 0)) : g_send g M x y c = g c := by simp [g_send, h, h1, h2]
theorem ln_send_ne (ln : g_k → Nat) {M b : Nat} {c : g_k} (h : c ≠ (5, 0, 0)) (h1 : c ≠ (41, M, 0)) (h2 : c ≠ (42, M, 0)) (h3 : c ≠ (43, M, 0)) : ln_send ln M b c = ln c := by simp [ln_send, h, h1, h2, h3]
theorem lay_send {C : g_C} {g : g_k → Nat → Int32} {ad ad2 ln : g_k → Nat} {ex : g_k → Option va_E} {M b : Nat} {x y : Int32} {e0 : Option va_E} (hM : ln (5, 0, 0) = M) (ha : ∀ c, c ≠ (40, M, 0) → c ≠ (41, M, 0) → c ≠ (42, M, 0) → ad2 c = ad c) : k_up (message_v C (k_up (lay C g ad ln ex) (40, M, 0) e0) M b x y ad2) (5, 0, 0) (some (.inl (C.2.2.2, 20, .inr (.inr (.inr (.inr (va_up (A_sent ad ln) M (some (ad2 (40, M, 0))))))))))  = lay C (g_send g M x y) ad2 (ln_send ln M b) ex := by
  have l5 : ln_send ln M b (5, 0, 0) = M + 1 := by simp [ln_send]
  have a0 : ∀ c : g_k, c.1 < 40 → ad2 c = ad c := fun c hc => ha c (fun z => by rw [z] at hc; exact absurd hc (by omega)) (fun z => by rw [z] at hc; exact absurd hc (by omega)) (fun z => by rw [z] at hc; exact absurd hc (by omega))
  have l0 : ∀ c : g_k, c ≠ (5, 0, 0) → c.1 < 40 → ln_send ln M b c = ln c := fun c h5 hc => ln_send_ne ln h5 (fun z => by rw [z] at hc; exact absurd hc (by omega)) (fun z => by rw [z] at hc; exact absurd hc (by omega)) (fun z => by rw [z] at hc; exact absurd hc (by omega))
  funext d
  by_cases d5 : d = (5, 0, 0)
  · subst d5
    rw [k_up_self, lay_sent]
    refine congrArg some (congrArg Sum.inl (congrArg (fun z => (C.2.2.2, 20, Sum.inr (Sum.inr (Sum.inr (Sum.inr z))))) (funext fun j => ?_)))
    by_cases hj : j = M
    · subst hj
      rw [va_up_self]
      simp [A_sent, l5]
    · rw [va_up_ne _ _ hj]
      by_cases h9 : j < M
      · have h8 : j < M + 1 := by omega
        simp only [A_sent, l5, hM, h9, h8, if_true]
        rw [ha (40, j, 0) (k3 (Or.inr (Or.inl hj))) (k3 (Or.inl (by decide))) (k3 (Or.inl (by decide)))]
      · have h8 : ¬ j < M + 1 := by omega
        simp only [A_sent, l5, hM, h9, h8, if_false]
  rw [k_up_ne _ _ d5]
  by_cases d40 : d = (40, M, 0)
  · subst d40
    rw [lay_msg (by rw [l5]; omega)]
    have e43 : ln_send ln M b (43, M, 0) = b := by simp [ln_send]
    simp [message_v, F_msg, g_send, e43]
  by_cases d41 : d = (41, M, 0)
  · subst d41
    rw [lay_hopN (by rw [l5]; omega)]
    simp [message_v, g_send, ln_send]
  by_cases d42 : d = (42, M, 0)
  · subst d42
    rw [lay_hopM (by rw [l5]; omega)]
    simp [message_v, g_send, ln_send]
  have e1 : message_v C (k_up (lay C g ad ln ex) (40, M, 0) e0) M b x y ad2 d = lay C g ad ln ex d := by simp [message_v, d40, d41, d42, k_up]
  rw [e1]
  refine (lay_cg d (g_send_ne g d40 d41 d42) (fun k hk => a0 _ (show k < 40 by omega)) (fun i => a0 _ (show (20 : Nat) < 40 by decide)) (fun z => ?_) (fun z => absurd z d5) (fun h30 h35 => ?_) (fun h40 h42 hz => ?_) (fun h40 hz => ?_) (fun h41 hz => ?_) (fun h42 hz => ?_)).symm
  · funext j
    simp only [A_stations]
    rw [a0 (30, j, 0) (show (30 : Nat) < 40 by decide), l0 (30, j, 0) (k3 (Or.inl (by decide))) (show (30 : Nat) < 40 by decide)]
  · have s31 : ln_send ln M b (31, d.2.1, 0) = ln (31, d.2.1, 0) := l0 _ (k3 (Or.inl (by decide))) (show (31 : Nat) < 40 by decide)
    refine ⟨l0 _ (k3 (Or.inl (by decide))) (show (30 : Nat) < 40 by decide), ?_, ?_, ?_⟩
    · rw [F_station, F_station, a0 (31, d.2.1, 0) (show (31 : Nat) < 40 by decide)]
    · have esc : ad2 (sc (ln_send ln M b) d.2.1) = ad (sc ln d.2.1) := by
        unfold sc
        rw [s31]
        split <;> first | exact a0 _ (show (33 : Nat) < 40 by decide) | exact a0 _ (show (34 : Nat) < 40 by decide)
      have esb : ad2 (sb (ln_send ln M b) d.2.1) = ad (sb ln d.2.1) := by
        unfold sb
        rw [s31]
        split <;> first | exact a0 _ (show (33 : Nat) < 40 by decide) | exact a0 _ (show (34 : Nat) < 40 by decide)
      rw [F_time, F_time, esc, esb, a0 (1, 0, 0) (by decide), a0 (32, d.2.1, 0) (show (32 : Nat) < 40 by decide)]
    · funext j
      simp only [A_left]
      rw [a0 (35, d.2.1, j) (show (35 : Nat) < 40 by decide)]
  · rw [l5, hM]
    have hne : d.2.1 ≠ M := fun z => by
      rcases (show d.1 = 40 ∨ d.1 = 41 ∨ d.1 = 42 by omega) with q | q | q
      · exact d40 (by rw [← q, ← z, ← hz])
      · exact d41 (by rw [← q, ← z, ← hz])
      · exact d42 (by rw [← q, ← z, ← hz])
    omega
  · have hne : d.2.1 ≠ M := fun z => d40 (by rw [← h40, ← z, ← hz])
    rw [F_msg, F_msg, ln_send_ne ln (k3 (Or.inl (by decide))) (k3 (Or.inl (by decide))) (k3 (Or.inl (by decide))) (k3 (Or.inr (Or.inl hne))), a0 (31, ln (43, d.2.1, 0), 0) (show (31 : Nat) < 40 by decide), ha (41, d.2.1, 0) (k3 (Or.inl (by decide))) (k3 (Or.inr (Or.inl hne))) (k3 (Or.inl (by decide))), ha (42, d.2.1, 0) (k3 (Or.inl (by decide))) (k3 (Or.inl (by decide))) (k3 (Or.inr (Or.inl hne)))]
  · have hne : d.2.1 ≠ M := fun z => d41 (by rw [← h41, ← z, ← hz])
    exact ln_send_ne ln (k3 (Or.inl (by decide))) (k3 (Or.inr (Or.inl hne))) (k3 (Or.inl (by decide))) (k3 (Or.inl (by decide)))
  · have hne : d.2.1 ≠ M := fun z => d42 (by rw [← h42, ← z, ← hz])
    exact ln_send_ne ln (k3 (Or.inl (by decide))) (k3 (Or.inl (by decide))) (k3 (Or.inr (Or.inl hne))) (k3 (Or.inl (by decide)))

set_option maxHeartbeats 4000000 in
set_option maxRecDepth 100000 in
theorem c_send (l : Launch) {D : va_G} {C : g_C} {g : g_k → Nat → Int32} {ad ln : g_k → Nat} {ex : g_k → Option va_E} {B : Nat} {n : Nat} (hn : n < 11) (hc : g (1, 0, 0) 4 = nI n) {M : Nat} (hM : ln (5, 0, 0) = M) (hM20 : M < 20) (hs : g (0, 0, 0) 7 = nI M) {a b : Nat} (ha : a < n) (hb9 : b < n) (hla : ln (30, a, 0) = 1) (hlb : ln (30, b, 0) = 1) (hab : a ≠ b) : Met l yX5_send wsX5_send ({ frames := 3, cells := 3, slots := 24, locals := 65 } : Room) (va_Pc [.ref (ad (0, 0, 0)), .int (nI a), .int (nI b)] (g_S D C (lay C g ad ln ex) ad B)) (va_Qi (fun (r : Int32) (u : (g_k → Nat → Int32) × (g_k → Nat) × (g_k → Nat)) => r = nI M ∧ u.1 = g2 (g_send g M (nI a) (nI b)) (0, 0, 0) 7 (nI (M + 1)) ∧ u.2.2 = ln_send ln M b ∧ ∀ c, c ≠ (40, M, 0) → c ≠ (41, M, 0) → c ≠ (42, M, 0) → u.2.1 c = ad c) (fun u t => g_P D (lay C u.1 u.2.1 u.2.2 ex) u.2.1 B t.heap) (g_A B)) 3 24 (g_A B) := by
  refine Met.ofW (cc := cX5_send) (maxL := 5) (ret := (some .int)) (by decide) rfl ?_
  intro p e s m args below meth c s₁ B₀ hml hv
  obtain ⟨rfl, hG, hF⟩ := hv
  have hK := hF.1
  have hN := hF.2.1
  have hB := hF.2.2.2
  have hx := B₀.exec
  have hb := B₀.bytes
  have hr := B₀.returns
  have hts := atoms_spec (ws := wsX5_send) B₀.pre
  have hown : s.vm.findClass RX5 = some m.cls := findClass_of_methodNamed B₀.named
  have hlocks := B₀.notSynchronized
  have hS : va_S (g_A B) s.heap s.heap [] := va_S.rf
  have hi0 : ∀ w ∈ wsX00, w ∈ wsX5_send := by decide +kernel
  have hi3 : ∀ w ∈ wsX30, w ∈ wsX5_send := by decide +kernel
  have hi5 : ∀ w ∈ wsX50, w ∈ wsX5_send := by decide +kernel
  have hl := lv_entry [.ref (ad (0, 0, 0)), .int (nI a), .int (nI b)] (n := 5) (Nat.le_of_ble_eq_true rfl)
  rw [lg_entry_eq]
  generalize (lg_sl [.ref (ad (0, 0, 0)), .int (nI a), .int (nI b)] ++ List.replicate (5 - (lg_sl [.ref (ad (0, 0, 0)), .int (nI a), .int (nI b)]).length) Slot.unset).toArray = ls at hl ⊢
  have hl : lv_has ls 5 [(0, .ref (ad (0, 0, 0))), (1, .int (nI a)), (2, .int (nI b))] := hl
  refine lv_aload_n hx hb dX5_send_0 rfl (lv_at hl 0 rfl) ?_
  refine lv_iload_n hx hb dX5_send_1 rfl (lv_at hl 1 rfl) ?_
  refine va_csr (W.runV (As := [.int (nI a)]) (rest := []) ⟨hx, hb, hml, hown, hts⟩ (c_requireStation l (Nat.le_of_lt_succ hn) hc ha hla) (cwV 1 hts gX5_send_X5_requireStation rfl rfl rfl (by decide +kernel) ⟨Nat.le_of_ble_eq_true rfl, Nat.le_of_ble_eq_true rfl⟩) (g_preV hF hG hS (lay_main) rfl) rfl rfl hl.1 rfl (lv_room (Nat.le_of_ble_eq_true rfl)) dX5_send_2 ⟨Nat.le_of_ble_eq_true rfl, Nat.le_of_ble_eq_true rfl⟩) (fun k_3 h_2 => ?_)
  rw [show k_3 = a from h_2]
  refine lv_pop hx hb dX5_send_5 rfl ?_
  refine lv_aload_n hx hb dX5_send_6 rfl (lv_at hl 0 rfl) ?_
  refine lv_iload_n hx hb dX5_send_7 rfl (lv_at hl 2 rfl) ?_
  refine va_csr (W.runV (As := [.int (nI b)]) (rest := []) ⟨hx, hb, hml, hown, hts⟩ (c_requireStation l (Nat.le_of_lt_succ hn) hc hb9 hlb) (cwV 1 hts gX5_send_X5_requireStation rfl rfl rfl (by decide +kernel) ⟨Nat.le_of_ble_eq_true rfl, Nat.le_of_ble_eq_true rfl⟩) (g_preV hF hG hS (lay_main) rfl) rfl rfl hl.1 rfl (lv_room (Nat.le_of_ble_eq_true rfl)) dX5_send_8 ⟨Nat.le_of_ble_eq_true rfl, Nat.le_of_ble_eq_true rfl⟩) (fun k_6 h_5 => ?_)
  rw [show k_6 = b from h_5]
  refine lv_astore_n (lv' := [(3, .ref (ad (30, b, 0))), (0, .ref (ad (0, 0, 0))), (1, .int (nI a)), (2, .int (nI b))]) hx hb dX5_send_11 rfl hl (by decide) rfl (fun ls hl => ?_)
  refine lv_iload_n hx hb dX5_send_12 rfl (lv_at hl 2 rfl) ?_
  refine lv_iload_n hx hb dX5_send_13 rfl (lv_at hl 3 rfl) ?_
  refine lv_icmp_eq (tgt := 21) hx hb dX5_send_14 (by decide) (fun c_7 => ?_) (fun c_7 => ?_)
  · exact absurd ((nI_eq (by omega) (by omega)).mp c_7) hab
  · refine lv_iconst (v := nI 1) hx hb dX5_send_17 (by decide) ?_
    refine lv_goto (tgt := 22) hx hb dX5_send_18 (by decide) ?_
    refine va_csv (W.runS (As := [.int (nI 1)]) (rest := []) ⟨hx, hb, hml, hown, hts⟩ (c_requireArgument l ) (va_cwS 1 hts gX5_send_X5_requireArgument rfl rfl rfl (by decide +kernel) ⟨Nat.le_of_ble_eq_true rfl, Nat.le_of_ble_eq_true rfl⟩) (g_preS hF hG hS) rfl rfl hl.1 rfl (lv_room (Nat.le_of_ble_eq_true rfl)) dX5_send_22 ⟨Nat.le_of_ble_eq_true rfl, Nat.le_of_ble_eq_true rfl⟩) (fun h_9 => ?_)
    refine lv_aload_n hx hb dX5_send_25 rfl (lv_at hl 1 rfl) ?_
    refine g_get hx hb hts hi5 hown hK hG (lay_main) rfl 7 (by decide) (hts (.fieldLink RX5 48 "Satellitering" "sentCount" "I") (by decide +kernel)) rfl dX5_send_26 ?_
    refine lv_to (y := nI M) (hs) ?_
    refine lv_bipush (v := nI 20) hx hb dX5_send_29 (by decide) ?_
    refine lv_icmp_lt (tgt := 44) hx hb dX5_send_31 (by decide) (fun c_10 => ?_) (fun c_10 => ?_)
    · refine lv_aload_n hx hb dX5_send_44 rfl (lv_at hl 1 rfl) ?_
      refine g_get hx hb hts hi5 hown hK hG (lay_main) rfl 7 (by decide) (hts (.fieldLink RX5 48 "Satellitering" "sentCount" "I") (by decide +kernel)) rfl dX5_send_45 ?_
      refine lv_to (y := nI M) (hs) ?_
      refine lv_istore (lv' := [(4, .int (nI M)), (3, .ref (ad (30, b, 0))), (0, .ref (ad (0, 0, 0))), (1, .int (nI a)), (2, .int (nI b))]) hx hb dX5_send_48 hl (by decide) rfl (fun ls hl => ?_)
      refine lv_aload_n hx hb dX5_send_50 rfl (lv_at hl 2 rfl) ?_
      refine g_get hx hb hts hi5 hown hK hG (lay_main) rfl 4 (by decide) (hts (.fieldLink RX5 37 "Satellitering" "sent" "[LSatellitering$Message;") (by decide +kernel)) rfl dX5_send_51 ?_
      refine lv_iload hx hb dX5_send_54 (lv_at hl 0 rfl) ?_
      refine g_new hx hb hts hi0 tyX0 tyX0_ok hown (hts (.classLink RX5 35 RX0) (by decide +kernel)) (hts (.instantiable RX0 8) (by decide +kernel)) (hts (.initialized RX0) (by decide +kernel)) hK hG hS hB (40, M, 0) (by simp [lay, hM]) (ci := 0) rfl (fs := [.int 0, .null, .int 0, .int 0, .int 0, .int 0, .null, .null]) (fun j hj => by rcases (show j = 0 ∨ j = 1 ∨ j = 2 ∨ j = 3 ∨ j = 4 ∨ j = 5 ∨ j = 6 ∨ j = 7 by omega) with rfl | rfl | rfl | rfl | rfl | rfl | rfl | rfl <;> rfl) (Nat.le_of_ble_eq_true rfl) (Nat.le_of_ble_eq_true rfl) dX5_send_56 (fun q9 H hG hS => ?_)
      obtain ⟨ad1, ead⟩ : ∃ z, z = k_up ad (40, M, 0) q9 := ⟨_, rfl⟩
      rw [← ead] at hG
      have a40 : ad1 (40, M, 0) = q9 := by rw [ead, k_up_self]
      have an : ∀ c, c ≠ (40, M, 0) → ad1 c = ad c := fun c hc9 => by rw [ead, k_up_ne _ _ hc9]
      obtain ⟨v1, ev1⟩ : ∃ z, z = k_up (lay C g ad ln ex) (40, M, 0) (some (.inr (0, [.int 0, .null, .int 0, .int 0, .int 0, .int 0, .null, .null]))) := ⟨_, rfl⟩
      rw [← ev1] at hG
      have vn : ∀ c, c ≠ (40, M, 0) → v1 c = lay C g ad ln ex c := fun c hc9 => by rw [ev1, k_up_ne _ _ hc9]
      refine W.eq (g2 := F0 m 59 ls [.ref (ad1 (40, M, 0)), .int (nI M), .ref (ad (5, 0, 0))]) (by rw [a40]) ?_
      refine lv_dup hx hb dX5_send_59 rfl ?_
      refine lv_iload_n hx hb dX5_send_60 rfl (lv_at hl 3 rfl) ?_
      refine lv_iload_n hx hb dX5_send_61 rfl (lv_at hl 4 rfl) ?_
      refine lv_aload_n hx hb dX5_send_62 rfl (lv_at hl 1 rfl) ?_
      refine W.eq (g2 := F0 m 63 ls [.ref (ad1 (30, b, 0)), .int (nI b), .int (nI a), .ref (ad1 (40, M, 0)), .ref (ad1 (40, M, 0)), .int (nI M), .ref (ad1 (5, 0, 0))]) (by rw [an (30, b, 0) (k3 (Or.inl (by decide))), an (5, 0, 0) (k3 (Or.inl (by decide)))]) ?_
      refine g_getN hx hb hts hi3 hown hK hG (cd := (30, b, 0)) (by rw [vn _ (k3 (Or.inl (by decide)))]; exact lay_station (show b < 10 by omega) hlb) rfl 0 (by decide) (va_Nw.use rfl hN.1) rfl dX5_send_63 ?_
      refine W.eq (g2 := F0 m 66 ls [.ref (ad1 (31, b, 0)), .int (nI b), .int (nI a), .ref (ad1 (40, M, 0)), .ref (ad1 (40, M, 0)), .int (nI M), .ref (ad1 (5, 0, 0))]) (by rw [an (31, b, 0) (k3 (Or.inl (by decide)))]) ?_
      refine va_callv (va_runI (As := [.int (nI a), .int (nI b), .ref (ad1 (31, b, 0))]) (rest := [.ref (ad1 (40, M, 0)), .int (nI M), .ref (ad1 (5, 0, 0))]) ⟨hx, hb, hml, hown, hts⟩ (c_X0_init l (v := v1) (ad := ad1) (i := M) (k := b) (x := nI a) (y := nI b) (by rw [ev1, k_up_self]) (by rw [vn _ (k3 (Or.inl (by decide)))]; simp [lay, hM]) (by rw [vn _ (k3 (Or.inl (by decide)))]; simp [lay, hM])) (cwI 3 hts gX5_send_X0_init rfl rfl rfl (hts (.initialized RX0) (by decide +kernel)) (hts (.methodLink RX5 144 yX0_init) (by decide +kernel)) (hts (.instanceMethod yX0_init) (by decide +kernel)) rfl (by decide +kernel) ⟨Nat.le_of_ble_eq_true rfl, Nat.le_of_ble_eq_true rfl⟩) (g_preS hF hG hS) rfl rfl hl.1 rfl (lv_room (Nat.le_of_ble_eq_true rfl)) dX5_send_66 ⟨Nat.le_of_ble_eq_true rfl, Nat.le_of_ble_eq_true rfl⟩) hS (fun q _ h => h) (fun q h => h) (fun u9 t9 H locs ht9 _ huu9 hB1 _ _ hS => ?_)
      obtain ⟨v2, ad2⟩ := u9
      dsimp only at huu9
      have hG : g_P D v2 ad2 B H := by rw [← ht9]; exact hB1
      obtain ⟨ev2, an2⟩ := huu9
      have am : ∀ c, c ≠ (41, M, 0) → c ≠ (42, M, 0) → ad2 c = ad1 c := fun c c1 c2 => an2 c (fun z => z.elim c1 c2)
      have ao : ∀ c, c ≠ (40, M, 0) → c ≠ (41, M, 0) → c ≠ (42, M, 0) → ad2 c = ad c := fun c c0 c1 c2 => (am c c1 c2).trans (an c c0)
      refine W.eq (g2 := F0 m 69 ls [.ref (ad2 (40, M, 0)), .int (nI M), .ref (ad2 (5, 0, 0))]) (by rw [am (40, M, 0) (k3 (Or.inl (by decide))) (k3 (Or.inl (by decide))), am (5, 0, 0) (k3 (Or.inl (by decide))) (k3 (Or.inl (by decide)))]) ?_
      refine g_aast hx hb hK hG hS (cd := (5, 0, 0)) (dd := (40, M, 0)) (vs := [.int (nI b), .ref (ad2 (31, b, 0)), .int (nI a), .int 0, .int 0, .int 0, .ref (ad2 (41, M, 0)), .ref (ad2 (42, M, 0))]) 3 0 rfl rfl (by rw [ev2]; simp only [message_v]; rw [if_neg (k3 (Or.inl (by decide))), if_neg (k3 (Or.inl (by decide))), if_neg (k3 (Or.inl (by decide))), vn _ (k3 (Or.inl (by decide))), lay_sent]) (by rw [ev2]; simp only [message_v, if_true]) (show M < 20 by omega) (by decide) dX5_send_69 (fun H locs hG hS => ?_)
      rw [ev2, ev1, lay_send hM ao] at hG
      obtain ⟨g3, eg3⟩ : ∃ z, z = g_send g M (nI a) (nI b) := ⟨_, rfl⟩
      obtain ⟨ln3, eln3⟩ : ∃ z, z = ln_send ln M b := ⟨_, rfl⟩
      rw [← eg3, ← eln3] at hG
      have hl : lv_has ls 5 [(4, .int (nI M)), (0, .ref (ad (0, 0, 0))), (1, .int (nI a)), (2, .int (nI b))] := lv_sub hl [0, 2, 3, 4] rfl
      have ea0 : ad2 (0, 0, 0) = ad (0, 0, 0) := ao _ (k3 (Or.inl (by decide))) (k3 (Or.inl (by decide))) (k3 (Or.inl (by decide)))
      have hl : lv_has ls 5 [(4, .int (nI M)), (0, .ref (ad2 (0, 0, 0))), (1, .int (nI a)), (2, .int (nI b))] := by rw [ea0]; exact hl
      refine lv_aload_n hx hb dX5_send_70 rfl (lv_at hl 1 rfl) ?_
      refine lv_dup hx hb dX5_send_71 rfl ?_
      refine g_get hx hb hts hi5 hown hK hG (lay_main) rfl 7 (by decide) (hts (.fieldLink RX5 48 "Satellitering" "sentCount" "I") (by decide +kernel)) rfl dX5_send_72 ?_
      refine lv_to (y := nI M) (by rw [eg3, g_send_ne g (k3 (Or.inl (by decide))) (k3 (Or.inl (by decide))) (k3 (Or.inl (by decide)))]; exact hs) ?_
      refine lv_iconst (v := nI 1) hx hb dX5_send_75 (by decide) ?_
      refine lv_iadd hx hb dX5_send_76 ?_
      refine lv_to (y := nI (M + 1)) (nI_add M 1) ?_
      refine o_put hx hb hts hi5 tyX5 tyX5_ok nmX5 hown hK hG hS (cd := (0, 0, 0)) (F_main ad2) (fun _ => lay_main) rfl 7 (by decide) (hts (.fieldLink RX5 48 "Satellitering" "sentCount" "I") (by decide +kernel)) rfl rfl (by simp [upd]) (by simp) dX5_send_77 (fun H locs hG hS => ?_)
      refine lv_iload hx hb dX5_send_80 (lv_at hl 0 rfl) ?_
      exact W.iret (v := nI M) hx hb hr (fun t9 ht9 hW9 => ⟨⟨_, ((g2 g3 (0, 0, 0) 7 (nI (M + 1))), ad2, ln3), rfl, ⟨rfl, by rw [eg3], eln3, ao⟩, by show g_P D (lay C (g2 g3 (0, 0, 0) 7 (nI (M + 1))) ad2 ln3 ex) ad2 B t9.heap; rw [ht9]; exact hG⟩, hS.F ht9⟩) hS.2.2 dX5_send_82
    · exact absurd (nI_lt (show M < 20 by omega) (by decide)) c_10
end
section
def g_addst (g : g_k → Nat → Int32) (n : Nat) (x : Int32) : g_k → Nat → Int32 := fun c => if c = (30, n, 0) then (fun k => if k = 1 then (-1) else 0) else if c = (31, n, 0) then (fun k => if k = 1 then x else 0) else if 32 ≤ c.1 ∧ c.1 ≤ 35 ∧ c.2.1 = n then (fun _ => 0) else g c
def ln_addst (ln : g_k → Nat) (n : Nat) : g_k → Nat := fun c => if c = (30, n, 0) then 1 else if c = (31, n, 0) then 0 else ln c
theorem g_addst_ne (g : g_k → Nat → Int32) {n : Nat} {x : Int32} {c : g_k} (h : c.1 < 30 ∨ 35 < c.1 ∨ c.2.1 ≠ n) : g_addst g n x c = g c := by
  have h1 : c ≠ (30, n, 0) := fun z => by rw [z] at h; rcases h with h | h | h; exact absurd h (show ¬ (30 : Nat) < 30 by decide); exact absurd h (show ¬ (35 : Nat) < 30 by decide); exact h rfl
  have h2 : c ≠ (31, n, 0) := fun z => by rw [z] at h; rcases h with h | h | h; exact absurd h (show ¬ (31 : Nat) < 30 by decide); exact absurd h (show ¬ (35 : Nat) < 31 by decide); exact h rfl
  have h3 : ¬ (32 ≤ c.1 ∧ c.1 ≤ 35 ∧ c.2.1 = n) := fun z => by omega
  simp only [g_addst, h1, h2, h3, if_false]
theorem ln_addst_ne (ln : g_k → Nat) {n : Nat} {c : g_k} (h : c.1 < 30 ∨ 31 < c.1 ∨ c.2.1 ≠ n) : ln_addst ln n c = ln c := by
  have h1 : c ≠ (30, n, 0) := fun z => by rw [z] at h; rcases h with h | h | h; exact absurd h (show ¬ (30 : Nat) < 30 by decide); exact absurd h (show ¬ (31 : Nat) < 30 by decide); exact h rfl
  have h2 : c ≠ (31, n, 0) := fun z => by rw [z] at h; rcases h with h | h | h; exact absurd h (show ¬ (31 : Nat) < 30 by decide); exact absurd h (show ¬ (31 : Nat) < 31 by decide); exact h rfl
  simp only [ln_addst, h1, h2, if_false]
set_option maxHeartbeats 2000000 in
theorem lay_addst {C : g_C} {g : g_k → Nat → Int32} {ad ad2 ln : g_k → Nat} {ex : g_k → Option va_E} {n : Nat} {x : Int32} {e0 e1 : Option va_E} (hn : n < 10) (hnl : ln (30, n, 0) ≠ 1) (hM : ln (5, 0, 0) = 0) (ha : ∀ c : g_k, (c.1 < 30 ∨ 35 < c.1 ∨ c.2.1 ≠ n) → ad2 c = ad c) : k_up (station_v (time_v C (k_up (k_up (lay C g ad ln ex) (30, n, 0) e0) (31, n, 0) e1) n x ad2) n ad2) (3, 0, 0) (some (.inl (C.2.2.1, 10, .inr (.inr (.inr (.inr (va_up (A_stations ad ln) n (some (ad2 (30, n, 0))))))))))  = lay C (g_addst g n x) ad2 (ln_addst ln n) ex := by
  have l30 : ln_addst ln n (30, n, 0) = 1 := by simp [ln_addst]
  have l31 : ln_addst ln n (31, n, 0) = 0 := by simp [ln_addst]
  have l5 : ln_addst ln n (5, 0, 0) = 0 := (ln_addst_ne ln (Or.inl (by decide))).trans hM
  funext d
  by_cases d3 : d = (3, 0, 0)
  · subst d3
    rw [k_up_self, lay_stations]
    refine congrArg some (congrArg Sum.inl (congrArg (fun z => (C.2.2.1, 10, Sum.inr (Sum.inr (Sum.inr (Sum.inr z))))) (funext fun j => ?_)))
    by_cases hj : j = n
    · subst hj
      rw [va_up_self]
      simp [A_stations, l30, hn]
    · rw [va_up_ne _ _ hj]
      simp only [A_stations]
      rw [ln_addst_ne ln (Or.inr (Or.inr hj)), ha (30, j, 0) (Or.inr (Or.inr hj))]
  rw [k_up_ne _ _ d3]
  by_cases d30 : d = (30, n, 0)
  · subst d30
    rw [lay_station hn l30]
    simp [station_v, g_addst]
  have hE1 : station_v (time_v C (k_up (k_up (lay C g ad ln ex) (30, n, 0) e0) (31, n, 0) e1) n x ad2) n ad2 d = time_v C (k_up (k_up (lay C g ad ln ex) (30, n, 0) e0) (31, n, 0) e1) n x ad2 d := by simp [station_v, d30]
  rw [hE1]
  by_cases d31 : d = (31, n, 0)
  · subst d31
    rw [lay_time hn l30]
    simp [time_v, g_addst, F_time, sc, sb, l31]
  by_cases d33 : d = (33, n, 0)
  · subst d33
    rw [lay_soon hn l30]
    simp [time_v, g_addst]
  by_cases d34 : d = (34, n, 0)
  · subst d34
    rw [lay_soonB hn l30]
    simp [time_v, g_addst]
  by_cases d32 : d = (32, n, 0)
  · subst d32
    rw [lay_left hn l30]
    simp [time_v]
  have e2 : time_v C (k_up (k_up (lay C g ad ln ex) (30, n, 0) e0) (31, n, 0) e1) n x ad2 d = if d.1 = 35 ∧ d.2.1 = n ∧ d.2.2 < 10 then some (.inl (C.1, 360, .inl (fun _ => 0))) else lay C g ad ln ex d := by simp [time_v, d30, d31, d32, d33, d34, k_up]
  rw [e2]
  by_cases q : d.1 = 35 ∧ d.2.1 = n ∧ d.2.2 < 10
  · rw [if_pos q]
    obtain ⟨a, i, j⟩ := d
    obtain ⟨q1, q2, q3⟩ := q
    dsimp only at q1 q2 q3
    subst q1 q2
    rw [lay_leftrow hn q3 l30]
    simp [g_addst]
  rw [if_neg q]
  by_cases q2 : 30 ≤ d.1 ∧ d.1 ≤ 35 ∧ d.2.1 = n
  · obtain ⟨a, i, j⟩ := d
    obtain ⟨q3, q4, q5⟩ := q2
    dsimp only at q3 q4 q5
    subst q5
    rcases (show a = 30 ∨ a = 31 ∨ a = 32 ∨ a = 33 ∨ a = 34 ∨ a = 35 by omega) with z | z | z | z | z | z <;> subst z
    · have hj : ¬ j = 0 := fun z => d30 (by rw [z])
      simp [lay, hj]
    · have hj : ¬ j = 0 := fun z => d31 (by rw [z])
      simp [lay, hj]
    · have hj : ¬ j = 0 := fun z => d32 (by rw [z])
      simp [lay, hj]
    · have hj : ¬ j = 0 := fun z => d33 (by rw [z])
      simp [lay, hj]
    · have hj : ¬ j = 0 := fun z => d34 (by rw [z])
      simp [lay, hj]
    · have hj : ¬ j < 10 := fun z => q ⟨rfl, rfl, z⟩
      simp [lay, hj]
  by_cases q4 : 40 ≤ d.1 ∧ d.1 ≤ 42
  · obtain ⟨a, i, j⟩ := d
    obtain ⟨q5, q6⟩ := q4
    dsimp only at q5 q6
    rcases (show a = 40 ∨ a = 41 ∨ a = 42 by omega) with z | z | z <;> subst z <;> simp [lay, hM, l5]
  have ha0 : ∀ c : g_k, c.1 < 30 → ad2 c = ad c := fun c hc => ha c (Or.inl hc)
  refine (lay_cg d (g_addst_ne g (by omega)) (fun k hk => ha0 _ (show k < 30 by omega)) (fun i => ha0 _ (show (20 : Nat) < 30 by decide)) (fun z => absurd z d3) (fun z => ?_) (fun h30 h35 => ?_) (fun h40 h42 hz => absurd ⟨h40, h42⟩ q4) (fun h40 hz => absurd ⟨by omega, by omega⟩ q4) (fun h41 hz => absurd ⟨by omega, by omega⟩ q4) (fun h42 hz => absurd ⟨by omega, by omega⟩ q4)).symm
  · funext j
    simp [A_sent, hM, l5]
  · have hne : d.2.1 ≠ n := fun z => q2 ⟨h30, h35, z⟩
    have s31 : ln_addst ln n (31, d.2.1, 0) = ln (31, d.2.1, 0) := ln_addst_ne ln (Or.inr (Or.inr hne))
    have haN : ∀ a j, ad2 (a, d.2.1, j) = ad (a, d.2.1, j) := fun a j => ha _ (Or.inr (Or.inr hne))
    refine ⟨ln_addst_ne ln (Or.inr (Or.inr hne)), ?_, ?_, ?_⟩
    · rw [F_station, F_station, haN]
    · have esc : ad2 (sc (ln_addst ln n) d.2.1) = ad (sc ln d.2.1) := by
        unfold sc
        rw [s31]
        split <;> exact haN _ _
      have esb : ad2 (sb (ln_addst ln n) d.2.1) = ad (sb ln d.2.1) := by
        unfold sb
        rw [s31]
        split <;> exact haN _ _
      rw [F_time, F_time, esc, esb, ha0 (1, 0, 0) (by decide), haN]
    · funext j
      simp only [A_left]
      rw [haN]

/-- a station was added -/
def ads_P (g : g_k → Nat → Int32) (ad ln : g_k → Nat) (n sta x t : Nat) (g1 : g_k → Nat → Int32) (ad1 ln1 : g_k → Nat) : Prop := (∀ c : g_k, c ≠ (0, 0, 0) → c ≠ (1, 0, 0) → c ≠ (6, 0, 0) → c ≠ (7, 0, 0) → c ≠ (8, 0, 0) → c.1 ≠ 20 → (c.1 < 30 ∨ 35 < c.1 ∨ c.2.1 ≠ n) → g1 c = g c) ∧ g1 (1, 0, 0) 4 = nI (n + 1) ∧ g1 (0, 0, 0) = upd (g (0, 0, 0)) 5 (nI (sta + 1)) ∧ sk1 g1 (n + 1) ∧ (∀ a b t, a < n → b < n → see g1 a b t = see g a b t) ∧ g1 (6, 0, 0) = upd (g (6, 0, 0)) n (nI x) ∧ g1 (8, 0, 0) = upd (g (8, 0, 0)) n (-1) ∧ (∀ b t, b < n → g (8, 0, 0) b = -1 → see g1 n b t = false) ∧ (rel_P g1 (n + 1) t n ∧ rlw_P g1 (n + 1) t n) ∧ (∀ c : g_k, (c.1 < 30 ∨ 35 < c.1 ∨ c.2.1 ≠ n) → ad1 c = ad c) ∧ (∀ c : g_k, (c.1 < 30 ∨ 31 < c.1 ∨ c.2.1 ≠ n) → ln1 c = ln c) ∧ ln1 (30, n, 0) = 1 ∧ g1 (31, n, 0) = (fun k => if k = 1 then nI n else 0)

set_option maxHeartbeats 4000000 in
set_option maxRecDepth 100000 in
theorem c_addStation (l : Launch) {D : va_G} {C : g_C} {g : g_k → Nat → Int32} {ad ln : g_k → Nat} {ex : g_k → Option va_E} {B : Nat} {n : Nat} (hn : n < 10) (hc : g (1, 0, 0) 4 = nI n) (hsk : sk1 g n) {x sta t : Nat} (hx9 : x < 360) (hst : g (0, 0, 0) 5 = nI sta) (hst4 : sta < 4) (hnl : ln (30, n, 0) ≠ 1) (hM0 : ln (5, 0, 0) = 0) (hnow : g (0, 0, 0) 8 = nI t) (ht : t ≤ 1000000) : Met l yX5_addStation wsX5_addStation ({ frames := 4, cells := 15, slots := 3639, locals := 95 } : Room) (va_Pc [.ref (ad (0, 0, 0)), .int (nI x)] (g_S D C (lay C g ad ln ex) ad B)) (va_Qi (fun (r : Int32) (u : (g_k → Nat → Int32) × (g_k → Nat) × (g_k → Nat)) => r = nI n ∧ ads_P g ad ln n sta x t u.1 u.2.1 u.2.2) (fun u t => g_P D (lay C u.1 u.2.1 u.2.2 ex) u.2.1 B t.heap) (g_A B)) 15 3639 (g_A B) := by
  refine Met.ofW (cc := cX5_addStation) (maxL := 4) (ret := (some .int)) (by decide) rfl ?_
  intro p e s m args below meth c s₁ B₀ hml hv
  obtain ⟨rfl, hG, hF⟩ := hv
  have hK := hF.1
  have hN := hF.2.1
  have hB := hF.2.2.2
  have hx := B₀.exec
  have hb := B₀.bytes
  have hr := B₀.returns
  have hts := atoms_spec (ws := wsX5_addStation) B₀.pre
  have hown : s.vm.findClass RX5 = some m.cls := findClass_of_methodNamed B₀.named
  have hlocks := B₀.notSynchronized
  have hS : va_S (g_A B) s.heap s.heap [] := va_S.rf
  have hi3 : ∀ w ∈ wsX30, w ∈ wsX5_addStation := by decide +kernel
  have hi4 : ∀ w ∈ wsX40, w ∈ wsX5_addStation := by decide +kernel
  have hi5 : ∀ w ∈ wsX50, w ∈ wsX5_addStation := by decide +kernel
  have hl := lv_entry [.ref (ad (0, 0, 0)), .int (nI x)] (n := 4) (Nat.le_of_ble_eq_true rfl)
  rw [lg_entry_eq]
  generalize (lg_sl [.ref (ad (0, 0, 0)), .int (nI x)] ++ List.replicate (4 - (lg_sl [.ref (ad (0, 0, 0)), .int (nI x)]).length) Slot.unset).toArray = ls at hl ⊢
  have hl : lv_has ls 4 [(0, .ref (ad (0, 0, 0))), (1, .int (nI x))] := hl
  refine lv_iload_n hx hb dX5_addStation_0 rfl (lv_at hl 1 rfl) ?_
  refine lv_iconst (v := nI 0) hx hb dX5_addStation_1 (by decide) ?_
  refine lv_sipush (v := nI 359) hx hb dX5_addStation_2 (by decide) ?_
  refine vp_callSi (W.runS (As := [.int (nI x), .int (nI 0), .int (nI 359)]) (rest := []) ⟨hx, hb, hml, hown, hts⟩ (c_inRange l ) (va_cwS 3 hts gX5_addStation_X5_inRange rfl rfl rfl (by decide +kernel) ⟨Nat.le_of_ble_eq_true rfl, Nat.le_of_ble_eq_true rfl⟩) (g_preS hF hG hS) rfl rfl hl.1 rfl (lv_room (Nat.le_of_ble_eq_true rfl)) dX5_addStation_5 ⟨Nat.le_of_ble_eq_true rfl, Nat.le_of_ble_eq_true rfl⟩) (fun r_1 h_2 => ?_)
  refine lv_to (y := nI 1) (h_2.trans (if_pos (⟨nI_le (Nat.zero_le _) (by omega), nI_le (show x ≤ 359 by omega) (by decide)⟩))) ?_
  refine va_csv (W.runS (As := [.int (nI 1)]) (rest := []) ⟨hx, hb, hml, hown, hts⟩ (c_requireArgument l ) (va_cwS 1 hts gX5_addStation_X5_requireArgument rfl rfl rfl (by decide +kernel) ⟨Nat.le_of_ble_eq_true rfl, Nat.le_of_ble_eq_true rfl⟩) (g_preS hF hG hS) rfl rfl hl.1 rfl (lv_room (Nat.le_of_ble_eq_true rfl)) dX5_addStation_8 ⟨Nat.le_of_ble_eq_true rfl, Nat.le_of_ble_eq_true rfl⟩) (fun h_4 => ?_)
  refine lv_aload_n hx hb dX5_addStation_11 rfl (lv_at hl 0 rfl) ?_
  refine g_get hx hb hts hi5 hown hK hG (lay_main) rfl 5 (by decide) (hts (.fieldLink RX5 41 "Satellitering" "stationCount" "I") (by decide +kernel)) rfl dX5_addStation_12 ?_
  refine lv_to (y := nI sta) (hst) ?_
  refine lv_iconst (v := nI 4) hx hb dX5_addStation_15 (by decide) ?_
  refine lv_icmp_lt (tgt := 29) hx hb dX5_addStation_16 (by decide) (fun c_5 => ?_) (fun c_5 => ?_)
  · refine lv_aload_n hx hb dX5_addStation_29 rfl (lv_at hl 0 rfl) ?_
    refine g_get hx hb hts hi5 hown hK hG (lay_main) rfl 0 (by decide) (hts (.fieldLink RX5 12 "Satellitering" "sky" "LSatellitering$Sky;") (by decide +kernel)) rfl dX5_addStation_30 ?_
    refine lv_iload_n hx hb dX5_addStation_33 rfl (lv_at hl 1 rfl) ?_
    refine lv_iconst (v := nI 0) hx hb dX5_addStation_34 (by decide) ?_
    refine lv_iconst (v := (-1)) hx hb dX5_addStation_35 (by decide) ?_
    refine va_calli (va_runV (As := [.int (nI x), .int (nI 0), .int (-1)]) (rest := []) ⟨hx, hb, hml, hown, hts⟩ (c_addNode l hn hc hsk) (cwV 3 hts gX5_addStation_X2_addNode rfl rfl rfl (by decide +kernel) ⟨Nat.le_of_ble_eq_true rfl, Nat.le_of_ble_eq_true rfl⟩) (g_preV hF hG hS (lay_sky) rfl) rfl rfl hl.1 rfl (lv_room (Nat.le_of_ble_eq_true rfl)) dX5_addStation_36 ⟨Nat.le_of_ble_eq_true rfl, Nat.le_of_ble_eq_true rfl⟩) hS (fun q _ h => h) (fun q h => h) (fun r_6 g_8 t9 H locs ht9 _ h_7 hB1 _ _ hS => ?_)
    have hG : g_P D (lay C g_8 ad ln ex) ad B H := by rw [← ht9]; exact hB1
    obtain ⟨er, f1, f2, f3, f4, f5, f6, f7⟩ := h_7
    subst er
    refine lv_istore_n (lv' := [(2, .int (nI n)), (0, .ref (ad (0, 0, 0))), (1, .int (nI x))]) hx hb dX5_addStation_39 rfl hl (by decide) rfl (fun ls hl => ?_)
    refine g_new hx hb hts hi3 tyX3 tyX3_ok hown (hts (.classLink RX5 25 RX3) (by decide +kernel)) (hts (.instantiable RX3 3) (by decide +kernel)) (hts (.initialized RX3) (by decide +kernel)) hK hG hS hB (30, n, 0) (by simp [lay, hnl]) (ci := 3) rfl (fs := [.null, .int 0, .int 0]) (fun j hj => by rcases (show j = 0 ∨ j = 1 ∨ j = 2 by omega) with rfl | rfl | rfl <;> rfl) (Nat.le_of_ble_eq_true rfl) (Nat.le_of_ble_eq_true rfl) dX5_addStation_40 (fun q1 H hG hS => ?_)
    obtain ⟨ad1, ead1⟩ : ∃ z, z = k_up ad (30, n, 0) q1 := ⟨_, rfl⟩
    rw [← ead1] at hG
    have a30 : ad1 (30, n, 0) = q1 := by rw [ead1, k_up_self]
    have an1 : ∀ c, c ≠ (30, n, 0) → ad1 c = ad c := fun c hc9 => by rw [ead1, k_up_ne _ _ hc9]
    obtain ⟨v1, ev1⟩ : ∃ z, z = k_up (lay C g_8 ad ln ex) (30, n, 0) (some (.inr (3, [.null, .int 0, .int 0]))) := ⟨_, rfl⟩
    rw [← ev1] at hG
    have vn1 : ∀ c, c ≠ (30, n, 0) → v1 c = lay C g_8 ad ln ex c := fun c hc9 => by rw [ev1, k_up_ne _ _ hc9]
    refine W.eq (g2 := F0 m 43 ls [.ref (ad1 (30, n, 0))]) (by rw [a30]) ?_
    refine lv_dup hx hb dX5_addStation_43 rfl ?_
    refine g_new hx hb hts hi4 tyX4 tyX4_ok hown (hts (.classLink RX5 73 RX4) (by decide +kernel)) (hts (.instantiable RX4 6) (by decide +kernel)) (hts (.initialized RX4) (by decide +kernel)) hK hG hS hB (31, n, 0) (by rw [vn1 _ (k3 (Or.inl (by decide)))]; simp [lay, hnl]) (ci := 4) rfl (fs := [.null, .int 0, .null, .null, .null, .int 0]) (fun j hj => by rcases (show j = 0 ∨ j = 1 ∨ j = 2 ∨ j = 3 ∨ j = 4 ∨ j = 5 by omega) with rfl | rfl | rfl | rfl | rfl | rfl <;> rfl) (Nat.le_of_ble_eq_true rfl) (Nat.le_of_ble_eq_true rfl) dX5_addStation_44 (fun q2 H hG hS => ?_)
    obtain ⟨ad2, ead2⟩ : ∃ z, z = k_up ad1 (31, n, 0) q2 := ⟨_, rfl⟩
    rw [← ead2] at hG
    have a31 : ad2 (31, n, 0) = q2 := by rw [ead2, k_up_self]
    have an2 : ∀ c, c ≠ (31, n, 0) → ad2 c = ad1 c := fun c hc9 => by rw [ead2, k_up_ne _ _ hc9]
    obtain ⟨v2, ev2⟩ : ∃ z, z = k_up v1 (31, n, 0) (some (.inr (4, [.null, .int 0, .null, .null, .null, .int 0]))) := ⟨_, rfl⟩
    rw [← ev2] at hG
    have vn2 : ∀ c, c ≠ (30, n, 0) → c ≠ (31, n, 0) → v2 c = lay C g_8 ad ln ex c := fun c c1 c2 => by rw [ev2, k_up_ne _ _ c2, vn1 c c1]
    refine W.eq (g2 := F0 m 47 ls [.ref (ad2 (31, n, 0)), .ref (ad2 (30, n, 0)), .ref (ad2 (30, n, 0))]) (by rw [a31, an2 (30, n, 0) (k3 (Or.inl (by decide)))]) ?_
    refine lv_dup hx hb dX5_addStation_47 rfl ?_
    refine lv_aload_n hx hb dX5_addStation_48 rfl (lv_at hl 1 rfl) ?_
    refine W.eq (g2 := F0 m 49 ls [.ref (ad2 (0, 0, 0)), .ref (ad2 (31, n, 0)), .ref (ad2 (31, n, 0)), .ref (ad2 (30, n, 0)), .ref (ad2 (30, n, 0))]) (by rw [an2 (0, 0, 0) (k3 (Or.inl (by decide))), an1 (0, 0, 0) (k3 (Or.inl (by decide)))]) ?_
    refine g_get hx hb hts hi5 hown hK hG (cd := (0, 0, 0)) (by rw [vn2 _ (k3 (Or.inl (by decide))) (k3 (Or.inl (by decide)))]; exact lay_main) rfl 0 (by decide) (hts (.fieldLink RX5 12 "Satellitering" "sky" "LSatellitering$Sky;") (by decide +kernel)) rfl dX5_addStation_49 ?_
    refine lv_iload_n hx hb dX5_addStation_52 rfl (lv_at hl 0 rfl) ?_
    refine W.eq (g2 := F0 m 53 ls [.int (nI n), .ref (ad2 (1, 0, 0)), .ref (ad2 (31, n, 0)), .ref (ad2 (31, n, 0)), .ref (ad2 (30, n, 0)), .ref (ad2 (30, n, 0))]) (by rw [an2 (1, 0, 0) (k3 (Or.inl (by decide))), an1 (1, 0, 0) (k3 (Or.inl (by decide)))]) ?_
    refine va_callv (va_runI (As := [.ref (ad2 (1, 0, 0)), .int (nI n)]) (rest := [.ref (ad2 (31, n, 0)), .ref (ad2 (30, n, 0)), .ref (ad2 (30, n, 0))]) ⟨hx, hb, hml, hown, hts⟩ (c_X4_init l (v := v2) (ad := ad2) (i := n) (x := nI n) (by rw [ev2, k_up_self]) (by rw [vn2 _ (k3 (Or.inl (by decide))) (k3 (Or.inl (by decide)))]; simp [lay, hnl]) (by rw [vn2 _ (k3 (Or.inl (by decide))) (k3 (Or.inl (by decide)))]; simp [lay, hnl]) (by rw [vn2 _ (k3 (Or.inl (by decide))) (k3 (Or.inl (by decide)))]; simp [lay, hnl]) (fun j hj => by rw [vn2 _ (k3 (Or.inl (by decide))) (k3 (Or.inl (by decide)))]; simp [lay, hnl])) (cwI 2 hts gX5_addStation_X4_init rfl rfl rfl (hts (.initialized RX4) (by decide +kernel)) (hts (.methodLink RX5 75 yX4_init) (by decide +kernel)) (hts (.instanceMethod yX4_init) (by decide +kernel)) rfl (by decide +kernel) ⟨Nat.le_of_ble_eq_true rfl, Nat.le_of_ble_eq_true rfl⟩) (g_preS hF hG hS) rfl rfl hl.1 rfl (lv_room (Nat.le_of_ble_eq_true rfl)) dX5_addStation_53 ⟨Nat.le_of_ble_eq_true rfl, Nat.le_of_ble_eq_true rfl⟩) hS (fun q _ h => h) (fun q h => h) (fun u9 t9 H locs ht9 _ huu9 hB1 _ _ hS => ?_)
    obtain ⟨v3, ad3⟩ := u9
    dsimp only at huu9
    have hG : g_P D v3 ad3 B H := by rw [← ht9]; exact hB1
    obtain ⟨ev3, an3⟩ := huu9
    have am3 : ∀ c : g_k, (c.1 < 32 ∨ 35 < c.1 ∨ c.2.1 ≠ n) → ad3 c = ad2 c := fun c hc9 => an3 c (fun z => by
      rcases z with z | z | z | ⟨z1, z2, -⟩
      · rw [z] at hc9; rcases hc9 with h9 | h9 | h9; exact absurd h9 (show ¬ (33 : Nat) < 32 by decide); exact absurd h9 (show ¬ (35 : Nat) < 33 by decide); exact h9 rfl
      · rw [z] at hc9; rcases hc9 with h9 | h9 | h9; exact absurd h9 (show ¬ (34 : Nat) < 32 by decide); exact absurd h9 (show ¬ (35 : Nat) < 34 by decide); exact h9 rfl
      · rw [z] at hc9; rcases hc9 with h9 | h9 | h9; exact absurd h9 (show ¬ (32 : Nat) < 32 by decide); exact absurd h9 (show ¬ (35 : Nat) < 32 by decide); exact h9 rfl
      · omega)
    refine W.eq (g2 := F0 m 56 ls [.ref (ad3 (31, n, 0)), .ref (ad3 (30, n, 0)), .ref (ad3 (30, n, 0))]) (by rw [am3 (30, n, 0) (Or.inl (show (30 : Nat) < 32 by decide)), am3 (31, n, 0) (Or.inl (show (31 : Nat) < 32 by decide))]) ?_
    have v330 : v3 (30, n, 0) = some (.inr (3, [.null, .int 0, .int 0])) := by rw [ev3]; simp only [time_v]; rw [if_neg (k3 (Or.inl (by decide))), if_neg (k3 (Or.inl (by decide))), if_neg (k3 (Or.inl (by decide))), if_neg (k3 (Or.inl (by decide))), if_neg (fun z => absurd z.1 (show ¬ (30 : Nat) = 35 by decide)), ev2, k_up_ne _ _ (k3 (Or.inl (by decide))), ev1, k_up_self]
    refine va_callv (va_runI (As := [.ref (ad3 (31, n, 0))]) (rest := [.ref (ad3 (30, n, 0))]) ⟨hx, hb, hml, hown, hts⟩ (c_X3_init l (v := v3) (ad := ad3) (i := n) v330) (cwI 1 hts gX5_addStation_X3_init rfl rfl rfl (hts (.initialized RX3) (by decide +kernel)) (hts (.methodLink RX5 78 yX3_init) (by decide +kernel)) (hts (.instanceMethod yX3_init) (by decide +kernel)) rfl (by decide +kernel) ⟨Nat.le_of_ble_eq_true rfl, Nat.le_of_ble_eq_true rfl⟩) (g_preS hF hG hS) rfl rfl hl.1 rfl (lv_room (Nat.le_of_ble_eq_true rfl)) dX5_addStation_56 ⟨Nat.le_of_ble_eq_true rfl, Nat.le_of_ble_eq_true rfl⟩) hS (fun q _ h => h) (fun q h => h) (fun u8 t9 H locs ht9 _ huu8 hB1 _ _ hS => ?_)
    obtain ⟨v4, ad4⟩ := u8
    dsimp only at huu8
    have hG4 : g_P D v4 ad4 B H := by rw [← ht9]; exact hB1
    obtain ⟨ev4, an4⟩ := huu8
    have e34 : ad4 = ad3 := funext an4
    subst e34
    have hG := hG4
    have ao : ∀ c : g_k, (c.1 < 30 ∨ 35 < c.1 ∨ c.2.1 ≠ n) → ad4 c = ad c := fun c hc9 => (am3 c (by omega)).trans ((an2 c (fun z => by rw [z] at hc9; rcases hc9 with h9 | h9 | h9; exact absurd h9 (show ¬ (31 : Nat) < 30 by decide); exact absurd h9 (show ¬ (35 : Nat) < 31 by decide); exact h9 rfl)).trans (an1 c (fun z => by rw [z] at hc9; rcases hc9 with h9 | h9 | h9; exact absurd h9 (show ¬ (30 : Nat) < 30 by decide); exact absurd h9 (show ¬ (35 : Nat) < 30 by decide); exact h9 rfl)))
    have v4n : ∀ c : g_k, c.1 < 30 → v4 c = lay C g_8 ad ln ex c := fun c hc9 => by
      have n30 : c ≠ (30, n, 0) := fun z => by rw [z] at hc9; exact absurd hc9 (show ¬ (30 : Nat) < 30 by decide)
      have n31 : c ≠ (31, n, 0) := fun z => by rw [z] at hc9; exact absurd hc9 (show ¬ (31 : Nat) < 30 by decide)
      have n33 : c ≠ (33, n, 0) := fun z => by rw [z] at hc9; exact absurd hc9 (show ¬ (33 : Nat) < 30 by decide)
      have n34 : c ≠ (34, n, 0) := fun z => by rw [z] at hc9; exact absurd hc9 (show ¬ (34 : Nat) < 30 by decide)
      have n32 : c ≠ (32, n, 0) := fun z => by rw [z] at hc9; exact absurd hc9 (show ¬ (32 : Nat) < 30 by decide)
      have n35 : ¬ (c.1 = 35 ∧ c.2.1 = n ∧ c.2.2 < 10) := fun z => by omega
      rw [ev4]; simp only [station_v]; rw [if_neg n30, ev3]; simp only [time_v]; rw [if_neg n31, if_neg n33, if_neg n34, if_neg n32, if_neg n35, vn2 c n30 n31]
    refine lv_astore_n (lv' := [(3, .ref (ad4 (30, n, 0))), (2, .int (nI n)), (0, .ref (ad (0, 0, 0))), (1, .int (nI x))]) hx hb dX5_addStation_59 rfl hl (by decide) rfl (fun ls hl => ?_)
    refine lv_aload_n hx hb dX5_addStation_60 rfl (lv_at hl 2 rfl) ?_
    refine W.eq (g2 := F0 m 61 ls [.ref (ad4 (0, 0, 0))]) (by rw [ao (0, 0, 0) (Or.inl (by decide))]) ?_
    refine g_get hx hb hts hi5 hown hK hG (cd := (0, 0, 0)) (by rw [v4n _ (by decide)]; exact lay_main) rfl 2 (by decide) (hts (.fieldLink RX5 27 "Satellitering" "stations" "[LSatellitering$Station;") (by decide +kernel)) rfl dX5_addStation_61 ?_
    refine W.eq (g2 := F0 m 64 ls [.ref (ad4 (3, 0, 0))]) (by rw [ao (3, 0, 0) (Or.inl (by decide))]) ?_
    refine lv_iload_n hx hb dX5_addStation_64 rfl (lv_at hl 1 rfl) ?_
    refine lv_aload_n hx hb dX5_addStation_65 rfl (lv_at hl 0 rfl) ?_
    refine g_aast hx hb hK hG hS (cd := (3, 0, 0)) (dd := (30, n, 0)) (vs := F_station ad4 n (fun k => if k = 1 then (-1) else 0)) 2 3 rfl rfl (by rw [v4n _ (by decide)]; exact lay_stations) (by rw [ev4]; simp only [station_v, if_true]) hn (by decide) dX5_addStation_66 (fun H locs hG hS => ?_)
    rw [ev4, ev3, ev2, ev1, lay_addst hn hnl hM0 ao] at hG
    obtain ⟨g3, eg3⟩ : ∃ z, z = g_addst g_8 n (nI n) := ⟨_, rfl⟩
    obtain ⟨ln3, eln3⟩ : ∃ z, z = ln_addst ln n := ⟨_, rfl⟩
    rw [← eg3, ← eln3] at hG
    have g3n : ∀ c : g_k, (c.1 < 30 ∨ 35 < c.1 ∨ c.2.1 ≠ n) → g3 c = g_8 c := fun c hc9 => by rw [eg3]; exact g_addst_ne _ hc9
    have hl : lv_has ls 4 [(3, .ref (ad4 (30, n, 0))), (2, .int (nI n)), (0, .ref (ad4 (0, 0, 0))), (1, .int (nI x))] := by rw [ao (0, 0, 0) (Or.inl (by decide))]; exact hl
    refine lv_aload_n hx hb dX5_addStation_67 rfl (lv_at hl 2 rfl) ?_
    refine lv_dup hx hb dX5_addStation_68 rfl ?_
    refine g_get hx hb hts hi5 hown hK hG (lay_main) rfl 5 (by decide) (hts (.fieldLink RX5 41 "Satellitering" "stationCount" "I") (by decide +kernel)) rfl dX5_addStation_69 ?_
    refine lv_to (y := nI sta) (by rw [g3n _ (Or.inl (by decide)), f4 _ (by decide) (by decide) (by decide) (by decide) (by decide)]; exact hst) ?_
    refine lv_iconst (v := nI 1) hx hb dX5_addStation_72 (by decide) ?_
    refine lv_iadd hx hb dX5_addStation_73 ?_
    refine lv_to (y := nI (sta + 1)) (nI_add sta 1) ?_
    refine o_put hx hb hts hi5 tyX5 tyX5_ok nmX5 hown hK hG hS (cd := (0, 0, 0)) (F_main ad4) (fun _ => lay_main) rfl 5 (by decide) (hts (.fieldLink RX5 41 "Satellitering" "stationCount" "I") (by decide +kernel)) rfl rfl (by simp [upd]) (by simp) dX5_addStation_74 (fun H locs hG hS => ?_)
    refine lv_aload_n hx hb dX5_addStation_77 rfl (lv_at hl 2 rfl) ?_
    refine lv_iload_n hx hb dX5_addStation_78 rfl (lv_at hl 1 rfl) ?_
    refine lv_aload_n hx hb dX5_addStation_79 rfl (lv_at hl 0 rfl) ?_
    have n4 : ∀ c : g_k, c ≠ (0, 0, 0) → (g2 g3 (0, 0, 0) 5 (nI (sta + 1))) c = g3 c := fun c hc9 => g2_ne _ _ _ hc9
    have e30 : (g2 g3 (0, 0, 0) 5 (nI (sta + 1))) (30, n, 0) = (fun k => if k = 1 then (-1) else 0) := by rw [n4 _ (k3 (Or.inl (by decide))), eg3]; simp [g_addst]
    refine va_callv (va_runV (As := [.int (nI n), .ref (ad4 (30, n, 0))]) (rest := []) ⟨hx, hb, hml, hown, hts⟩ (c_lookForRelay l (n := n + 1) (i := n) (t := t) (kk := 0) (show n + 1 ≤ 10 by omega) (by rw [n4 _ (by decide), g3n _ (Or.inl (by decide))]; exact f1) hn (by rw [eln3]; simp [ln_addst]) (by rw [g2_self, upd_ne _ _ (by decide), g3n _ (Or.inl (by decide)), f4 _ (by decide) (by decide) (by decide) (by decide) (by decide)]; exact hnow) ht (by rw [e30]; exact Or.inl rfl) (by rw [e30]; exact nI_0.symm)) (cwV 2 hts gX5_addStation_X5_lookForRelay rfl rfl rfl (by decide +kernel) ⟨Nat.le_of_ble_eq_true rfl, Nat.le_of_ble_eq_true rfl⟩) (g_preV hF hG hS (lay_main) rfl) rfl rfl hl.1 rfl (lv_room (Nat.le_of_ble_eq_true rfl)) dX5_addStation_80 ⟨Nat.le_of_ble_eq_true rfl, Nat.le_of_ble_eq_true rfl⟩) hS (fun q _ h => h) (fun q h => h) (fun g_11 t9 H locs ht9 _ h_10 hB1 _ _ hS => ?_)
    have hG : g_P D (lay C g_11 ad4 ln3 ex) ad4 B H := by rw [← ht9]; exact hB1
    obtain ⟨l1, l2, kq, l3, l4, l5⟩ := h_10
    have lk : kq = 0 := l5 (by rw [e30]; rfl)
    subst lk
    have hgo : ∀ c : g_k, c ≠ (0, 0, 0) → (c.1 < 30 ∨ 35 < c.1 ∨ c.2.1 ≠ n) → g_11 c = g_8 c := fun c c0 hc9 => (l1 c (fun z => by rw [z] at hc9; rcases hc9 with h9 | h9 | h9; exact absurd h9 (show ¬ (30 : Nat) < 30 by decide); exact absurd h9 (show ¬ (35 : Nat) < 30 by decide); exact h9 rfl)).trans ((n4 c c0).trans (g3n c hc9))
    have h20 : ∀ i, g_11 (20, i, 0) = g_8 (20, i, 0) := fun i => hgo _ (k3 (Or.inl (by decide))) (Or.inl (show (20 : Nat) < 30 by decide))
    have hse : ∀ a b t, see g_11 a b t = see g_8 a b t := fun a b t => see_20 (g := g_8) (g1 := g_11) h20 a b t
    have hfin : ads_P g ad ln n sta x t g_11 ad4 ln3 := by
      refine ⟨fun c c0 c1 c6 c7 c8 c20 hc9 => (hgo c c0 hc9).trans (f4 c c1 c6 c7 c8 c20), ?_, ?_, sk1_cong f5 h20, fun a b t a1 b1 => (hse a b t).trans (f6 a b t a1 b1), ?_, ?_, fun b t b1 b2 => (hse n b t).trans (f7 rfl b t b1 b2), ⟨l2, rlw_of l2 (Nat.zero_le t) l4⟩, ao, fun c hc9 => by rw [eln3]; exact ln_addst_ne ln hc9, by rw [eln3]; simp [ln_addst], ?_⟩
      · rw [hgo _ (by decide) (Or.inl (by decide))]; exact f1
      · rw [l1 _ (by intro h9; cases h9), g2_self, g3n _ (Or.inl (by decide)), f4 _ (by decide) (by decide) (by decide) (by decide) (by decide)]
      · rw [hgo _ (by decide) (Or.inl (by decide))]; exact f2
      · rw [hgo _ (by decide) (Or.inl (by decide))]; exact f3
      · rw [l1 _ (by intro h9; cases h9), n4 _ (by intro h9; cases h9), eg3]; simp [g_addst]
    refine lv_iload_n hx hb dX5_addStation_83 rfl (lv_at hl 1 rfl) ?_
    exact W.iret (v := nI n) hx hb hr (fun t9 ht9 hW9 => ⟨⟨_, (g_11, ad4, ln3), rfl, ⟨rfl, hfin⟩, by show g_P D (lay C g_11 ad4 ln3 ex) ad4 B t9.heap; rw [ht9]; exact hG⟩, hS.F ht9⟩) hS.2.2 dX5_addStation_84
  · exact absurd (nI_lt hst4 (by decide)) c_5
end
