section
-- ===== PART A: goes FIRST, ahead of the names: the tables' words, and 'selects' of the private methods out of them =====
/-- a private method of a class that the tables say can be made, by its rows of tables_1 -/
def lw_okq (q : MethodName × Nat) : Prop := (q.1.cls ≠ "java/lang/invoke/MethodHandle" ∧ q.1.cls ≠ "java/lang/invoke/VarHandle") ∧ Cond.instantiable q.1.cls q.2 ∈ tables_1 ∧ Cond.privateMethod q.1 ∈ tables_1 ∧ Cond.instanceMethod q.1 ∈ tables_1
theorem lw_p0 : lw_okq (⟨"java/lang/Throwable", "fillInStackTrace", "(I)Ljava/lang/Throwable;"⟩, 6) := ⟨⟨by decide +kernel, by decide +kernel⟩, List.mem_of_getElem? (i := 164) (by decide +kernel), List.mem_of_getElem? (i := 162) (by decide +kernel), List.mem_of_getElem? (i := 163) (by decide +kernel)⟩
theorem lw_p1 : lw_okq (⟨"SignOnHouse$Sessions", "isDue", "(IIILSignOnHouse$Keys;)Z"⟩, 6) := ⟨⟨by decide +kernel, by decide +kernel⟩, List.mem_of_getElem? (i := 42) (by decide +kernel), List.mem_of_getElem? (i := 202) (by decide +kernel), List.mem_of_getElem? (i := 203) (by decide +kernel)⟩
theorem lw_p2 : lw_okq (⟨"SignOnHouse$Groups", "allAround", "(I)I"⟩, 4) := ⟨⟨by decide +kernel, by decide +kernel⟩, List.mem_of_getElem? (i := 22) (by decide +kernel), List.mem_of_getElem? (i := 264) (by decide +kernel), List.mem_of_getElem? (i := 265) (by decide +kernel)⟩
theorem lw_p3 : lw_okq (⟨"SignOnHouse$Groups", "oneLinkFurther", "(I)I"⟩, 4) := ⟨⟨by decide +kernel, by decide +kernel⟩, List.mem_of_getElem? (i := 22) (by decide +kernel), List.mem_of_getElem? (i := 268) (by decide +kernel), List.mem_of_getElem? (i := 269) (by decide +kernel)⟩
theorem lw_p4 : lw_okq (⟨"SignOnHouse", "isBarred", "(I)Z"⟩, 7) := ⟨⟨by decide +kernel, by decide +kernel⟩, List.mem_of_getElem? (i := 14) (by decide +kernel), List.mem_of_getElem? (i := 303) (by decide +kernel), List.mem_of_getElem? (i := 304) (by decide +kernel)⟩
theorem lw_p5 : lw_okq (⟨"SignOnHouse", "servesAsWitness", "(II)Z"⟩, 7) := ⟨⟨by decide +kernel, by decide +kernel⟩, List.mem_of_getElem? (i := 14) (by decide +kernel), List.mem_of_getElem? (i := 355) (by decide +kernel), List.mem_of_getElem? (i := 356) (by decide +kernel)⟩
theorem lw_p6 : lw_okq (⟨"SignOnHouse", "answerOfHouse", "(II)I"⟩, 7) := ⟨⟨by decide +kernel, by decide +kernel⟩, List.mem_of_getElem? (i := 14) (by decide +kernel), List.mem_of_getElem? (i := 406) (by decide +kernel), List.mem_of_getElem? (i := 407) (by decide +kernel)⟩
theorem lw_p7 : lw_okq (⟨"SignOnHouse", "holdsGlass", "(II)Z"⟩, 7) := ⟨⟨by decide +kernel, by decide +kernel⟩, List.mem_of_getElem? (i := 14) (by decide +kernel), List.mem_of_getElem? (i := 414) (by decide +kernel), List.mem_of_getElem? (i := 415) (by decide +kernel)⟩
theorem lw_p8 : lw_okq (⟨"SignOnHouse", "isStale", "(III)Z"⟩, 7) := ⟨⟨by decide +kernel, by decide +kernel⟩, List.mem_of_getElem? (i := 14) (by decide +kernel), List.mem_of_getElem? (i := 426) (by decide +kernel), List.mem_of_getElem? (i := 427) (by decide +kernel)⟩
theorem lw_p9 : lw_okq (⟨"SignOnHouse$Groups", "roleOf", "(II)I"⟩, 4) := ⟨⟨by decide +kernel, by decide +kernel⟩, List.mem_of_getElem? (i := 22) (by decide +kernel), List.mem_of_getElem? (i := 459) (by decide +kernel), List.mem_of_getElem? (i := 460) (by decide +kernel)⟩
theorem lw_p10 : lw_okq (⟨"SignOnHouse", "answerOfApp", "(III)I"⟩, 7) := ⟨⟨by decide +kernel, by decide +kernel⟩, List.mem_of_getElem? (i := 14) (by decide +kernel), List.mem_of_getElem? (i := 488) (by decide +kernel), List.mem_of_getElem? (i := 489) (by decide +kernel)⟩
def lw_privs_1 : List (MethodName × Nat) := [(⟨"java/lang/Throwable", "fillInStackTrace", "(I)Ljava/lang/Throwable;"⟩, 6), (⟨"SignOnHouse$Sessions", "isDue", "(IIILSignOnHouse$Keys;)Z"⟩, 6), (⟨"SignOnHouse$Groups", "allAround", "(I)I"⟩, 4), (⟨"SignOnHouse$Groups", "oneLinkFurther", "(I)I"⟩, 4), (⟨"SignOnHouse", "isBarred", "(I)Z"⟩, 7), (⟨"SignOnHouse", "servesAsWitness", "(II)Z"⟩, 7), (⟨"SignOnHouse", "answerOfHouse", "(II)I"⟩, 7), (⟨"SignOnHouse", "holdsGlass", "(II)Z"⟩, 7), (⟨"SignOnHouse", "isStale", "(III)Z"⟩, 7), (⟨"SignOnHouse$Groups", "roleOf", "(II)I"⟩, 4), (⟨"SignOnHouse", "answerOfApp", "(III)I"⟩, 7)]
theorem lw_r1 : ∀ q ∈ lw_privs_1, lw_okq q := List.forall_mem_cons.mpr ⟨lw_p0, List.forall_mem_cons.mpr ⟨lw_p1, List.forall_mem_cons.mpr ⟨lw_p2, List.forall_mem_cons.mpr ⟨lw_p3, List.forall_mem_cons.mpr ⟨lw_p4, List.forall_mem_cons.mpr ⟨lw_p5, List.forall_mem_cons.mpr ⟨lw_p6, List.forall_mem_cons.mpr ⟨lw_p7, List.forall_mem_cons.mpr ⟨lw_p8, List.forall_mem_cons.mpr ⟨lw_p9, List.forall_mem_cons.mpr ⟨lw_p10, fun _ h => absurd h List.not_mem_nil⟩⟩⟩⟩⟩⟩⟩⟩⟩⟩⟩
def lw_privs : List (MethodName × Nat) := lw_privs_1
def lw_tbl : List Cond := k2_sels lw_privs ++ tables_1
theorem lw_privs_ok : ∀ q ∈ lw_privs, lw_okq q := lw_r1
-- ===== end of PART A; then your names; then what follows =====
/-! ===== BEGIN words of one list among another's, by their places ===== -/
theorem goodIn_r {big : List Cond} (ws : List Cond) (ps : List Nat) (hp : ws = ps.filterMap (fun i => big[i]?)) (h : ws.all goodWord = true) : GoodIn big ws := by
  intro w hw
  have h1 := List.all_eq_true.mp h w hw
  rw [hp] at hw
  obtain ⟨i, -, hi⟩ := List.mem_filterMap.mp hw
  have hm : w ∈ big := by first | exact List.mem_of_getElem? hi | exact List.getElem?_mem hi
  exact ⟨hm, good_of_word h1⟩
theorem goodIn_app {big a b : List Cond} (ha : GoodIn big a) (hb : GoodIn big b) : GoodIn big (a ++ b) := fun w h => (List.mem_append.mp h).elim (ha w) (hb w)
theorem goodIn_ca {big a b : List Cond} {c : Cond} (ha : GoodIn big (c :: a)) (hb : GoodIn big b) : GoodIn big (c :: (a ++ b)) := fun w h => (List.mem_cons.mp h).elim (fun e => ha w (List.mem_cons.mpr (Or.inl e))) (fun h => (List.mem_append.mp h).elim (fun h => ha w (List.mem_cons.mpr (Or.inr h))) (hb w))
theorem goodIn_sub {big ws : List Cond} (hm : ∀ w ∈ ws, w ∈ big) (h : ws.all goodWord = true) : GoodIn big ws := fun w hw => ⟨hm w hw, good_of_word (List.all_eq_true.mp h w hw)⟩
/-! ===== END ===== -/

/-! ===== BEGIN exceptions that leave a method, and their catching by the caller (launches without stack traces) ===== -/
section VXA
/-! The laws vx_back, vx_callV, vx_callS, vx_callSW, vx_throw0, vx_throwS follow proofs of the library, with one case more: JvmDerived/Free/Laws.lean (Back.of_free), Shelf42/LK1.lean (callV, callS), Shelf/KitTraced.lean (throwNew0V, throwNewS). -/
/-- where a method has thrown q: the class by its name, the cell, what was written, the world -/
def vx_T (XC : String → State → State → Prop) (st : State) (q : Addr) (t : State) (mc ms : Nat) (free : Addr → Prop) : Prop :=
  ∃ (E : String) (ce : Cell) (L : List Loc), XC E st t ∧ t.heap[q]? = some ce ∧ ce.vm = .none ∧ st.vm.findClass E = some ce.cls ∧ st.WarmedH t.vm ∧ st.sameButNew ({ t with vm := st.vm } : State) L mc ms ∧ ∀ z ∈ L, free z.base
def vx_Q (Qc : Array Value → State → Outcome → State → Prop) (XC : String → State → State → Prop) (mc ms : Nat) (free : Addr → Prop) : Array Value → State → Outcome → State → Prop := fun a st o t =>
  (Qc a st o t ∧ ∃ L, FrameEnd st o t L mc ms ∧ ∀ q ∈ L, free q.base) ∨ ∃ q, o = .threw q ∧ vx_T XC st q t mc ms free
/-- a callee that returns or throws -/
def vx_Met (l : Launch) (y : MethodName) (ws : List Cond) (rm : Room) (Pc : Array Value → State → Prop) (Qc : Array Value → State → Outcome → State → Prop) (XC : String → State → State → Prop) (mc ms : Nat) (free : Addr → Prop) : Prop :=
  MetFree l y (headSpec ws rm) Pc (fun _ _ _ _ _ => True) (vx_Q Qc XC mc ms free)
def vx_Post (XC : String → State → State → Prop) (mc ms : Nat) (free : Addr → Prop) : Pt → Array Value → Addr → Pt → Prop := fun A a q B =>
  ∃ (g : JFrame) (mk : MethodId) (t : State) (L : List Loc) (E : String) (ce : Cell), B.U.heap = t.heap ∧ B.U.vm = t.vm ∧ XC E (A.U.calling g mk a) t ∧ t.heap[q]? = some ce ∧ ce.vm = .none ∧ A.U.vm.findClass E = some ce.cls ∧ B.locs = A.locs ++ L ∧ (∀ z ∈ L, free z.base) ∧ B.cells = A.cells + mc ∧ B.slots = A.slots + ms
def vx_Back (l : Launch) (R : Room) (p : Program) (e : Env) (below : List Frame) (s : State) (sargs : Array Value) (y : MethodName) (len W9 : Nat)
    (Pre : Pt → Array Value → Prop) (Post : Pt → Array Value → Option Value → Pt → Prop) (PostX : Pt → Array Value → Addr → Pt → Prop) : Prop :=
  ∀ (m : MethodId) (meth : Method) (c : Code) (A : Pt) (g : JFrame) (ig : Instr) (mk : MethodId) (a : Array Value),
    Stand p l e R s m sargs below meth c A.U A.locs A.cells A.slots → g.method = m → g.locals.size = c.maxLocals → decode c.code g.pc = .ok (ig, len) →
    2 * g.monitorRoom + (g.stack.map fun v => v.category).sum ≤ W9 → A.U.methodNamed? y = some mk → Pre A a →
    (∃ (v : Option Value) (B : Pt), Stand p l e R s m sargs below meth c B.U B.locs B.cells B.slots ∧ Post A a v B ∧
      Steps p.tables e below (doInvoke e (A.U.setTop g) [] mk a).1 (B.U.setTop { g with pc := g.pc + len, stack := v.toList ++ g.stack })) ∨
    (∃ (q : Addr) (B : Pt), Stand p l e R s m sargs below meth c B.U B.locs B.cells B.slots ∧ PostX A a q B ∧
      Steps p.tables e below (doInvoke e (A.U.setTop g) [] mk a).1 ((B.U.setTop g).pushFrame (.throwing q)))
section Payer
variable {l : Launch} {R : Room} {p : Program} {e : Env} {below : List Frame} {s : State} {sargs : Array Value} {y : MethodName} {len W9 : Nat}
theorem vx_back {ws : List Cond} {rm : Room} {Pc : Array Value → State → Prop} {Qc : Array Value → State → Outcome → State → Prop} {XC : String → State → State → Prop} {mc ms : Nat} {free : Addr → Prop} {bytes : ByteArray} {maxL : Nat} {ret : Option FieldType}
    (hM : vx_Met l y ws rm Pc Qc XC mc ms free) (hblind : FrameBlind Pc) (hrc : rm.cells = mc) (hrs : rm.slots = ms)
    (hframes : rm.frames + 1 ≤ R.frames) (hlocals : W9 + (maxL + 11) + rm.locals ≤ R.locals)
    (hws : ∀ w ∈ ws, ∀ a' U, s.WarmedH U.vm → w.before a' U = true) (hcode : Cond.code y bytes maxL ret ∈ ws) (hinit : ∀ a' U, s.WarmedH U.vm → (Cond.initialized y.cls).before a' U = true) :
    vx_Back l R p e below s sargs y len W9 (PreOf R mc ms Pc) (PostOf Qc mc ms free) (vx_Post XC mc ms free) := by
  intro m meth c A g ig mk a X hg hsize hdg hW hn hp
  have h1 : (headSpec ws rm).pre.before a A.U = true := atoms_intro fun w hw => hws w hw _ _ X.warmed
  have h2 : (Cond.code y bytes maxL ret).before a A.U = true := hws _ hcode _ _ X.warmed
  have h3 : (Cond.initialized y.cls).before a A.U = true := hinit _ _ X.warmed
  have h4 : A.cells + (headSpec ws rm).room.cells ≤ R.cells := by rw [show (headSpec ws rm).room.cells = mc from hrc]; exact hp.1
  have h5 : A.slots + (headSpec ws rm).room.slots ≤ R.slots := by rw [show (headSpec ws rm).room.slots = ms from hrs]; exact hp.2.1
  have hPc : Pc a (A.U.calling g mk a) := hblind _ _ _ _ hp.2.2
  obtain ⟨U, Ls, c0, s0⟩ := A
  dsimp only [Pt.U, Pt.locs, Pt.cells, Pt.slots] at h1 h2 h3 h4 h5 X hn hPc ⊢
  obtain ⟨methY, cY, hmY, hcY, -, hlY, -, -, -, -⟩ := Cond.code_spec hn h2
  obtain ⟨kY, hkY, -⟩ := className_of_methodNamed hn
  have hinitY : kY.init = .initialized := Cond.initialized_spec (findClass_of_methodNamed hn) hkY h3
  have h : At U g.method c below := by rw [hg]; exact X.here
  have hlocals9 : W9 + (maxL + 11) + (headSpec ws rm).room.locals ≤ R.locals := hlocals
  have happ : (headSpec ws rm).appliesLoose y e.platform (U.calling g mk a) = true :=
    Spec.appliesLoose_calling (g := g) h hdg hn hkY hinitY
      (X.room_calling (g := g) (R' := (headSpec ws rm).room) hsize hmY hcY hframes (by rw [hlY]; omega) h4 h5) h1
  obtain ⟨mid, hmid⟩ := h.above
  have hfr : (U.setTop g).frames = (.java g :: mid) ++ below := by rw [State.frames_setTop' g h.top, hmid]; rfl
  obtain ⟨o, s₂, hsteps, -, hend, hq⟩ := Steps.callFree hM p X.admits X.cas X.clock (acts := []) hfr happ hPc trivial
  have hq' : vx_Q Qc XC mc ms free a (U.calling g mk a) o s₂ := hq
  rw [State.frames_setTop' g h.top] at hend
  obtain ⟨g₀, hg0⟩ := Option.isSome_iff_exists.mp h.top
  obtain ⟨r, hr⟩ := State.topJava?_eq_some.mp hg0
  have hr' : (({ U with heap := s₂.heap, slotsUsed := s₂.slotsUsed } : State).setVm s₂.vm).frames = .java g₀ :: r := hr
  rcases hq' with ⟨hqc, L, hfe, hL⟩ | ⟨q, rfl, E, ce, L, hx, hce, hcv, hcl, hW₂, hsm, hL⟩
  · obtain ⟨⟨v, rfl⟩, hW₂, e2, q2, q3, q4, q5, q6⟩ := id hfe
    have e3 : s₂ = ({ (U.calling g mk a).setFrames s₂.frames with heap := s₂.heap, slotsUsed := s₂.slotsUsed } : State).setVm s₂.vm := by
      have : s₂ = ({ s₂ with vm := (U.calling g mk a).vm } : State).setVm s₂.vm := rfl
      rw [e2] at this
      exact this
    obtain ⟨c₂, i₂, len₂, hc₂, hd₂, hf₂⟩ := hend
    have hW' : U.WarmedH s₂.vm := hW₂
    have hcc : c₂ = c := by
      have h1 : s₂.code? g.method = U.code? g.method := by
        rw [State.code?_eq, State.code?_eq, hW'.alike.method?]
      exact Option.some.inj (hc₂.symm.trans (h1.trans h.code))
    subst hcc
    have hlen : len₂ = len := by rw [hdg] at hd₂; cases hd₂; rfl
    subst hlen
    have hs₂ : s₂ = (({ U with heap := s₂.heap, slotsUsed := s₂.slotsUsed } : State).setVm s₂.vm).setTop { g with pc := g.pc + len₂, stack := v.toList ++ g.stack } := by
      refine e3.trans ?_
      rw [hf₂, State.calling_eq h.top, State.setFrames_setFrames, State.setTop_of_frames _ hr', hr]
      rfl
    have hsame : U.sameButNew ({ U with heap := s₂.heap, slotsUsed := s₂.slotsUsed } : State) L mc ms := by
      refine ⟨?_, q2, q3, q4, q5, q6⟩
      obtain ⟨t, ht, -⟩ := State.frames_cons hr
      show ({ U with heap := s₂.heap, slotsUsed := s₂.slotsUsed } : State) = { U.setFrames U.frames with heap := s₂.heap, slotsUsed := s₂.slotsUsed }
      rw [State.setFrames_self ht]
    subst hg
    refine Or.inl ⟨v, ⟨(({ U with heap := s₂.heap, slotsUsed := s₂.slotsUsed } : State).setVm s₂.vm), Ls ++ L, c0 + mc, s0 + ms⟩,
      ⟨X.admits, X.cas, X.clock, X.frames, X.room, X.hears, X.method, X.code, (X.here.setHeapUsed s₂.heap s₂.slotsUsed).setVm hW'.alike, X.tail, State.WarmedH.trans X.warmed hW', X.limits, X.bytes, X.same.trans (hsame.setVm s.vm)⟩,
      ⟨g, mk, s₂, L, rfl, rfl, hqc, rfl, hL, rfl, rfl⟩, ?_⟩
    show Steps p.tables e below _ ((({ U with heap := s₂.heap, slotsUsed := s₂.slotsUsed } : State).setVm s₂.vm).setTop { g with pc := g.pc + len₂, stack := v.toList ++ g.stack })
    rw [← hs₂]
    exact hsteps
  · obtain ⟨e2, q2, q3, q4, q5, q6⟩ := id hsm
    have e3 : s₂ = ({ (U.calling g mk a).setFrames s₂.frames with heap := s₂.heap, slotsUsed := s₂.slotsUsed } : State).setVm s₂.vm := by
      have : s₂ = ({ s₂ with vm := (U.calling g mk a).vm } : State).setVm s₂.vm := rfl
      rw [e2] at this
      exact this
    have hf₂ : s₂.frames = .throwing q :: .java g :: U.frames.tail := hend
    have hW' : U.WarmedH s₂.vm := hW₂
    have hs₂ : s₂ = ((({ U with heap := s₂.heap, slotsUsed := s₂.slotsUsed } : State).setVm s₂.vm).setTop g).pushFrame (.throwing q) := by
      refine e3.trans ?_
      rw [hf₂, State.calling_eq h.top, State.setFrames_setFrames, State.pushFrame, State.frames_setTop _ hr', State.setTop_of_frames _ hr', State.setFrames_setFrames, hr]
      rfl
    have hsame : U.sameButNew ({ U with heap := s₂.heap, slotsUsed := s₂.slotsUsed } : State) L mc ms := by
      refine ⟨?_, q2, q3, q4, q5, q6⟩
      obtain ⟨t, ht, -⟩ := State.frames_cons hr
      show ({ U with heap := s₂.heap, slotsUsed := s₂.slotsUsed } : State) = { U.setFrames U.frames with heap := s₂.heap, slotsUsed := s₂.slotsUsed }
      rw [State.setFrames_self ht]
    subst hg
    refine Or.inr ⟨q, ⟨(({ U with heap := s₂.heap, slotsUsed := s₂.slotsUsed } : State).setVm s₂.vm), Ls ++ L, c0 + mc, s0 + ms⟩,
      ⟨X.admits, X.cas, X.clock, X.frames, X.room, X.hears, X.method, X.code, (X.here.setHeapUsed s₂.heap s₂.slotsUsed).setVm hW'.alike, X.tail, State.WarmedH.trans X.warmed hW', X.limits, X.bytes, X.same.trans (hsame.setVm s.vm)⟩,
      ⟨g, mk, s₂, L, E, ce, rfl, rfl, hx, hce, hcv, hcl, rfl, hL, rfl, rfl⟩, ?_⟩
    show Steps p.tables e below _ (((({ U with heap := s₂.heap, slotsUsed := s₂.slotsUsed } : State).setVm s₂.vm).setTop g).pushFrame (.throwing q))
    rw [← hs₂]
    exact hsteps
end Payer
section Calls
variable {p : Program} {l : Launch} {e : Env} {R : Room} {s : State} {m : MethodId} {args : Array Value} {below : List Frame} {meth : Method} {c : Code} {T : State} {locs : List Loc} {cells slots : Nat}
theorem vx_callV (X : Stand p l e R s m args below meth c T locs cells slots) (hexec : p.tables.exec = Jvm.exec) {own C : String} {index : Nat} {y : MethodName} {bytes : ByteArray} {maxL : Nat} {ret : Option FieldType}
    (hown : s.vm.findClass own = some m.cls) (hlink : (Cond.methodLink own index y).before args s = true) (hinst : (Cond.instanceMethod y).before args s = true) (hsel : (Cond.selects C y y).before args s = true)
    (hcode : (Cond.code y bytes maxL ret).before args s = true) (hy : y.cls ≠ "java/lang/invoke/MethodHandle" ∧ y.cls ≠ "java/lang/invoke/VarHandle")
    {W9 : Nat} {Pre : Pt → Array Value → Prop} {Post : Pt → Array Value → Option Value → Pt → Prop} {PostX : Pt → Array Value → Addr → Pt → Prop} (hK : vx_Back l R p e below s args y 3 W9 Pre Post PostX)
    {b : Addr} {cellB : Cell} (hcell : T.heap[b]? = some cellB) (hobj : cellB.vm.isStatics = false) (hcls : s.vm.findClass C = some cellB.cls)
    {g : JFrame} (hg : g.method = m) (hsize : g.locals.size = c.maxLocals) {argsL rest : List Value} (hlen : ∀ sig, parseMethodDescriptor y.desc = some sig → argsL.length = sig.parameters.length)
    (hstack : g.stack = argsL.reverse ++ .ref b :: rest) (hW : 2 * g.monitorRoom + (rest.map fun v => v.category).sum ≤ W9) (hdg : decode c.code g.pc = .ok (.invokevirtual index, 3))
    (hpre : ∀ vm₁, s.WarmedH vm₁ → Pre ⟨T.setVm vm₁, locs, cells, slots⟩ (Value.ref b :: argsL).toArray) :
    (∃ (v : Option Value) (vm₁ : Vm) (B : Pt), s.WarmedH vm₁ ∧ Stand p l e R s m args below meth c B.U B.locs B.cells B.slots ∧ Post ⟨T.setVm vm₁, locs, cells, slots⟩ (Value.ref b :: argsL).toArray v B ∧
      ∀ target, Steps p.tables e below (B.U.setTop { g with pc := g.pc + 3, stack := v.toList ++ rest }) target → Steps p.tables e below (T.setTop g) target) ∨
    (∃ (q : Addr) (vm₁ : Vm) (B : Pt), s.WarmedH vm₁ ∧ Stand p l e R s m args below meth c B.U B.locs B.cells B.slots ∧ PostX ⟨T.setVm vm₁, locs, cells, slots⟩ (Value.ref b :: argsL).toArray q B ∧
      Steps p.tables e below (T.setTop g) ((B.U.setTop { g with stack := rest }).pushFrame (.throwing q))) := by
  obtain ⟨mk, methM, hnamed, hmethM, hstM, habM⟩ := Cond.instanceMethod_spec hinst
  obtain ⟨methM', cM, hmethM', -, -, -, -, -, -, hsigM⟩ := Cond.code_spec hnamed hcode
  cases hmethM.symm.trans hmethM'
  obtain ⟨c2, r2, m2, q1, q2, q3, q4, kP, hkP, hkPi⟩ := Cond.selects_spec hsel
  cases hcls.symm.trans q1
  cases (State.methodFound?_of_named hnamed hy).symm.trans q2
  cases hnamed.symm.trans q3
  have hselP : selectMethod e.platform s.vm cellB.cls mk = .method mk := by rw [Launch.admits_selectMethod X.admits]; exact q4
  obtain ⟨vm₁, X₁, hstep₁⟩ := X.invokevirtual hexec hown hlink hnamed hmethM hstM hkP hkPi hy (a := b) (cell := cellB) hcell
    (fun z h => by rw [h] at hobj; cases hobj) hselP hmethM habM hkP hkPi (g := g) hg (argsL := argsL) (rest := rest) (hlen _ hsigM) hstack hdg
  rcases hK m meth c ⟨T.setVm vm₁, locs, cells, slots⟩ { g with stack := rest } (.invokevirtual index) mk (Value.ref b :: argsL).toArray X₁ hg hsize hdg hW (X₁.named hnamed) (hpre vm₁ X₁.warmed) with ⟨v, B, X', hpost, hsteps⟩ | ⟨q, B, X', hpost, hsteps⟩
  · exact Or.inl ⟨v, vm₁, B, X₁.warmed, X', hpost, fun target h => hstep₁ _ fun acts => by rw [doInvoke_state]; exact hsteps.trans h⟩
  · exact Or.inr ⟨q, vm₁, B, X₁.warmed, X', hpost, hstep₁ _ fun acts => by rw [doInvoke_state]; exact hsteps⟩
theorem vx_callS (X : Stand p l e R s m args below meth c T locs cells slots) (hexec : p.tables.exec = Jvm.exec) {own : String} {index : Nat} {y : MethodName} {bytes : ByteArray} {maxL : Nat} {ret : Option FieldType}
    (hown : s.vm.findClass own = some m.cls) (hlink : (Cond.methodLink own index y).before args s = true) (hstat : (Cond.static y).before args s = true) (hinit : (Cond.initialized y.cls).before args s = true)
    (hcode : (Cond.code y bytes maxL ret).before args s = true) (hy : y.cls ≠ "java/lang/invoke/MethodHandle" ∧ y.cls ≠ "java/lang/invoke/VarHandle")
    {W9 : Nat} {Pre : Pt → Array Value → Prop} {Post : Pt → Array Value → Option Value → Pt → Prop} {PostX : Pt → Array Value → Addr → Pt → Prop} (hK : vx_Back l R p e below s args y 3 W9 Pre Post PostX)
    {g : JFrame} (hg : g.method = m) (hsize : g.locals.size = c.maxLocals) {argsL rest : List Value} (hlen : ∀ sig, parseMethodDescriptor y.desc = some sig → argsL.length = sig.parameters.length)
    (hstack : g.stack = argsL.reverse ++ rest) (hW : 2 * g.monitorRoom + (rest.map fun v => v.category).sum ≤ W9) (hdg : decode c.code g.pc = .ok (.invokestatic index, 3))
    (hpre : ∀ vm₁, s.WarmedH vm₁ → Pre ⟨T.setVm vm₁, locs, cells, slots⟩ argsL.toArray) :
    (∃ (v : Option Value) (vm₁ : Vm) (B : Pt), s.WarmedH vm₁ ∧ Stand p l e R s m args below meth c B.U B.locs B.cells B.slots ∧ Post ⟨T.setVm vm₁, locs, cells, slots⟩ argsL.toArray v B ∧
      ∀ target, Steps p.tables e below (B.U.setTop { g with pc := g.pc + 3, stack := v.toList ++ rest }) target → Steps p.tables e below (T.setTop g) target) ∨
    (∃ (q : Addr) (vm₁ : Vm) (B : Pt), s.WarmedH vm₁ ∧ Stand p l e R s m args below meth c B.U B.locs B.cells B.slots ∧ PostX ⟨T.setVm vm₁, locs, cells, slots⟩ argsL.toArray q B ∧
      Steps p.tables e below (T.setTop g) ((B.U.setTop { g with stack := rest }).pushFrame (.throwing q))) := by
  obtain ⟨mk, hnamed⟩ := Cond.code_named hcode
  obtain ⟨methM, cM, hmethM, -, -, -, -, -, -, hsigM⟩ := Cond.code_spec hnamed hcode
  have hstatic : methM.isStatic = true := Cond.static_spec hnamed hmethM hstat
  obtain ⟨kP, hkP, -⟩ := className_of_methodNamed hnamed
  have hinitP : kP.init = .initialized := Cond.initialized_spec (findClass_of_methodNamed hnamed) hkP hinit
  obtain ⟨vm₁, X₁, hstep₁⟩ := X.invokestatic hexec hown hlink hnamed hmethM hstatic hkP hinitP hy (g := g) hg (argsL := argsL) (rest := rest) (hlen _ hsigM) hstack hdg
  rcases hK m meth c ⟨T.setVm vm₁, locs, cells, slots⟩ { g with stack := rest } (.invokestatic index) mk argsL.toArray X₁ hg hsize hdg hW (X₁.named hnamed) (hpre vm₁ X₁.warmed) with ⟨v, B, X', hpost, hsteps⟩ | ⟨q, B, X', hpost, hsteps⟩
  · exact Or.inl ⟨v, vm₁, B, X₁.warmed, X', hpost, fun target h => hstep₁ _ fun acts => by rw [doInvoke_state]; exact hsteps.trans h⟩
  · exact Or.inr ⟨q, vm₁, B, X₁.warmed, X', hpost, hstep₁ _ fun acts => by rw [doInvoke_state]; exact hsteps⟩
end Calls
theorem vx_cls {s : State} {T : State} {vm₁ : Vm} {E : String} {k : ClassId} (hW : s.WarmedH vm₁) (h : (T.setVm vm₁).vm.findClass E = some k) : s.vm.findClass E = some k := by
  have h1 : vm₁.findClass E = some k := h
  rw [hW.alike.findClass] at h1
  exact h1
/-- the method's frame g, with q thrown over it -/
def vx_W (p : Program) (l : Launch) (e : Env) (R : Room) (s : State) (m : MethodId) (args : Array Value) (below : List Frame) (meth : Method) (c : Code) (H : Heap) (locs : List Loc) (cells slots : Nat) (Q : State → Prop) (g : JFrame) (q : Addr) : Prop :=
  ∀ T : State, T.heap = H → Stand p l e R s m args below meth c T locs cells slots → ∃ t, Steps p.tables e below ((T.setTop g).pushFrame (.throwing q)) t ∧ Q t
def vx_Run (p : Program) (l : Launch) (e : Env) (R : Room) (s : State) (m : MethodId) (args : Array Value) (below : List Frame) (meth : Method) (c : Code) (H : Heap) (locs : List Loc) (cells slots mc ms : Nat) (g : JFrame) (rest : List Value) (Qa : State → Outcome → State → Prop) (XC : String → State → State → Prop) (free : Addr → Prop) : Prop :=
  ∀ T : State, T.heap = H → Stand p l e R s m args below meth c T locs cells slots →
    (∃ (v : Option Value) (st₀ t T' : State) (L : List Loc), st₀.heap = H ∧ Stand p l e R s m args below meth c T' (locs ++ L) (cells + mc) (slots + ms) ∧ (∀ q ∈ L, free q.base) ∧ T'.heap = t.heap ∧ T'.vm = t.vm ∧ Qa st₀ (.returned v) t ∧
      Goes p e below T g T' { g with pc := g.pc + 3, stack := v.toList ++ rest }) ∨
    (∃ (q : Addr) (st₀ t T' : State) (L : List Loc) (E : String) (ce : Cell), st₀.heap = H ∧ Stand p l e R s m args below meth c T' (locs ++ L) (cells + mc) (slots + ms) ∧ (∀ z ∈ L, free z.base) ∧ T'.heap = t.heap ∧ T'.vm = t.vm ∧ XC E st₀ t ∧ t.heap[q]? = some ce ∧ ce.vm = .none ∧ s.vm.findClass E = some ce.cls ∧
      Steps p.tables e below (T.setTop g) ((T'.setTop { g with stack := rest }).pushFrame (.throwing q)))
def vx_X {S : Type} (px : S → Prop) (B : String → S → State → Prop) (A : Nat → Prop) : String → State → State → Prop := fun E st t => ∃ u : S, px u ∧ B E u t ∧ va_F A st t
section Runs
variable {p : Program} {l : Launch} {e : Env} {R : Room} {s : State} {m : MethodId} {args : Array Value} {below : List Frame} {meth : Method} {c : Code} {H : Heap} {locs : List Loc} {cells slots : Nat}
variable {y : MethodName} {bytes cc : ByteArray} {maxL nL mc ms n index : Nat} {ret : Option FieldType} {ws : List Cond} {rm : Room} {Pc : Array Value → State → Prop} {Qc : Array Value → State → Outcome → State → Prop} {XC : String → State → State → Prop} {free : Addr → Prop} {Ts : List Cond} {own C : String} {b : Addr} {As rest : List Value} {g : JFrame}
theorem vx_callBack (cb : CallB R s args own index y bytes maxL ret ws rm mc ms n) (hM : vx_Met l y ws rm Pc Qc XC mc ms free) (hbl : FrameBlind Pc) : vx_Back l R p e below s args y 3 8 (PreOf R mc ms Pc) (PostOf Qc mc ms free) (vx_Post XC mc ms free) := by
  obtain ⟨hrc, hrs, hfr, hlo, hws, hcw, -, hini, -⟩ := cb
  exact vx_back (bytes := bytes) (maxL := maxL) (ret := ret) hM hbl hrc hrs hfr hlo hws hcw (fun a' U hW => word_at hW (Or.inl (by first | rfl | simp [Cond.onTables, Cond.keeps, Cond.steady])) hini)
theorem vx_runV (S : CallFix p m c cc nL s args Ts own) (hM : vx_Met l y ws rm Pc Qc XC mc ms free) (cw : CallW R s args own C index y bytes maxL ret ws rm mc ms n) (hp : PreV s H C b Pc As)
    (hg : g.method = m) (hn : As.length = n) (hsize : g.locals.size = nL) (hstack : g.stack = As.reverse ++ .ref b :: rest) (hW : 2 * g.monitorRoom + (rest.map fun v => v.category).sum ≤ 8) (hdg : decode cc g.pc = .ok (.invokevirtual index, 3)) (hf : cells + mc ≤ R.cells ∧ slots + ms ≤ R.slots) :
    vx_Run p l e R s m args below meth c H locs cells slots mc ms g rest (Qc (Value.ref b :: As).toArray) XC free := by
  have hK : vx_Back l R p e below s args y 3 8 (PreOf R mc ms Pc) (PostOf Qc mc ms free) (vx_Post XC mc ms free) := vx_callBack cw.1 hM hp.1
  obtain ⟨⟨-, -, -, -, -, -, hcode, -, hy, hlen, hl⟩, hin, hse⟩ := cw
  obtain ⟨hx, hb, hml, ho, -⟩ := S
  obtain ⟨-, ⟨cellB, hcB, hoB, hclB⟩, hPc⟩ := hp
  intro T hT X
  rcases vx_callV X hx (C := C) (bytes := bytes) (maxL := maxL) (ret := ret) ho hl hin hse hcode hy hK (by rw [hT]; exact hcB) hoB hclB hg (hsize.trans hml.symm) (argsL := As) (rest := rest) (fun sig h => hn.trans (hlen sig h)) hstack hW (by rw [hb]; exact hdg)
    (fun vm₁ hW₁ => ⟨hf.1, hf.2, hPc (T.setVm vm₁) hT hW₁⟩) with ⟨v, vm₁, ⟨U', l2, c2, s2⟩, hW₁, X', ⟨g', mk, t, L, e1, e2, hq, h1, hL, h2, h3⟩, st⟩ | ⟨q, vm₁, ⟨U', l2, c2, s2⟩, hW₁, X', ⟨g', mk, t, L, E, ce, e1, e2, hq, hce, hcv, hcl, h1, hL, h2, h3⟩, st⟩
  · dsimp only [Pt.U, Pt.locs, Pt.cells, Pt.slots] at X' e1 e2 h1 h2 h3 st
    subst h1; subst h2; subst h3
    exact Or.inl ⟨v, (T.setVm vm₁).calling g' mk (Value.ref b :: As).toArray, t, U', L, hT, X', hL, e1, e2, hq, st⟩
  · dsimp only [Pt.U, Pt.locs, Pt.cells, Pt.slots] at X' e1 e2 h1 h2 h3 st hcl
    subst h1; subst h2; subst h3
    exact Or.inr ⟨q, (T.setVm vm₁).calling g' mk (Value.ref b :: As).toArray, t, U', L, E, ce, hT, X', hL, e1, e2, hq, hce, hcv, vx_cls hW₁ hcl, st⟩
theorem vx_runS (S : CallFix p m c cc nL s args Ts own) (hM : vx_Met l y ws rm Pc Qc XC mc ms free) (cw : CallB R s args own index y bytes maxL ret ws rm mc ms n ∧ (Cond.static y).before args s = true) (hp : PreS s H Pc As)
    (hg : g.method = m) (hn : As.length = n) (hsize : g.locals.size = nL) (hstack : g.stack = As.reverse ++ rest) (hW : 2 * g.monitorRoom + (rest.map fun v => v.category).sum ≤ 8) (hdg : decode cc g.pc = .ok (.invokestatic index, 3)) (hf : cells + mc ≤ R.cells ∧ slots + ms ≤ R.slots) :
    vx_Run p l e R s m args below meth c H locs cells slots mc ms g rest (Qc As.toArray) XC free := by
  have hK : vx_Back l R p e below s args y 3 8 (PreOf R mc ms Pc) (PostOf Qc mc ms free) (vx_Post XC mc ms free) := vx_callBack cw.1 hM hp.1
  obtain ⟨⟨-, -, -, -, -, -, hcode, hini, hy, hlen, hl⟩, hstt⟩ := cw
  obtain ⟨hx, hb, hml, ho, -⟩ := S
  intro T hT X
  rcases vx_callS X hx (bytes := bytes) (maxL := maxL) (ret := ret) ho hl hstt hini hcode hy hK hg (hsize.trans hml.symm) (argsL := As) (rest := rest) (fun sig h => hn.trans (hlen sig h)) hstack hW (by rw [hb]; exact hdg)
    (fun vm₁ hW₁ => ⟨hf.1, hf.2, hp.2 (T.setVm vm₁) hT hW₁⟩) with ⟨v, vm₁, ⟨U', l2, c2, s2⟩, hW₁, X', ⟨g', mk, t, L, e1, e2, hq, h1, hL, h2, h3⟩, st⟩ | ⟨q, vm₁, ⟨U', l2, c2, s2⟩, hW₁, X', ⟨g', mk, t, L, E, ce, e1, e2, hq, hce, hcv, hcl, h1, hL, h2, h3⟩, st⟩
  · dsimp only [Pt.U, Pt.locs, Pt.cells, Pt.slots] at X' e1 e2 h1 h2 h3 st
    subst h1; subst h2; subst h3
    exact Or.inl ⟨v, (T.setVm vm₁).calling g' mk As.toArray, t, U', L, hT, X', hL, e1, e2, hq, st⟩
  · dsimp only [Pt.U, Pt.locs, Pt.cells, Pt.slots] at X' e1 e2 h1 h2 h3 st hcl
    subst h1; subst h2; subst h3
    exact Or.inr ⟨q, (T.setVm vm₁).calling g' mk As.toArray, t, U', L, E, ce, hT, X', hL, e1, e2, hq, hce, hcv, vx_cls hW₁ hcl, st⟩
end Runs
section Rows
variable {p : Program} {l : Launch} {e : Env} {R : Room} {s : State} {m : MethodId} {args : Array Value} {below : List Frame} {meth : Method} {c : Code} {H : Heap} {locs : List Loc} {cells slots : Nat} {Q : State → Prop}
variable {mc ms : Nat} {free : Addr → Prop} {A0 A1 : Nat → Prop} {H0 : Heap} {a : Array Value} {pc : Nat} {ls : Array Slot} {st0 rest : List Value}
theorem vx_keep {st₀ t T' : State} {L : List Loc} (h0 : st₀.heap = H) (e1 : T'.heap = t.heap) (hS : va_S A0 H0 H locs) (hA : ∀ q, q < H.size → A1 q → A0 q) (hf : ∀ q, free q → A0 q) (hL : ∀ q ∈ L, free q.base) (hF : va_F A1 st₀ t) :
    H.size ≤ T'.heap.size ∧ (∀ q : Nat, q < H.size → ¬ A1 q → T'.heap[q]? = H[q]?) ∧ va_S A0 H0 T'.heap (locs ++ L) := by
  obtain ⟨hz, hk⟩ := hF
  rw [h0] at hz hk
  exact ⟨by rw [e1]; exact hz, fun q h1 h2 => by rw [e1]; exact hk q h1 h2,
    ⟨Nat.le_trans hS.1 (by rw [e1]; exact hz), fun q h1 h2 => by rw [e1, hk q (Nat.lt_of_lt_of_le h1 hS.1) (fun z => h2 (hA q (Nat.lt_of_lt_of_le h1 hS.1) z))]; exact hS.2.1 q h1 h2, fun q hq => by
      rcases List.mem_append.mp hq with h | h
      · exact hS.2.2 q h
      · exact hf _ (hL q h)⟩⟩
theorem vx_calli {S SX : Type} {post : Int32 → S → Prop} {px : SX → Prop} {B : S → State → Prop} {BX : String → SX → State → Prop} {AX : Nat → Prop} (hr : vx_Run p l e R s m args below meth c H locs cells slots mc ms (F0 m pc ls st0) rest (va_Qi post B A1 a) (vx_X px BX AX) free) (hS : va_S A0 H0 H locs) (hA : ∀ q, q < H.size → A1 q → A0 q) (hf : ∀ q, free q → A0 q) (hAX : ∀ q, q < H.size → AX q → A0 q)
    (kx : ∀ (E : String) (ce : Cell) (q9 : Addr) (u : SX) (t : State) (H1 : Heap) (locs1 : List Loc), t.heap = H1 → s.vm.Alike t.vm → px u → BX E u t → H.size ≤ H1.size → (∀ q : Nat, q < H.size → ¬ AX q → H1[q]? = H[q]?) → va_S A0 H0 H1 locs1 → H1[q9]? = some ce → ce.vm = .none → s.vm.findClass E = some ce.cls → vx_W p l e R s m args below meth c H1 locs1 (cells + mc) (slots + ms) Q (F0 m pc ls rest) q9)
    (kk : ∀ (r : Int32) (u : S) (t : State) (H1 : Heap) (locs1 : List Loc), t.heap = H1 → s.vm.Alike t.vm → post r u → B u t → H.size ≤ H1.size → (∀ q : Nat, q < H.size → ¬ A1 q → H1[q]? = H[q]?) → va_S A0 H0 H1 locs1 → W p l e R s m args below meth c H1 locs1 (cells + mc) (slots + ms) Q (F0 m (pc + 3) ls (.int r :: rest))) : W p l e R s m args below meth c H locs cells slots Q (F0 m pc ls st0) := by
  intro T hT X
  rcases hr T hT X with ⟨v, st₀, t, T', L, h0, X', hL, e1, e2, ⟨⟨r, u, hv, hp, hb⟩, hF⟩, st⟩ | ⟨q, st₀, t, T', L, E, ce, h0, X', hL, e1, e2, ⟨u, hp, hb, hF⟩, hce, hcv, hcl, st⟩
  · cases hv
    obtain ⟨k1, k2, k3⟩ := vx_keep h0 e1 hS hA hf hL hF
    obtain ⟨t2, a1, b1⟩ := kk r u t T'.heap (locs ++ L) e1.symm (by rw [← e2]; exact X'.warmed.alike) hp hb k1 k2 k3 T' rfl X'
    exact ⟨t2, st t2 a1, b1⟩
  · obtain ⟨k1, k2, k3⟩ := vx_keep h0 e1 hS hAX hf hL hF
    obtain ⟨t2, a1, b1⟩ := kx E ce q u t T'.heap (locs ++ L) e1.symm (by rw [← e2]; exact X'.warmed.alike) hp hb k1 k2 k3 (by rw [e1]; exact hce) hcv hcl T' rfl X'
    exact ⟨t2, st.trans a1, b1⟩
theorem vx_calll {S SX : Type} {post : Int64 → S → Prop} {px : SX → Prop} {B : S → State → Prop} {BX : String → SX → State → Prop} {AX : Nat → Prop} (hr : vx_Run p l e R s m args below meth c H locs cells slots mc ms (F0 m pc ls st0) rest (va_Ql post B A1 a) (vx_X px BX AX) free) (hS : va_S A0 H0 H locs) (hA : ∀ q, q < H.size → A1 q → A0 q) (hf : ∀ q, free q → A0 q) (hAX : ∀ q, q < H.size → AX q → A0 q)
    (kx : ∀ (E : String) (ce : Cell) (q9 : Addr) (u : SX) (t : State) (H1 : Heap) (locs1 : List Loc), t.heap = H1 → s.vm.Alike t.vm → px u → BX E u t → H.size ≤ H1.size → (∀ q : Nat, q < H.size → ¬ AX q → H1[q]? = H[q]?) → va_S A0 H0 H1 locs1 → H1[q9]? = some ce → ce.vm = .none → s.vm.findClass E = some ce.cls → vx_W p l e R s m args below meth c H1 locs1 (cells + mc) (slots + ms) Q (F0 m pc ls rest) q9)
    (kk : ∀ (r : Int64) (u : S) (t : State) (H1 : Heap) (locs1 : List Loc), t.heap = H1 → s.vm.Alike t.vm → post r u → B u t → H.size ≤ H1.size → (∀ q : Nat, q < H.size → ¬ A1 q → H1[q]? = H[q]?) → va_S A0 H0 H1 locs1 → W p l e R s m args below meth c H1 locs1 (cells + mc) (slots + ms) Q (F0 m (pc + 3) ls (.long r :: rest))) : W p l e R s m args below meth c H locs cells slots Q (F0 m pc ls st0) := by
  intro T hT X
  rcases hr T hT X with ⟨v, st₀, t, T', L, h0, X', hL, e1, e2, ⟨⟨r, u, hv, hp, hb⟩, hF⟩, st⟩ | ⟨q, st₀, t, T', L, E, ce, h0, X', hL, e1, e2, ⟨u, hp, hb, hF⟩, hce, hcv, hcl, st⟩
  · cases hv
    obtain ⟨k1, k2, k3⟩ := vx_keep h0 e1 hS hA hf hL hF
    obtain ⟨t2, a1, b1⟩ := kk r u t T'.heap (locs ++ L) e1.symm (by rw [← e2]; exact X'.warmed.alike) hp hb k1 k2 k3 T' rfl X'
    exact ⟨t2, st t2 a1, b1⟩
  · obtain ⟨k1, k2, k3⟩ := vx_keep h0 e1 hS hAX hf hL hF
    obtain ⟨t2, a1, b1⟩ := kx E ce q u t T'.heap (locs ++ L) e1.symm (by rw [← e2]; exact X'.warmed.alike) hp hb k1 k2 k3 (by rw [e1]; exact hce) hcv hcl T' rfl X'
    exact ⟨t2, st.trans a1, b1⟩
theorem vx_callf {S SX : Type} {post : UInt32 → S → Prop} {px : SX → Prop} {B : S → State → Prop} {BX : String → SX → State → Prop} {AX : Nat → Prop} (hr : vx_Run p l e R s m args below meth c H locs cells slots mc ms (F0 m pc ls st0) rest (va_Qf post B A1 a) (vx_X px BX AX) free) (hS : va_S A0 H0 H locs) (hA : ∀ q, q < H.size → A1 q → A0 q) (hf : ∀ q, free q → A0 q) (hAX : ∀ q, q < H.size → AX q → A0 q)
    (kx : ∀ (E : String) (ce : Cell) (q9 : Addr) (u : SX) (t : State) (H1 : Heap) (locs1 : List Loc), t.heap = H1 → s.vm.Alike t.vm → px u → BX E u t → H.size ≤ H1.size → (∀ q : Nat, q < H.size → ¬ AX q → H1[q]? = H[q]?) → va_S A0 H0 H1 locs1 → H1[q9]? = some ce → ce.vm = .none → s.vm.findClass E = some ce.cls → vx_W p l e R s m args below meth c H1 locs1 (cells + mc) (slots + ms) Q (F0 m pc ls rest) q9)
    (kk : ∀ (r : UInt32) (u : S) (t : State) (H1 : Heap) (locs1 : List Loc), t.heap = H1 → s.vm.Alike t.vm → post r u → B u t → H.size ≤ H1.size → (∀ q : Nat, q < H.size → ¬ A1 q → H1[q]? = H[q]?) → va_S A0 H0 H1 locs1 → W p l e R s m args below meth c H1 locs1 (cells + mc) (slots + ms) Q (F0 m (pc + 3) ls (.float r :: rest))) : W p l e R s m args below meth c H locs cells slots Q (F0 m pc ls st0) := by
  intro T hT X
  rcases hr T hT X with ⟨v, st₀, t, T', L, h0, X', hL, e1, e2, ⟨⟨r, u, hv, hp, hb⟩, hF⟩, st⟩ | ⟨q, st₀, t, T', L, E, ce, h0, X', hL, e1, e2, ⟨u, hp, hb, hF⟩, hce, hcv, hcl, st⟩
  · cases hv
    obtain ⟨k1, k2, k3⟩ := vx_keep h0 e1 hS hA hf hL hF
    obtain ⟨t2, a1, b1⟩ := kk r u t T'.heap (locs ++ L) e1.symm (by rw [← e2]; exact X'.warmed.alike) hp hb k1 k2 k3 T' rfl X'
    exact ⟨t2, st t2 a1, b1⟩
  · obtain ⟨k1, k2, k3⟩ := vx_keep h0 e1 hS hAX hf hL hF
    obtain ⟨t2, a1, b1⟩ := kx E ce q u t T'.heap (locs ++ L) e1.symm (by rw [← e2]; exact X'.warmed.alike) hp hb k1 k2 k3 (by rw [e1]; exact hce) hcv hcl T' rfl X'
    exact ⟨t2, st.trans a1, b1⟩
theorem vx_calld {S SX : Type} {post : UInt64 → S → Prop} {px : SX → Prop} {B : S → State → Prop} {BX : String → SX → State → Prop} {AX : Nat → Prop} (hr : vx_Run p l e R s m args below meth c H locs cells slots mc ms (F0 m pc ls st0) rest (va_Qd post B A1 a) (vx_X px BX AX) free) (hS : va_S A0 H0 H locs) (hA : ∀ q, q < H.size → A1 q → A0 q) (hf : ∀ q, free q → A0 q) (hAX : ∀ q, q < H.size → AX q → A0 q)
    (kx : ∀ (E : String) (ce : Cell) (q9 : Addr) (u : SX) (t : State) (H1 : Heap) (locs1 : List Loc), t.heap = H1 → s.vm.Alike t.vm → px u → BX E u t → H.size ≤ H1.size → (∀ q : Nat, q < H.size → ¬ AX q → H1[q]? = H[q]?) → va_S A0 H0 H1 locs1 → H1[q9]? = some ce → ce.vm = .none → s.vm.findClass E = some ce.cls → vx_W p l e R s m args below meth c H1 locs1 (cells + mc) (slots + ms) Q (F0 m pc ls rest) q9)
    (kk : ∀ (r : UInt64) (u : S) (t : State) (H1 : Heap) (locs1 : List Loc), t.heap = H1 → s.vm.Alike t.vm → post r u → B u t → H.size ≤ H1.size → (∀ q : Nat, q < H.size → ¬ A1 q → H1[q]? = H[q]?) → va_S A0 H0 H1 locs1 → W p l e R s m args below meth c H1 locs1 (cells + mc) (slots + ms) Q (F0 m (pc + 3) ls (.double r :: rest))) : W p l e R s m args below meth c H locs cells slots Q (F0 m pc ls st0) := by
  intro T hT X
  rcases hr T hT X with ⟨v, st₀, t, T', L, h0, X', hL, e1, e2, ⟨⟨r, u, hv, hp, hb⟩, hF⟩, st⟩ | ⟨q, st₀, t, T', L, E, ce, h0, X', hL, e1, e2, ⟨u, hp, hb, hF⟩, hce, hcv, hcl, st⟩
  · cases hv
    obtain ⟨k1, k2, k3⟩ := vx_keep h0 e1 hS hA hf hL hF
    obtain ⟨t2, a1, b1⟩ := kk r u t T'.heap (locs ++ L) e1.symm (by rw [← e2]; exact X'.warmed.alike) hp hb k1 k2 k3 T' rfl X'
    exact ⟨t2, st t2 a1, b1⟩
  · obtain ⟨k1, k2, k3⟩ := vx_keep h0 e1 hS hAX hf hL hF
    obtain ⟨t2, a1, b1⟩ := kx E ce q u t T'.heap (locs ++ L) e1.symm (by rw [← e2]; exact X'.warmed.alike) hp hb k1 k2 k3 (by rw [e1]; exact hce) hcv hcl T' rfl X'
    exact ⟨t2, st.trans a1, b1⟩
theorem vx_callv {S SX : Type} {post : S → Prop} {px : SX → Prop} {B : S → State → Prop} {BX : String → SX → State → Prop} {AX : Nat → Prop} (hr : vx_Run p l e R s m args below meth c H locs cells slots mc ms (F0 m pc ls st0) rest (va_Qv post B A1 a) (vx_X px BX AX) free) (hS : va_S A0 H0 H locs) (hA : ∀ q, q < H.size → A1 q → A0 q) (hf : ∀ q, free q → A0 q) (hAX : ∀ q, q < H.size → AX q → A0 q)
    (kx : ∀ (E : String) (ce : Cell) (q9 : Addr) (u : SX) (t : State) (H1 : Heap) (locs1 : List Loc), t.heap = H1 → s.vm.Alike t.vm → px u → BX E u t → H.size ≤ H1.size → (∀ q : Nat, q < H.size → ¬ AX q → H1[q]? = H[q]?) → va_S A0 H0 H1 locs1 → H1[q9]? = some ce → ce.vm = .none → s.vm.findClass E = some ce.cls → vx_W p l e R s m args below meth c H1 locs1 (cells + mc) (slots + ms) Q (F0 m pc ls rest) q9)
    (kk : ∀ (u : S) (t : State) (H1 : Heap) (locs1 : List Loc), t.heap = H1 → s.vm.Alike t.vm → post u → B u t → H.size ≤ H1.size → (∀ q : Nat, q < H.size → ¬ A1 q → H1[q]? = H[q]?) → va_S A0 H0 H1 locs1 → W p l e R s m args below meth c H1 locs1 (cells + mc) (slots + ms) Q (F0 m (pc + 3) ls (rest))) : W p l e R s m args below meth c H locs cells slots Q (F0 m pc ls st0) := by
  intro T hT X
  rcases hr T hT X with ⟨v, st₀, t, T', L, h0, X', hL, e1, e2, ⟨⟨u, hv, hp, hb⟩, hF⟩, st⟩ | ⟨q, st₀, t, T', L, E, ce, h0, X', hL, e1, e2, ⟨u, hp, hb, hF⟩, hce, hcv, hcl, st⟩
  · cases hv
    obtain ⟨k1, k2, k3⟩ := vx_keep h0 e1 hS hA hf hL hF
    obtain ⟨t2, a1, b1⟩ := kk u t T'.heap (locs ++ L) e1.symm (by rw [← e2]; exact X'.warmed.alike) hp hb k1 k2 k3 T' rfl X'
    exact ⟨t2, st t2 a1, b1⟩
  · obtain ⟨k1, k2, k3⟩ := vx_keep h0 e1 hS hAX hf hL hF
    obtain ⟨t2, a1, b1⟩ := kx E ce q u t T'.heap (locs ++ L) e1.symm (by rw [← e2]; exact X'.warmed.alike) hp hb k1 k2 k3 (by rw [e1]; exact hce) hcv hcl T' rfl X'
    exact ⟨t2, st.trans a1, b1⟩
/-- caught by the row x of this method's table; the rows ahead don't take it -/
theorem vx_catch {own name : String} {E : String} {ce : Cell} {q : Addr} (hown : s.vm.findClass own = some m.cls) (pre : List ExceptionTableEntry) (x : ExceptionTableEntry) (suf : List ExceptionTableEntry) (hsplit : c.exceptionTable.toList = pre ++ x :: suf)
    (hpass : ∀ z ∈ pre, covers z pc = false ∨ (z.catchType ≠ 0 ∧ ∃ nm : String, (Cond.classLink own z.catchType nm).before args s = true ∧ va_Nc E nm s)) (hx : covers x pc = true) (h0 : x.catchType ≠ 0)
    (hlink : (Cond.classLink own x.catchType name).before args s = true) (hcast : (Cond.castable E name).before args s = true) (hcell : H[q]? = some ce) (hv : ce.vm = .none) (hcl : s.vm.findClass E = some ce.cls)
    (kk : W p l e R s m args below meth c H locs cells slots Q (F0 m x.handlerPc ls [.ref q])) : vx_W p l e R s m args below meth c H locs cells slots Q (F0 m pc ls rest) q := by
  intro T hT X
  have hpl : e.platform.magicAccessors = ({} : Platform).magicAccessors := by rw [X.admits.platform]
  obtain ⟨c3, c4, hc3, hc4, hasg⟩ := Cond.castable_spec hcast
  cases Option.some.inj (hc3.symm.trans hcl)
  obtain ⟨c5, hc5, hcl5⟩ := Cond.classLink_spec hown hlink e.platform hpl
  cases Option.some.inj (hc4.symm.trans hc5)
  obtain ⟨vm', X', st⟩ := X.thenCaughtThrough q (g := F0 m pc ls rest) rfl (Steps.refl _) (by rw [hT]; exact hcell) (by rw [hv]; rfl) (by obtain ⟨k9, h9, -⟩ := Vm.findClass_spec hcl; exact ⟨k9, h9⟩) pre x suf hsplit
    (fun z hz => by
      rcases hpass z hz with h | ⟨hz0, nm, hl1, hn1⟩
      · exact Or.inl h
      · obtain ⟨c6, hc6, hcl6⟩ := Cond.classLink_spec hown hl1 e.platform hpl
        obtain ⟨a8, b8, h1, h2, h3⟩ := hn1
        cases Option.some.inj (h1.symm.trans hcl)
        cases Option.some.inj (h2.symm.trans hc6)
        exact Or.inr ⟨hz0, _, hcl6, h3⟩) hx (Or.inr ⟨h0, c4, hcl5, hasg⟩)
  obtain ⟨t, a1, b1⟩ := kk (T.setVm vm') hT X'
  exact ⟨t, st.trans a1, b1⟩
end Rows
section Ends
variable {p : Program} {l : Launch} {e : Env} {R : Room} {s : State} {m : MethodId} {args : Array Value} {below : List Frame} {meth : Method} {c : Code} {H : Heap} {locs : List Loc} {cells slots : Nat} {Q : State → Prop}
variable {mc ms : Nat} {free : Addr → Prop} {A0 A1 : Nat → Prop} {H0 : Heap} {a : Array Value} {ls : Array Slot} {st0 rest : List Value}
variable {Qc : Array Value → State → Outcome → State → Prop} {XC : String → State → State → Prop}
/-- what a body that may throw owes at its end -/
def vx_MQ (below : List Frame) (Qc : Array Value → State → Outcome → State → Prop) (XC : String → State → State → Prop) (a : Array Value) (s : State) (mc ms : Nat) (free : Addr → Prop) : State → Prop := fun t =>
  ∃ o, t.status = .running ∧ Ended t below o ∧ vx_Q Qc XC mc ms free a s o t
theorem vx_ret {g : JFrame} {mc ms : Nat} (k : W p l e R s m args below meth c H locs cells slots (MQ below Qc args s mc ms free) g) : W p l e R s m args below meth c H locs cells slots (vx_MQ below Qc XC args s mc ms free) g := by
  intro T hT X
  obtain ⟨t, a1, o, b1, b2, b3, b4⟩ := k T hT X
  exact ⟨t, a1, o, b1, b2, Or.inl ⟨b3, b4⟩⟩
/-- not caught here: it goes on to the caller -/
theorem vx_widen {g : JFrame} {q : Addr} {k n : Nat} (h1 : cells ≤ k) (h2 : slots ≤ n) (kk : vx_W p l e R s m args below meth c H locs k n Q g q) : vx_W p l e R s m args below meth c H locs cells slots Q g q := fun T hT X => kk T hT (stand_widen X h1 h2)
theorem vx_out {pc : Nat} {E : String} {ce : Cell} {q : Addr} {mc ms : Nat} (hout : ∀ x ∈ c.exceptionTable.toList, covers x pc = false) (hlocks : meth.locks = false) (hcell : H[q]? = some ce) (hv : ce.vm = .none) (hcl : s.vm.findClass E = some ce.cls)
    (hx : ∀ t : State, t.heap = H → s.vm.Alike t.vm → XC E s t) (hf : ∀ z ∈ locs, free z.base) (hc : cells ≤ mc) (hs : slots ≤ ms) :
    vx_W p l e R s m args below meth c H locs cells slots (vx_MQ below Qc XC args s mc ms free) (F0 m pc ls rest) q := by
  intro T hT X
  obtain ⟨st1, hrun, hend, hW, hsm⟩ := X.leaveThrown q (g := F0 m pc ls rest) rfl rfl rfl hout hlocks
  have hcell9 : (T.setFrames (.throwing q :: below)).heap[q]? = some ce := by
    show T.heap[q]? = some ce
    rw [hT]; exact hcell
  exact ⟨_, st1, .threw q, hrun, hend, Or.inr ⟨q, rfl, E, ce, locs, hx _ hT hW.alike, hcell9, hv, hcl, hW, hsm.mono hc hs, hf⟩⟩
theorem vx_frame {U : State} {k n : Nat} (h : s.sameButNew ({ U with vm := s.vm } : State) locs k n) : s.heap.size ≤ U.heap.size ∧ ∀ q : Nat, q < s.heap.size → (∀ z ∈ locs, z.base ≠ q) → U.heap[q]? = s.heap[q]? := by
  obtain ⟨-, h2, -, -, -, h6⟩ := h
  refine ⟨h2, fun q hq hz => ?_⟩
  obtain ⟨c9, e1, e2, e3, e4⟩ := h6 q _ (Array.getElem?_eq_getElem hq)
  have hs : c9.slots = (s.heap[q]).slots := Array.ext_getElem? fun i => e4 i fun hm => hz _ hm rfl
  have h9 : c9 = s.heap[q] := by
    rw [hs] at e2
    exact e2
  have e5 : U.heap[q]? = some c9 := e1
  rw [e5, h9, Array.getElem?_eq_getElem hq]
/-- the words of a throw but the four that speak of the heap -/
def vx_no (w : Cond) : Bool := decide (w ≠ .isRef (.static Bundle.tN "UNASSIGNED_STACK" Bundle.steD)) && decide (w ≠ .isRef (.static Bundle.tN "SUPPRESSED_SENTINEL" Bundle.listD)) && decide (w ≠ .laysStatic Bundle.tN "UNASSIGNED_STACK" Bundle.steD) && decide (w ≠ .laysStatic Bundle.tN "SUPPRESSED_SENTINEL" Bundle.listD)
def vx_at0 (own : String) (ic : Nat) (X : String) (names : List String) : List Cond := (Bundle.ownAtoms0 own ic X names).filter vx_no
def vx_atS (own : String) (ic : Nat) (X : String) (names : List String) : List Cond := (Bundle.ownAtoms own ic X names).filter vx_no
/-- a word that the tables alone decide, or a good one -/
def vx_ot (w : Cond) : Bool := w.onTables || goodWord w
theorem vx_ot_at {args a' : Array Value} {s U : State} {w : Cond} (hW : s.WarmedH U.vm) (hvm : s.vm = U.vm) (hg : vx_ot w = true) (h : w.before args s = true) : w.before a' U = true := by
  simp only [vx_ot, Bool.or_eq_true] at hg
  rcases hg with hg | hg
  · exact va_tabs hg hvm h
  · exact word_at hW (good_of_word hg) h
/-- a list's words: the good ones out of the method's own list, the others by premises of their own -/
theorem vx_hat {args : Array Value} {s : State} {L B : List Cond} (h1 : ∀ w ∈ L.filter goodWord, w.before args s = true) (h2 : ∀ w ∈ L.filter (fun w => !goodWord w), w ∈ B) (h3 : ∀ w ∈ B, w.before args s = true) : ∀ w ∈ L, w.before args s = true := by
  intro w hw
  by_cases g : goodWord w = true
  · exact h1 w (List.mem_filter.mpr ⟨hw, g⟩)
  · refine h3 w (h2 w (List.mem_filter.mpr ⟨hw, ?_⟩))
    show (!goodWord w) = true
    cases hgw : goodWord w
    · rfl
    · exact absurd hgw g
theorem vx_c {args : Array Value} {s : State} {w : Cond} {B : List Cond} (h : w.before args s = true) (t : ∀ w ∈ B, w.before args s = true) : ∀ w' ∈ w :: B, w'.before args s = true := fun w' h' => (List.mem_cons.mp h').elim (fun e => by rw [e]; exact h) (t w')
theorem vx_n {args : Array Value} {s : State} : ∀ w ∈ ([] : List Cond), w.before args s = true := fun _ h => nomatch h
theorem vx_own {args : Array Value} {s : State} {L : List Cond} (h1 : ∀ w ∈ L.filter vx_no, w.before args s = true)
    (hU : (Cond.isRef (.static Bundle.tN "UNASSIGNED_STACK" Bundle.steD)).before args s = true) (hN : (Cond.isRef (.static Bundle.tN "SUPPRESSED_SENTINEL" Bundle.listD)).before args s = true)
    (lU : (Cond.laysStatic Bundle.tN "UNASSIGNED_STACK" Bundle.steD).before args s = true) (lN : (Cond.laysStatic Bundle.tN "SUPPRESSED_SENTINEL" Bundle.listD).before args s = true) : ∀ w ∈ L, w.before args s = true := by
  intro w hw
  by_cases e1 : w = .isRef (.static Bundle.tN "UNASSIGNED_STACK" Bundle.steD)
  · rw [e1]; exact hU
  · by_cases e2 : w = .isRef (.static Bundle.tN "SUPPRESSED_SENTINEL" Bundle.listD)
    · rw [e2]; exact hN
    · by_cases e3 : w = .laysStatic Bundle.tN "UNASSIGNED_STACK" Bundle.steD
      · rw [e3]; exact lU
      · by_cases e4 : w = .laysStatic Bundle.tN "SUPPRESSED_SENTINEL" Bundle.listD
        · rw [e4]; exact lN
        · exact h1 w (List.mem_filter.mpr ⟨hw, by unfold vx_no; rw [decide_eq_true e1, decide_eq_true e2, decide_eq_true e3, decide_eq_true e4]; rfl⟩)
/-- where a static field lies, its class's statics cell in H -/
def vx_L (C n d : String) (A : Nat → Prop) (U : State) (H : Heap) : Prop := ∃ (c : ClassId) (k : Class) (i : Nat) (f : Field) (a : Nat) (cell : Cell), U.vm.findClass C = some c ∧ U.fieldFound? C n d = some (c, k, i, f) ∧ f.isStatic = true ∧ k.statics = some a ∧ H[a]? = some cell ∧ cell.vm.isStatics = true ∧ cell.cls = c ∧ f.slot < cell.slots.size ∧ k.staticTypes[f.slot]? = some f.type ∧ ¬ A a
theorem vx_L.moved {C n d : String} {A : Nat → Prop} {u U : State} {H : Heap} (hvm : u.vm.Alike U.vm) (h : vx_L C n d A u H) : vx_L C n d A U H := by
  obtain ⟨c, k, i, f, a, cell, h1, h2, h3, h4, h5, h6, h7, h8, h9, h10⟩ := h
  obtain ⟨k', hi', he⟩ := State.fieldFound?_setVm hvm h2
  exact ⟨c, k', i, f, a, cell, by rw [hvm.findClass]; exact h1, hi', h3, by rw [he]; exact h4, h5, h6, h7, h8, by rw [he]; exact h9, h10⟩
theorem vx_L.kept {C n d : String} {A : Nat → Prop} {U : State} {H H1 : Heap} (h : vx_L C n d A U H) (hq : ∀ a : Nat, a < H.size → ¬ A a → H1[a]? = H[a]?) : vx_L C n d A U H1 := by
  obtain ⟨c, k, i, f, a, cell, h1, h2, h3, h4, h5, h6, h7, h8, h9, h10⟩ := h
  exact ⟨c, k, i, f, a, cell, h1, h2, h3, h4, by rw [hq a (Array.getElem?_eq_some_iff.mp h5).1 h10]; exact h5, h6, h7, h8, h9, h10⟩
theorem vx_L.narrow {C n d : String} {A B : Nat → Prop} {U : State} {H : Heap} (h : vx_L C n d A U H) (hAB : ∀ q, B q → A q) : vx_L C n d B U H := by
  obtain ⟨c, k, i, f, a, cell, h1, h2, h3, h4, h5, h6, h7, h8, h9, h10⟩ := h
  exact ⟨c, k, i, f, a, cell, h1, h2, h3, h4, h5, h6, h7, h8, h9, fun z => h10 (hAB _ z)⟩
theorem vx_L.word {C n d : String} {A : Nat → Prop} {s : State} {args : Array Value} (h : vx_L C n d A s s.heap) : (Cond.laysStatic C n d).before args s = true := by
  obtain ⟨c, k, i, f, a, cell, h1, h2, h3, h4, h5, h6, h7, h8, h9, -⟩ := h
  show (Cond.laysStatic C n d).holds args s none s [] = true
  exact Cond.laysStatic_of h1 h2 h3 h4 h5 h6 h7 h8 h9
/-- .. and what it holds: null or some reference -/
def vx_Zq (C n d : String) (A : Nat → Prop) (U : State) (H : Heap) : Prop := va_Zq C n d A U H ∧ vx_L C n d A U H
theorem vx_Zq.moved {C n d : String} {A : Nat → Prop} {u U : State} {H : Heap} (hvm : u.vm.Alike U.vm) (h : vx_Zq C n d A u H) : vx_Zq C n d A U H := ⟨va_Zq.moved hvm h.1, vx_L.moved hvm h.2⟩
theorem vx_Zq.kept {C n d : String} {A : Nat → Prop} {U : State} {H H1 : Heap} (h : vx_Zq C n d A U H) (hq : ∀ a : Nat, a < H.size → ¬ A a → H1[a]? = H[a]?) : vx_Zq C n d A U H1 := ⟨va_Zq.kept h.1 hq, vx_L.kept h.2 hq⟩
theorem vx_Zq.narrow {C n d : String} {A B : Nat → Prop} {U : State} {H : Heap} (h : vx_Zq C n d A U H) (hAB : ∀ q, B q → A q) : vx_Zq C n d B U H := ⟨va_Zq.narrow h.1 hAB, vx_L.narrow h.2 hAB⟩
theorem vx_Zqof {args : Array Value} {s : State} {C n d : String} {A : Nat → Prop} (hl : (Cond.laysStatic C n d).before args s = true) (hini : (Cond.initialized C).before args s = true) (h : (Cond.isRef (.static C n d)).before args s = true) (hA : ∀ a : Nat, a < s.heap.size → ¬ A a) : vx_Zq C n d A s s.heap := by
  refine ⟨va_Zqof hl hini h hA, ?_⟩
  obtain ⟨c, k, i, f, a, cell, h1, h2, h3, h4, h5, h6, h7, h8, h9⟩ := Cond.laysStatic_spec hl
  exact ⟨c, k, i, f, a, cell, h1, h2, h3, h4, h5, h6, h7, h8, h9, hA a (Array.getElem?_eq_some_iff.mp h5).1⟩
theorem vx_isRef {C n d : String} {v : Value} {A : Nat → Prop} {s : State} {args : Array Value} (h : va_Z C n d v A s s.heap) (hv : v.isRef = true) : (Cond.isRef (.static C n d)).before args s = true := by
  obtain ⟨cf, kf, fi, f, a, cell, h1, h2, h3, h4, h5, h6, h7, -⟩ := h
  have he : (Term.static C n d).eval args s none [] s = some v := by
    simp [Term.eval, State.fieldNamed?, h1, h2, h4, h5, h6, h7]
  simp only [Cond.before, Cond.holds, Cond.value, he]
  cases v <;> simp_all [Value.isRef]
theorem vx_isRefq {C n d : String} {A : Nat → Prop} {s : State} {args : Array Value} (h : va_Zq C n d A s s.heap) : (Cond.isRef (.static C n d)).before args s = true := by
  rcases h with h | ⟨t, h⟩
  · exact vx_isRef h rfl
  · exact vx_isRef h rfl
/-- the same frame, seen from here: as if the method were called anew in this heap -/
theorem vx_rebase {T : State} (X : Stand p l e R s m args below meth c T locs cells slots) {R' : Room} (hf : R'.frames ≤ R.frames) (hl : R'.locals ≤ R.locals) (hc : cells + R'.cells ≤ R.cells) (hs : slots + R'.slots ≤ R.slots) :
    Stand p l e R' ((T.setVm s.vm).setFrames (.invoking m args :: below)) m args below meth c T [] 0 0 := by
  have htop : (T.setVm s.vm).topJava?.isSome := X.here.top
  have hF : ((T.setVm s.vm).setFrames (.invoking m args :: below)).frames = .invoking m args :: below := State.frames_setFrames _ (State.cur_lt_of_top htop)
  obtain ⟨g₀, hg0⟩ := Option.isSome_iff_exists.mp htop
  obtain ⟨r, hr⟩ := State.topJava?_eq_some.mp hg0
  have hl9 : e.platform.stackLimits (T.setVm s.vm).me = e.platform.stackLimits s.me := X.limits
  have hb9 : (T.setVm s.vm).me.stackBytes = s.me.stackBytes := X.bytes
  refine ⟨X.admits, X.cas, X.clock, hF, ?_, X.hears, X.method, X.code, X.here, X.tail, X.warmed, ?_, ?_, ?_⟩
  · have h := X.room
    have hU : ((T.setVm s.vm).setFrames (.invoking m args :: below)).localsInUse = s.localsInUse := by
      rw [State.localsInUse_invoking hF (meth := meth) (c := c) X.method X.code, State.localsInUse_invoking X.frames X.method X.code]
    simp only [State.hasRoom, Bool.and_eq_true, decide_eq_true_eq] at h ⊢
    obtain ⟨⟨⟨⟨h1, h2, h3, h4, h5, h6⟩, h7⟩, h8⟩, h9⟩ := h
    rw [X.frames, List.length_cons] at h2 h3
    have q1 := X.heapSize
    have q2 := X.used
    simp only [hF, hU, List.length_cons, State.stackLimits_setFrames, State.stackBytes_setFrames, hl9, hb9]
    refine ⟨⟨⟨⟨by omega, by omega, by omega, by omega, by omega, h6⟩, ?_⟩, ?_⟩, X.book⟩
    · show T.heap.size + R'.cells ≤ e.platform.maxCells
      omega
    · show T.slotsUsed + R'.slots ≤ e.platform.maxSlots
      omega
  · rw [State.stackLimits_setFrames]; rfl
  · rw [State.stackBytes_setFrames]; rfl
  · refine ⟨?_, Nat.le_refl _, Nat.le_refl _, ?_, ?_, fun a c9 h9 => ⟨c9, h9, rfl, rfl, fun _ _ => rfl⟩⟩
    · obtain ⟨t, ht, -⟩ := State.frames_cons hr
      show T.setVm s.vm = { ((T.setVm s.vm).setFrames (.invoking m args :: below)).setFrames (T.setVm s.vm).frames with heap := T.heap, slotsUsed := T.slotsUsed }
      rw [State.setFrames_setFrames, State.setFrames_self ht]
      rfl
    · show T.slotsUsed = T.slotsUsed + ((T.heap.toList.drop T.heap.size).map (·.slots.size)).sum
      rw [List.drop_eq_nil_of_le (Nat.le_of_eq Array.length_toList)]
      rfl
    · show ((T.heap.toList.drop T.heap.size).map (·.slots.size)).sum ≤ 0
      rw [List.drop_eq_nil_of_le (Nat.le_of_eq Array.length_toList)]
      exact Nat.le_refl _
/-- 'throw new E()': new; dup; invokespecial; athrow -/
theorem vx_throw0 {cc : ByteArray} {pc : Nat} (hexec : p.tables.exec = Jvm.exec) (hb : c.code = cc) (hl : l.stackTraces = false) {own cls : String} {names : List String} {ik ic mc ms : Nat} {A : Nat → Prop}
    (hown : s.vm.findClass own = some m.cls) (hcls : Bundle.fit cls = true) (hnames : ∀ n ∈ names, Bundle.fit n = true)
    (hk : (Cond.classLink own ik cls).before args s = true) (hini : (Cond.initialized cls).before args s = true) (hat : ∀ w ∈ vx_at0 own ic cls names, w.before args s = true)
    (hgood : ∀ w ∈ Cond.classLink own ik cls :: Cond.initialized cls :: vx_at0 own ic cls names, vx_ot w = true)
    (hU : vx_Zq Bundle.tN "UNASSIGNED_STACK" Bundle.steD A s s.heap) (hN : vx_Zq Bundle.tN "SUPPRESSED_SENTINEL" Bundle.listD A s s.heap) (hS : va_S A s.heap H locs) (hsize : ls.size = c.maxLocals)
    (d0 : decode cc pc = .ok (.new ik, 3)) (d3 : decode cc (pc + 3) = .ok (.dup, 1)) (d4 : decode cc (pc + 4) = .ok (.invokespecial ic, 3)) (d7 : decode cc (pc + 7) = .ok (.athrow, 1))
    (hout : ∀ x ∈ c.exceptionTable.toList, covers x (pc + 7) = false)
    (hRframes : names.length + 3 < R.frames) (hRlocals : (rest.map fun v => v.category).sum + (13 * (names.length + 1) + 42) ≤ R.locals) (hRcells : cells + 1 ≤ R.cells) (hRslots : slots + 6 ≤ R.slots) (hlocks : meth.locks = false)
    (hx : ∀ t : State, s.vm.Alike t.vm → H.size ≤ t.heap.size → (∀ q : Nat, q < H.size → t.heap[q]? = H[q]?) → XC cls s t)
    (hf : ∀ z ∈ locs, free z.base) (hc : cells + 1 ≤ mc) (hs : slots + 6 ≤ ms) :
    W p l e R s m args below meth c H locs cells slots (vx_MQ below Qc XC args s mc ms free) (F0 m pc ls rest) := by
  intro T hT X
  have htr : e.platform.stackTraces = false := (show e.platform.stackTraces = l.stackTraces by rw [X.admits.platform]).trans hl
  have Y := vx_rebase X (R' := { frames := R.frames, locals := R.locals, cells := 1, slots := 6 }) (Nat.le_refl _) (Nat.le_refl _) hRcells hRslots
  obtain ⟨s', hA⟩ : ∃ z, z = (T.setVm s.vm).setFrames (.invoking m args :: below) := ⟨_, rfl⟩
  rw [← hA] at Y
  have hvm : s'.vm = s.vm := by rw [hA]; rfl
  have hhp : s'.heap = H := by rw [hA]; exact hT
  have hW0 : s.WarmedH s'.vm := by rw [hvm]; exact State.WarmedH.refl s
  have hat' : ∀ w ∈ vx_at0 own ic cls names, w.before args s' = true := fun w hw => vx_ot_at hW0 hvm.symm (hgood w (List.mem_cons_of_mem _ (List.mem_cons_of_mem _ hw))) (hat w hw)
  have hk' : (Cond.classLink own ik cls).before args s' = true := vx_ot_at hW0 hvm.symm (hgood _ List.mem_cons_self) hk
  have hini' : (Cond.initialized cls).before args s' = true := vx_ot_at hW0 hvm.symm (hgood _ (List.mem_cons_of_mem _ List.mem_cons_self)) hini
  have hU' : vx_Zq Bundle.tN "UNASSIGNED_STACK" Bundle.steD A s' s'.heap := by rw [hhp]; exact vx_Zq.moved hW0.alike (hU.kept hS.2.1)
  have hN' : vx_Zq Bundle.tN "SUPPRESSED_SENTINEL" Bundle.listD A s' s'.heap := by rw [hhp]; exact vx_Zq.moved hW0.alike (hN.kept hS.2.1)
  have h : ∀ w ∈ Bundle.ownAtoms0 own ic cls names, w.before args s' = true := vx_own hat' (vx_isRefq hU'.1) (vx_isRefq hN'.1) hU'.2.word hN'.2.word
  have hown' : s'.vm.findClass own = some m.cls := by rw [hvm]; exact hown
  have hins : (Cond.instantiable cls 6).before args s' = true := h _ (by simp [Bundle.ownAtoms0])
  obtain ⟨vm₁, cX, kX, hfX, hkX, -, -, X₁, st1⟩ := Y.newCold hexec (own := own) (C := cls) (index := ik) (n := 6) hown' hk' hins hini'
    (g := F0 m pc ls rest) rfl (by rw [hb]; exact d0) (Nat.le_refl _) (Nat.le_refl _)
  generalize hT1 : (T.setVm vm₁).pushCell { cls := cX, slots := kX.instanceTypes.map defaultValue, vm := .none } = T1 at X₁ st1
  have hcat : (Value.ref T.heap.size).category = 1 := rfl
  have hcellA : T1.heap[T.heap.size]? = some (freshCell cX kX) := by rw [← hT1]; exact State.heap_pushCell_size _ _
  have d3' : decode c.code (pc + 3) = .ok (.dup, 1) := by rw [hb]; exact d3
  obtain ⟨U, hsteps, hrun, hend, hW, hsame, ce, hce, hO⟩ := X₁.ctorThrow0 hexec htr (own := own) (cls := cls) (names := names) (ic := ic) hown' hcls hnames h (fun x hx => nomatch hx) hfX hkX hcellA (by rw [hhp, hT]; exact Nat.le_refl _)
    (g := { method := m, pc := pc + 4, locals := ls, stack := .ref T.heap.size :: .ref T.heap.size :: rest, locked := none }) rfl hsize rfl rfl (rest := rest) rfl
    (by rw [hb]; exact d4) (by rw [hb]; exact d7) hout hRframes (by simp only [List.map_cons, List.sum_cons, hcat]; omega) hlocks
  obtain ⟨f1, f2⟩ := vx_frame hsame
  rw [hhp] at f1 f2
  have hWs : s.WarmedH U.vm := State.WarmedH.trans hW0 hW
  have hcl : s.vm.findClass cls = some ce.cls := by
    have h9 := hO.cls
    rw [hvm] at h9
    exact h9
  have hall : s.sameButNew ({ U with vm := s.vm } : State) locs mc ms := by
    subst hA
    obtain ⟨e1, e2⟩ := hsame
    rw [State.setFrames_setFrames] at e1
    have h2 : (T.setVm s.vm).sameButNew ({ U with vm := s.vm } : State) [] (0 + 1) (0 + 6) := ⟨e1, e2⟩
    have h3 := X.same.trans h2
    rw [List.append_nil] at h3
    exact h3.mono hc hs
  refine ⟨U, ?_, .threw T.heap.size, hrun, hend, Or.inr ⟨T.heap.size, rfl, cls, ce, locs, hx U hWs.alike f1 (fun q hq => f2 q hq (fun z hz => nomatch hz)), hce, hO.vm, hcl, hWs, hall, hf⟩⟩
  refine st1 _ ?_
  show Steps p.tables e below (T1.setTop { method := m, pc := pc + 3, locals := ls, stack := .ref T.heap.size :: rest, locked := none }) _
  jvm_step X₁.here [X₁.here.top, hexec, d3', Value.category]
  exact hsteps
/-- 'throw new E("text")': new; dup; ldc; invokespecial; athrow -/
theorem vx_throwS {cc : ByteArray} {pc : Nat} (hexec : p.tables.exec = Jvm.exec) (hb : c.code = cc) (hl : l.stackTraces = false) {own cls text : String} {names : List String} {ik is ic mc ms sa : Nat} {A : Nat → Prop}
    (hown : s.vm.findClass own = some m.cls) (hcls : Bundle.fit cls = true) (hnames : ∀ n ∈ names, Bundle.fit n = true)
    (hk : (Cond.classLink own ik cls).before args s = true) (hini : (Cond.initialized cls).before args s = true) (hstr : vk_R own is text sa s) (hat : ∀ w ∈ vx_atS own ic cls names, w.before args s = true)
    (hgood : ∀ w ∈ Cond.classLink own ik cls :: Cond.initialized cls :: vx_atS own ic cls names, vx_ot w = true)
    (hU : vx_Zq Bundle.tN "UNASSIGNED_STACK" Bundle.steD A s s.heap) (hN : vx_Zq Bundle.tN "SUPPRESSED_SENTINEL" Bundle.listD A s s.heap) (hS : va_S A s.heap H locs) (hsize : ls.size = c.maxLocals)
    (d0 : decode cc pc = .ok (.new ik, 3)) (d3 : decode cc (pc + 3) = .ok (.dup, 1)) (d4 : decode cc (pc + 4) = .ok (.ldc is, 2)) (d6 : decode cc (pc + 6) = .ok (.invokespecial ic, 3)) (d9 : decode cc (pc + 9) = .ok (.athrow, 1))
    (hout : ∀ x ∈ c.exceptionTable.toList, covers x (pc + 9) = false)
    (hRframes : names.length + 3 < R.frames) (hRlocals : (rest.map fun v => v.category).sum + (13 * (names.length + 1) + 43) ≤ R.locals) (hRcells : cells + 1 ≤ R.cells) (hRslots : slots + 6 ≤ R.slots) (hlocks : meth.locks = false)
    (hx : ∀ t : State, s.vm.Alike t.vm → H.size ≤ t.heap.size → (∀ q : Nat, q < H.size → t.heap[q]? = H[q]?) → XC cls s t)
    (hf : ∀ z ∈ locs, free z.base) (hc : cells + 1 ≤ mc) (hs : slots + 6 ≤ ms) :
    W p l e R s m args below meth c H locs cells slots (vx_MQ below Qc XC args s mc ms free) (F0 m pc ls rest) := by
  intro T hT X
  have htr : e.platform.stackTraces = false := (show e.platform.stackTraces = l.stackTraces by rw [X.admits.platform]).trans hl
  have Y := vx_rebase X (R' := { frames := R.frames, locals := R.locals, cells := 1, slots := 6 }) (Nat.le_refl _) (Nat.le_refl _) hRcells hRslots
  obtain ⟨s', hA⟩ : ∃ z, z = (T.setVm s.vm).setFrames (.invoking m args :: below) := ⟨_, rfl⟩
  rw [← hA] at Y
  have hvm : s'.vm = s.vm := by rw [hA]; rfl
  have hhp : s'.heap = H := by rw [hA]; exact hT
  have hW0 : s.WarmedH s'.vm := by rw [hvm]; exact State.WarmedH.refl s
  have hat' : ∀ w ∈ vx_atS own ic cls names, w.before args s' = true := fun w hw => vx_ot_at hW0 hvm.symm (hgood w (List.mem_cons_of_mem _ (List.mem_cons_of_mem _ hw))) (hat w hw)
  have hk' : (Cond.classLink own ik cls).before args s' = true := vx_ot_at hW0 hvm.symm (hgood _ List.mem_cons_self) hk
  have hini' : (Cond.initialized cls).before args s' = true := vx_ot_at hW0 hvm.symm (hgood _ (List.mem_cons_of_mem _ List.mem_cons_self)) hini
  have hU' : vx_Zq Bundle.tN "UNASSIGNED_STACK" Bundle.steD A s' s'.heap := by rw [hhp]; exact vx_Zq.moved hW0.alike (hU.kept hS.2.1)
  have hN' : vx_Zq Bundle.tN "SUPPRESSED_SENTINEL" Bundle.listD A s' s'.heap := by rw [hhp]; exact vx_Zq.moved hW0.alike (hN.kept hS.2.1)
  have h : ∀ w ∈ Bundle.ownAtoms own ic cls names, w.before args s' = true := vx_own hat' (vx_isRefq hU'.1) (vx_isRefq hN'.1) hU'.2.word hN'.2.word
  have hown' : s'.vm.findClass own = some m.cls := by rw [hvm]; exact hown
  have hins : (Cond.instantiable cls 6).before args s' = true := h _ (by simp [Bundle.ownAtoms])
  obtain ⟨vm₁, cX, kX, hfX, hkX, -, -, X₁, st1⟩ := Y.newCold hexec (own := own) (C := cls) (index := ik) (n := 6) hown' hk' hins hini'
    (g := F0 m pc ls rest) rfl (by rw [hb]; exact d0) (Nat.le_refl _) (Nat.le_refl _)
  generalize hT1 : (T.setVm vm₁).pushCell { cls := cX, slots := kX.instanceTypes.map defaultValue, vm := .none } = T1 at X₁ st1
  have hcat : (Value.ref T.heap.size).category = 1 := rfl
  have hcellA : T1.heap[T.heap.size]? = some (freshCell cX kX) := by rw [← hT1]; exact State.heap_pushCell_size _ _
  have d3' : decode c.code (pc + 3) = .ok (.dup, 1) := by rw [hb]; exact d3
  have d4' : decode c.code (pc + 4) = .ok (.ldc is, 2) := by rw [hb]; exact d4
  have hstr' : vk_R own is text sa s' := vk_R.warm hW0 hstr
  obtain ⟨U, hsteps, hrun, hend, hW, hsame, ce, hce, hO⟩ := X₁.ctorThrowS hexec htr (own := own) (cls := cls) (names := names) (ic := ic) hown' hcls hnames h (fun x hx => nomatch hx) hfX hkX hcellA (by rw [hhp, hT]; exact Nat.le_refl _) (msg := .ref sa) rfl
    (g := { method := m, pc := pc + 6, locals := ls, stack := .ref sa :: .ref T.heap.size :: .ref T.heap.size :: rest, locked := none }) rfl hsize rfl rfl (rest := rest) rfl
    (by rw [hb]; exact d6) (by rw [hb]; exact d9) hout hRframes (by simp only [List.map_cons, List.sum_cons, hcat]; omega) hlocks
  obtain ⟨f1, f2⟩ := vx_frame hsame
  rw [hhp] at f1 f2
  have hWs : s.WarmedH U.vm := State.WarmedH.trans hW0 hW
  have hcl : s.vm.findClass cls = some ce.cls := by
    have h9 := hO.cls
    rw [hvm] at h9
    exact h9
  have hall : s.sameButNew ({ U with vm := s.vm } : State) locs mc ms := by
    subst hA
    obtain ⟨e1, e2⟩ := hsame
    rw [State.setFrames_setFrames] at e1
    have h2 : (T.setVm s.vm).sameButNew ({ U with vm := s.vm } : State) [] (0 + 1) (0 + 6) := ⟨e1, e2⟩
    have h3 := X.same.trans h2
    rw [List.append_nil] at h3
    exact h3.mono hc hs
  refine ⟨U, ?_, .threw T.heap.size, hrun, hend, Or.inr ⟨T.heap.size, rfl, cls, ce, locs, hx U hWs.alike f1 (fun q hq => f2 q hq (fun z hz => nomatch hz)), hce, hO.vm, hcl, hWs, hall, hf⟩⟩
  refine st1 _ ?_
  show Steps p.tables e below (T1.setTop { method := m, pc := pc + 3, locals := ls, stack := .ref T.heap.size :: rest, locked := none }) _
  jvm_step X₁.here [X₁.here.top, hexec, d3', Value.category]
  exact X₁.ldcString hexec (own := own) (text := text) (index := is) (a := sa) hown' hstr'.1 hstr'.2
    (g := { method := m, pc := pc + 4, locals := ls, stack := .ref T.heap.size :: .ref T.heap.size :: rest, locked := none }) rfl d4' _ hsteps
/-- 'throw new E("text")', the text by a wide index -/
theorem vx_throwSW {cc : ByteArray} {pc : Nat} (hexec : p.tables.exec = Jvm.exec) (hb : c.code = cc) (hl : l.stackTraces = false) {own cls text : String} {names : List String} {ik is ic mc ms sa : Nat} {A : Nat → Prop}
    (hown : s.vm.findClass own = some m.cls) (hcls : Bundle.fit cls = true) (hnames : ∀ n ∈ names, Bundle.fit n = true)
    (hk : (Cond.classLink own ik cls).before args s = true) (hini : (Cond.initialized cls).before args s = true) (hstr : vk_R own is text sa s) (hat : ∀ w ∈ vx_atS own ic cls names, w.before args s = true)
    (hgood : ∀ w ∈ Cond.classLink own ik cls :: Cond.initialized cls :: vx_atS own ic cls names, vx_ot w = true)
    (hU : vx_Zq Bundle.tN "UNASSIGNED_STACK" Bundle.steD A s s.heap) (hN : vx_Zq Bundle.tN "SUPPRESSED_SENTINEL" Bundle.listD A s s.heap) (hS : va_S A s.heap H locs) (hsize : ls.size = c.maxLocals)
    (d0 : decode cc pc = .ok (.new ik, 3)) (d3 : decode cc (pc + 3) = .ok (.dup, 1)) (d4 : decode cc (pc + 4) = .ok (.ldc_w is, 3)) (d7 : decode cc (pc + 7) = .ok (.invokespecial ic, 3)) (d10 : decode cc (pc + 10) = .ok (.athrow, 1))
    (hout : ∀ x ∈ c.exceptionTable.toList, covers x (pc + 10) = false)
    (hRframes : names.length + 3 < R.frames) (hRlocals : (rest.map fun v => v.category).sum + (13 * (names.length + 1) + 43) ≤ R.locals) (hRcells : cells + 1 ≤ R.cells) (hRslots : slots + 6 ≤ R.slots) (hlocks : meth.locks = false)
    (hx : ∀ t : State, s.vm.Alike t.vm → H.size ≤ t.heap.size → (∀ q : Nat, q < H.size → t.heap[q]? = H[q]?) → XC cls s t)
    (hf : ∀ z ∈ locs, free z.base) (hc : cells + 1 ≤ mc) (hs : slots + 6 ≤ ms) :
    W p l e R s m args below meth c H locs cells slots (vx_MQ below Qc XC args s mc ms free) (F0 m pc ls rest) := by
  intro T hT X
  have htr : e.platform.stackTraces = false := (show e.platform.stackTraces = l.stackTraces by rw [X.admits.platform]).trans hl
  have Y := vx_rebase X (R' := { frames := R.frames, locals := R.locals, cells := 1, slots := 6 }) (Nat.le_refl _) (Nat.le_refl _) hRcells hRslots
  obtain ⟨s', hA⟩ : ∃ z, z = (T.setVm s.vm).setFrames (.invoking m args :: below) := ⟨_, rfl⟩
  rw [← hA] at Y
  have hvm : s'.vm = s.vm := by rw [hA]; rfl
  have hhp : s'.heap = H := by rw [hA]; exact hT
  have hW0 : s.WarmedH s'.vm := by rw [hvm]; exact State.WarmedH.refl s
  have hat' : ∀ w ∈ vx_atS own ic cls names, w.before args s' = true := fun w hw => vx_ot_at hW0 hvm.symm (hgood w (List.mem_cons_of_mem _ (List.mem_cons_of_mem _ hw))) (hat w hw)
  have hk' : (Cond.classLink own ik cls).before args s' = true := vx_ot_at hW0 hvm.symm (hgood _ List.mem_cons_self) hk
  have hini' : (Cond.initialized cls).before args s' = true := vx_ot_at hW0 hvm.symm (hgood _ (List.mem_cons_of_mem _ List.mem_cons_self)) hini
  have hU' : vx_Zq Bundle.tN "UNASSIGNED_STACK" Bundle.steD A s' s'.heap := by rw [hhp]; exact vx_Zq.moved hW0.alike (hU.kept hS.2.1)
  have hN' : vx_Zq Bundle.tN "SUPPRESSED_SENTINEL" Bundle.listD A s' s'.heap := by rw [hhp]; exact vx_Zq.moved hW0.alike (hN.kept hS.2.1)
  have h : ∀ w ∈ Bundle.ownAtoms own ic cls names, w.before args s' = true := vx_own hat' (vx_isRefq hU'.1) (vx_isRefq hN'.1) hU'.2.word hN'.2.word
  have hown' : s'.vm.findClass own = some m.cls := by rw [hvm]; exact hown
  have hins : (Cond.instantiable cls 6).before args s' = true := h _ (by simp [Bundle.ownAtoms])
  obtain ⟨vm₁, cX, kX, hfX, hkX, -, -, X₁, st1⟩ := Y.newCold hexec (own := own) (C := cls) (index := ik) (n := 6) hown' hk' hins hini'
    (g := F0 m pc ls rest) rfl (by rw [hb]; exact d0) (Nat.le_refl _) (Nat.le_refl _)
  generalize hT1 : (T.setVm vm₁).pushCell { cls := cX, slots := kX.instanceTypes.map defaultValue, vm := .none } = T1 at X₁ st1
  have hcat : (Value.ref T.heap.size).category = 1 := rfl
  have hcellA : T1.heap[T.heap.size]? = some (freshCell cX kX) := by rw [← hT1]; exact State.heap_pushCell_size _ _
  have d3' : decode c.code (pc + 3) = .ok (.dup, 1) := by rw [hb]; exact d3
  have d4' : decode c.code (pc + 4) = .ok (.ldc_w is, 3) := by rw [hb]; exact d4
  have hstr' : vk_R own is text sa s' := vk_R.warm hW0 hstr
  obtain ⟨U, hsteps, hrun, hend, hW, hsame, ce, hce, hO⟩ := X₁.ctorThrowS hexec htr (own := own) (cls := cls) (names := names) (ic := ic) hown' hcls hnames h (fun x hx => nomatch hx) hfX hkX hcellA (by rw [hhp, hT]; exact Nat.le_refl _) (msg := .ref sa) rfl
    (g := { method := m, pc := pc + 7, locals := ls, stack := .ref sa :: .ref T.heap.size :: .ref T.heap.size :: rest, locked := none }) rfl hsize rfl rfl (rest := rest) rfl
    (by rw [hb]; exact d7) (by rw [hb]; exact d10) hout hRframes (by simp only [List.map_cons, List.sum_cons, hcat]; omega) hlocks
  obtain ⟨f1, f2⟩ := vx_frame hsame
  rw [hhp] at f1 f2
  have hWs : s.WarmedH U.vm := State.WarmedH.trans hW0 hW
  have hcl : s.vm.findClass cls = some ce.cls := by
    have h9 := hO.cls
    rw [hvm] at h9
    exact h9
  have hall : s.sameButNew ({ U with vm := s.vm } : State) locs mc ms := by
    subst hA
    obtain ⟨e1, e2⟩ := hsame
    rw [State.setFrames_setFrames] at e1
    have h2 : (T.setVm s.vm).sameButNew ({ U with vm := s.vm } : State) [] (0 + 1) (0 + 6) := ⟨e1, e2⟩
    have h3 := X.same.trans h2
    rw [List.append_nil] at h3
    exact h3.mono hc hs
  refine ⟨U, ?_, .threw T.heap.size, hrun, hend, Or.inr ⟨T.heap.size, rfl, cls, ce, locs, hx U hWs.alike f1 (fun q hq => f2 q hq (fun z hz => nomatch hz)), hce, hO.vm, hcl, hWs, hall, hf⟩⟩
  refine st1 _ ?_
  show Steps p.tables e below (T1.setTop { method := m, pc := pc + 3, locals := ls, stack := .ref T.heap.size :: rest, locked := none }) _
  jvm_step X₁.here [X₁.here.top, hexec, d3', Value.category]
  exact X₁.ldcStringW hexec (own := own) (text := text) (index := is) (a := sa) hown' hstr'.1 hstr'.2
    (g := { method := m, pc := pc + 4, locals := ls, stack := .ref T.heap.size :: .ref T.heap.size :: rest, locked := none }) rfl d4' _ hsteps
end Ends
section Bodies
variable {l : Launch}
theorem vx_ofW {y : MethodName} {ws ws' : List Cond} {rm : Room} {Pc : Array Value → State → Prop} {Qc : Array Value → State → Outcome → State → Prop} {XC : String → State → State → Prop} {mc ms : Nat} {free : Addr → Prop} {cc : ByteArray} {maxL : Nat} {ret : Option FieldType}
    (hy : plainName y.cls = true) (hw : ws = Cond.code y cc maxL ret :: ws')
    (body : ∀ p e s m args below meth c s₁, BodyLoose p l y (headSpec ws rm) cc maxL ret e s m args below meth c s₁ → c.maxLocals = maxL → (∀ x ∈ c.exceptionTable.toList, False) → Pc args s →
      W p l e (headSpec ws rm).room s m args below meth c s.heap [] 0 0 (vx_MQ below Qc XC args s mc ms free) (entryFrame m args maxL)) : vx_Met l y ws rm Pc Qc XC mc ms free := by
  refine MetFree.of_bodyS (code := cc) (maxLocals := maxL) (ret := ret) hy ?_ ?_
  · intro args s m h hn
    obtain ⟨meth, c, h1, h2, h3, h4, h5, h6, -, -⟩ := Cond.code_spec hn (atoms_spec (ws := ws) h _ (by rw [hw]; exact List.mem_cons_self))
    exact ⟨meth, c, h1, h2, h3, h4, h5, h6⟩
  · intro p e s m args below meth c s₁ B hml hP _
    have hh0 : s₁.heap = s.heap := by rw [B.state]; rfl
    have ht : ∀ x ∈ c.exceptionTable.toList, False := by
      obtain ⟨meth9, c9, h1, h2, -, -, -, -, h7, -⟩ := Cond.code_spec B.named (atoms_spec (ws := ws) B.pre _ (by rw [hw]; exact List.mem_cons_self))
      cases Option.some.inj (h1.symm.trans B.method)
      cases Option.some.inj (h2.symm.trans (Stand.of_body B).code)
      intro x hx
      rw [Array.isEmpty_iff.mp h7] at hx
      cases hx
    obtain ⟨t, a1, o, b1, b2, b3⟩ := body p e s m args below meth c s₁ B hml ht hP s₁ hh0 (Stand.of_body B)
    exact ⟨t, o, a1, b1, b2, b3⟩
/-- the table of a body with handlers -/
theorem vx_table {p : Program} {x y : MethodName} {S : Spec} {cc bytes : ByteArray} {maxL maxL' : Nat} {ret ret' : Option FieldType} {e : Env} {s s₁ : State} {m : MethodId} {args : Array Value} {below : List Frame} {meth : Method} {c : Code} {hh : List (Nat × Nat × Nat × Nat)}
    (B : BodyLoose p l y S cc maxL ret e s m args below meth c s₁) (h : (Cond.codeWith y bytes maxL' ret' hh).before args s = true) : c.exceptionTable.toList = tableOf hh := by
  obtain ⟨m9, meth9, c9, hn9, h1, h2, -, -, h6, -⟩ := Cond.codeWith_spec h
  cases Option.some.inj (hn9.symm.trans B.named)
  cases Option.some.inj (h1.symm.trans B.method)
  cases Option.some.inj (h2.symm.trans (Stand.of_body B).code)
  rw [← h6, table_eq]
end Bodies
end VXA
/-! ===== END ===== -/
/-! ===== BEGIN a static call of a method with an exception table ===== -/
section VXS
variable {p : Program} {l : Launch} {e : Env} {R : Room} {s : State} {m : MethodId} {args : Array Value} {below : List Frame} {meth : Method} {c : Code} {T : State} {H : Heap} {locs : List Loc} {cells slots : Nat}
abbrev vx_CSW (R : Room) (s : State) (args : Array Value) (own : String) (index : Nat) (y : MethodName) (bytes : ByteArray) (maxL : Nat) (ret : Option FieldType) (hh : List (Nat × Nat × Nat × Nat)) (ws : List Cond) (rm : Room) (mc ms n : Nat) : Prop :=
  (rm.cells = mc ∧ rm.slots = ms ∧ rm.frames + 1 ≤ R.frames ∧ 8 + (maxL + 11) + rm.locals ≤ R.locals ∧ (∀ w ∈ ws, ∀ (a' : Array Value) (U : State), s.WarmedH U.vm → w.before a' U = true) ∧ Cond.codeWith y bytes maxL ret hh ∈ ws) ∧
  (Cond.codeWith y bytes maxL ret hh).before args s = true ∧ (Cond.initialized y.cls).before args s = true ∧ (y.cls ≠ "java/lang/invoke/MethodHandle" ∧ y.cls ≠ "java/lang/invoke/VarHandle") ∧
  (∀ sig, parseMethodDescriptor y.desc = some sig → n = sig.parameters.length) ∧ (Cond.methodLink own index y).before args s = true ∧ (Cond.static y).before args s = true
theorem vx_cwSW {own : String} {index maxL mc ms : Nat} {y : MethodName} {bytes : ByteArray} {ret : Option FieldType} {hh : List (Nat × Nat × Nat × Nat)} {Ts ws ws' : List Cond} {rm : Room} (n : Nat) (ht : ∀ w ∈ Ts, w.before args s = true) (hT : GoodIn Ts (va_wsS own index y ws)) (hw : ws = Cond.codeWith y bytes maxL ret hh :: ws') (hrc : rm.cells = mc) (hrs : rm.slots = ms)
    (hd : y.cls ≠ "java/lang/invoke/MethodHandle" ∧ y.cls ≠ "java/lang/invoke/VarHandle" ∧ (parseMethodDescriptor y.desc).map (fun d => d.parameters.length) = some n) (hR : rm.frames + 1 ≤ R.frames ∧ 8 + (maxL + 11) + rm.locals ≤ R.locals) :
    vx_CSW R s args own index y bytes maxL ret hh ws rm mc ms n := by
  have ok : ∀ w ∈ va_wsS own index y ws, w.before args s = true := fun w h => ht w (hT w h).1
  have hG : GoodIn Ts ws := fun w h => hT w (by unfold va_wsS; exact List.mem_append_right _ h)
  have hc : Cond.codeWith y bytes maxL ret hh ∈ ws := by rw [hw]; exact List.mem_cons_self
  refine ⟨⟨hrc, hrs, hR.1, hR.2, pay_in ht hG, hc⟩, ht _ (hG _ hc).1, ok _ (by simp [va_wsS]), ⟨hd.1, hd.2.1⟩, fun sig h => ?_, ok _ (by simp [va_wsS]), ok _ (by simp [va_wsS])⟩
  have h2 := hd.2.2
  rw [h] at h2
  exact (Option.some.inj h2).symm
theorem vx_callSW (X : Stand p l e R s m args below meth c T locs cells slots) (hexec : p.tables.exec = Jvm.exec) {own : String} {index : Nat} {y : MethodName} {bytes : ByteArray} {maxL : Nat} {ret : Option FieldType} {hh : List (Nat × Nat × Nat × Nat)}
    (hown : s.vm.findClass own = some m.cls) (hlink : (Cond.methodLink own index y).before args s = true) (hstat : (Cond.static y).before args s = true) (hinit : (Cond.initialized y.cls).before args s = true)
    (hcode : (Cond.codeWith y bytes maxL ret hh).before args s = true) (hy : y.cls ≠ "java/lang/invoke/MethodHandle" ∧ y.cls ≠ "java/lang/invoke/VarHandle")
    {W9 : Nat} {Pre : Pt → Array Value → Prop} {Post : Pt → Array Value → Option Value → Pt → Prop} (hK : Back l R p e below s args y 3 W9 Pre Post)
    {g : JFrame} (hg : g.method = m) (hsize : g.locals.size = c.maxLocals) {argsL rest : List Value} (hlen : ∀ sig, parseMethodDescriptor y.desc = some sig → argsL.length = sig.parameters.length)
    (hstack : g.stack = argsL.reverse ++ rest) (hW : 2 * g.monitorRoom + (rest.map fun v => v.category).sum ≤ W9) (hdg : decode c.code g.pc = .ok (.invokestatic index, 3))
    (hpre : ∀ vm₁, s.WarmedH vm₁ → Pre ⟨T.setVm vm₁, locs, cells, slots⟩ argsL.toArray) :
    ∃ (v : Option Value) (vm₁ : Vm) (B : Pt), s.WarmedH vm₁ ∧ Stand p l e R s m args below meth c B.U B.locs B.cells B.slots ∧ Post ⟨T.setVm vm₁, locs, cells, slots⟩ argsL.toArray v B ∧
      ∀ target, Steps p.tables e below (B.U.setTop { g with pc := g.pc + 3, stack := v.toList ++ rest }) target → Steps p.tables e below (T.setTop g) target := by
  obtain ⟨mk, methM, cM, hnamed, hmethM, -, -, -, -, -, -, hsigM⟩ := Cond.codeWith_spec hcode
  have hstatic : methM.isStatic = true := Cond.static_spec hnamed hmethM hstat
  obtain ⟨kP, hkP, -⟩ := className_of_methodNamed hnamed
  have hinitP : kP.init = .initialized := Cond.initialized_spec (findClass_of_methodNamed hnamed) hkP hinit
  obtain ⟨vm₁, X₁, hstep₁⟩ := X.invokestatic hexec hown hlink hnamed hmethM hstatic hkP hinitP hy (g := g) hg (argsL := argsL) (rest := rest) (hlen _ hsigM) hstack hdg
  obtain ⟨v, B, X', hpost, hsteps⟩ := hK m meth c ⟨T.setVm vm₁, locs, cells, slots⟩ { g with stack := rest } (.invokestatic index) mk argsL.toArray X₁ hg hsize hdg hW (X₁.named hnamed) (hpre vm₁ X₁.warmed)
  exact ⟨v, vm₁, B, X₁.warmed, X', hpost, fun target h => hstep₁ _ fun acts => by rw [doInvoke_state]; exact hsteps.trans h⟩
theorem vx_runSW {y : MethodName} {bytes cc : ByteArray} {maxL nL mc ms n index : Nat} {ret : Option FieldType} {hh : List (Nat × Nat × Nat × Nat)} {ws : List Cond} {rm : Room} {Pc : Array Value → State → Prop} {Qc : Array Value → State → Outcome → State → Prop} {free : Addr → Prop} {Ts : List Cond} {own : String} {As rest : List Value} {g : JFrame}
    (S : CallFix p m c cc nL s args Ts own) (hM : Met l y ws rm Pc Qc mc ms free) (cw : vx_CSW R s args own index y bytes maxL ret hh ws rm mc ms n) (hp : PreS s H Pc As)
    (hg : g.method = m) (hn : As.length = n) (hsize : g.locals.size = nL) (hstack : g.stack = As.reverse ++ rest) (hW : 2 * g.monitorRoom + (rest.map fun v => v.category).sum ≤ 8) (hdg : decode cc g.pc = .ok (.invokestatic index, 3)) (hf : cells + mc ≤ R.cells ∧ slots + ms ≤ R.slots) :
    va_Run p l e R s m args below meth c H locs cells slots mc ms g rest (Qc As.toArray) (free) := by
  obtain ⟨⟨hrc, hrs, hfr, hlo, hws, hcw⟩, hcode, hini, hy, hlen, hl, hstt⟩ := cw
  have hK : Back l R p e below s args y 3 8 (PreOf R mc ms Pc) (PostOf Qc mc ms free) := va_backW (hh := hh) (bytes := bytes) (maxL := maxL) (ret := ret) hM hp.1 hrc hrs hfr hlo hws hcw (fun a' U hW => word_at hW (Or.inl (by first | rfl | simp [Cond.onTables, Cond.keeps, Cond.steady])) hini)
  obtain ⟨hx, hb, hml, ho, -⟩ := S
  intro T hT X
  obtain ⟨v, vm₁, ⟨U', l2, c2, s2⟩, hW₁, X', ⟨g', mk, t, L, e1, e2, hq, h1, hL, h2, h3⟩, st⟩ := vx_callSW X hx (hh := hh) (bytes := bytes) (maxL := maxL) (ret := ret) ho hl hstt hini hcode hy hK hg (hsize.trans hml.symm) (argsL := As) (rest := rest) (fun sig h => hn.trans (hlen sig h)) hstack hW (by rw [hb]; exact hdg)
    (fun vm₁ hW₁ => ⟨hf.1, hf.2, hp.2 (T.setVm vm₁) hT hW₁⟩)
  dsimp only [Pt.U, Pt.locs, Pt.cells, Pt.slots] at X' e1 e2 h1 h2 h3 st
  subst h1; subst h2; subst h3
  exact ⟨v, (T.setVm vm₁).calling g' mk As.toArray, t, U', L, hT, X', hL, e1, e2, hq, st⟩
/-- not caught here, past rows that name other classes: it goes on to the caller -/
theorem vx_outP {p : Program} {l : Launch} {e : Env} {R : Room} {s : State} {m : MethodId} {args : Array Value} {below : List Frame} {meth : Method} {c : Code} {H : Heap} {locs : List Loc} {cells slots : Nat} {free : Addr → Prop} {ls : Array Slot} {rest : List Value} {Qc : Array Value → State → Outcome → State → Prop} {XC : String → State → State → Prop}
    {pc : Nat} {own E : String} {ce : Cell} {q : Addr} {mc ms : Nat} (hown : s.vm.findClass own = some m.cls) (hlocks : meth.locks = false)
    (hpass : ∀ z ∈ c.exceptionTable.toList, covers z pc = false ∨ (z.catchType ≠ 0 ∧ ∃ nm : String, (Cond.classLink own z.catchType nm).before args s = true ∧ va_Nc E nm s)) (hcell : H[q]? = some ce) (hv : ce.vm = .none) (hcl : s.vm.findClass E = some ce.cls)
    (hx : ∀ t : State, t.heap = H → s.vm.Alike t.vm → XC E s t) (hf : ∀ z ∈ locs, free z.base) (hc : cells ≤ mc) (hs : slots ≤ ms) :
    vx_W p l e R s m args below meth c H locs cells slots (vx_MQ below Qc XC args s mc ms free) (F0 m pc ls rest) q := by
  intro T hT X
  have hpl : e.platform.magicAccessors = ({} : Platform).magicAccessors := by rw [X.admits.platform]
  obtain ⟨vm', hW', X', st⟩ := X.outThrough hlocks q (g := F0 m pc ls rest) rfl rfl rfl (cell := ce) (by rw [hT]; exact hcell) (by rw [hv]; rfl)
    (by obtain ⟨k9, h9, -⟩ := Vm.findClass_spec hcl; exact ⟨k9, h9⟩) (fun z hz => by
      rcases hpass z hz with h | ⟨hz0, nm, hl1, hn1⟩
      · exact Or.inl h
      · obtain ⟨c6, hc6, hcl6⟩ := Cond.classLink_spec hown hl1 e.platform hpl
        obtain ⟨a8, b8, h1, h2, h3⟩ := hn1
        cases Option.some.inj (h1.symm.trans hcl)
        cases Option.some.inj (h2.symm.trans hc6)
        exact Or.inr ⟨hz0, _, hcl6, h3⟩)
  obtain ⟨g₀, hfr⟩ := X'.frames_eq
  have hcell9 : ((T.setVm vm').setFrames (.throwing q :: below)).heap[q]? = some ce := by
    show T.heap[q]? = some ce
    rw [hT]; exact hcell
  have hend : Ended ((T.setVm vm').setFrames (.throwing q :: below)) below (.threw q) := State.frames_setFrames _ (State.cur_lt_of_frames hfr)
  refine ⟨(T.setVm vm').setFrames (.throwing q :: below), ?_, .threw q, X'.here.running, hend, Or.inr ⟨q, rfl, E, ce, locs, hx _ hT (X'.ends _).1.alike, hcell9, hv, hcl, (X'.ends _).1, (X'.ends _).2.mono hc hs, hf⟩⟩
  rw [X.pushThrowing_eq]
  exact st
/-- a thing of a world lies in the heap -/
theorem vx_lt {D : va_G} {cl : List vw_C} {ws : va_W} {H1 : Heap} (h : va_P D cl ws H1) {k : Nat} {q : Nat × va_E} (hk : ws[k]? = some q) : q.1 < H1.size := (h k q hk).lt
end VXS
/-! ===== END ===== -/
/-! ===== BEGIN methods with a table of their own: called by a name, returning or throwing ===== -/
section VXH
/-! vx_backW, vx_callVX, vx_callSX, vx_callVW, vx_runVW, vx_runVX, vx_runSX, vx_ofWH follow the same proofs as their sisters above (Free/Laws.lean, Shelf42/LK1.lean); vx_outP calls Shelf42/NT130.lean (outThrough). -/
section
variable {l : Launch} {R : Room} {p : Program} {e : Env} {below : List Frame} {s : State} {sargs : Array Value} {y : MethodName} {len W9 : Nat}
theorem vx_backW {ws : List Cond} {rm : Room} {Pc : Array Value → State → Prop} {Qc : Array Value → State → Outcome → State → Prop} {XC : String → State → State → Prop} {mc ms : Nat} {free : Addr → Prop} {bytes : ByteArray} {maxL : Nat} {ret : Option FieldType} {hh : List (Nat × Nat × Nat × Nat)}
    (hM : vx_Met l y ws rm Pc Qc XC mc ms free) (hblind : FrameBlind Pc) (hrc : rm.cells = mc) (hrs : rm.slots = ms)
    (hframes : rm.frames + 1 ≤ R.frames) (hlocals : W9 + (maxL + 11) + rm.locals ≤ R.locals)
    (hws : ∀ w ∈ ws, ∀ a' U, s.WarmedH U.vm → w.before a' U = true) (hcode : Cond.codeWith y bytes maxL ret hh ∈ ws) (hinit : ∀ a' U, s.WarmedH U.vm → (Cond.initialized y.cls).before a' U = true) :
    vx_Back l R p e below s sargs y len W9 (PreOf R mc ms Pc) (PostOf Qc mc ms free) (vx_Post XC mc ms free) := by
  intro m meth c A g ig mk a X hg hsize hdg hW hn hp
  have h1 : (headSpec ws rm).pre.before a A.U = true := atoms_intro fun w hw => hws w hw _ _ X.warmed
  have h2 : (Cond.codeWith y bytes maxL ret hh).before a A.U = true := hws _ hcode _ _ X.warmed
  have h3 : (Cond.initialized y.cls).before a A.U = true := hinit _ _ X.warmed
  have h4 : A.cells + (headSpec ws rm).room.cells ≤ R.cells := by rw [show (headSpec ws rm).room.cells = mc from hrc]; exact hp.1
  have h5 : A.slots + (headSpec ws rm).room.slots ≤ R.slots := by rw [show (headSpec ws rm).room.slots = ms from hrs]; exact hp.2.1
  have hPc : Pc a (A.U.calling g mk a) := hblind _ _ _ _ hp.2.2
  obtain ⟨U, Ls, c0, s0⟩ := A
  dsimp only [Pt.U, Pt.locs, Pt.cells, Pt.slots] at h1 h2 h3 h4 h5 X hn hPc ⊢
  obtain ⟨m9, methY, cY, hn9, hmY, hcY, -, hlY, -⟩ := Cond.codeWith_spec h2
  cases Option.some.inj (hn9.symm.trans hn)
  obtain ⟨kY, hkY, -⟩ := className_of_methodNamed hn
  have hinitY : kY.init = .initialized := Cond.initialized_spec (findClass_of_methodNamed hn) hkY h3
  have h : At U g.method c below := by rw [hg]; exact X.here
  have hlocals9 : W9 + (maxL + 11) + (headSpec ws rm).room.locals ≤ R.locals := hlocals
  have happ : (headSpec ws rm).appliesLoose y e.platform (U.calling g mk a) = true :=
    Spec.appliesLoose_calling (g := g) h hdg hn hkY hinitY
      (X.room_calling (g := g) (R' := (headSpec ws rm).room) hsize hmY hcY hframes (by rw [hlY]; omega) h4 h5) h1
  obtain ⟨mid, hmid⟩ := h.above
  have hfr : (U.setTop g).frames = (.java g :: mid) ++ below := by rw [State.frames_setTop' g h.top, hmid]; rfl
  obtain ⟨o, s₂, hsteps, -, hend, hq⟩ := Steps.callFree hM p X.admits X.cas X.clock (acts := []) hfr happ hPc trivial
  have hq' : vx_Q Qc XC mc ms free a (U.calling g mk a) o s₂ := hq
  rw [State.frames_setTop' g h.top] at hend
  obtain ⟨g₀, hg0⟩ := Option.isSome_iff_exists.mp h.top
  obtain ⟨r, hr⟩ := State.topJava?_eq_some.mp hg0
  have hr' : (({ U with heap := s₂.heap, slotsUsed := s₂.slotsUsed } : State).setVm s₂.vm).frames = .java g₀ :: r := hr
  rcases hq' with ⟨hqc, L, hfe, hL⟩ | ⟨q, rfl, E, ce, L, hx, hce, hcv, hcl, hW₂, hsm, hL⟩
  · obtain ⟨⟨v, rfl⟩, hW₂, e2, q2, q3, q4, q5, q6⟩ := id hfe
    have e3 : s₂ = ({ (U.calling g mk a).setFrames s₂.frames with heap := s₂.heap, slotsUsed := s₂.slotsUsed } : State).setVm s₂.vm := by
      have : s₂ = ({ s₂ with vm := (U.calling g mk a).vm } : State).setVm s₂.vm := rfl
      rw [e2] at this
      exact this
    obtain ⟨c₂, i₂, len₂, hc₂, hd₂, hf₂⟩ := hend
    have hW' : U.WarmedH s₂.vm := hW₂
    have hcc : c₂ = c := by
      have h1 : s₂.code? g.method = U.code? g.method := by
        rw [State.code?_eq, State.code?_eq, hW'.alike.method?]
      exact Option.some.inj (hc₂.symm.trans (h1.trans h.code))
    subst hcc
    have hlen : len₂ = len := by rw [hdg] at hd₂; cases hd₂; rfl
    subst hlen
    have hs₂ : s₂ = (({ U with heap := s₂.heap, slotsUsed := s₂.slotsUsed } : State).setVm s₂.vm).setTop { g with pc := g.pc + len₂, stack := v.toList ++ g.stack } := by
      refine e3.trans ?_
      rw [hf₂, State.calling_eq h.top, State.setFrames_setFrames, State.setTop_of_frames _ hr', hr]
      rfl
    have hsame : U.sameButNew ({ U with heap := s₂.heap, slotsUsed := s₂.slotsUsed } : State) L mc ms := by
      refine ⟨?_, q2, q3, q4, q5, q6⟩
      obtain ⟨t, ht, -⟩ := State.frames_cons hr
      show ({ U with heap := s₂.heap, slotsUsed := s₂.slotsUsed } : State) = { U.setFrames U.frames with heap := s₂.heap, slotsUsed := s₂.slotsUsed }
      rw [State.setFrames_self ht]
    subst hg
    refine Or.inl ⟨v, ⟨(({ U with heap := s₂.heap, slotsUsed := s₂.slotsUsed } : State).setVm s₂.vm), Ls ++ L, c0 + mc, s0 + ms⟩,
      ⟨X.admits, X.cas, X.clock, X.frames, X.room, X.hears, X.method, X.code, (X.here.setHeapUsed s₂.heap s₂.slotsUsed).setVm hW'.alike, X.tail, State.WarmedH.trans X.warmed hW', X.limits, X.bytes, X.same.trans (hsame.setVm s.vm)⟩,
      ⟨g, mk, s₂, L, rfl, rfl, hqc, rfl, hL, rfl, rfl⟩, ?_⟩
    show Steps p.tables e below _ ((({ U with heap := s₂.heap, slotsUsed := s₂.slotsUsed } : State).setVm s₂.vm).setTop { g with pc := g.pc + len₂, stack := v.toList ++ g.stack })
    rw [← hs₂]
    exact hsteps
  · obtain ⟨e2, q2, q3, q4, q5, q6⟩ := id hsm
    have e3 : s₂ = ({ (U.calling g mk a).setFrames s₂.frames with heap := s₂.heap, slotsUsed := s₂.slotsUsed } : State).setVm s₂.vm := by
      have : s₂ = ({ s₂ with vm := (U.calling g mk a).vm } : State).setVm s₂.vm := rfl
      rw [e2] at this
      exact this
    have hf₂ : s₂.frames = .throwing q :: .java g :: U.frames.tail := hend
    have hW' : U.WarmedH s₂.vm := hW₂
    have hs₂ : s₂ = ((({ U with heap := s₂.heap, slotsUsed := s₂.slotsUsed } : State).setVm s₂.vm).setTop g).pushFrame (.throwing q) := by
      refine e3.trans ?_
      rw [hf₂, State.calling_eq h.top, State.setFrames_setFrames, State.pushFrame, State.frames_setTop _ hr', State.setTop_of_frames _ hr', State.setFrames_setFrames, hr]
      rfl
    have hsame : U.sameButNew ({ U with heap := s₂.heap, slotsUsed := s₂.slotsUsed } : State) L mc ms := by
      refine ⟨?_, q2, q3, q4, q5, q6⟩
      obtain ⟨t, ht, -⟩ := State.frames_cons hr
      show ({ U with heap := s₂.heap, slotsUsed := s₂.slotsUsed } : State) = { U.setFrames U.frames with heap := s₂.heap, slotsUsed := s₂.slotsUsed }
      rw [State.setFrames_self ht]
    subst hg
    refine Or.inr ⟨q, ⟨(({ U with heap := s₂.heap, slotsUsed := s₂.slotsUsed } : State).setVm s₂.vm), Ls ++ L, c0 + mc, s0 + ms⟩,
      ⟨X.admits, X.cas, X.clock, X.frames, X.room, X.hears, X.method, X.code, (X.here.setHeapUsed s₂.heap s₂.slotsUsed).setVm hW'.alike, X.tail, State.WarmedH.trans X.warmed hW', X.limits, X.bytes, X.same.trans (hsame.setVm s.vm)⟩,
      ⟨g, mk, s₂, L, E, ce, rfl, rfl, hx, hce, hcv, hcl, rfl, hL, rfl, rfl⟩, ?_⟩
    show Steps p.tables e below _ (((({ U with heap := s₂.heap, slotsUsed := s₂.slotsUsed } : State).setVm s₂.vm).setTop g).pushFrame (.throwing q))
    rw [← hs₂]
    exact hsteps
end
variable {p : Program} {l : Launch} {e : Env} {R : Room} {s : State} {m : MethodId} {args : Array Value} {below : List Frame} {meth : Method} {c : Code} {T : State} {H : Heap} {locs : List Loc} {cells slots : Nat}
theorem vx_callVX (X : Stand p l e R s m args below meth c T locs cells slots) (hexec : p.tables.exec = Jvm.exec) {own C : String} {index : Nat} {y : MethodName} {bytes : ByteArray} {maxL : Nat} {ret : Option FieldType} {hh : List (Nat × Nat × Nat × Nat)}
    (hown : s.vm.findClass own = some m.cls) (hlink : (Cond.methodLink own index y).before args s = true) (hinst : (Cond.instanceMethod y).before args s = true) (hsel : (Cond.selects C y y).before args s = true)
    (hcode : (Cond.codeWith y bytes maxL ret hh).before args s = true) (hy : y.cls ≠ "java/lang/invoke/MethodHandle" ∧ y.cls ≠ "java/lang/invoke/VarHandle")
    {W9 : Nat} {Pre : Pt → Array Value → Prop} {Post : Pt → Array Value → Option Value → Pt → Prop} {PostX : Pt → Array Value → Addr → Pt → Prop} (hK : vx_Back l R p e below s args y 3 W9 Pre Post PostX)
    {b : Addr} {cellB : Cell} (hcell : T.heap[b]? = some cellB) (hobj : cellB.vm.isStatics = false) (hcls : s.vm.findClass C = some cellB.cls)
    {g : JFrame} (hg : g.method = m) (hsize : g.locals.size = c.maxLocals) {argsL rest : List Value} (hlen : ∀ sig, parseMethodDescriptor y.desc = some sig → argsL.length = sig.parameters.length)
    (hstack : g.stack = argsL.reverse ++ .ref b :: rest) (hW : 2 * g.monitorRoom + (rest.map fun v => v.category).sum ≤ W9) (hdg : decode c.code g.pc = .ok (.invokevirtual index, 3))
    (hpre : ∀ vm₁, s.WarmedH vm₁ → Pre ⟨T.setVm vm₁, locs, cells, slots⟩ (Value.ref b :: argsL).toArray) :
    (∃ (v : Option Value) (vm₁ : Vm) (B : Pt), s.WarmedH vm₁ ∧ Stand p l e R s m args below meth c B.U B.locs B.cells B.slots ∧ Post ⟨T.setVm vm₁, locs, cells, slots⟩ (Value.ref b :: argsL).toArray v B ∧
      ∀ target, Steps p.tables e below (B.U.setTop { g with pc := g.pc + 3, stack := v.toList ++ rest }) target → Steps p.tables e below (T.setTop g) target) ∨
    (∃ (q : Addr) (vm₁ : Vm) (B : Pt), s.WarmedH vm₁ ∧ Stand p l e R s m args below meth c B.U B.locs B.cells B.slots ∧ PostX ⟨T.setVm vm₁, locs, cells, slots⟩ (Value.ref b :: argsL).toArray q B ∧
      Steps p.tables e below (T.setTop g) ((B.U.setTop { g with stack := rest }).pushFrame (.throwing q))) := by
  obtain ⟨mk, methM, hnamed, hmethM, hstM, habM⟩ := Cond.instanceMethod_spec hinst
  obtain ⟨m8, methM', cM, hn8, hmethM', -, -, -, -, -, -, hsigM⟩ := Cond.codeWith_spec hcode
  cases Option.some.inj (hn8.symm.trans hnamed)
  cases hmethM.symm.trans hmethM'
  obtain ⟨c2, r2, m2, q1, q2, q3, q4, kP, hkP, hkPi⟩ := Cond.selects_spec hsel
  cases hcls.symm.trans q1
  cases (State.methodFound?_of_named hnamed hy).symm.trans q2
  cases hnamed.symm.trans q3
  have hselP : selectMethod e.platform s.vm cellB.cls mk = .method mk := by rw [Launch.admits_selectMethod X.admits]; exact q4
  obtain ⟨vm₁, X₁, hstep₁⟩ := X.invokevirtual hexec hown hlink hnamed hmethM hstM hkP hkPi hy (a := b) (cell := cellB) hcell
    (fun z h => by rw [h] at hobj; cases hobj) hselP hmethM habM hkP hkPi (g := g) hg (argsL := argsL) (rest := rest) (hlen _ hsigM) hstack hdg
  rcases hK m meth c ⟨T.setVm vm₁, locs, cells, slots⟩ { g with stack := rest } (.invokevirtual index) mk (Value.ref b :: argsL).toArray X₁ hg hsize hdg hW (X₁.named hnamed) (hpre vm₁ X₁.warmed) with ⟨v, B, X', hpost, hsteps⟩ | ⟨q, B, X', hpost, hsteps⟩
  · exact Or.inl ⟨v, vm₁, B, X₁.warmed, X', hpost, fun target h => hstep₁ _ fun acts => by rw [doInvoke_state]; exact hsteps.trans h⟩
  · exact Or.inr ⟨q, vm₁, B, X₁.warmed, X', hpost, hstep₁ _ fun acts => by rw [doInvoke_state]; exact hsteps⟩
theorem vx_callSX (X : Stand p l e R s m args below meth c T locs cells slots) (hexec : p.tables.exec = Jvm.exec) {own : String} {index : Nat} {y : MethodName} {bytes : ByteArray} {maxL : Nat} {ret : Option FieldType} {hh : List (Nat × Nat × Nat × Nat)}
    (hown : s.vm.findClass own = some m.cls) (hlink : (Cond.methodLink own index y).before args s = true) (hstat : (Cond.static y).before args s = true) (hinit : (Cond.initialized y.cls).before args s = true)
    (hcode : (Cond.codeWith y bytes maxL ret hh).before args s = true) (hy : y.cls ≠ "java/lang/invoke/MethodHandle" ∧ y.cls ≠ "java/lang/invoke/VarHandle")
    {W9 : Nat} {Pre : Pt → Array Value → Prop} {Post : Pt → Array Value → Option Value → Pt → Prop} {PostX : Pt → Array Value → Addr → Pt → Prop} (hK : vx_Back l R p e below s args y 3 W9 Pre Post PostX)
    {g : JFrame} (hg : g.method = m) (hsize : g.locals.size = c.maxLocals) {argsL rest : List Value} (hlen : ∀ sig, parseMethodDescriptor y.desc = some sig → argsL.length = sig.parameters.length)
    (hstack : g.stack = argsL.reverse ++ rest) (hW : 2 * g.monitorRoom + (rest.map fun v => v.category).sum ≤ W9) (hdg : decode c.code g.pc = .ok (.invokestatic index, 3))
    (hpre : ∀ vm₁, s.WarmedH vm₁ → Pre ⟨T.setVm vm₁, locs, cells, slots⟩ argsL.toArray) :
    (∃ (v : Option Value) (vm₁ : Vm) (B : Pt), s.WarmedH vm₁ ∧ Stand p l e R s m args below meth c B.U B.locs B.cells B.slots ∧ Post ⟨T.setVm vm₁, locs, cells, slots⟩ argsL.toArray v B ∧
      ∀ target, Steps p.tables e below (B.U.setTop { g with pc := g.pc + 3, stack := v.toList ++ rest }) target → Steps p.tables e below (T.setTop g) target) ∨
    (∃ (q : Addr) (vm₁ : Vm) (B : Pt), s.WarmedH vm₁ ∧ Stand p l e R s m args below meth c B.U B.locs B.cells B.slots ∧ PostX ⟨T.setVm vm₁, locs, cells, slots⟩ argsL.toArray q B ∧
      Steps p.tables e below (T.setTop g) ((B.U.setTop { g with stack := rest }).pushFrame (.throwing q))) := by
  obtain ⟨mk, methM, cM, hnamed, hmethM, -, -, -, -, -, -, hsigM⟩ := Cond.codeWith_spec hcode
  have hstatic : methM.isStatic = true := Cond.static_spec hnamed hmethM hstat
  obtain ⟨kP, hkP, -⟩ := className_of_methodNamed hnamed
  have hinitP : kP.init = .initialized := Cond.initialized_spec (findClass_of_methodNamed hnamed) hkP hinit
  obtain ⟨vm₁, X₁, hstep₁⟩ := X.invokestatic hexec hown hlink hnamed hmethM hstatic hkP hinitP hy (g := g) hg (argsL := argsL) (rest := rest) (hlen _ hsigM) hstack hdg
  rcases hK m meth c ⟨T.setVm vm₁, locs, cells, slots⟩ { g with stack := rest } (.invokestatic index) mk argsL.toArray X₁ hg hsize hdg hW (X₁.named hnamed) (hpre vm₁ X₁.warmed) with ⟨v, B, X', hpost, hsteps⟩ | ⟨q, B, X', hpost, hsteps⟩
  · exact Or.inl ⟨v, vm₁, B, X₁.warmed, X', hpost, fun target h => hstep₁ _ fun acts => by rw [doInvoke_state]; exact hsteps.trans h⟩
  · exact Or.inr ⟨q, vm₁, B, X₁.warmed, X', hpost, hstep₁ _ fun acts => by rw [doInvoke_state]; exact hsteps⟩
theorem vx_callVW (X : Stand p l e R s m args below meth c T locs cells slots) (hexec : p.tables.exec = Jvm.exec) {own C : String} {index : Nat} {y : MethodName} {bytes : ByteArray} {maxL : Nat} {ret : Option FieldType} {hh : List (Nat × Nat × Nat × Nat)}
    (hown : s.vm.findClass own = some m.cls) (hlink : (Cond.methodLink own index y).before args s = true) (hinst : (Cond.instanceMethod y).before args s = true) (hsel : (Cond.selects C y y).before args s = true)
    (hcode : (Cond.codeWith y bytes maxL ret hh).before args s = true) (hy : y.cls ≠ "java/lang/invoke/MethodHandle" ∧ y.cls ≠ "java/lang/invoke/VarHandle")
    {W9 : Nat} {Pre : Pt → Array Value → Prop} {Post : Pt → Array Value → Option Value → Pt → Prop} (hK : Back l R p e below s args y 3 W9 Pre Post)
    {b : Addr} {cellB : Cell} (hcell : T.heap[b]? = some cellB) (hobj : cellB.vm.isStatics = false) (hcls : s.vm.findClass C = some cellB.cls)
    {g : JFrame} (hg : g.method = m) (hsize : g.locals.size = c.maxLocals) {argsL rest : List Value} (hlen : ∀ sig, parseMethodDescriptor y.desc = some sig → argsL.length = sig.parameters.length)
    (hstack : g.stack = argsL.reverse ++ .ref b :: rest) (hW : 2 * g.monitorRoom + (rest.map fun v => v.category).sum ≤ W9) (hdg : decode c.code g.pc = .ok (.invokevirtual index, 3))
    (hpre : ∀ vm₁, s.WarmedH vm₁ → Pre ⟨T.setVm vm₁, locs, cells, slots⟩ (Value.ref b :: argsL).toArray) :
    ∃ (v : Option Value) (vm₁ : Vm) (B : Pt), s.WarmedH vm₁ ∧ Stand p l e R s m args below meth c B.U B.locs B.cells B.slots ∧ Post ⟨T.setVm vm₁, locs, cells, slots⟩ (Value.ref b :: argsL).toArray v B ∧
      ∀ target, Steps p.tables e below (B.U.setTop { g with pc := g.pc + 3, stack := v.toList ++ rest }) target → Steps p.tables e below (T.setTop g) target := by
  obtain ⟨mk, methM, hnamed, hmethM, hstM, habM⟩ := Cond.instanceMethod_spec hinst
  obtain ⟨m8, methM', cM, hn8, hmethM', -, -, -, -, -, -, hsigM⟩ := Cond.codeWith_spec hcode
  cases Option.some.inj (hn8.symm.trans hnamed)
  cases hmethM.symm.trans hmethM'
  obtain ⟨c2, r2, m2, q1, q2, q3, q4, kP, hkP, hkPi⟩ := Cond.selects_spec hsel
  cases hcls.symm.trans q1
  cases (State.methodFound?_of_named hnamed hy).symm.trans q2
  cases hnamed.symm.trans q3
  have hselP : selectMethod e.platform s.vm cellB.cls mk = .method mk := by rw [Launch.admits_selectMethod X.admits]; exact q4
  obtain ⟨vm₁, X₁, hstep₁⟩ := X.invokevirtual hexec hown hlink hnamed hmethM hstM hkP hkPi hy (a := b) (cell := cellB) hcell
    (fun z h => by rw [h] at hobj; cases hobj) hselP hmethM habM hkP hkPi (g := g) hg (argsL := argsL) (rest := rest) (hlen _ hsigM) hstack hdg
  obtain ⟨v, B, X', hpost, hsteps⟩ := hK m meth c ⟨T.setVm vm₁, locs, cells, slots⟩ { g with stack := rest } (.invokevirtual index) mk (Value.ref b :: argsL).toArray X₁ hg hsize hdg hW (X₁.named hnamed) (hpre vm₁ X₁.warmed)
  exact ⟨v, vm₁, B, X₁.warmed, X', hpost, fun target h => hstep₁ _ fun acts => by rw [doInvoke_state]; exact hsteps.trans h⟩
abbrev vx_CVW (R : Room) (s : State) (args : Array Value) (own C : String) (index : Nat) (y : MethodName) (bytes : ByteArray) (maxL : Nat) (ret : Option FieldType) (hh : List (Nat × Nat × Nat × Nat)) (ws : List Cond) (rm : Room) (mc ms n : Nat) : Prop :=
  (rm.cells = mc ∧ rm.slots = ms ∧ rm.frames + 1 ≤ R.frames ∧ 8 + (maxL + 11) + rm.locals ≤ R.locals ∧ (∀ w ∈ ws, ∀ (a' : Array Value) (U : State), s.WarmedH U.vm → w.before a' U = true) ∧ Cond.codeWith y bytes maxL ret hh ∈ ws) ∧
  (Cond.codeWith y bytes maxL ret hh).before args s = true ∧ (Cond.initialized y.cls).before args s = true ∧ (y.cls ≠ "java/lang/invoke/MethodHandle" ∧ y.cls ≠ "java/lang/invoke/VarHandle") ∧
  (∀ sig, parseMethodDescriptor y.desc = some sig → n = sig.parameters.length) ∧ (Cond.methodLink own index y).before args s = true ∧ (Cond.instanceMethod y).before args s = true ∧ (Cond.selects C y y).before args s = true
theorem vx_cwVW {own C : String} {index maxL mc ms : Nat} {y : MethodName} {bytes : ByteArray} {ret : Option FieldType} {hh : List (Nat × Nat × Nat × Nat)} {Ts ws ws' : List Cond} {rm : Room} (n : Nat) (ht : ∀ w ∈ Ts, w.before args s = true) (hT : GoodIn Ts (wsV own index C y ws)) (hw : ws = Cond.codeWith y bytes maxL ret hh :: ws') (hrc : rm.cells = mc) (hrs : rm.slots = ms)
    (hd : y.cls = C ∧ y.cls ≠ "java/lang/invoke/MethodHandle" ∧ y.cls ≠ "java/lang/invoke/VarHandle" ∧ (parseMethodDescriptor y.desc).map (fun d => d.parameters.length) = some n) (hR : rm.frames + 1 ≤ R.frames ∧ 8 + (maxL + 11) + rm.locals ≤ R.locals) :
    vx_CVW R s args own C index y bytes maxL ret hh ws rm mc ms n := by
  obtain ⟨hC, hd⟩ := hd
  subst hC
  have ok : ∀ w ∈ wsV own index y.cls y ws, w.before args s = true := fun w h => ht w (hT w h).1
  have hG : GoodIn Ts ws := fun w h => hT w (by unfold wsV; exact List.mem_append_right _ h)
  have hc : Cond.codeWith y bytes maxL ret hh ∈ ws := by rw [hw]; exact List.mem_cons_self
  refine ⟨⟨hrc, hrs, hR.1, hR.2, pay_in ht hG, hc⟩, ht _ (hG _ hc).1, ok _ (by simp [wsV]), ⟨hd.1, hd.2.1⟩, fun sig h => ?_, ok _ (by simp [wsV]), ok _ (by simp [wsV]), ok _ (by simp [wsV])⟩
  have h2 := hd.2.2
  rw [h] at h2
  exact (Option.some.inj h2).symm
theorem vx_runVW {y : MethodName} {bytes cc : ByteArray} {maxL nL mc ms n index : Nat} {ret : Option FieldType} {hh : List (Nat × Nat × Nat × Nat)} {ws : List Cond} {rm : Room} {Pc : Array Value → State → Prop} {Qc : Array Value → State → Outcome → State → Prop} {free : Addr → Prop} {Ts : List Cond} {own C : String} {b : Addr} {As rest : List Value} {g : JFrame}
    (S : CallFix p m c cc nL s args Ts own) (hM : Met l y ws rm Pc Qc mc ms free) (cw : vx_CVW R s args own C index y bytes maxL ret hh ws rm mc ms n) (hp : PreV s H C b Pc As)
    (hg : g.method = m) (hn : As.length = n) (hsize : g.locals.size = nL) (hstack : g.stack = As.reverse ++ .ref b :: rest) (hW : 2 * g.monitorRoom + (rest.map fun v => v.category).sum ≤ 8) (hdg : decode cc g.pc = .ok (.invokevirtual index, 3)) (hf : cells + mc ≤ R.cells ∧ slots + ms ≤ R.slots) :
    va_Run p l e R s m args below meth c H locs cells slots mc ms g rest (Qc (Value.ref b :: As).toArray) free := by
  obtain ⟨⟨hrc, hrs, hfr, hlo, hws, hcw⟩, hcode, hini, hy, hlen, hl, hin, hse⟩ := cw
  have hK : Back l R p e below s args y 3 8 (PreOf R mc ms Pc) (PostOf Qc mc ms free) := va_backW (hh := hh) (bytes := bytes) (maxL := maxL) (ret := ret) hM hp.1 hrc hrs hfr hlo hws hcw (fun a' U hW => word_at hW (Or.inl (by first | rfl | simp [Cond.onTables, Cond.keeps, Cond.steady])) hini)
  obtain ⟨hx, hb, hml, ho, -⟩ := S
  obtain ⟨-, ⟨cellB, hcB, hoB, hclB⟩, hPc⟩ := hp
  intro T hT X
  obtain ⟨v, vm₁, ⟨U', l2, c2, s2⟩, hW₁, X', ⟨g', mk, t, L, e1, e2, hq, h1, hL, h2, h3⟩, st⟩ := vx_callVW X hx (C := C) (hh := hh) (bytes := bytes) (maxL := maxL) (ret := ret) ho hl hin hse hcode hy hK (by rw [hT]; exact hcB) hoB hclB hg (hsize.trans hml.symm) (argsL := As) (rest := rest) (fun sig h => hn.trans (hlen sig h)) hstack hW (by rw [hb]; exact hdg)
    (fun vm₁ hW₁ => ⟨hf.1, hf.2, hPc (T.setVm vm₁) hT hW₁⟩)
  dsimp only [Pt.U, Pt.locs, Pt.cells, Pt.slots] at X' e1 e2 h1 h2 h3 st
  subst h1; subst h2; subst h3
  exact ⟨v, (T.setVm vm₁).calling g' mk (Value.ref b :: As).toArray, t, U', L, hT, X', hL, e1, e2, hq, st⟩
section
variable {y : MethodName} {bytes cc : ByteArray} {maxL nL mc ms n index : Nat} {ret : Option FieldType} {ws : List Cond} {rm : Room} {Pc : Array Value → State → Prop} {Qc : Array Value → State → Outcome → State → Prop} {XC : String → State → State → Prop} {free : Addr → Prop} {Ts : List Cond} {own C : String} {b : Addr} {As rest : List Value} {g : JFrame}
theorem vx_runVX {hh : List (Nat × Nat × Nat × Nat)} (S : CallFix p m c cc nL s args Ts own) (hM : vx_Met l y ws rm Pc Qc XC mc ms free) (cw : vx_CVW R s args own C index y bytes maxL ret hh ws rm mc ms n) (hp : PreV s H C b Pc As)
    (hg : g.method = m) (hn : As.length = n) (hsize : g.locals.size = nL) (hstack : g.stack = As.reverse ++ .ref b :: rest) (hW : 2 * g.monitorRoom + (rest.map fun v => v.category).sum ≤ 8) (hdg : decode cc g.pc = .ok (.invokevirtual index, 3)) (hf : cells + mc ≤ R.cells ∧ slots + ms ≤ R.slots) :
    vx_Run p l e R s m args below meth c H locs cells slots mc ms g rest (Qc (Value.ref b :: As).toArray) XC free := by
  obtain ⟨⟨hrc, hrs, hfr, hlo, hws, hcw⟩, hcode, hini, hy, hlen, hl, hin, hse⟩ := cw
  have hK : vx_Back l R p e below s args y 3 8 (PreOf R mc ms Pc) (PostOf Qc mc ms free) (vx_Post XC mc ms free) := vx_backW (hh := hh) (bytes := bytes) (maxL := maxL) (ret := ret) hM hp.1 hrc hrs hfr hlo hws hcw (fun a' U hW => word_at hW (Or.inl (by first | rfl | simp [Cond.onTables, Cond.keeps, Cond.steady])) hini)
  obtain ⟨hx, hb, hml, ho, -⟩ := S
  obtain ⟨-, ⟨cellB, hcB, hoB, hclB⟩, hPc⟩ := hp
  intro T hT X
  rcases vx_callVX X hx (C := C) (hh := hh) (bytes := bytes) (maxL := maxL) (ret := ret) ho hl hin hse hcode hy hK (by rw [hT]; exact hcB) hoB hclB hg (hsize.trans hml.symm) (argsL := As) (rest := rest) (fun sig h => hn.trans (hlen sig h)) hstack hW (by rw [hb]; exact hdg)
    (fun vm₁ hW₁ => ⟨hf.1, hf.2, hPc (T.setVm vm₁) hT hW₁⟩) with ⟨v, vm₁, ⟨U', l2, c2, s2⟩, hW₁, X', ⟨g', mk, t, L, e1, e2, hq, h1, hL, h2, h3⟩, st⟩ | ⟨q, vm₁, ⟨U', l2, c2, s2⟩, hW₁, X', ⟨g', mk, t, L, E, ce, e1, e2, hq, hce, hcv, hcl, h1, hL, h2, h3⟩, st⟩
  · dsimp only [Pt.U, Pt.locs, Pt.cells, Pt.slots] at X' e1 e2 h1 h2 h3 st
    subst h1; subst h2; subst h3
    exact Or.inl ⟨v, (T.setVm vm₁).calling g' mk (Value.ref b :: As).toArray, t, U', L, hT, X', hL, e1, e2, hq, st⟩
  · dsimp only [Pt.U, Pt.locs, Pt.cells, Pt.slots] at X' e1 e2 h1 h2 h3 st hcl
    subst h1; subst h2; subst h3
    exact Or.inr ⟨q, (T.setVm vm₁).calling g' mk (Value.ref b :: As).toArray, t, U', L, E, ce, hT, X', hL, e1, e2, hq, hce, hcv, vx_cls hW₁ hcl, st⟩
theorem vx_runSX {hh : List (Nat × Nat × Nat × Nat)} (S : CallFix p m c cc nL s args Ts own) (hM : vx_Met l y ws rm Pc Qc XC mc ms free) (cw : vx_CSW R s args own index y bytes maxL ret hh ws rm mc ms n) (hp : PreS s H Pc As)
    (hg : g.method = m) (hn : As.length = n) (hsize : g.locals.size = nL) (hstack : g.stack = As.reverse ++ rest) (hW : 2 * g.monitorRoom + (rest.map fun v => v.category).sum ≤ 8) (hdg : decode cc g.pc = .ok (.invokestatic index, 3)) (hf : cells + mc ≤ R.cells ∧ slots + ms ≤ R.slots) :
    vx_Run p l e R s m args below meth c H locs cells slots mc ms g rest (Qc As.toArray) XC free := by
  obtain ⟨⟨hrc, hrs, hfr, hlo, hws, hcw⟩, hcode, hini, hy, hlen, hl, hstt⟩ := cw
  have hK : vx_Back l R p e below s args y 3 8 (PreOf R mc ms Pc) (PostOf Qc mc ms free) (vx_Post XC mc ms free) := vx_backW (hh := hh) (bytes := bytes) (maxL := maxL) (ret := ret) hM hp.1 hrc hrs hfr hlo hws hcw (fun a' U hW => word_at hW (Or.inl (by first | rfl | simp [Cond.onTables, Cond.keeps, Cond.steady])) hini)
  obtain ⟨hx, hb, hml, ho, -⟩ := S
  intro T hT X
  rcases vx_callSX X hx (hh := hh) (bytes := bytes) (maxL := maxL) (ret := ret) ho hl hstt hini hcode hy hK hg (hsize.trans hml.symm) (argsL := As) (rest := rest) (fun sig h => hn.trans (hlen sig h)) hstack hW (by rw [hb]; exact hdg)
    (fun vm₁ hW₁ => ⟨hf.1, hf.2, hp.2 (T.setVm vm₁) hT hW₁⟩) with ⟨v, vm₁, ⟨U', l2, c2, s2⟩, hW₁, X', ⟨g', mk, t, L, e1, e2, hq, h1, hL, h2, h3⟩, st⟩ | ⟨q, vm₁, ⟨U', l2, c2, s2⟩, hW₁, X', ⟨g', mk, t, L, E, ce, e1, e2, hq, hce, hcv, hcl, h1, hL, h2, h3⟩, st⟩
  · dsimp only [Pt.U, Pt.locs, Pt.cells, Pt.slots] at X' e1 e2 h1 h2 h3 st
    subst h1; subst h2; subst h3
    exact Or.inl ⟨v, (T.setVm vm₁).calling g' mk As.toArray, t, U', L, hT, X', hL, e1, e2, hq, st⟩
  · dsimp only [Pt.U, Pt.locs, Pt.cells, Pt.slots] at X' e1 e2 h1 h2 h3 st hcl
    subst h1; subst h2; subst h3
    exact Or.inr ⟨q, (T.setVm vm₁).calling g' mk As.toArray, t, U', L, E, ce, hT, X', hL, e1, e2, hq, hce, hcv, vx_cls hW₁ hcl, st⟩
end
end VXH
theorem vx_ofWH {l : Launch} {y : MethodName} {ws ws' : List Cond} {rm : Room} {Pc : Array Value → State → Prop} {Qc : Array Value → State → Outcome → State → Prop} {XC : String → State → State → Prop} {mc ms : Nat} {free : Addr → Prop} {cc : ByteArray} {maxL : Nat} {ret : Option FieldType} {hh : List (Nat × Nat × Nat × Nat)}
    (hy : plainName y.cls = true) (hw : ws = Cond.codeWith y cc maxL ret hh :: ws')
    (body : ∀ p e s m args below meth c s₁, BodyLoose p l y (headSpec ws rm) cc maxL ret e s m args below meth c s₁ → c.maxLocals = maxL → Pc args s →
      W p l e (headSpec ws rm).room s m args below meth c s.heap [] 0 0 (vx_MQ below Qc XC args s mc ms free) (entryFrame m args maxL)) : vx_Met l y ws rm Pc Qc XC mc ms free := by
  refine MetFree.of_bodyS (code := cc) (maxLocals := maxL) (ret := ret) hy ?_ ?_
  · intro args s m h hn
    obtain ⟨m9, meth, c, hn9, h1, h2, h3, h4, -, h5, h6, -⟩ := Cond.codeWith_spec (atoms_spec (ws := ws) h _ (by rw [hw]; exact List.mem_cons_self))
    cases hn.symm.trans hn9
    exact ⟨meth, c, h1, h2, h3, h4, h5, h6⟩
  · intro p e s m args below meth c s₁ B hml hP _
    have hh0 : s₁.heap = s.heap := by rw [B.state]; rfl
    obtain ⟨t, a1, o, b1, b2, b3⟩ := body p e s m args below meth c s₁ B hml hP s₁ hh0 (Stand.of_body B)
    exact ⟨t, o, a1, b1, b2, b3⟩
end
section
/-! ===== END ===== -/

/-! ===== BEGIN printed: names, fields, word lists, decode rows ===== -/
def RX0 : String := "SignOnHouse$Decisions"
def TX0 : u_T := fun k => match k with
  | 0 => ("SignOnHouse$Decisions", "caches", "[I", true)
  | 1 => ("SignOnHouse$Decisions", "answers", "[I", true)
  | _ => ("SignOnHouse$Decisions", "keptSince", "[I", true)
def tyX0 : Nat → FieldType := fun k => match k with
  | 0 => .array .int
  | 1 => .array .int
  | _ => .array .int
abbrev wsX00 : List Cond := u_ws RX0 TX0 3
theorem nmX0 : ∀ a, a < 3 → ∀ b, b < 3 → a ≠ b → (TX0 a).2.1 ≠ (TX0 b).2.1 := by decide +kernel
theorem tyX0_ok : ∀ k, k < 3 → parseFieldDescriptor (TX0 k).2.2.1 = some (tyX0 k) := by decide +kernel
abbrev cX0_init : ByteArray := prog_2_method_1_code
def yX0_init : MethodName := ⟨RX0, "<init>", "()V"⟩
abbrev cX0_cacheOf : ByteArray := prog_2_method_2_code
def yX0_cacheOf : MethodName := ⟨RX0, "cacheOf", "(I)I"⟩
abbrev cX0_allowCache : ByteArray := prog_2_method_3_code
def yX0_allowCache : MethodName := ⟨RX0, "allowCache", "(II)V"⟩
abbrev cX0_areKept : ByteArray := prog_2_method_4_code
def yX0_areKept : MethodName := ⟨RX0, "areKept", "(III)Z"⟩
abbrev cX0_answer : ByteArray := prog_2_method_5_code
def yX0_answer : MethodName := ⟨RX0, "answer", "(III)I"⟩
abbrev cX0_keep : ByteArray := prog_2_method_6_code
def yX0_keep : MethodName := ⟨RX0, "keep", "(IIIII)V"⟩
abbrev cX0_dropAllOf : ByteArray := prog_2_method_7_code
def yX0_dropAllOf : MethodName := ⟨RX0, "dropAllOf", "(II)I"⟩
abbrev cX0_dropDueOfAll : ByteArray := prog_2_method_8_code
def yX0_dropDueOfAll : MethodName := ⟨RX0, "dropDueOfAll", "(I)V"⟩
abbrev cX0_dropDue : ByteArray := prog_2_method_9_code
def yX0_dropDue : MethodName := ⟨RX0, "dropDue", "(II)V"⟩
abbrev cX0_place : ByteArray := prog_2_method_10_code
def yX0_place : MethodName := ⟨RX0, "place", "(III)I"⟩
def RX1 : String := "SignOnHouse$Groups"
def TX1 : u_T := fun k => match k with
  | 0 => ("SignOnHouse$Groups", "homesOfPerson", "[I", true)
  | 1 => ("SignOnHouse$Groups", "homesOfGroup", "[I", true)
  | 2 => ("SignOnHouse$Groups", "grantedOfRole", "[I", true)
  | _ => ("SignOnHouse$Groups", "deniedOfRole", "[I", true)
def tyX1 : Nat → FieldType := fun k => match k with
  | 0 => .array .int
  | 1 => .array .int
  | 2 => .array .int
  | _ => .array .int
abbrev wsX10 : List Cond := u_ws RX1 TX1 4
theorem nmX1 : ∀ a, a < 4 → ∀ b, b < 4 → a ≠ b → (TX1 a).2.1 ≠ (TX1 b).2.1 := by decide +kernel
theorem tyX1_ok : ∀ k, k < 4 → parseFieldDescriptor (TX1 k).2.2.1 = some (tyX1 k) := by decide +kernel
abbrev cX1_init : ByteArray := prog_3_method_1_code
def yX1_init : MethodName := ⟨RX1, "<init>", "()V"⟩
abbrev cX1_placePerson : ByteArray := prog_3_method_2_code
def yX1_placePerson : MethodName := ⟨RX1, "placePerson", "(IIZ)Z"⟩
abbrev cX1_placeGroup : ByteArray := prog_3_method_3_code
def yX1_placeGroup : MethodName := ⟨RX1, "placeGroup", "(IIZ)Z"⟩
abbrev cX1_giveRole : ByteArray := prog_3_method_4_code
def yX1_giveRole : MethodName := ⟨RX1, "giveRole", "(III)I"⟩
abbrev cX1_hasPerson : ByteArray := prog_3_method_5_code
def yX1_hasPerson : MethodName := ⟨RX1, "hasPerson", "(II)Z"⟩
abbrev cX1_isAround : ByteArray := prog_3_method_6_code
def yX1_isAround : MethodName := ⟨RX1, "isAround", "(II)Z"⟩
abbrev cX1_anyGrants : ByteArray := prog_3_method_7_code
def yX1_anyGrants : MethodName := ⟨RX1, "anyGrants", "(II)Z"⟩
abbrev cX1_anyDenies : ByteArray := prog_3_method_8_code
def yX1_anyDenies : MethodName := ⟨RX1, "anyDenies", "(II)Z"⟩
abbrev cX1_roleOf : ByteArray := prog_3_method_9_code
def yX1_roleOf : MethodName := ⟨RX1, "roleOf", "(II)I"⟩
abbrev cX1_allAround : ByteArray := prog_3_method_10_code
def yX1_allAround : MethodName := ⟨RX1, "allAround", "(I)I"⟩
abbrev cX1_oneLinkFurther : ByteArray := prog_3_method_11_code
def yX1_oneLinkFurther : MethodName := ⟨RX1, "oneLinkFurther", "(I)I"⟩
abbrev cX1_contains : ByteArray := prog_3_method_12_code
def yX1_contains : MethodName := ⟨RX1, "contains", "(II)Z"⟩
abbrev cX1_changed : ByteArray := prog_3_method_13_code
def yX1_changed : MethodName := ⟨RX1, "changed", "(IIZ)I"⟩
def RX2 : String := "SignOnHouse$Keys"
def TX2 : u_T := fun k => match k with
  | 0 => ("SignOnHouse$Keys", "signing", "I", false)
  | _ => ("SignOnHouse$Keys", "endOfBefore", "I", false)
def tyX2 : Nat → FieldType := fun k => match k with
  | 0 => .int
  | _ => .int
abbrev wsX20 : List Cond := u_ws RX2 TX2 2
theorem nmX2 : ∀ a, a < 2 → ∀ b, b < 2 → a ≠ b → (TX2 a).2.1 ≠ (TX2 b).2.1 := by decide +kernel
theorem tyX2_ok : ∀ k, k < 2 → parseFieldDescriptor (TX2 k).2.2.1 = some (tyX2 k) := by decide +kernel
abbrev cX2_init : ByteArray := prog_4_method_1_code
def yX2_init : MethodName := ⟨RX2, "<init>", "()V"⟩
abbrev cX2_signing : ByteArray := prog_4_method_2_code
def yX2_signing : MethodName := ⟨RX2, "signing", "()I"⟩
abbrev cX2_signWithNext : ByteArray := prog_4_method_3_code
def yX2_signWithNext : MethodName := ⟨RX2, "signWithNext", "(I)V"⟩
abbrev cX2_takes : ByteArray := prog_4_method_4_code
def yX2_takes : MethodName := ⟨RX2, "takes", "(II)Z"⟩
def RX3 : String := "SignOnHouse$Sessions"
def TX3 : u_T := fun k => match k with
  | 0 => ("SignOnHouse$Sessions", "people", "[I", true)
  | 1 => ("SignOnHouse$Sessions", "signedWith", "[I", true)
  | 2 => ("SignOnHouse$Sessions", "openedAt", "[I", true)
  | 3 => ("SignOnHouse$Sessions", "usedAt", "[I", true)
  | 4 => ("SignOnHouse$Sessions", "over", "[Z", true)
  | _ => ("SignOnHouse$Sessions", "count", "I", false)
def tyX3 : Nat → FieldType := fun k => match k with
  | 0 => .array .int
  | 1 => .array .int
  | 2 => .array .int
  | 3 => .array .int
  | 4 => .array .boolean
  | _ => .int
abbrev wsX30 : List Cond := u_ws RX3 TX3 6
theorem nmX3 : ∀ a, a < 6 → ∀ b, b < 6 → a ≠ b → (TX3 a).2.1 ≠ (TX3 b).2.1 := by decide +kernel
theorem tyX3_ok : ∀ k, k < 6 → parseFieldDescriptor (TX3 k).2.2.1 = some (tyX3 k) := by decide +kernel
abbrev cX3_init : ByteArray := prog_5_method_1_code
def yX3_init : MethodName := ⟨RX3, "<init>", "()V"⟩
abbrev cX3_areAllOpened : ByteArray := prog_5_method_2_code
def yX3_areAllOpened : MethodName := ⟨RX3, "areAllOpened", "()Z"⟩
abbrev cX3_has : ByteArray := prog_5_method_3_code
def yX3_has : MethodName := ⟨RX3, "has", "(I)Z"⟩
abbrev cX3_add : ByteArray := prog_5_method_4_code
def yX3_add : MethodName := ⟨RX3, "add", "(III)I"⟩
abbrev cX3_isOver : ByteArray := prog_5_method_5_code
def yX3_isOver : MethodName := ⟨RX3, "isOver", "(I)Z"⟩
abbrev cX3_end : ByteArray := prog_5_method_6_code
def yX3_end : MethodName := ⟨RX3, "end", "(I)V"⟩
abbrev cX3_use : ByteArray := prog_5_method_7_code
def yX3_use : MethodName := ⟨RX3, "use", "(II)V"⟩
abbrev cX3_personOf : ByteArray := prog_5_method_8_code
def yX3_personOf : MethodName := ⟨RX3, "personOf", "(I)I"⟩
abbrev cX3_age : ByteArray := prog_5_method_9_code
def yX3_age : MethodName := ⟨RX3, "age", "(II)I"⟩
abbrev cX3_endAllOf : ByteArray := prog_5_method_10_code
def yX3_endAllOf : MethodName := ⟨RX3, "endAllOf", "(I)I"⟩
abbrev cX3_endDue : ByteArray := prog_5_method_11_code
def yX3_endDue : MethodName := ⟨RX3, "endDue", "(I[ILSignOnHouse$Keys;)I"⟩
abbrev cX3_isDue : ByteArray := prog_5_method_12_code
def yX3_isDue : MethodName := ⟨RX3, "isDue", "(IIILSignOnHouse$Keys;)Z"⟩
def RX4 : String := "SignOnHouse"
def TX4 : u_T := fun k => match k with
  | 0 => ("SignOnHouse", "groups", "LSignOnHouse$Groups;", true)
  | 1 => ("SignOnHouse", "sessions", "LSignOnHouse$Sessions;", true)
  | 2 => ("SignOnHouse", "keys", "LSignOnHouse$Keys;", true)
  | 3 => ("SignOnHouse", "decisions", "LSignOnHouse$Decisions;", true)
  | 4 => ("SignOnHouse", "risks", "[I", true)
  | 5 => ("SignOnHouse", "glassEnds", "[I", true)
  | _ => ("SignOnHouse", "minute", "I", false)
def tyX4 : Nat → FieldType := fun k => match k with
  | 0 => .object "SignOnHouse$Groups"
  | 1 => .object "SignOnHouse$Sessions"
  | 2 => .object "SignOnHouse$Keys"
  | 3 => .object "SignOnHouse$Decisions"
  | 4 => .array .int
  | 5 => .array .int
  | _ => .int
abbrev wsX40 : List Cond := u_ws RX4 TX4 7
theorem nmX4 : ∀ a, a < 7 → ∀ b, b < 7 → a ≠ b → (TX4 a).2.1 ≠ (TX4 b).2.1 := by decide +kernel
theorem tyX4_ok : ∀ k, k < 7 → parseFieldDescriptor (TX4 k).2.2.1 = some (tyX4 k) := by decide +kernel
abbrev cX4_init : ByteArray := prog_1_method_1_code
def yX4_init : MethodName := ⟨RX4, "<init>", "()V"⟩
abbrev cX4_setPerson : ByteArray := prog_1_method_2_code
def yX4_setPerson : MethodName := ⟨RX4, "setPerson", "(IIZ)Z"⟩
abbrev cX4_setGroup : ByteArray := prog_1_method_3_code
def yX4_setGroup : MethodName := ⟨RX4, "setGroup", "(IIZ)Z"⟩
abbrev cX4_setRole : ByteArray := prog_1_method_4_code
def yX4_setRole : MethodName := ⟨RX4, "setRole", "(III)I"⟩
abbrev cX4_setRisk : ByteArray := prog_1_method_5_code
def yX4_setRisk : MethodName := ⟨RX4, "setRisk", "(II)I"⟩
abbrev cX4_isIn : ByteArray := prog_1_method_6_code
def yX4_isIn : MethodName := ⟨RX4, "isIn", "(II)Z"⟩
abbrev cX4_allows : ByteArray := prog_1_method_7_code
def yX4_allows : MethodName := ⟨RX4, "allows", "(II)Z"⟩
abbrev cX4_open : ByteArray := prog_1_method_8_code
def yX4_open : MethodName := ⟨RX4, "open", "(I)I"⟩
abbrev cX4_close : ByteArray := prog_1_method_9_code
def yX4_close : MethodName := ⟨RX4, "close", "(I)I"⟩
abbrev cX4_goesOn : ByteArray := prog_1_method_10_code
def yX4_goesOn : MethodName := ⟨RX4, "goesOn", "(I)Z"⟩
abbrev cX4_changeKeys : ByteArray := prog_1_method_11_code
def yX4_changeKeys : MethodName := ⟨RX4, "changeKeys", "(I)I"⟩
abbrev cX4_isTaken : ByteArray := prog_1_method_12_code
def yX4_isTaken : MethodName := ⟨RX4, "isTaken", "(I)Z"⟩
abbrev cX4_pass : ByteArray := prog_1_method_13_code
def yX4_pass : MethodName := ⟨RX4, "pass", "(I)I"⟩
abbrev cX4_now : ByteArray := prog_1_method_14_code
def yX4_now : MethodName := ⟨RX4, "now", "()I"⟩
abbrev cX4_breakGlass : ByteArray := prog_1_method_15_code
def yX4_breakGlass : MethodName := ⟨RX4, "breakGlass", "(IIII)I"⟩
abbrev cX4_setCache : ByteArray := prog_1_method_16_code
def yX4_setCache : MethodName := ⟨RX4, "setCache", "(II)I"⟩
abbrev cX4_decide : ByteArray := prog_1_method_17_code
def yX4_decide : MethodName := ⟨RX4, "decide", "(III)I"⟩
abbrev cX4_forget : ByteArray := prog_1_method_18_code
def yX4_forget : MethodName := ⟨RX4, "forget", "(II)I"⟩
abbrev cX4_stale : ByteArray := prog_1_method_19_code
def yX4_stale : MethodName := ⟨RX4, "stale", "(I)I"⟩
abbrev cX4_isOutside : ByteArray := prog_1_method_20_code
def yX4_isOutside : MethodName := ⟨RX4, "isOutside", "(II)Z"⟩
abbrev cX4_isBarred : ByteArray := prog_1_method_21_code
def yX4_isBarred : MethodName := ⟨RX4, "isBarred", "(I)Z"⟩
abbrev cX4_holdsGlass : ByteArray := prog_1_method_22_code
def yX4_holdsGlass : MethodName := ⟨RX4, "holdsGlass", "(II)Z"⟩
abbrev cX4_servesAsWitness : ByteArray := prog_1_method_23_code
def yX4_servesAsWitness : MethodName := ⟨RX4, "servesAsWitness", "(II)Z"⟩
abbrev cX4_answerOfHouse : ByteArray := prog_1_method_24_code
def yX4_answerOfHouse : MethodName := ⟨RX4, "answerOfHouse", "(II)I"⟩
abbrev cX4_answerOfApp : ByteArray := prog_1_method_25_code
def yX4_answerOfApp : MethodName := ⟨RX4, "answerOfApp", "(III)I"⟩
abbrev cX4_isStale : ByteArray := prog_1_method_26_code
def yX4_isStale : MethodName := ⟨RX4, "isStale", "(III)Z"⟩
def RX5 : String := "SignOnHouseModel"
def TX5 : u_T := fun k => match k with
  | _ => ("", "", "", false)
def tyX5 : Nat → FieldType := fun k => match k with
  | _ => .int
abbrev wsX50 : List Cond := u_ws RX5 TX5 0
theorem nmX5 : ∀ a, a < 0 → ∀ b, b < 0 → a ≠ b → (TX5 a).2.1 ≠ (TX5 b).2.1 := by decide +kernel
theorem tyX5_ok : ∀ k, k < 0 → parseFieldDescriptor (TX5 k).2.2.1 = some (tyX5 k) := by decide +kernel
def RJx145de : String := "java/io/Serializable"
def TJx145de : u_T := fun k => match k with
  | _ => ("", "", "", false)
def tyJx145de : Nat → FieldType := fun k => match k with
  | _ => .int
abbrev wsJx145de0 : List Cond := u_ws RJx145de TJx145de 0
theorem nmJx145de : ∀ a, a < 0 → ∀ b, b < 0 → a ≠ b → (TJx145de a).2.1 ≠ (TJx145de b).2.1 := by decide +kernel
theorem tyJx145de_ok : ∀ k, k < 0 → parseFieldDescriptor (TJx145de k).2.2.1 = some (tyJx145de k) := by decide +kernel
def RJ0 : String := "java/lang/String"
def TJ0 : u_T := fun k => match k with
  | _ => ("", "", "", false)
def tyJ0 : Nat → FieldType := fun k => match k with
  | _ => .int
abbrev wsJ00 : List Cond := u_ws RJ0 TJ0 0
theorem nmJ0 : ∀ a, a < 0 → ∀ b, b < 0 → a ≠ b → (TJ0 a).2.1 ≠ (TJ0 b).2.1 := by decide +kernel
theorem tyJ0_ok : ∀ k, k < 0 → parseFieldDescriptor (TJ0 k).2.2.1 = some (tyJ0 k) := by decide +kernel
def RJ7 : String := "java/util/Arrays"
def TJ7 : u_T := fun k => match k with
  | _ => ("", "", "", false)
def tyJ7 : Nat → FieldType := fun k => match k with
  | _ => .int
abbrev wsJ70 : List Cond := u_ws RJ7 TJ7 0
theorem nmJ7 : ∀ a, a < 0 → ∀ b, b < 0 → a ≠ b → (TJ7 a).2.1 ≠ (TJ7 b).2.1 := by decide +kernel
theorem tyJ7_ok : ∀ k, k < 0 → parseFieldDescriptor (TJ7 k).2.2.1 = some (tyJ7 k) := by decide +kernel
abbrev cJ7_fill_53178 : ByteArray := prog_15_method_103_code
def yJ7_fill_53178 : MethodName := ⟨RJ7, "fill", "([II)V"⟩
def RL : String := "SignOnHouseLaw"
abbrev cL_cell : ByteArray := method_2_code
def yL_cell : MethodName := ⟨RL, "cell", "([II)I"⟩
abbrev cL_low : ByteArray := method_3_code
def yL_low : MethodName := ⟨RL, "low", "(II)I"⟩
abbrev cL_calls : ByteArray := method_4_code
def yL_calls : MethodName := ⟨RL, "calls", "(LSignOnHouse;IIIII)I"⟩
abbrev cL_isIn : ByteArray := method_5_code
def yL_isIn : MethodName := ⟨RL, "isIn", "(II[I)Z"⟩
abbrev cL_allows : ByteArray := method_6_code
def yL_allows : MethodName := ⟨RL, "allows", "(II[I[I[I[I[I)Z"⟩
abbrev cL_serves : ByteArray := method_7_code
def yL_serves : MethodName := ⟨RL, "serves", "(II[I[I[I)Z"⟩
abbrev cL_isKey : ByteArray := method_8_code
def yL_isKey : MethodName := ⟨RL, "isKey", "(I[I)Z"⟩
abbrev cL_sweep : ByteArray := method_9_code
def yL_sweep : MethodName := ⟨RL, "sweep", "([I[I[I)I"⟩
abbrev cL_isSo : ByteArray := method_10_code
def yL_isSo : MethodName := ⟨RL, "isSo", "(LSignOnHouse;[I[I[I[I[I[I[I[I)Z"⟩
abbrev cL_sets : ByteArray := method_11_code
def yL_sets : MethodName := ⟨RL, "sets", "(LSignOnHouse;II[I[I[I[I[I)Z"⟩
abbrev cL_decides : ByteArray := method_12_code
def yL_decides : MethodName := ⟨RL, "decides", "(LSignOnHouse;I[I[I[I[I[I[I[I[I)Z"⟩
abbrev cL_caches : ByteArray := method_13_code
def yL_caches : MethodName := ⟨RL, "caches", "(LSignOnHouse;II[I[I)Z"⟩
abbrev cL_law : ByteArray := code
def yL_law : MethodName := ⟨RL, "law", "([I)Z"⟩
def wsJ7_fill_53178 : List Cond := .code yJ7_fill_53178 cJ7_fill_53178 4 none :: ([])
def wsX0_init : List Cond := .code yX0_init cX0_init 1 none :: ([.methodLink RX0 3 objectInit, .instanceMethod objectInit, .code objectInit ⟨#[0xb1]⟩ 1 none, .arrayClass .int, .fieldLink RX0 9 "SignOnHouse$Decisions" "caches" "[I", .fieldLink RX0 15 "SignOnHouse$Decisions" "answers" "[I", .fieldLink RX0 18 "SignOnHouse$Decisions" "keptSince" "[I", .methodLink RX0 21 yJ7_fill_53178, .static yJ7_fill_53178, .initialized RJ7, .code yJ7_fill_53178 cJ7_fill_53178 4 none] ++ wsX00)
def wsX0_cacheOf : List Cond := .code yX0_cacheOf cX0_cacheOf 2 (some .int) :: ([.fieldLink RX0 9 "SignOnHouse$Decisions" "caches" "[I"] ++ wsX00)
def wsX0_allowCache : List Cond := .code yX0_allowCache cX0_allowCache 3 none :: ([.fieldLink RX0 9 "SignOnHouse$Decisions" "caches" "[I"] ++ wsX00)
def wsX0_place : List Cond := .code yX0_place cX0_place 3 (some .int) :: ([])
def wsX0_areKept : List Cond := .code yX0_areKept cX0_areKept 4 (some .boolean) :: ([.fieldLink RX0 15 "SignOnHouse$Decisions" "answers" "[I", .methodLink RX0 27 yX0_place, .static yX0_place, .initialized RX0, .code yX0_place cX0_place 3 (some .int)] ++ wsX00)
def wsX0_answer : List Cond := .code yX0_answer cX0_answer 4 (some .int) :: ([.fieldLink RX0 15 "SignOnHouse$Decisions" "answers" "[I", .methodLink RX0 27 yX0_place, .static yX0_place, .initialized RX0, .code yX0_place cX0_place 3 (some .int)] ++ wsX00)
def wsX0_keep : List Cond := .code yX0_keep cX0_keep 6 none :: ([.fieldLink RX0 9 "SignOnHouse$Decisions" "caches" "[I", .fieldLink RX0 15 "SignOnHouse$Decisions" "answers" "[I", .fieldLink RX0 18 "SignOnHouse$Decisions" "keptSince" "[I", .methodLink RX0 27 yX0_place, .static yX0_place, .initialized RX0, .code yX0_place cX0_place 3 (some .int)] ++ wsX00)
def wsX0_dropAllOf : List Cond := .code yX0_dropAllOf cX0_dropAllOf 5 (some .int) :: ([.fieldLink RX0 15 "SignOnHouse$Decisions" "answers" "[I", .methodLink RX0 31 yX0_areKept, .instanceMethod yX0_areKept, .selects RX0 yX0_areKept yX0_areKept, .initialized RX0, .code yX0_areKept cX0_areKept 4 (some .boolean), .methodLink RX0 27 yX0_place, .static yX0_place, .code yX0_place cX0_place 3 (some .int)] ++ wsX00)
def wsX0_dropDue : List Cond := .code yX0_dropDue cX0_dropDue 5 none :: ([.fieldLink RX0 18 "SignOnHouse$Decisions" "keptSince" "[I", .fieldLink RX0 9 "SignOnHouse$Decisions" "caches" "[I", .fieldLink RX0 15 "SignOnHouse$Decisions" "answers" "[I", .methodLink RX0 27 yX0_place, .static yX0_place, .initialized RX0, .code yX0_place cX0_place 3 (some .int)] ++ wsX00)
def wsX0_dropDueOfAll : List Cond := .code yX0_dropDueOfAll cX0_dropDueOfAll 3 none :: ([.methodLink RX0 35 yX0_dropDue, .instanceMethod yX0_dropDue, .selects RX0 yX0_dropDue yX0_dropDue, .initialized RX0, .code yX0_dropDue cX0_dropDue 5 none, .fieldLink RX0 18 "SignOnHouse$Decisions" "keptSince" "[I", .fieldLink RX0 9 "SignOnHouse$Decisions" "caches" "[I", .fieldLink RX0 15 "SignOnHouse$Decisions" "answers" "[I", .methodLink RX0 27 yX0_place, .static yX0_place, .code yX0_place cX0_place 3 (some .int)] ++ wsX00)
def wsX1_init : List Cond := .code yX1_init cX1_init 1 none :: ([.methodLink RX1 3 objectInit, .instanceMethod objectInit, .code objectInit ⟨#[0xb1]⟩ 1 none, .arrayClass .int, .fieldLink RX1 9 "SignOnHouse$Groups" "homesOfPerson" "[I", .fieldLink RX1 15 "SignOnHouse$Groups" "homesOfGroup" "[I", .fieldLink RX1 18 "SignOnHouse$Groups" "grantedOfRole" "[I", .fieldLink RX1 21 "SignOnHouse$Groups" "deniedOfRole" "[I"] ++ wsX10)
def wsX1_contains : List Cond := .code yX1_contains cX1_contains 2 (some .boolean) :: ([])
def wsX1_changed : List Cond := .code yX1_changed cX1_changed 3 (some .int) :: ([])
def wsX1_placePerson : List Cond := .code yX1_placePerson cX1_placePerson 5 (some .boolean) :: ([.fieldLink RX1 9 "SignOnHouse$Groups" "homesOfPerson" "[I", .methodLink RX1 24 yX1_contains, .static yX1_contains, .initialized RX1, .code yX1_contains cX1_contains 2 (some .boolean), .methodLink RX1 28 yX1_changed, .static yX1_changed, .code yX1_changed cX1_changed 3 (some .int)] ++ wsX10)
def wsX1_placeGroup : List Cond := .code yX1_placeGroup cX1_placeGroup 5 (some .boolean) :: ([.fieldLink RX1 15 "SignOnHouse$Groups" "homesOfGroup" "[I", .methodLink RX1 24 yX1_contains, .static yX1_contains, .initialized RX1, .code yX1_contains cX1_contains 2 (some .boolean), .methodLink RX1 28 yX1_changed, .static yX1_changed, .code yX1_changed cX1_changed 3 (some .int)] ++ wsX10)
def wsX1_roleOf : List Cond := .code yX1_roleOf cX1_roleOf 3 (some .int) :: ([.fieldLink RX1 18 "SignOnHouse$Groups" "grantedOfRole" "[I", .fieldLink RX1 21 "SignOnHouse$Groups" "deniedOfRole" "[I", .methodLink RX1 24 yX1_contains, .static yX1_contains, .initialized RX1, .code yX1_contains cX1_contains 2 (some .boolean)] ++ wsX10)
def wsX1_giveRole : List Cond := .code yX1_giveRole cX1_giveRole 5 (some .int) :: ([.fieldLink RX1 18 "SignOnHouse$Groups" "grantedOfRole" "[I", .fieldLink RX1 21 "SignOnHouse$Groups" "deniedOfRole" "[I", .methodLink RX1 32 yX1_roleOf, .instanceMethod yX1_roleOf, .selects RX1 yX1_roleOf yX1_roleOf, .initialized RX1, .code yX1_roleOf cX1_roleOf 3 (some .int), .methodLink RX1 24 yX1_contains, .static yX1_contains, .code yX1_contains cX1_contains 2 (some .boolean), .methodLink RX1 28 yX1_changed, .static yX1_changed, .code yX1_changed cX1_changed 3 (some .int)] ++ wsX10)
def wsX1_oneLinkFurther : List Cond := .code yX1_oneLinkFurther cX1_oneLinkFurther 4 (some .int) :: ([.fieldLink RX1 15 "SignOnHouse$Groups" "homesOfGroup" "[I", .methodLink RX1 24 yX1_contains, .static yX1_contains, .initialized RX1, .code yX1_contains cX1_contains 2 (some .boolean)] ++ wsX10)
def wsX1_allAround : List Cond := .code yX1_allAround cX1_allAround 4 (some .int) :: ([.methodLink RX1 40 yX1_oneLinkFurther, .instanceMethod yX1_oneLinkFurther, .selects RX1 yX1_oneLinkFurther yX1_oneLinkFurther, .initialized RX1, .code yX1_oneLinkFurther cX1_oneLinkFurther 4 (some .int), .fieldLink RX1 15 "SignOnHouse$Groups" "homesOfGroup" "[I", .methodLink RX1 24 yX1_contains, .static yX1_contains, .code yX1_contains cX1_contains 2 (some .boolean)] ++ wsX10)
def wsX1_hasPerson : List Cond := .code yX1_hasPerson cX1_hasPerson 3 (some .boolean) :: ([.fieldLink RX1 9 "SignOnHouse$Groups" "homesOfPerson" "[I", .methodLink RX1 36 yX1_allAround, .instanceMethod yX1_allAround, .selects RX1 yX1_allAround yX1_allAround, .initialized RX1, .code yX1_allAround cX1_allAround 4 (some .int), .methodLink RX1 40 yX1_oneLinkFurther, .instanceMethod yX1_oneLinkFurther, .selects RX1 yX1_oneLinkFurther yX1_oneLinkFurther, .code yX1_oneLinkFurther cX1_oneLinkFurther 4 (some .int), .fieldLink RX1 15 "SignOnHouse$Groups" "homesOfGroup" "[I", .methodLink RX1 24 yX1_contains, .static yX1_contains, .code yX1_contains cX1_contains 2 (some .boolean)] ++ wsX10)
def wsX1_isAround : List Cond := .code yX1_isAround cX1_isAround 3 (some .boolean) :: ([.fieldLink RX1 15 "SignOnHouse$Groups" "homesOfGroup" "[I", .methodLink RX1 36 yX1_allAround, .instanceMethod yX1_allAround, .selects RX1 yX1_allAround yX1_allAround, .initialized RX1, .code yX1_allAround cX1_allAround 4 (some .int), .methodLink RX1 40 yX1_oneLinkFurther, .instanceMethod yX1_oneLinkFurther, .selects RX1 yX1_oneLinkFurther yX1_oneLinkFurther, .code yX1_oneLinkFurther cX1_oneLinkFurther 4 (some .int), .methodLink RX1 24 yX1_contains, .static yX1_contains, .code yX1_contains cX1_contains 2 (some .boolean)] ++ wsX10)
def wsX1_anyGrants : List Cond := .code yX1_anyGrants cX1_anyGrants 3 (some .boolean) :: ([.fieldLink RX1 9 "SignOnHouse$Groups" "homesOfPerson" "[I", .fieldLink RX1 18 "SignOnHouse$Groups" "grantedOfRole" "[I", .methodLink RX1 36 yX1_allAround, .instanceMethod yX1_allAround, .selects RX1 yX1_allAround yX1_allAround, .initialized RX1, .code yX1_allAround cX1_allAround 4 (some .int), .methodLink RX1 40 yX1_oneLinkFurther, .instanceMethod yX1_oneLinkFurther, .selects RX1 yX1_oneLinkFurther yX1_oneLinkFurther, .code yX1_oneLinkFurther cX1_oneLinkFurther 4 (some .int), .fieldLink RX1 15 "SignOnHouse$Groups" "homesOfGroup" "[I", .methodLink RX1 24 yX1_contains, .static yX1_contains, .code yX1_contains cX1_contains 2 (some .boolean)] ++ wsX10)
def wsX1_anyDenies : List Cond := .code yX1_anyDenies cX1_anyDenies 3 (some .boolean) :: ([.fieldLink RX1 9 "SignOnHouse$Groups" "homesOfPerson" "[I", .fieldLink RX1 21 "SignOnHouse$Groups" "deniedOfRole" "[I", .methodLink RX1 36 yX1_allAround, .instanceMethod yX1_allAround, .selects RX1 yX1_allAround yX1_allAround, .initialized RX1, .code yX1_allAround cX1_allAround 4 (some .int), .methodLink RX1 40 yX1_oneLinkFurther, .instanceMethod yX1_oneLinkFurther, .selects RX1 yX1_oneLinkFurther yX1_oneLinkFurther, .code yX1_oneLinkFurther cX1_oneLinkFurther 4 (some .int), .fieldLink RX1 15 "SignOnHouse$Groups" "homesOfGroup" "[I", .methodLink RX1 24 yX1_contains, .static yX1_contains, .code yX1_contains cX1_contains 2 (some .boolean)] ++ wsX10)
def wsX2_init : List Cond := .code yX2_init cX2_init 1 none :: ([.methodLink RX2 1 objectInit, .instanceMethod objectInit, .code objectInit ⟨#[0xb1]⟩ 1 none, .fieldLink RX2 7 "SignOnHouse$Keys" "signing" "I", .fieldLink RX2 13 "SignOnHouse$Keys" "endOfBefore" "I"] ++ wsX20)
def wsX2_signing : List Cond := .code yX2_signing cX2_signing 1 (some .int) :: ([.fieldLink RX2 7 "SignOnHouse$Keys" "signing" "I"] ++ wsX20)
def wsX2_signWithNext : List Cond := .code yX2_signWithNext cX2_signWithNext 2 none :: ([.fieldLink RX2 7 "SignOnHouse$Keys" "signing" "I", .fieldLink RX2 13 "SignOnHouse$Keys" "endOfBefore" "I"] ++ wsX20)
def wsX2_takes : List Cond := .code yX2_takes cX2_takes 3 (some .boolean) :: ([.fieldLink RX2 7 "SignOnHouse$Keys" "signing" "I", .fieldLink RX2 13 "SignOnHouse$Keys" "endOfBefore" "I"] ++ wsX20)
def wsX3_init : List Cond := .code yX3_init cX3_init 1 none :: ([.methodLink RX3 1 objectInit, .instanceMethod objectInit, .code objectInit ⟨#[0xb1]⟩ 1 none, .arrayClass .int, .fieldLink RX3 9 "SignOnHouse$Sessions" "people" "[I", .fieldLink RX3 13 "SignOnHouse$Sessions" "signedWith" "[I", .fieldLink RX3 16 "SignOnHouse$Sessions" "openedAt" "[I", .fieldLink RX3 19 "SignOnHouse$Sessions" "usedAt" "[I", .arrayClass .boolean, .fieldLink RX3 22 "SignOnHouse$Sessions" "over" "[Z", .fieldLink RX3 26 "SignOnHouse$Sessions" "count" "I"] ++ wsX30)
def wsX3_areAllOpened : List Cond := .code yX3_areAllOpened cX3_areAllOpened 1 (some .boolean) :: ([.fieldLink RX3 26 "SignOnHouse$Sessions" "count" "I"] ++ wsX30)
def wsX3_has : List Cond := .code yX3_has cX3_has 2 (some .boolean) :: ([.fieldLink RX3 26 "SignOnHouse$Sessions" "count" "I"] ++ wsX30)
def wsX3_add : List Cond := .code yX3_add cX3_add 5 (some .int) :: ([.fieldLink RX3 26 "SignOnHouse$Sessions" "count" "I", .fieldLink RX3 9 "SignOnHouse$Sessions" "people" "[I", .fieldLink RX3 13 "SignOnHouse$Sessions" "signedWith" "[I", .fieldLink RX3 16 "SignOnHouse$Sessions" "openedAt" "[I", .fieldLink RX3 19 "SignOnHouse$Sessions" "usedAt" "[I"] ++ wsX30)
def wsX3_isOver : List Cond := .code yX3_isOver cX3_isOver 2 (some .boolean) :: ([.fieldLink RX3 22 "SignOnHouse$Sessions" "over" "[Z"] ++ wsX30)
def wsX3_end : List Cond := .code yX3_end cX3_end 2 none :: ([.fieldLink RX3 22 "SignOnHouse$Sessions" "over" "[Z"] ++ wsX30)
def wsX3_use : List Cond := .code yX3_use cX3_use 3 none :: ([.fieldLink RX3 19 "SignOnHouse$Sessions" "usedAt" "[I"] ++ wsX30)
def wsX3_personOf : List Cond := .code yX3_personOf cX3_personOf 2 (some .int) :: ([.fieldLink RX3 9 "SignOnHouse$Sessions" "people" "[I"] ++ wsX30)
def wsX3_age : List Cond := .code yX3_age cX3_age 3 (some .int) :: ([.fieldLink RX3 16 "SignOnHouse$Sessions" "openedAt" "[I"] ++ wsX30)
def wsX3_endAllOf : List Cond := .code yX3_endAllOf cX3_endAllOf 4 (some .int) :: ([.fieldLink RX3 26 "SignOnHouse$Sessions" "count" "I", .fieldLink RX3 22 "SignOnHouse$Sessions" "over" "[Z", .fieldLink RX3 9 "SignOnHouse$Sessions" "people" "[I", .methodLink RX3 30 yX3_end, .instanceMethod yX3_end, .selects RX3 yX3_end yX3_end, .initialized RX3, .code yX3_end cX3_end 2 none] ++ wsX30)
def wsX3_isDue : List Cond := .code yX3_isDue cX3_isDue 5 (some .boolean) :: ([.fieldLink RX3 19 "SignOnHouse$Sessions" "usedAt" "[I", .fieldLink RX3 13 "SignOnHouse$Sessions" "signedWith" "[I", .methodLink RX3 38 yX3_age, .instanceMethod yX3_age, .selects RX3 yX3_age yX3_age, .initialized RX3, .code yX3_age cX3_age 3 (some .int), .fieldLink RX3 16 "SignOnHouse$Sessions" "openedAt" "[I", .methodLink RX3 42 yX2_takes, .instanceMethod yX2_takes, .selects RX2 yX2_takes yX2_takes, .initialized RX2, .code yX2_takes cX2_takes 3 (some .boolean), .fieldLink RX2 7 "SignOnHouse$Keys" "signing" "I", .fieldLink RX2 13 "SignOnHouse$Keys" "endOfBefore" "I"] ++ wsX30 ++ wsX20)
def wsX3_endDue_r1 : List Cond := [Cond.fieldLink RX3 26 "SignOnHouse$Sessions" "count" "I", Cond.fieldLink RX3 22 "SignOnHouse$Sessions" "over" "[Z", Cond.fieldLink RX3 9 "SignOnHouse$Sessions" "people" "[I", Cond.methodLink RX3 34 yX3_isDue, Cond.instanceMethod yX3_isDue, Cond.selects RX3 yX3_isDue yX3_isDue, Cond.initialized RX3, Cond.code yX3_isDue cX3_isDue 5 (some .boolean), Cond.fieldLink RX3 19 "SignOnHouse$Sessions" "usedAt" "[I", Cond.fieldLink RX3 13 "SignOnHouse$Sessions" "signedWith" "[I", Cond.methodLink RX3 38 yX3_age, Cond.instanceMethod yX3_age, Cond.selects RX3 yX3_age yX3_age, Cond.code yX3_age cX3_age 3 (some .int), Cond.fieldLink RX3 16 "SignOnHouse$Sessions" "openedAt" "[I", Cond.methodLink RX3 42 yX2_takes, Cond.instanceMethod yX2_takes, Cond.selects RX2 yX2_takes yX2_takes, Cond.initialized RX2, Cond.code yX2_takes cX2_takes 3 (some .boolean), Cond.fieldLink RX2 7 "SignOnHouse$Keys" "signing" "I", Cond.fieldLink RX2 13 "SignOnHouse$Keys" "endOfBefore" "I", Cond.methodLink RX3 30 yX3_end, Cond.instanceMethod yX3_end]
def wsX3_endDue_r2 : List Cond := [Cond.selects RX3 yX3_end yX3_end, Cond.code yX3_end cX3_end 2 none]
def wsX3_endDue : List Cond := .code yX3_endDue cX3_endDue 6 (some .int) :: ((wsX3_endDue_r1 ++ wsX3_endDue_r2) ++ wsX30 ++ wsX20)
def wsX4_init_r1 : List Cond := [Cond.methodLink RX4 1 objectInit, Cond.instanceMethod objectInit, Cond.code objectInit ⟨#[0xb1]⟩ 1 none, Cond.classLink RX4 7 RX1, Cond.instantiable RX1 4, Cond.initialized RX1, Cond.fieldLink RX4 10 "SignOnHouse" "groups" "LSignOnHouse$Groups;", Cond.classLink RX4 16 RX3, Cond.instantiable RX3 6, Cond.initialized RX3, Cond.fieldLink RX4 19 "SignOnHouse" "sessions" "LSignOnHouse$Sessions;", Cond.classLink RX4 23 RX2, Cond.instantiable RX2 2, Cond.initialized RX2, Cond.fieldLink RX4 26 "SignOnHouse" "keys" "LSignOnHouse$Keys;", Cond.classLink RX4 30 RX0, Cond.instantiable RX0 3, Cond.initialized RX0, Cond.fieldLink RX4 33 "SignOnHouse" "decisions" "LSignOnHouse$Decisions;", Cond.arrayClass .int, Cond.fieldLink RX4 37 "SignOnHouse" "risks" "[I", Cond.fieldLink RX4 41 "SignOnHouse" "glassEnds" "[I", Cond.fieldLink RX4 44 "SignOnHouse" "minute" "I", Cond.methodLink RX4 9 yX1_init]
def wsX4_init_r2 : List Cond := [Cond.instanceMethod yX1_init, Cond.code yX1_init cX1_init 1 none, Cond.methodLink RX1 3 objectInit, Cond.fieldLink RX1 9 "SignOnHouse$Groups" "homesOfPerson" "[I", Cond.fieldLink RX1 15 "SignOnHouse$Groups" "homesOfGroup" "[I", Cond.fieldLink RX1 18 "SignOnHouse$Groups" "grantedOfRole" "[I", Cond.fieldLink RX1 21 "SignOnHouse$Groups" "deniedOfRole" "[I", Cond.methodLink RX4 18 yX3_init, Cond.instanceMethod yX3_init, Cond.code yX3_init cX3_init 1 none, Cond.methodLink RX3 1 objectInit, Cond.fieldLink RX3 9 "SignOnHouse$Sessions" "people" "[I", Cond.fieldLink RX3 13 "SignOnHouse$Sessions" "signedWith" "[I", Cond.fieldLink RX3 16 "SignOnHouse$Sessions" "openedAt" "[I", Cond.fieldLink RX3 19 "SignOnHouse$Sessions" "usedAt" "[I", Cond.arrayClass .boolean, Cond.fieldLink RX3 22 "SignOnHouse$Sessions" "over" "[Z", Cond.fieldLink RX3 26 "SignOnHouse$Sessions" "count" "I", Cond.methodLink RX4 25 yX2_init, Cond.instanceMethod yX2_init, Cond.code yX2_init cX2_init 1 none, Cond.methodLink RX2 1 objectInit, Cond.fieldLink RX2 7 "SignOnHouse$Keys" "signing" "I", Cond.fieldLink RX2 13 "SignOnHouse$Keys" "endOfBefore" "I"]
def wsX4_init_r3 : List Cond := [Cond.methodLink RX4 32 yX0_init, Cond.instanceMethod yX0_init, Cond.code yX0_init cX0_init 1 none, Cond.methodLink RX0 3 objectInit, Cond.fieldLink RX0 9 "SignOnHouse$Decisions" "caches" "[I", Cond.fieldLink RX0 15 "SignOnHouse$Decisions" "answers" "[I", Cond.fieldLink RX0 18 "SignOnHouse$Decisions" "keptSince" "[I", Cond.methodLink RX0 21 yJ7_fill_53178, Cond.static yJ7_fill_53178, Cond.initialized RJ7, Cond.code yJ7_fill_53178 cJ7_fill_53178 4 none]
def wsX4_init : List Cond := .code yX4_init cX4_init 1 none :: ((wsX4_init_r1 ++ (wsX4_init_r2 ++ wsX4_init_r3)) ++ wsX10 ++ wsX40 ++ wsX30 ++ wsX20 ++ wsX00)
def wsX4_isOutside : List Cond := .code yX4_isOutside cX4_isOutside 2 (some .boolean) :: ([])
def wsX4_setPerson : List Cond := .code yX4_setPerson cX4_setPerson 4 (some .boolean) :: ([.classLink RX4 52 "java/lang/IllegalArgumentException", .initialized "java/lang/IllegalArgumentException", .fieldLink RX4 10 "SignOnHouse" "groups" "LSignOnHouse$Groups;", .methodLink RX4 48 yX4_isOutside, .static yX4_isOutside, .initialized RX4, .code yX4_isOutside cX4_isOutside 2 (some .boolean), .methodLink RX4 59 yX1_placePerson, .instanceMethod yX1_placePerson, .selects RX1 yX1_placePerson yX1_placePerson, .initialized RX1, .code yX1_placePerson cX1_placePerson 5 (some .boolean), .fieldLink RX1 9 "SignOnHouse$Groups" "homesOfPerson" "[I", .methodLink RX1 24 yX1_contains, .static yX1_contains, .code yX1_contains cX1_contains 2 (some .boolean), .methodLink RX1 28 yX1_changed, .static yX1_changed, .code yX1_changed cX1_changed 3 (some .int)] ++ wsX40 ++ wsX10 ++ (vx_atS RX4 56 "java/lang/IllegalArgumentException" ["java/lang/RuntimeException", "java/lang/Exception"]).filter goodWord)
def wsX4_setGroup_r1 : List Cond := [Cond.classLink RX4 52 "java/lang/IllegalArgumentException", Cond.initialized "java/lang/IllegalArgumentException", Cond.classLink RX4 70 "java/lang/IllegalStateException", Cond.initialized "java/lang/IllegalStateException", Cond.fieldLink RX4 10 "SignOnHouse" "groups" "LSignOnHouse$Groups;", Cond.methodLink RX4 48 yX4_isOutside, Cond.static yX4_isOutside, Cond.initialized RX4, Cond.code yX4_isOutside cX4_isOutside 2 (some .boolean), Cond.methodLink RX4 67 yX1_isAround, Cond.instanceMethod yX1_isAround, Cond.selects RX1 yX1_isAround yX1_isAround, Cond.initialized RX1, Cond.code yX1_isAround cX1_isAround 3 (some .boolean), Cond.fieldLink RX1 15 "SignOnHouse$Groups" "homesOfGroup" "[I", Cond.methodLink RX1 36 yX1_allAround, Cond.instanceMethod yX1_allAround, Cond.selects RX1 yX1_allAround yX1_allAround, Cond.code yX1_allAround cX1_allAround 4 (some .int), Cond.methodLink RX1 40 yX1_oneLinkFurther, Cond.instanceMethod yX1_oneLinkFurther, Cond.selects RX1 yX1_oneLinkFurther yX1_oneLinkFurther, Cond.code yX1_oneLinkFurther cX1_oneLinkFurther 4 (some .int), Cond.methodLink RX1 24 yX1_contains]
def wsX4_setGroup_r2 : List Cond := [Cond.static yX1_contains, Cond.code yX1_contains cX1_contains 2 (some .boolean), Cond.methodLink RX4 75 yX1_placeGroup, Cond.instanceMethod yX1_placeGroup, Cond.selects RX1 yX1_placeGroup yX1_placeGroup, Cond.code yX1_placeGroup cX1_placeGroup 5 (some .boolean), Cond.methodLink RX1 28 yX1_changed, Cond.static yX1_changed, Cond.code yX1_changed cX1_changed 3 (some .int)]
def wsX4_setGroup : List Cond := .code yX4_setGroup cX4_setGroup 4 (some .boolean) :: ((wsX4_setGroup_r1 ++ wsX4_setGroup_r2) ++ wsX40 ++ wsX10 ++ (vx_atS RX4 56 "java/lang/IllegalArgumentException" ["java/lang/RuntimeException", "java/lang/Exception"]).filter goodWord ++ (vx_atS RX4 74 "java/lang/IllegalStateException" ["java/lang/RuntimeException", "java/lang/Exception"]).filter goodWord)
def wsX4_setRole : List Cond := .code yX4_setRole cX4_setRole 4 (some .int) :: ([.classLink RX4 52 "java/lang/IllegalArgumentException", .initialized "java/lang/IllegalArgumentException", .fieldLink RX4 10 "SignOnHouse" "groups" "LSignOnHouse$Groups;", .methodLink RX4 48 yX4_isOutside, .static yX4_isOutside, .initialized RX4, .code yX4_isOutside cX4_isOutside 2 (some .boolean), .methodLink RX4 82 yX1_giveRole, .instanceMethod yX1_giveRole, .selects RX1 yX1_giveRole yX1_giveRole, .initialized RX1, .code yX1_giveRole cX1_giveRole 5 (some .int), .fieldLink RX1 18 "SignOnHouse$Groups" "grantedOfRole" "[I", .fieldLink RX1 21 "SignOnHouse$Groups" "deniedOfRole" "[I", .methodLink RX1 32 yX1_roleOf, .instanceMethod yX1_roleOf, .selects RX1 yX1_roleOf yX1_roleOf, .code yX1_roleOf cX1_roleOf 3 (some .int), .methodLink RX1 24 yX1_contains, .static yX1_contains, .code yX1_contains cX1_contains 2 (some .boolean), .methodLink RX1 28 yX1_changed, .static yX1_changed, .code yX1_changed cX1_changed 3 (some .int)] ++ wsX40 ++ wsX10 ++ (vx_atS RX4 56 "java/lang/IllegalArgumentException" ["java/lang/RuntimeException", "java/lang/Exception"]).filter goodWord)
def wsX4_setRisk : List Cond := .code yX4_setRisk cX4_setRisk 4 (some .int) :: ([.classLink RX4 52 "java/lang/IllegalArgumentException", .initialized "java/lang/IllegalArgumentException", .fieldLink RX4 37 "SignOnHouse" "risks" "[I", .fieldLink RX4 19 "SignOnHouse" "sessions" "LSignOnHouse$Sessions;", .methodLink RX4 48 yX4_isOutside, .static yX4_isOutside, .initialized RX4, .code yX4_isOutside cX4_isOutside 2 (some .boolean), .methodLink RX4 88 yX3_endAllOf, .instanceMethod yX3_endAllOf, .selects RX3 yX3_endAllOf yX3_endAllOf, .initialized RX3, .code yX3_endAllOf cX3_endAllOf 4 (some .int), .fieldLink RX3 26 "SignOnHouse$Sessions" "count" "I", .fieldLink RX3 22 "SignOnHouse$Sessions" "over" "[Z", .fieldLink RX3 9 "SignOnHouse$Sessions" "people" "[I", .methodLink RX3 30 yX3_end, .instanceMethod yX3_end, .selects RX3 yX3_end yX3_end, .code yX3_end cX3_end 2 none] ++ wsX40 ++ wsX30 ++ (vx_atS RX4 56 "java/lang/IllegalArgumentException" ["java/lang/RuntimeException", "java/lang/Exception"]).filter goodWord)
def wsX4_isIn_r1 : List Cond := [Cond.classLink RX4 52 "java/lang/IllegalArgumentException", Cond.initialized "java/lang/IllegalArgumentException", Cond.fieldLink RX4 10 "SignOnHouse" "groups" "LSignOnHouse$Groups;", Cond.methodLink RX4 48 yX4_isOutside, Cond.static yX4_isOutside, Cond.initialized RX4, Cond.code yX4_isOutside cX4_isOutside 2 (some .boolean), Cond.methodLink RX4 92 yX1_hasPerson, Cond.instanceMethod yX1_hasPerson, Cond.selects RX1 yX1_hasPerson yX1_hasPerson, Cond.initialized RX1, Cond.code yX1_hasPerson cX1_hasPerson 3 (some .boolean), Cond.fieldLink RX1 9 "SignOnHouse$Groups" "homesOfPerson" "[I", Cond.methodLink RX1 36 yX1_allAround, Cond.instanceMethod yX1_allAround, Cond.selects RX1 yX1_allAround yX1_allAround, Cond.code yX1_allAround cX1_allAround 4 (some .int), Cond.methodLink RX1 40 yX1_oneLinkFurther, Cond.instanceMethod yX1_oneLinkFurther, Cond.selects RX1 yX1_oneLinkFurther yX1_oneLinkFurther, Cond.code yX1_oneLinkFurther cX1_oneLinkFurther 4 (some .int), Cond.fieldLink RX1 15 "SignOnHouse$Groups" "homesOfGroup" "[I", Cond.methodLink RX1 24 yX1_contains, Cond.static yX1_contains]
def wsX4_isIn_r2 : List Cond := [Cond.code yX1_contains cX1_contains 2 (some .boolean)]
def wsX4_isIn : List Cond := .code yX4_isIn cX4_isIn 3 (some .boolean) :: ((wsX4_isIn_r1 ++ wsX4_isIn_r2) ++ wsX40 ++ wsX10 ++ (vx_atS RX4 56 "java/lang/IllegalArgumentException" ["java/lang/RuntimeException", "java/lang/Exception"]).filter goodWord)
def wsX4_isBarred : List Cond := .code yX4_isBarred cX4_isBarred 2 (some .boolean) :: ([.fieldLink RX4 37 "SignOnHouse" "risks" "[I"] ++ wsX40)
def wsX4_holdsGlass : List Cond := .code yX4_holdsGlass cX4_holdsGlass 3 (some .boolean) :: ([.fieldLink RX4 44 "SignOnHouse" "minute" "I", .fieldLink RX4 41 "SignOnHouse" "glassEnds" "[I"] ++ wsX40)
def wsX4_answerOfHouse_r1 : List Cond := [Cond.fieldLink RX4 10 "SignOnHouse" "groups" "LSignOnHouse$Groups;", Cond.methodLink RX4 103 yX4_isBarred, Cond.instanceMethod yX4_isBarred, Cond.selects RX4 yX4_isBarred yX4_isBarred, Cond.initialized RX4, Cond.code yX4_isBarred cX4_isBarred 2 (some .boolean), Cond.fieldLink RX4 37 "SignOnHouse" "risks" "[I", Cond.methodLink RX4 202 yX1_anyGrants, Cond.instanceMethod yX1_anyGrants, Cond.selects RX1 yX1_anyGrants yX1_anyGrants, Cond.initialized RX1, Cond.code yX1_anyGrants cX1_anyGrants 3 (some .boolean), Cond.fieldLink RX1 9 "SignOnHouse$Groups" "homesOfPerson" "[I", Cond.fieldLink RX1 18 "SignOnHouse$Groups" "grantedOfRole" "[I", Cond.methodLink RX1 36 yX1_allAround, Cond.instanceMethod yX1_allAround, Cond.selects RX1 yX1_allAround yX1_allAround, Cond.code yX1_allAround cX1_allAround 4 (some .int), Cond.methodLink RX1 40 yX1_oneLinkFurther, Cond.instanceMethod yX1_oneLinkFurther, Cond.selects RX1 yX1_oneLinkFurther yX1_oneLinkFurther, Cond.code yX1_oneLinkFurther cX1_oneLinkFurther 4 (some .int), Cond.fieldLink RX1 15 "SignOnHouse$Groups" "homesOfGroup" "[I", Cond.methodLink RX1 24 yX1_contains]
def wsX4_answerOfHouse_r2 : List Cond := [Cond.static yX1_contains, Cond.code yX1_contains cX1_contains 2 (some .boolean), Cond.methodLink RX4 205 yX1_anyDenies, Cond.instanceMethod yX1_anyDenies, Cond.selects RX1 yX1_anyDenies yX1_anyDenies, Cond.code yX1_anyDenies cX1_anyDenies 3 (some .boolean), Cond.fieldLink RX1 21 "SignOnHouse$Groups" "deniedOfRole" "[I", Cond.methodLink RX4 208 yX4_holdsGlass, Cond.instanceMethod yX4_holdsGlass, Cond.selects RX4 yX4_holdsGlass yX4_holdsGlass, Cond.code yX4_holdsGlass cX4_holdsGlass 3 (some .boolean), Cond.fieldLink RX4 44 "SignOnHouse" "minute" "I", Cond.fieldLink RX4 41 "SignOnHouse" "glassEnds" "[I"]
def wsX4_answerOfHouse : List Cond := .code yX4_answerOfHouse cX4_answerOfHouse 4 (some .int) :: ((wsX4_answerOfHouse_r1 ++ wsX4_answerOfHouse_r2) ++ wsX40 ++ wsX10)
def wsX4_allows_r1 : List Cond := [Cond.classLink RX4 52 "java/lang/IllegalArgumentException", Cond.initialized "java/lang/IllegalArgumentException", Cond.methodLink RX4 48 yX4_isOutside, Cond.static yX4_isOutside, Cond.initialized RX4, Cond.code yX4_isOutside cX4_isOutside 2 (some .boolean), Cond.methodLink RX4 97 yX4_answerOfHouse, Cond.instanceMethod yX4_answerOfHouse, Cond.selects RX4 yX4_answerOfHouse yX4_answerOfHouse, Cond.code yX4_answerOfHouse cX4_answerOfHouse 4 (some .int), Cond.fieldLink RX4 10 "SignOnHouse" "groups" "LSignOnHouse$Groups;", Cond.methodLink RX4 103 yX4_isBarred, Cond.instanceMethod yX4_isBarred, Cond.selects RX4 yX4_isBarred yX4_isBarred, Cond.code yX4_isBarred cX4_isBarred 2 (some .boolean), Cond.fieldLink RX4 37 "SignOnHouse" "risks" "[I", Cond.methodLink RX4 202 yX1_anyGrants, Cond.instanceMethod yX1_anyGrants, Cond.selects RX1 yX1_anyGrants yX1_anyGrants, Cond.initialized RX1, Cond.code yX1_anyGrants cX1_anyGrants 3 (some .boolean), Cond.fieldLink RX1 9 "SignOnHouse$Groups" "homesOfPerson" "[I", Cond.fieldLink RX1 18 "SignOnHouse$Groups" "grantedOfRole" "[I", Cond.methodLink RX1 36 yX1_allAround]
def wsX4_allows_r2 : List Cond := [Cond.instanceMethod yX1_allAround, Cond.selects RX1 yX1_allAround yX1_allAround, Cond.code yX1_allAround cX1_allAround 4 (some .int), Cond.methodLink RX1 40 yX1_oneLinkFurther, Cond.instanceMethod yX1_oneLinkFurther, Cond.selects RX1 yX1_oneLinkFurther yX1_oneLinkFurther, Cond.code yX1_oneLinkFurther cX1_oneLinkFurther 4 (some .int), Cond.fieldLink RX1 15 "SignOnHouse$Groups" "homesOfGroup" "[I", Cond.methodLink RX1 24 yX1_contains, Cond.static yX1_contains, Cond.code yX1_contains cX1_contains 2 (some .boolean), Cond.methodLink RX4 205 yX1_anyDenies, Cond.instanceMethod yX1_anyDenies, Cond.selects RX1 yX1_anyDenies yX1_anyDenies, Cond.code yX1_anyDenies cX1_anyDenies 3 (some .boolean), Cond.fieldLink RX1 21 "SignOnHouse$Groups" "deniedOfRole" "[I", Cond.methodLink RX4 208 yX4_holdsGlass, Cond.instanceMethod yX4_holdsGlass, Cond.selects RX4 yX4_holdsGlass yX4_holdsGlass, Cond.code yX4_holdsGlass cX4_holdsGlass 3 (some .boolean), Cond.fieldLink RX4 44 "SignOnHouse" "minute" "I", Cond.fieldLink RX4 41 "SignOnHouse" "glassEnds" "[I"]
def wsX4_allows : List Cond := .code yX4_allows cX4_allows 3 (some .boolean) :: ((wsX4_allows_r1 ++ wsX4_allows_r2) ++ wsX40 ++ wsX10 ++ (vx_atS RX4 56 "java/lang/IllegalArgumentException" ["java/lang/RuntimeException", "java/lang/Exception"]).filter goodWord)
def wsX4_open_r1 : List Cond := [Cond.classLink RX4 52 "java/lang/IllegalArgumentException", Cond.initialized "java/lang/IllegalArgumentException", Cond.classLink RX4 70 "java/lang/IllegalStateException", Cond.initialized "java/lang/IllegalStateException", Cond.fieldLink RX4 19 "SignOnHouse" "sessions" "LSignOnHouse$Sessions;", Cond.fieldLink RX4 26 "SignOnHouse" "keys" "LSignOnHouse$Keys;", Cond.fieldLink RX4 44 "SignOnHouse" "minute" "I", Cond.methodLink RX4 48 yX4_isOutside, Cond.static yX4_isOutside, Cond.initialized RX4, Cond.code yX4_isOutside cX4_isOutside 2 (some .boolean), Cond.methodLink RX4 103 yX4_isBarred, Cond.instanceMethod yX4_isBarred, Cond.selects RX4 yX4_isBarred yX4_isBarred, Cond.code yX4_isBarred cX4_isBarred 2 (some .boolean), Cond.fieldLink RX4 37 "SignOnHouse" "risks" "[I", Cond.methodLink RX4 109 yX3_areAllOpened, Cond.instanceMethod yX3_areAllOpened, Cond.selects RX3 yX3_areAllOpened yX3_areAllOpened, Cond.initialized RX3, Cond.code yX3_areAllOpened cX3_areAllOpened 1 (some .boolean), Cond.fieldLink RX3 26 "SignOnHouse$Sessions" "count" "I", Cond.methodLink RX4 115 yX2_signing, Cond.instanceMethod yX2_signing]
def wsX4_open_r2 : List Cond := [Cond.selects RX2 yX2_signing yX2_signing, Cond.initialized RX2, Cond.code yX2_signing cX2_signing 1 (some .int), Cond.fieldLink RX2 7 "SignOnHouse$Keys" "signing" "I", Cond.methodLink RX4 119 yX3_add, Cond.instanceMethod yX3_add, Cond.selects RX3 yX3_add yX3_add, Cond.code yX3_add cX3_add 5 (some .int), Cond.fieldLink RX3 9 "SignOnHouse$Sessions" "people" "[I", Cond.fieldLink RX3 13 "SignOnHouse$Sessions" "signedWith" "[I", Cond.fieldLink RX3 16 "SignOnHouse$Sessions" "openedAt" "[I", Cond.fieldLink RX3 19 "SignOnHouse$Sessions" "usedAt" "[I"]
def wsX4_open : List Cond := .code yX4_open cX4_open 2 (some .int) :: ((wsX4_open_r1 ++ wsX4_open_r2) ++ wsX40 ++ wsX30 ++ wsX20 ++ (vx_atS RX4 56 "java/lang/IllegalArgumentException" ["java/lang/RuntimeException", "java/lang/Exception"]).filter goodWord ++ (vx_atS RX4 74 "java/lang/IllegalStateException" ["java/lang/RuntimeException", "java/lang/Exception"]).filter goodWord)
def wsX4_close_r1 : List Cond := [Cond.classLink RX4 125 "java/lang/IndexOutOfBoundsException", Cond.initialized "java/lang/IndexOutOfBoundsException", Cond.classLink RX4 70 "java/lang/IllegalStateException", Cond.initialized "java/lang/IllegalStateException", Cond.fieldLink RX4 19 "SignOnHouse" "sessions" "LSignOnHouse$Sessions;", Cond.fieldLink RX4 44 "SignOnHouse" "minute" "I", Cond.methodLink RX4 122 yX3_has, Cond.instanceMethod yX3_has, Cond.selects RX3 yX3_has yX3_has, Cond.initialized RX3, Cond.code yX3_has cX3_has 2 (some .boolean), Cond.fieldLink RX3 26 "SignOnHouse$Sessions" "count" "I", Cond.methodLink RX4 130 yX3_isOver, Cond.instanceMethod yX3_isOver, Cond.selects RX3 yX3_isOver yX3_isOver, Cond.code yX3_isOver cX3_isOver 2 (some .boolean), Cond.fieldLink RX3 22 "SignOnHouse$Sessions" "over" "[Z", Cond.methodLink RX4 135 yX3_end, Cond.instanceMethod yX3_end, Cond.selects RX3 yX3_end yX3_end, Cond.code yX3_end cX3_end 2 none, Cond.methodLink RX4 139 yX3_age, Cond.instanceMethod yX3_age, Cond.selects RX3 yX3_age yX3_age]
def wsX4_close_r2 : List Cond := [Cond.code yX3_age cX3_age 3 (some .int), Cond.fieldLink RX3 16 "SignOnHouse$Sessions" "openedAt" "[I"]
def wsX4_close : List Cond := .code yX4_close cX4_close 2 (some .int) :: ((wsX4_close_r1 ++ wsX4_close_r2) ++ wsX40 ++ wsX30 ++ (vx_atS RX4 129 "java/lang/IndexOutOfBoundsException" ["java/lang/RuntimeException", "java/lang/Exception"]).filter goodWord ++ (vx_atS RX4 74 "java/lang/IllegalStateException" ["java/lang/RuntimeException", "java/lang/Exception"]).filter goodWord)
def wsX4_goesOn : List Cond := .code yX4_goesOn cX4_goesOn 2 (some .boolean) :: ([.classLink RX4 125 "java/lang/IndexOutOfBoundsException", .initialized "java/lang/IndexOutOfBoundsException", .fieldLink RX4 19 "SignOnHouse" "sessions" "LSignOnHouse$Sessions;", .methodLink RX4 122 yX3_has, .instanceMethod yX3_has, .selects RX3 yX3_has yX3_has, .initialized RX3, .code yX3_has cX3_has 2 (some .boolean), .fieldLink RX3 26 "SignOnHouse$Sessions" "count" "I", .methodLink RX4 130 yX3_isOver, .instanceMethod yX3_isOver, .selects RX3 yX3_isOver yX3_isOver, .code yX3_isOver cX3_isOver 2 (some .boolean), .fieldLink RX3 22 "SignOnHouse$Sessions" "over" "[Z"] ++ wsX40 ++ wsX30 ++ (vx_atS RX4 129 "java/lang/IndexOutOfBoundsException" ["java/lang/RuntimeException", "java/lang/Exception"]).filter goodWord)
def wsX4_changeKeys_r1 : List Cond := [Cond.classLink RX4 52 "java/lang/IllegalArgumentException", Cond.initialized "java/lang/IllegalArgumentException", Cond.fieldLink RX4 26 "SignOnHouse" "keys" "LSignOnHouse$Keys;", Cond.fieldLink RX4 44 "SignOnHouse" "minute" "I", Cond.fieldLink RX4 19 "SignOnHouse" "sessions" "LSignOnHouse$Sessions;", Cond.fieldLink RX4 37 "SignOnHouse" "risks" "[I", Cond.methodLink RX4 144 yX2_signWithNext, Cond.instanceMethod yX2_signWithNext, Cond.selects RX2 yX2_signWithNext yX2_signWithNext, Cond.initialized RX2, Cond.code yX2_signWithNext cX2_signWithNext 2 none, Cond.fieldLink RX2 7 "SignOnHouse$Keys" "signing" "I", Cond.fieldLink RX2 13 "SignOnHouse$Keys" "endOfBefore" "I", Cond.methodLink RX4 147 yX3_endDue, Cond.instanceMethod yX3_endDue, Cond.selects RX3 yX3_endDue yX3_endDue, Cond.initialized RX3, Cond.code yX3_endDue cX3_endDue 6 (some .int), Cond.fieldLink RX3 26 "SignOnHouse$Sessions" "count" "I", Cond.fieldLink RX3 22 "SignOnHouse$Sessions" "over" "[Z", Cond.fieldLink RX3 9 "SignOnHouse$Sessions" "people" "[I", Cond.methodLink RX3 34 yX3_isDue, Cond.instanceMethod yX3_isDue, Cond.selects RX3 yX3_isDue yX3_isDue]
def wsX4_changeKeys_r2 : List Cond := [Cond.code yX3_isDue cX3_isDue 5 (some .boolean), Cond.fieldLink RX3 19 "SignOnHouse$Sessions" "usedAt" "[I", Cond.fieldLink RX3 13 "SignOnHouse$Sessions" "signedWith" "[I", Cond.methodLink RX3 38 yX3_age, Cond.instanceMethod yX3_age, Cond.selects RX3 yX3_age yX3_age, Cond.code yX3_age cX3_age 3 (some .int), Cond.fieldLink RX3 16 "SignOnHouse$Sessions" "openedAt" "[I", Cond.methodLink RX3 42 yX2_takes, Cond.instanceMethod yX2_takes, Cond.selects RX2 yX2_takes yX2_takes, Cond.code yX2_takes cX2_takes 3 (some .boolean), Cond.methodLink RX3 30 yX3_end, Cond.instanceMethod yX3_end, Cond.selects RX3 yX3_end yX3_end, Cond.code yX3_end cX3_end 2 none, Cond.methodLink RX4 115 yX2_signing, Cond.instanceMethod yX2_signing, Cond.selects RX2 yX2_signing yX2_signing, Cond.code yX2_signing cX2_signing 1 (some .int)]
def wsX4_changeKeys : List Cond := .code yX4_changeKeys cX4_changeKeys 2 (some .int) :: ((wsX4_changeKeys_r1 ++ wsX4_changeKeys_r2) ++ wsX40 ++ wsX20 ++ wsX30 ++ (vx_atS RX4 56 "java/lang/IllegalArgumentException" ["java/lang/RuntimeException", "java/lang/Exception"]).filter goodWord)
def wsX4_isTaken : List Cond := .code yX4_isTaken cX4_isTaken 2 (some .boolean) :: ([.classLink RX4 52 "java/lang/IllegalArgumentException", .initialized "java/lang/IllegalArgumentException", .fieldLink RX4 26 "SignOnHouse" "keys" "LSignOnHouse$Keys;", .fieldLink RX4 44 "SignOnHouse" "minute" "I", .methodLink RX4 115 yX2_signing, .instanceMethod yX2_signing, .selects RX2 yX2_signing yX2_signing, .initialized RX2, .code yX2_signing cX2_signing 1 (some .int), .fieldLink RX2 7 "SignOnHouse$Keys" "signing" "I", .methodLink RX4 153 yX2_takes, .instanceMethod yX2_takes, .selects RX2 yX2_takes yX2_takes, .code yX2_takes cX2_takes 3 (some .boolean), .fieldLink RX2 13 "SignOnHouse$Keys" "endOfBefore" "I"] ++ wsX40 ++ wsX20 ++ (vx_atS RX4 56 "java/lang/IllegalArgumentException" ["java/lang/RuntimeException", "java/lang/Exception"]).filter goodWord)
def wsX4_pass_r1 : List Cond := [Cond.classLink RX4 52 "java/lang/IllegalArgumentException", Cond.initialized "java/lang/IllegalArgumentException", Cond.fieldLink RX4 44 "SignOnHouse" "minute" "I", Cond.fieldLink RX4 33 "SignOnHouse" "decisions" "LSignOnHouse$Decisions;", Cond.fieldLink RX4 19 "SignOnHouse" "sessions" "LSignOnHouse$Sessions;", Cond.fieldLink RX4 37 "SignOnHouse" "risks" "[I", Cond.fieldLink RX4 26 "SignOnHouse" "keys" "LSignOnHouse$Keys;", Cond.methodLink RX4 156 yX0_dropDueOfAll, Cond.instanceMethod yX0_dropDueOfAll, Cond.selects RX0 yX0_dropDueOfAll yX0_dropDueOfAll, Cond.initialized RX0, Cond.code yX0_dropDueOfAll cX0_dropDueOfAll 3 none, Cond.methodLink RX0 35 yX0_dropDue, Cond.instanceMethod yX0_dropDue, Cond.selects RX0 yX0_dropDue yX0_dropDue, Cond.code yX0_dropDue cX0_dropDue 5 none, Cond.fieldLink RX0 18 "SignOnHouse$Decisions" "keptSince" "[I", Cond.fieldLink RX0 9 "SignOnHouse$Decisions" "caches" "[I", Cond.fieldLink RX0 15 "SignOnHouse$Decisions" "answers" "[I", Cond.methodLink RX0 27 yX0_place, Cond.static yX0_place, Cond.code yX0_place cX0_place 3 (some .int), Cond.methodLink RX4 147 yX3_endDue, Cond.instanceMethod yX3_endDue]
def wsX4_pass_r2 : List Cond := [Cond.selects RX3 yX3_endDue yX3_endDue, Cond.initialized RX3, Cond.code yX3_endDue cX3_endDue 6 (some .int), Cond.fieldLink RX3 26 "SignOnHouse$Sessions" "count" "I", Cond.fieldLink RX3 22 "SignOnHouse$Sessions" "over" "[Z", Cond.fieldLink RX3 9 "SignOnHouse$Sessions" "people" "[I", Cond.methodLink RX3 34 yX3_isDue, Cond.instanceMethod yX3_isDue, Cond.selects RX3 yX3_isDue yX3_isDue, Cond.code yX3_isDue cX3_isDue 5 (some .boolean), Cond.fieldLink RX3 19 "SignOnHouse$Sessions" "usedAt" "[I", Cond.fieldLink RX3 13 "SignOnHouse$Sessions" "signedWith" "[I", Cond.methodLink RX3 38 yX3_age, Cond.instanceMethod yX3_age, Cond.selects RX3 yX3_age yX3_age, Cond.code yX3_age cX3_age 3 (some .int), Cond.fieldLink RX3 16 "SignOnHouse$Sessions" "openedAt" "[I", Cond.methodLink RX3 42 yX2_takes, Cond.instanceMethod yX2_takes, Cond.selects RX2 yX2_takes yX2_takes, Cond.initialized RX2, Cond.code yX2_takes cX2_takes 3 (some .boolean), Cond.fieldLink RX2 7 "SignOnHouse$Keys" "signing" "I", Cond.fieldLink RX2 13 "SignOnHouse$Keys" "endOfBefore" "I"]
def wsX4_pass_r3 : List Cond := [Cond.methodLink RX3 30 yX3_end, Cond.instanceMethod yX3_end, Cond.selects RX3 yX3_end yX3_end, Cond.code yX3_end cX3_end 2 none]
def wsX4_pass : List Cond := .code yX4_pass cX4_pass 2 (some .int) :: ((wsX4_pass_r1 ++ (wsX4_pass_r2 ++ wsX4_pass_r3)) ++ wsX40 ++ wsX00 ++ wsX30 ++ wsX20 ++ (vx_atS RX4 56 "java/lang/IllegalArgumentException" ["java/lang/RuntimeException", "java/lang/Exception"]).filter goodWord)
def wsX4_now : List Cond := .code yX4_now cX4_now 1 (some .int) :: ([.fieldLink RX4 44 "SignOnHouse" "minute" "I"] ++ wsX40)
def wsX4_servesAsWitness_r1 : List Cond := [Cond.fieldLink RX4 10 "SignOnHouse" "groups" "LSignOnHouse$Groups;", Cond.methodLink RX4 103 yX4_isBarred, Cond.instanceMethod yX4_isBarred, Cond.selects RX4 yX4_isBarred yX4_isBarred, Cond.initialized RX4, Cond.code yX4_isBarred cX4_isBarred 2 (some .boolean), Cond.fieldLink RX4 37 "SignOnHouse" "risks" "[I", Cond.methodLink RX4 202 yX1_anyGrants, Cond.instanceMethod yX1_anyGrants, Cond.selects RX1 yX1_anyGrants yX1_anyGrants, Cond.initialized RX1, Cond.code yX1_anyGrants cX1_anyGrants 3 (some .boolean), Cond.fieldLink RX1 9 "SignOnHouse$Groups" "homesOfPerson" "[I", Cond.fieldLink RX1 18 "SignOnHouse$Groups" "grantedOfRole" "[I", Cond.methodLink RX1 36 yX1_allAround, Cond.instanceMethod yX1_allAround, Cond.selects RX1 yX1_allAround yX1_allAround, Cond.code yX1_allAround cX1_allAround 4 (some .int), Cond.methodLink RX1 40 yX1_oneLinkFurther, Cond.instanceMethod yX1_oneLinkFurther, Cond.selects RX1 yX1_oneLinkFurther yX1_oneLinkFurther, Cond.code yX1_oneLinkFurther cX1_oneLinkFurther 4 (some .int), Cond.fieldLink RX1 15 "SignOnHouse$Groups" "homesOfGroup" "[I", Cond.methodLink RX1 24 yX1_contains]
def wsX4_servesAsWitness_r2 : List Cond := [Cond.static yX1_contains, Cond.code yX1_contains cX1_contains 2 (some .boolean)]
def wsX4_servesAsWitness : List Cond := .code yX4_servesAsWitness cX4_servesAsWitness 3 (some .boolean) :: ((wsX4_servesAsWitness_r1 ++ wsX4_servesAsWitness_r2) ++ wsX40 ++ wsX10)
def wsX4_breakGlass_r1 : List Cond := [Cond.classLink RX4 52 "java/lang/IllegalArgumentException", Cond.initialized "java/lang/IllegalArgumentException", Cond.classLink RX4 70 "java/lang/IllegalStateException", Cond.initialized "java/lang/IllegalStateException", Cond.fieldLink RX4 44 "SignOnHouse" "minute" "I", Cond.fieldLink RX4 41 "SignOnHouse" "glassEnds" "[I", Cond.methodLink RX4 48 yX4_isOutside, Cond.static yX4_isOutside, Cond.initialized RX4, Cond.code yX4_isOutside cX4_isOutside 2 (some .boolean), Cond.methodLink RX4 163 yX4_servesAsWitness, Cond.instanceMethod yX4_servesAsWitness, Cond.selects RX4 yX4_servesAsWitness yX4_servesAsWitness, Cond.code yX4_servesAsWitness cX4_servesAsWitness 3 (some .boolean), Cond.fieldLink RX4 10 "SignOnHouse" "groups" "LSignOnHouse$Groups;", Cond.methodLink RX4 103 yX4_isBarred, Cond.instanceMethod yX4_isBarred, Cond.selects RX4 yX4_isBarred yX4_isBarred, Cond.code yX4_isBarred cX4_isBarred 2 (some .boolean), Cond.fieldLink RX4 37 "SignOnHouse" "risks" "[I", Cond.methodLink RX4 202 yX1_anyGrants, Cond.instanceMethod yX1_anyGrants, Cond.selects RX1 yX1_anyGrants yX1_anyGrants, Cond.initialized RX1]
def wsX4_breakGlass_r2 : List Cond := [Cond.code yX1_anyGrants cX1_anyGrants 3 (some .boolean), Cond.fieldLink RX1 9 "SignOnHouse$Groups" "homesOfPerson" "[I", Cond.fieldLink RX1 18 "SignOnHouse$Groups" "grantedOfRole" "[I", Cond.methodLink RX1 36 yX1_allAround, Cond.instanceMethod yX1_allAround, Cond.selects RX1 yX1_allAround yX1_allAround, Cond.code yX1_allAround cX1_allAround 4 (some .int), Cond.methodLink RX1 40 yX1_oneLinkFurther, Cond.instanceMethod yX1_oneLinkFurther, Cond.selects RX1 yX1_oneLinkFurther yX1_oneLinkFurther, Cond.code yX1_oneLinkFurther cX1_oneLinkFurther 4 (some .int), Cond.fieldLink RX1 15 "SignOnHouse$Groups" "homesOfGroup" "[I", Cond.methodLink RX1 24 yX1_contains, Cond.static yX1_contains, Cond.code yX1_contains cX1_contains 2 (some .boolean)]
def wsX4_breakGlass : List Cond := .code yX4_breakGlass cX4_breakGlass 6 (some .int) :: ((wsX4_breakGlass_r1 ++ wsX4_breakGlass_r2) ++ wsX40 ++ wsX10 ++ (vx_atS RX4 56 "java/lang/IllegalArgumentException" ["java/lang/RuntimeException", "java/lang/Exception"]).filter goodWord ++ (vx_atS RX4 74 "java/lang/IllegalStateException" ["java/lang/RuntimeException", "java/lang/Exception"]).filter goodWord)
def wsX4_setCache_r1 : List Cond := [Cond.classLink RX4 52 "java/lang/IllegalArgumentException", Cond.initialized "java/lang/IllegalArgumentException", Cond.fieldLink RX4 33 "SignOnHouse" "decisions" "LSignOnHouse$Decisions;", Cond.fieldLink RX4 44 "SignOnHouse" "minute" "I", Cond.methodLink RX4 48 yX4_isOutside, Cond.static yX4_isOutside, Cond.initialized RX4, Cond.code yX4_isOutside cX4_isOutside 2 (some .boolean), Cond.methodLink RX4 170 yX0_cacheOf, Cond.instanceMethod yX0_cacheOf, Cond.selects RX0 yX0_cacheOf yX0_cacheOf, Cond.initialized RX0, Cond.code yX0_cacheOf cX0_cacheOf 2 (some .int), Cond.fieldLink RX0 9 "SignOnHouse$Decisions" "caches" "[I", Cond.methodLink RX4 173 yX0_allowCache, Cond.instanceMethod yX0_allowCache, Cond.selects RX0 yX0_allowCache yX0_allowCache, Cond.code yX0_allowCache cX0_allowCache 3 none, Cond.methodLink RX4 177 yX0_dropDue, Cond.instanceMethod yX0_dropDue, Cond.selects RX0 yX0_dropDue yX0_dropDue, Cond.code yX0_dropDue cX0_dropDue 5 none, Cond.fieldLink RX0 18 "SignOnHouse$Decisions" "keptSince" "[I", Cond.fieldLink RX0 15 "SignOnHouse$Decisions" "answers" "[I"]
def wsX4_setCache_r2 : List Cond := [Cond.methodLink RX0 27 yX0_place, Cond.static yX0_place, Cond.code yX0_place cX0_place 3 (some .int)]
def wsX4_setCache : List Cond := .code yX4_setCache cX4_setCache 4 (some .int) :: ((wsX4_setCache_r1 ++ wsX4_setCache_r2) ++ wsX40 ++ wsX00 ++ (vx_atS RX4 56 "java/lang/IllegalArgumentException" ["java/lang/RuntimeException", "java/lang/Exception"]).filter goodWord)
def wsX4_answerOfApp_r1 : List Cond := [Cond.fieldLink RX4 33 "SignOnHouse" "decisions" "LSignOnHouse$Decisions;", Cond.fieldLink RX4 44 "SignOnHouse" "minute" "I", Cond.methodLink RX4 211 yX0_areKept, Cond.instanceMethod yX0_areKept, Cond.selects RX0 yX0_areKept yX0_areKept, Cond.initialized RX0, Cond.code yX0_areKept cX0_areKept 4 (some .boolean), Cond.fieldLink RX0 15 "SignOnHouse$Decisions" "answers" "[I", Cond.methodLink RX0 27 yX0_place, Cond.static yX0_place, Cond.code yX0_place cX0_place 3 (some .int), Cond.methodLink RX4 214 yX0_answer, Cond.instanceMethod yX0_answer, Cond.selects RX0 yX0_answer yX0_answer, Cond.code yX0_answer cX0_answer 4 (some .int), Cond.methodLink RX4 97 yX4_answerOfHouse, Cond.instanceMethod yX4_answerOfHouse, Cond.selects RX4 yX4_answerOfHouse yX4_answerOfHouse, Cond.initialized RX4, Cond.code yX4_answerOfHouse cX4_answerOfHouse 4 (some .int), Cond.fieldLink RX4 10 "SignOnHouse" "groups" "LSignOnHouse$Groups;", Cond.methodLink RX4 103 yX4_isBarred, Cond.instanceMethod yX4_isBarred, Cond.selects RX4 yX4_isBarred yX4_isBarred]
def wsX4_answerOfApp_r2 : List Cond := [Cond.code yX4_isBarred cX4_isBarred 2 (some .boolean), Cond.fieldLink RX4 37 "SignOnHouse" "risks" "[I", Cond.methodLink RX4 202 yX1_anyGrants, Cond.instanceMethod yX1_anyGrants, Cond.selects RX1 yX1_anyGrants yX1_anyGrants, Cond.initialized RX1, Cond.code yX1_anyGrants cX1_anyGrants 3 (some .boolean), Cond.fieldLink RX1 9 "SignOnHouse$Groups" "homesOfPerson" "[I", Cond.fieldLink RX1 18 "SignOnHouse$Groups" "grantedOfRole" "[I", Cond.methodLink RX1 36 yX1_allAround, Cond.instanceMethod yX1_allAround, Cond.selects RX1 yX1_allAround yX1_allAround, Cond.code yX1_allAround cX1_allAround 4 (some .int), Cond.methodLink RX1 40 yX1_oneLinkFurther, Cond.instanceMethod yX1_oneLinkFurther, Cond.selects RX1 yX1_oneLinkFurther yX1_oneLinkFurther, Cond.code yX1_oneLinkFurther cX1_oneLinkFurther 4 (some .int), Cond.fieldLink RX1 15 "SignOnHouse$Groups" "homesOfGroup" "[I", Cond.methodLink RX1 24 yX1_contains, Cond.static yX1_contains, Cond.code yX1_contains cX1_contains 2 (some .boolean), Cond.methodLink RX4 205 yX1_anyDenies, Cond.instanceMethod yX1_anyDenies, Cond.selects RX1 yX1_anyDenies yX1_anyDenies]
def wsX4_answerOfApp_r3 : List Cond := [Cond.code yX1_anyDenies cX1_anyDenies 3 (some .boolean), Cond.fieldLink RX1 21 "SignOnHouse$Groups" "deniedOfRole" "[I", Cond.methodLink RX4 208 yX4_holdsGlass, Cond.instanceMethod yX4_holdsGlass, Cond.selects RX4 yX4_holdsGlass yX4_holdsGlass, Cond.code yX4_holdsGlass cX4_holdsGlass 3 (some .boolean), Cond.fieldLink RX4 41 "SignOnHouse" "glassEnds" "[I", Cond.methodLink RX4 217 yX0_keep, Cond.instanceMethod yX0_keep, Cond.selects RX0 yX0_keep yX0_keep, Cond.code yX0_keep cX0_keep 6 none, Cond.fieldLink RX0 9 "SignOnHouse$Decisions" "caches" "[I", Cond.fieldLink RX0 18 "SignOnHouse$Decisions" "keptSince" "[I"]
def wsX4_answerOfApp : List Cond := .code yX4_answerOfApp cX4_answerOfApp 5 (some .int) :: ((wsX4_answerOfApp_r1 ++ (wsX4_answerOfApp_r2 ++ wsX4_answerOfApp_r3)) ++ wsX40 ++ wsX00 ++ wsX10)
def wsX4_decide_r1 : List Cond := [Cond.classLink RX4 52 "java/lang/IllegalArgumentException", Cond.initialized "java/lang/IllegalArgumentException", Cond.classLink RX4 125 "java/lang/IndexOutOfBoundsException", Cond.initialized "java/lang/IndexOutOfBoundsException", Cond.fieldLink RX4 19 "SignOnHouse" "sessions" "LSignOnHouse$Sessions;", Cond.fieldLink RX4 44 "SignOnHouse" "minute" "I", Cond.methodLink RX4 48 yX4_isOutside, Cond.static yX4_isOutside, Cond.initialized RX4, Cond.code yX4_isOutside cX4_isOutside 2 (some .boolean), Cond.methodLink RX4 122 yX3_has, Cond.instanceMethod yX3_has, Cond.selects RX3 yX3_has yX3_has, Cond.initialized RX3, Cond.code yX3_has cX3_has 2 (some .boolean), Cond.fieldLink RX3 26 "SignOnHouse$Sessions" "count" "I", Cond.methodLink RX4 130 yX3_isOver, Cond.instanceMethod yX3_isOver, Cond.selects RX3 yX3_isOver yX3_isOver, Cond.code yX3_isOver cX3_isOver 2 (some .boolean), Cond.fieldLink RX3 22 "SignOnHouse$Sessions" "over" "[Z", Cond.methodLink RX4 182 yX3_use, Cond.instanceMethod yX3_use, Cond.selects RX3 yX3_use yX3_use]
def wsX4_decide_r2 : List Cond := [Cond.code yX3_use cX3_use 3 none, Cond.fieldLink RX3 19 "SignOnHouse$Sessions" "usedAt" "[I", Cond.methodLink RX4 185 yX3_personOf, Cond.instanceMethod yX3_personOf, Cond.selects RX3 yX3_personOf yX3_personOf, Cond.code yX3_personOf cX3_personOf 2 (some .int), Cond.fieldLink RX3 9 "SignOnHouse$Sessions" "people" "[I", Cond.methodLink RX4 188 yX4_answerOfApp, Cond.instanceMethod yX4_answerOfApp, Cond.selects RX4 yX4_answerOfApp yX4_answerOfApp, Cond.code yX4_answerOfApp cX4_answerOfApp 5 (some .int), Cond.fieldLink RX4 33 "SignOnHouse" "decisions" "LSignOnHouse$Decisions;", Cond.methodLink RX4 211 yX0_areKept, Cond.instanceMethod yX0_areKept, Cond.selects RX0 yX0_areKept yX0_areKept, Cond.initialized RX0, Cond.code yX0_areKept cX0_areKept 4 (some .boolean), Cond.fieldLink RX0 15 "SignOnHouse$Decisions" "answers" "[I", Cond.methodLink RX0 27 yX0_place, Cond.static yX0_place, Cond.code yX0_place cX0_place 3 (some .int), Cond.methodLink RX4 214 yX0_answer, Cond.instanceMethod yX0_answer, Cond.selects RX0 yX0_answer yX0_answer]
def wsX4_decide_r3 : List Cond := [Cond.code yX0_answer cX0_answer 4 (some .int), Cond.methodLink RX4 97 yX4_answerOfHouse, Cond.instanceMethod yX4_answerOfHouse, Cond.selects RX4 yX4_answerOfHouse yX4_answerOfHouse, Cond.code yX4_answerOfHouse cX4_answerOfHouse 4 (some .int), Cond.fieldLink RX4 10 "SignOnHouse" "groups" "LSignOnHouse$Groups;", Cond.methodLink RX4 103 yX4_isBarred, Cond.instanceMethod yX4_isBarred, Cond.selects RX4 yX4_isBarred yX4_isBarred, Cond.code yX4_isBarred cX4_isBarred 2 (some .boolean), Cond.fieldLink RX4 37 "SignOnHouse" "risks" "[I", Cond.methodLink RX4 202 yX1_anyGrants, Cond.instanceMethod yX1_anyGrants, Cond.selects RX1 yX1_anyGrants yX1_anyGrants, Cond.initialized RX1, Cond.code yX1_anyGrants cX1_anyGrants 3 (some .boolean), Cond.fieldLink RX1 9 "SignOnHouse$Groups" "homesOfPerson" "[I", Cond.fieldLink RX1 18 "SignOnHouse$Groups" "grantedOfRole" "[I", Cond.methodLink RX1 36 yX1_allAround, Cond.instanceMethod yX1_allAround, Cond.selects RX1 yX1_allAround yX1_allAround, Cond.code yX1_allAround cX1_allAround 4 (some .int), Cond.methodLink RX1 40 yX1_oneLinkFurther, Cond.instanceMethod yX1_oneLinkFurther]
def wsX4_decide_r4 : List Cond := [Cond.selects RX1 yX1_oneLinkFurther yX1_oneLinkFurther, Cond.code yX1_oneLinkFurther cX1_oneLinkFurther 4 (some .int), Cond.fieldLink RX1 15 "SignOnHouse$Groups" "homesOfGroup" "[I", Cond.methodLink RX1 24 yX1_contains, Cond.static yX1_contains, Cond.code yX1_contains cX1_contains 2 (some .boolean), Cond.methodLink RX4 205 yX1_anyDenies, Cond.instanceMethod yX1_anyDenies, Cond.selects RX1 yX1_anyDenies yX1_anyDenies, Cond.code yX1_anyDenies cX1_anyDenies 3 (some .boolean), Cond.fieldLink RX1 21 "SignOnHouse$Groups" "deniedOfRole" "[I", Cond.methodLink RX4 208 yX4_holdsGlass, Cond.instanceMethod yX4_holdsGlass, Cond.selects RX4 yX4_holdsGlass yX4_holdsGlass, Cond.code yX4_holdsGlass cX4_holdsGlass 3 (some .boolean), Cond.fieldLink RX4 41 "SignOnHouse" "glassEnds" "[I", Cond.methodLink RX4 217 yX0_keep, Cond.instanceMethod yX0_keep, Cond.selects RX0 yX0_keep yX0_keep, Cond.code yX0_keep cX0_keep 6 none, Cond.fieldLink RX0 9 "SignOnHouse$Decisions" "caches" "[I", Cond.fieldLink RX0 18 "SignOnHouse$Decisions" "keptSince" "[I"]
def wsX4_decide : List Cond := .code yX4_decide cX4_decide 4 (some .int) :: ((wsX4_decide_r1 ++ (wsX4_decide_r2 ++ (wsX4_decide_r3 ++ wsX4_decide_r4))) ++ wsX40 ++ wsX30 ++ wsX00 ++ wsX10 ++ (vx_atS RX4 56 "java/lang/IllegalArgumentException" ["java/lang/RuntimeException", "java/lang/Exception"]).filter goodWord ++ (vx_atS RX4 129 "java/lang/IndexOutOfBoundsException" ["java/lang/RuntimeException", "java/lang/Exception"]).filter goodWord)
def wsX4_forget : List Cond := .code yX4_forget cX4_forget 3 (some .int) :: ([.classLink RX4 52 "java/lang/IllegalArgumentException", .initialized "java/lang/IllegalArgumentException", .fieldLink RX4 33 "SignOnHouse" "decisions" "LSignOnHouse$Decisions;", .methodLink RX4 48 yX4_isOutside, .static yX4_isOutside, .initialized RX4, .code yX4_isOutside cX4_isOutside 2 (some .boolean), .methodLink RX4 193 yX0_dropAllOf, .instanceMethod yX0_dropAllOf, .selects RX0 yX0_dropAllOf yX0_dropAllOf, .initialized RX0, .code yX0_dropAllOf cX0_dropAllOf 5 (some .int), .fieldLink RX0 15 "SignOnHouse$Decisions" "answers" "[I", .methodLink RX0 31 yX0_areKept, .instanceMethod yX0_areKept, .selects RX0 yX0_areKept yX0_areKept, .code yX0_areKept cX0_areKept 4 (some .boolean), .methodLink RX0 27 yX0_place, .static yX0_place, .code yX0_place cX0_place 3 (some .int)] ++ wsX40 ++ wsX00 ++ (vx_atS RX4 56 "java/lang/IllegalArgumentException" ["java/lang/RuntimeException", "java/lang/Exception"]).filter goodWord)
def wsX4_isStale_r1 : List Cond := [Cond.fieldLink RX4 33 "SignOnHouse" "decisions" "LSignOnHouse$Decisions;", Cond.methodLink RX4 211 yX0_areKept, Cond.instanceMethod yX0_areKept, Cond.selects RX0 yX0_areKept yX0_areKept, Cond.initialized RX0, Cond.code yX0_areKept cX0_areKept 4 (some .boolean), Cond.fieldLink RX0 15 "SignOnHouse$Decisions" "answers" "[I", Cond.methodLink RX0 27 yX0_place, Cond.static yX0_place, Cond.code yX0_place cX0_place 3 (some .int), Cond.methodLink RX4 214 yX0_answer, Cond.instanceMethod yX0_answer, Cond.selects RX0 yX0_answer yX0_answer, Cond.code yX0_answer cX0_answer 4 (some .int), Cond.methodLink RX4 97 yX4_answerOfHouse, Cond.instanceMethod yX4_answerOfHouse, Cond.selects RX4 yX4_answerOfHouse yX4_answerOfHouse, Cond.initialized RX4, Cond.code yX4_answerOfHouse cX4_answerOfHouse 4 (some .int), Cond.fieldLink RX4 10 "SignOnHouse" "groups" "LSignOnHouse$Groups;", Cond.methodLink RX4 103 yX4_isBarred, Cond.instanceMethod yX4_isBarred, Cond.selects RX4 yX4_isBarred yX4_isBarred, Cond.code yX4_isBarred cX4_isBarred 2 (some .boolean)]
def wsX4_isStale_r2 : List Cond := [Cond.fieldLink RX4 37 "SignOnHouse" "risks" "[I", Cond.methodLink RX4 202 yX1_anyGrants, Cond.instanceMethod yX1_anyGrants, Cond.selects RX1 yX1_anyGrants yX1_anyGrants, Cond.initialized RX1, Cond.code yX1_anyGrants cX1_anyGrants 3 (some .boolean), Cond.fieldLink RX1 9 "SignOnHouse$Groups" "homesOfPerson" "[I", Cond.fieldLink RX1 18 "SignOnHouse$Groups" "grantedOfRole" "[I", Cond.methodLink RX1 36 yX1_allAround, Cond.instanceMethod yX1_allAround, Cond.selects RX1 yX1_allAround yX1_allAround, Cond.code yX1_allAround cX1_allAround 4 (some .int), Cond.methodLink RX1 40 yX1_oneLinkFurther, Cond.instanceMethod yX1_oneLinkFurther, Cond.selects RX1 yX1_oneLinkFurther yX1_oneLinkFurther, Cond.code yX1_oneLinkFurther cX1_oneLinkFurther 4 (some .int), Cond.fieldLink RX1 15 "SignOnHouse$Groups" "homesOfGroup" "[I", Cond.methodLink RX1 24 yX1_contains, Cond.static yX1_contains, Cond.code yX1_contains cX1_contains 2 (some .boolean), Cond.methodLink RX4 205 yX1_anyDenies, Cond.instanceMethod yX1_anyDenies, Cond.selects RX1 yX1_anyDenies yX1_anyDenies, Cond.code yX1_anyDenies cX1_anyDenies 3 (some .boolean)]
def wsX4_isStale_r3 : List Cond := [Cond.fieldLink RX1 21 "SignOnHouse$Groups" "deniedOfRole" "[I", Cond.methodLink RX4 208 yX4_holdsGlass, Cond.instanceMethod yX4_holdsGlass, Cond.selects RX4 yX4_holdsGlass yX4_holdsGlass, Cond.code yX4_holdsGlass cX4_holdsGlass 3 (some .boolean), Cond.fieldLink RX4 44 "SignOnHouse" "minute" "I", Cond.fieldLink RX4 41 "SignOnHouse" "glassEnds" "[I"]
def wsX4_isStale : List Cond := .code yX4_isStale cX4_isStale 4 (some .boolean) :: ((wsX4_isStale_r1 ++ (wsX4_isStale_r2 ++ wsX4_isStale_r3)) ++ wsX40 ++ wsX00 ++ wsX10)
def wsX4_stale_r1 : List Cond := [Cond.classLink RX4 52 "java/lang/IllegalArgumentException", Cond.initialized "java/lang/IllegalArgumentException", Cond.methodLink RX4 48 yX4_isOutside, Cond.static yX4_isOutside, Cond.initialized RX4, Cond.code yX4_isOutside cX4_isOutside 2 (some .boolean), Cond.methodLink RX4 198 yX4_isStale, Cond.instanceMethod yX4_isStale, Cond.selects RX4 yX4_isStale yX4_isStale, Cond.code yX4_isStale cX4_isStale 4 (some .boolean), Cond.fieldLink RX4 33 "SignOnHouse" "decisions" "LSignOnHouse$Decisions;", Cond.methodLink RX4 211 yX0_areKept, Cond.instanceMethod yX0_areKept, Cond.selects RX0 yX0_areKept yX0_areKept, Cond.initialized RX0, Cond.code yX0_areKept cX0_areKept 4 (some .boolean), Cond.fieldLink RX0 15 "SignOnHouse$Decisions" "answers" "[I", Cond.methodLink RX0 27 yX0_place, Cond.static yX0_place, Cond.code yX0_place cX0_place 3 (some .int), Cond.methodLink RX4 214 yX0_answer, Cond.instanceMethod yX0_answer, Cond.selects RX0 yX0_answer yX0_answer, Cond.code yX0_answer cX0_answer 4 (some .int)]
def wsX4_stale_r2 : List Cond := [Cond.methodLink RX4 97 yX4_answerOfHouse, Cond.instanceMethod yX4_answerOfHouse, Cond.selects RX4 yX4_answerOfHouse yX4_answerOfHouse, Cond.code yX4_answerOfHouse cX4_answerOfHouse 4 (some .int), Cond.fieldLink RX4 10 "SignOnHouse" "groups" "LSignOnHouse$Groups;", Cond.methodLink RX4 103 yX4_isBarred, Cond.instanceMethod yX4_isBarred, Cond.selects RX4 yX4_isBarred yX4_isBarred, Cond.code yX4_isBarred cX4_isBarred 2 (some .boolean), Cond.fieldLink RX4 37 "SignOnHouse" "risks" "[I", Cond.methodLink RX4 202 yX1_anyGrants, Cond.instanceMethod yX1_anyGrants, Cond.selects RX1 yX1_anyGrants yX1_anyGrants, Cond.initialized RX1, Cond.code yX1_anyGrants cX1_anyGrants 3 (some .boolean), Cond.fieldLink RX1 9 "SignOnHouse$Groups" "homesOfPerson" "[I", Cond.fieldLink RX1 18 "SignOnHouse$Groups" "grantedOfRole" "[I", Cond.methodLink RX1 36 yX1_allAround, Cond.instanceMethod yX1_allAround, Cond.selects RX1 yX1_allAround yX1_allAround, Cond.code yX1_allAround cX1_allAround 4 (some .int), Cond.methodLink RX1 40 yX1_oneLinkFurther, Cond.instanceMethod yX1_oneLinkFurther, Cond.selects RX1 yX1_oneLinkFurther yX1_oneLinkFurther]
def wsX4_stale_r3 : List Cond := [Cond.code yX1_oneLinkFurther cX1_oneLinkFurther 4 (some .int), Cond.fieldLink RX1 15 "SignOnHouse$Groups" "homesOfGroup" "[I", Cond.methodLink RX1 24 yX1_contains, Cond.static yX1_contains, Cond.code yX1_contains cX1_contains 2 (some .boolean), Cond.methodLink RX4 205 yX1_anyDenies, Cond.instanceMethod yX1_anyDenies, Cond.selects RX1 yX1_anyDenies yX1_anyDenies, Cond.code yX1_anyDenies cX1_anyDenies 3 (some .boolean), Cond.fieldLink RX1 21 "SignOnHouse$Groups" "deniedOfRole" "[I", Cond.methodLink RX4 208 yX4_holdsGlass, Cond.instanceMethod yX4_holdsGlass, Cond.selects RX4 yX4_holdsGlass yX4_holdsGlass, Cond.code yX4_holdsGlass cX4_holdsGlass 3 (some .boolean), Cond.fieldLink RX4 44 "SignOnHouse" "minute" "I", Cond.fieldLink RX4 41 "SignOnHouse" "glassEnds" "[I"]
def wsX4_stale : List Cond := .code yX4_stale cX4_stale 5 (some .int) :: ((wsX4_stale_r1 ++ (wsX4_stale_r2 ++ wsX4_stale_r3)) ++ wsX40 ++ wsX00 ++ wsX10 ++ (vx_atS RX4 56 "java/lang/IllegalArgumentException" ["java/lang/RuntimeException", "java/lang/Exception"]).filter goodWord)
def wsL_cell : List Cond := .code yL_cell cL_cell 2 (some .int) :: ([.constant RL 7 (52387), .constant RL 8 (2008907)])
def wsL_low : List Cond := .code yL_low cL_low 2 (some .int) :: ([.constant RL 9 (2147483647)])
def wsL_calls_r1 : List Cond := [Cond.classLink RL 27 "java/lang/IllegalArgumentException", Cond.classLink RL 29 "java/lang/IllegalStateException", Cond.methodLink RL 10 yX4_setGroup, Cond.instanceMethod yX4_setGroup, Cond.selects RX4 yX4_setGroup yX4_setGroup, Cond.initialized RX4, Cond.code yX4_setGroup cX4_setGroup 4 (some .boolean), Cond.classLink RX4 52 "java/lang/IllegalArgumentException", Cond.initialized "java/lang/IllegalArgumentException", Cond.classLink RX4 70 "java/lang/IllegalStateException", Cond.initialized "java/lang/IllegalStateException", Cond.fieldLink RX4 10 "SignOnHouse" "groups" "LSignOnHouse$Groups;", Cond.methodLink RX4 48 yX4_isOutside, Cond.static yX4_isOutside, Cond.code yX4_isOutside cX4_isOutside 2 (some .boolean), Cond.methodLink RX4 67 yX1_isAround, Cond.instanceMethod yX1_isAround, Cond.selects RX1 yX1_isAround yX1_isAround, Cond.initialized RX1, Cond.code yX1_isAround cX1_isAround 3 (some .boolean), Cond.fieldLink RX1 15 "SignOnHouse$Groups" "homesOfGroup" "[I", Cond.methodLink RX1 36 yX1_allAround, Cond.instanceMethod yX1_allAround, Cond.selects RX1 yX1_allAround yX1_allAround]
def wsL_calls_r2 : List Cond := [Cond.code yX1_allAround cX1_allAround 4 (some .int), Cond.methodLink RX1 40 yX1_oneLinkFurther, Cond.instanceMethod yX1_oneLinkFurther, Cond.selects RX1 yX1_oneLinkFurther yX1_oneLinkFurther, Cond.code yX1_oneLinkFurther cX1_oneLinkFurther 4 (some .int), Cond.methodLink RX1 24 yX1_contains, Cond.static yX1_contains, Cond.code yX1_contains cX1_contains 2 (some .boolean), Cond.methodLink RX4 75 yX1_placeGroup, Cond.instanceMethod yX1_placeGroup, Cond.selects RX1 yX1_placeGroup yX1_placeGroup, Cond.code yX1_placeGroup cX1_placeGroup 5 (some .boolean), Cond.methodLink RX1 28 yX1_changed, Cond.static yX1_changed, Cond.code yX1_changed cX1_changed 3 (some .int), Cond.methodLink RL 16 yX4_open, Cond.instanceMethod yX4_open, Cond.selects RX4 yX4_open yX4_open, Cond.code yX4_open cX4_open 2 (some .int), Cond.fieldLink RX4 19 "SignOnHouse" "sessions" "LSignOnHouse$Sessions;", Cond.fieldLink RX4 26 "SignOnHouse" "keys" "LSignOnHouse$Keys;", Cond.fieldLink RX4 44 "SignOnHouse" "minute" "I", Cond.methodLink RX4 103 yX4_isBarred, Cond.instanceMethod yX4_isBarred]
def wsL_calls_r3 : List Cond := [Cond.selects RX4 yX4_isBarred yX4_isBarred, Cond.code yX4_isBarred cX4_isBarred 2 (some .boolean), Cond.fieldLink RX4 37 "SignOnHouse" "risks" "[I", Cond.methodLink RX4 109 yX3_areAllOpened, Cond.instanceMethod yX3_areAllOpened, Cond.selects RX3 yX3_areAllOpened yX3_areAllOpened, Cond.initialized RX3, Cond.code yX3_areAllOpened cX3_areAllOpened 1 (some .boolean), Cond.fieldLink RX3 26 "SignOnHouse$Sessions" "count" "I", Cond.methodLink RX4 115 yX2_signing, Cond.instanceMethod yX2_signing, Cond.selects RX2 yX2_signing yX2_signing, Cond.initialized RX2, Cond.code yX2_signing cX2_signing 1 (some .int), Cond.fieldLink RX2 7 "SignOnHouse$Keys" "signing" "I", Cond.methodLink RX4 119 yX3_add, Cond.instanceMethod yX3_add, Cond.selects RX3 yX3_add yX3_add, Cond.code yX3_add cX3_add 5 (some .int), Cond.fieldLink RX3 9 "SignOnHouse$Sessions" "people" "[I", Cond.fieldLink RX3 13 "SignOnHouse$Sessions" "signedWith" "[I", Cond.fieldLink RX3 16 "SignOnHouse$Sessions" "openedAt" "[I", Cond.fieldLink RX3 19 "SignOnHouse$Sessions" "usedAt" "[I", Cond.methodLink RL 20 yX4_close]
def wsL_calls_r4 : List Cond := [Cond.instanceMethod yX4_close, Cond.selects RX4 yX4_close yX4_close, Cond.code yX4_close cX4_close 2 (some .int), Cond.classLink RX4 125 "java/lang/IndexOutOfBoundsException", Cond.initialized "java/lang/IndexOutOfBoundsException", Cond.methodLink RX4 122 yX3_has, Cond.instanceMethod yX3_has, Cond.selects RX3 yX3_has yX3_has, Cond.code yX3_has cX3_has 2 (some .boolean), Cond.methodLink RX4 130 yX3_isOver, Cond.instanceMethod yX3_isOver, Cond.selects RX3 yX3_isOver yX3_isOver, Cond.code yX3_isOver cX3_isOver 2 (some .boolean), Cond.fieldLink RX3 22 "SignOnHouse$Sessions" "over" "[Z", Cond.methodLink RX4 135 yX3_end, Cond.instanceMethod yX3_end, Cond.selects RX3 yX3_end yX3_end, Cond.code yX3_end cX3_end 2 none, Cond.methodLink RX4 139 yX3_age, Cond.instanceMethod yX3_age, Cond.selects RX3 yX3_age yX3_age, Cond.code yX3_age cX3_age 3 (some .int), Cond.methodLink RL 23 yX4_breakGlass, Cond.instanceMethod yX4_breakGlass]
def wsL_calls_r5 : List Cond := [Cond.selects RX4 yX4_breakGlass yX4_breakGlass, Cond.code yX4_breakGlass cX4_breakGlass 6 (some .int), Cond.fieldLink RX4 41 "SignOnHouse" "glassEnds" "[I", Cond.methodLink RX4 163 yX4_servesAsWitness, Cond.instanceMethod yX4_servesAsWitness, Cond.selects RX4 yX4_servesAsWitness yX4_servesAsWitness, Cond.code yX4_servesAsWitness cX4_servesAsWitness 3 (some .boolean), Cond.methodLink RX4 202 yX1_anyGrants, Cond.instanceMethod yX1_anyGrants, Cond.selects RX1 yX1_anyGrants yX1_anyGrants, Cond.code yX1_anyGrants cX1_anyGrants 3 (some .boolean), Cond.fieldLink RX1 9 "SignOnHouse$Groups" "homesOfPerson" "[I", Cond.fieldLink RX1 18 "SignOnHouse$Groups" "grantedOfRole" "[I"]
def wsL_calls : List Cond := .codeWith yL_calls cL_calls 7 (some .int) [(0, 68, 69, 27), (0, 68, 74, 29)] :: ((wsL_calls_r1 ++ (wsL_calls_r2 ++ (wsL_calls_r3 ++ (wsL_calls_r4 ++ wsL_calls_r5)))) ++ wsX40 ++ wsX10 ++ wsX30 ++ wsX20 ++ (vx_atS RX4 56 "java/lang/IllegalArgumentException" ["java/lang/RuntimeException", "java/lang/Exception"]).filter goodWord ++ (vx_atS RX4 74 "java/lang/IllegalStateException" ["java/lang/RuntimeException", "java/lang/Exception"]).filter goodWord ++ (vx_atS RX4 129 "java/lang/IndexOutOfBoundsException" ["java/lang/RuntimeException", "java/lang/Exception"]).filter goodWord)
def wsL_isIn : List Cond := .code yL_isIn cL_isIn 7 (some .boolean) :: ([])
def wsL_allows : List Cond := .code yL_allows cL_allows 11 (some .boolean) :: ([.methodLink RL 31 yL_isIn, .static yL_isIn, .initialized RL, .code yL_isIn cL_isIn 7 (some .boolean)])
def wsL_serves : List Cond := .code yL_serves cL_serves 7 (some .boolean) :: ([.methodLink RL 31 yL_isIn, .static yL_isIn, .initialized RL, .code yL_isIn cL_isIn 7 (some .boolean)])
def wsL_isKey : List Cond := .code yL_isKey cL_isKey 2 (some .boolean) :: ([])
def wsL_sweep : List Cond := .code yL_sweep cL_sweep 8 (some .int) :: ([.methodLink RL 37 yL_isKey, .static yL_isKey, .initialized RL, .code yL_isKey cL_isKey 2 (some .boolean)])
def wsL_isSo_r1 : List Cond := [Cond.methodLink RL 41 yX4_now, Cond.instanceMethod yX4_now, Cond.selects RX4 yX4_now yX4_now, Cond.initialized RX4, Cond.code yX4_now cX4_now 1 (some .int), Cond.fieldLink RX4 44 "SignOnHouse" "minute" "I", Cond.methodLink RL 45 yX4_isTaken, Cond.instanceMethod yX4_isTaken, Cond.selects RX4 yX4_isTaken yX4_isTaken, Cond.code yX4_isTaken cX4_isTaken 2 (some .boolean), Cond.classLink RX4 52 "java/lang/IllegalArgumentException", Cond.initialized "java/lang/IllegalArgumentException", Cond.fieldLink RX4 26 "SignOnHouse" "keys" "LSignOnHouse$Keys;", Cond.methodLink RX4 115 yX2_signing, Cond.instanceMethod yX2_signing, Cond.selects RX2 yX2_signing yX2_signing, Cond.initialized RX2, Cond.code yX2_signing cX2_signing 1 (some .int), Cond.fieldLink RX2 7 "SignOnHouse$Keys" "signing" "I", Cond.methodLink RX4 153 yX2_takes, Cond.instanceMethod yX2_takes, Cond.selects RX2 yX2_takes yX2_takes, Cond.code yX2_takes cX2_takes 3 (some .boolean), Cond.fieldLink RX2 13 "SignOnHouse$Keys" "endOfBefore" "I"]
def wsL_isSo_r2 : List Cond := [Cond.methodLink RL 37 yL_isKey, Cond.static yL_isKey, Cond.initialized RL, Cond.code yL_isKey cL_isKey 2 (some .boolean), Cond.methodLink RL 49 yX4_goesOn, Cond.instanceMethod yX4_goesOn, Cond.selects RX4 yX4_goesOn yX4_goesOn, Cond.code yX4_goesOn cX4_goesOn 2 (some .boolean), Cond.classLink RX4 125 "java/lang/IndexOutOfBoundsException", Cond.initialized "java/lang/IndexOutOfBoundsException", Cond.fieldLink RX4 19 "SignOnHouse" "sessions" "LSignOnHouse$Sessions;", Cond.methodLink RX4 122 yX3_has, Cond.instanceMethod yX3_has, Cond.selects RX3 yX3_has yX3_has, Cond.initialized RX3, Cond.code yX3_has cX3_has 2 (some .boolean), Cond.fieldLink RX3 26 "SignOnHouse$Sessions" "count" "I", Cond.methodLink RX4 130 yX3_isOver, Cond.instanceMethod yX3_isOver, Cond.selects RX3 yX3_isOver yX3_isOver, Cond.code yX3_isOver cX3_isOver 2 (some .boolean), Cond.fieldLink RX3 22 "SignOnHouse$Sessions" "over" "[Z", Cond.methodLink RL 52 yX4_isIn, Cond.instanceMethod yX4_isIn]
def wsL_isSo_r3 : List Cond := [Cond.selects RX4 yX4_isIn yX4_isIn, Cond.code yX4_isIn cX4_isIn 3 (some .boolean), Cond.fieldLink RX4 10 "SignOnHouse" "groups" "LSignOnHouse$Groups;", Cond.methodLink RX4 48 yX4_isOutside, Cond.static yX4_isOutside, Cond.code yX4_isOutside cX4_isOutside 2 (some .boolean), Cond.methodLink RX4 92 yX1_hasPerson, Cond.instanceMethod yX1_hasPerson, Cond.selects RX1 yX1_hasPerson yX1_hasPerson, Cond.initialized RX1, Cond.code yX1_hasPerson cX1_hasPerson 3 (some .boolean), Cond.fieldLink RX1 9 "SignOnHouse$Groups" "homesOfPerson" "[I", Cond.methodLink RX1 36 yX1_allAround, Cond.instanceMethod yX1_allAround, Cond.selects RX1 yX1_allAround yX1_allAround, Cond.code yX1_allAround cX1_allAround 4 (some .int), Cond.methodLink RX1 40 yX1_oneLinkFurther, Cond.instanceMethod yX1_oneLinkFurther, Cond.selects RX1 yX1_oneLinkFurther yX1_oneLinkFurther, Cond.code yX1_oneLinkFurther cX1_oneLinkFurther 4 (some .int), Cond.fieldLink RX1 15 "SignOnHouse$Groups" "homesOfGroup" "[I", Cond.methodLink RX1 24 yX1_contains, Cond.static yX1_contains, Cond.code yX1_contains cX1_contains 2 (some .boolean)]
def wsL_isSo_r4 : List Cond := [Cond.methodLink RL 31 yL_isIn, Cond.static yL_isIn, Cond.code yL_isIn cL_isIn 7 (some .boolean), Cond.methodLink RL 55 yX4_allows, Cond.instanceMethod yX4_allows, Cond.selects RX4 yX4_allows yX4_allows, Cond.code yX4_allows cX4_allows 3 (some .boolean), Cond.methodLink RX4 97 yX4_answerOfHouse, Cond.instanceMethod yX4_answerOfHouse, Cond.selects RX4 yX4_answerOfHouse yX4_answerOfHouse, Cond.code yX4_answerOfHouse cX4_answerOfHouse 4 (some .int), Cond.methodLink RX4 103 yX4_isBarred, Cond.instanceMethod yX4_isBarred, Cond.selects RX4 yX4_isBarred yX4_isBarred, Cond.code yX4_isBarred cX4_isBarred 2 (some .boolean), Cond.fieldLink RX4 37 "SignOnHouse" "risks" "[I", Cond.methodLink RX4 202 yX1_anyGrants, Cond.instanceMethod yX1_anyGrants, Cond.selects RX1 yX1_anyGrants yX1_anyGrants, Cond.code yX1_anyGrants cX1_anyGrants 3 (some .boolean), Cond.fieldLink RX1 18 "SignOnHouse$Groups" "grantedOfRole" "[I", Cond.methodLink RX4 205 yX1_anyDenies, Cond.instanceMethod yX1_anyDenies, Cond.selects RX1 yX1_anyDenies yX1_anyDenies]
def wsL_isSo_r5 : List Cond := [Cond.code yX1_anyDenies cX1_anyDenies 3 (some .boolean), Cond.fieldLink RX1 21 "SignOnHouse$Groups" "deniedOfRole" "[I", Cond.methodLink RX4 208 yX4_holdsGlass, Cond.instanceMethod yX4_holdsGlass, Cond.selects RX4 yX4_holdsGlass yX4_holdsGlass, Cond.code yX4_holdsGlass cX4_holdsGlass 3 (some .boolean), Cond.fieldLink RX4 41 "SignOnHouse" "glassEnds" "[I", Cond.methodLink RL 58 yL_allows, Cond.static yL_allows, Cond.code yL_allows cL_allows 11 (some .boolean), Cond.methodLink RL 61 yX4_stale, Cond.instanceMethod yX4_stale, Cond.selects RX4 yX4_stale yX4_stale, Cond.code yX4_stale cX4_stale 5 (some .int), Cond.methodLink RX4 198 yX4_isStale, Cond.instanceMethod yX4_isStale, Cond.selects RX4 yX4_isStale yX4_isStale, Cond.code yX4_isStale cX4_isStale 4 (some .boolean), Cond.fieldLink RX4 33 "SignOnHouse" "decisions" "LSignOnHouse$Decisions;", Cond.methodLink RX4 211 yX0_areKept, Cond.instanceMethod yX0_areKept, Cond.selects RX0 yX0_areKept yX0_areKept, Cond.initialized RX0, Cond.code yX0_areKept cX0_areKept 4 (some .boolean)]
def wsL_isSo_r6 : List Cond := [Cond.fieldLink RX0 15 "SignOnHouse$Decisions" "answers" "[I", Cond.methodLink RX0 27 yX0_place, Cond.static yX0_place, Cond.code yX0_place cX0_place 3 (some .int), Cond.methodLink RX4 214 yX0_answer, Cond.instanceMethod yX0_answer, Cond.selects RX0 yX0_answer yX0_answer, Cond.code yX0_answer cX0_answer 4 (some .int)]
def wsL_isSo : List Cond := .code yL_isSo cL_isSo 14 (some .boolean) :: ((wsL_isSo_r1 ++ (wsL_isSo_r2 ++ (wsL_isSo_r3 ++ (wsL_isSo_r4 ++ (wsL_isSo_r5 ++ wsL_isSo_r6))))) ++ wsX40 ++ wsX20 ++ wsX30 ++ wsX10 ++ wsX00 ++ (vx_atS RX4 56 "java/lang/IllegalArgumentException" ["java/lang/RuntimeException", "java/lang/Exception"]).filter goodWord ++ (vx_atS RX4 129 "java/lang/IndexOutOfBoundsException" ["java/lang/RuntimeException", "java/lang/Exception"]).filter goodWord)
def wsL_sets_r1 : List Cond := [Cond.methodLink RL 64 yL_low, Cond.static yL_low, Cond.initialized RL, Cond.code yL_low cL_low 2 (some .int), Cond.constant RL 9 (2147483647), Cond.methodLink RL 68 yX4_setPerson, Cond.instanceMethod yX4_setPerson, Cond.selects RX4 yX4_setPerson yX4_setPerson, Cond.initialized RX4, Cond.code yX4_setPerson cX4_setPerson 4 (some .boolean), Cond.classLink RX4 52 "java/lang/IllegalArgumentException", Cond.initialized "java/lang/IllegalArgumentException", Cond.fieldLink RX4 10 "SignOnHouse" "groups" "LSignOnHouse$Groups;", Cond.methodLink RX4 48 yX4_isOutside, Cond.static yX4_isOutside, Cond.code yX4_isOutside cX4_isOutside 2 (some .boolean), Cond.methodLink RX4 59 yX1_placePerson, Cond.instanceMethod yX1_placePerson, Cond.selects RX1 yX1_placePerson yX1_placePerson, Cond.initialized RX1, Cond.code yX1_placePerson cX1_placePerson 5 (some .boolean), Cond.fieldLink RX1 9 "SignOnHouse$Groups" "homesOfPerson" "[I", Cond.methodLink RX1 24 yX1_contains, Cond.static yX1_contains]
def wsL_sets_r2 : List Cond := [Cond.code yX1_contains cX1_contains 2 (some .boolean), Cond.methodLink RX1 28 yX1_changed, Cond.static yX1_changed, Cond.code yX1_changed cX1_changed 3 (some .int), Cond.methodLink RL 71 yL_calls, Cond.static yL_calls, Cond.codeWith yL_calls cL_calls 7 (some .int) [(0, 68, 69, 27), (0, 68, 74, 29)], Cond.classLink RL 27 "java/lang/IllegalArgumentException", Cond.classLink RL 29 "java/lang/IllegalStateException", Cond.methodLink RL 10 yX4_setGroup, Cond.instanceMethod yX4_setGroup, Cond.selects RX4 yX4_setGroup yX4_setGroup, Cond.code yX4_setGroup cX4_setGroup 4 (some .boolean), Cond.classLink RX4 70 "java/lang/IllegalStateException", Cond.initialized "java/lang/IllegalStateException", Cond.methodLink RX4 67 yX1_isAround, Cond.instanceMethod yX1_isAround, Cond.selects RX1 yX1_isAround yX1_isAround, Cond.code yX1_isAround cX1_isAround 3 (some .boolean), Cond.fieldLink RX1 15 "SignOnHouse$Groups" "homesOfGroup" "[I", Cond.methodLink RX1 36 yX1_allAround, Cond.instanceMethod yX1_allAround, Cond.selects RX1 yX1_allAround yX1_allAround, Cond.code yX1_allAround cX1_allAround 4 (some .int)]
def wsL_sets_r3 : List Cond := [Cond.methodLink RX1 40 yX1_oneLinkFurther, Cond.instanceMethod yX1_oneLinkFurther, Cond.selects RX1 yX1_oneLinkFurther yX1_oneLinkFurther, Cond.code yX1_oneLinkFurther cX1_oneLinkFurther 4 (some .int), Cond.methodLink RX4 75 yX1_placeGroup, Cond.instanceMethod yX1_placeGroup, Cond.selects RX1 yX1_placeGroup yX1_placeGroup, Cond.code yX1_placeGroup cX1_placeGroup 5 (some .boolean), Cond.methodLink RL 16 yX4_open, Cond.instanceMethod yX4_open, Cond.selects RX4 yX4_open yX4_open, Cond.code yX4_open cX4_open 2 (some .int), Cond.fieldLink RX4 19 "SignOnHouse" "sessions" "LSignOnHouse$Sessions;", Cond.fieldLink RX4 26 "SignOnHouse" "keys" "LSignOnHouse$Keys;", Cond.fieldLink RX4 44 "SignOnHouse" "minute" "I", Cond.methodLink RX4 103 yX4_isBarred, Cond.instanceMethod yX4_isBarred, Cond.selects RX4 yX4_isBarred yX4_isBarred, Cond.code yX4_isBarred cX4_isBarred 2 (some .boolean), Cond.fieldLink RX4 37 "SignOnHouse" "risks" "[I", Cond.methodLink RX4 109 yX3_areAllOpened, Cond.instanceMethod yX3_areAllOpened, Cond.selects RX3 yX3_areAllOpened yX3_areAllOpened, Cond.initialized RX3]
def wsL_sets_r4 : List Cond := [Cond.code yX3_areAllOpened cX3_areAllOpened 1 (some .boolean), Cond.fieldLink RX3 26 "SignOnHouse$Sessions" "count" "I", Cond.methodLink RX4 115 yX2_signing, Cond.instanceMethod yX2_signing, Cond.selects RX2 yX2_signing yX2_signing, Cond.initialized RX2, Cond.code yX2_signing cX2_signing 1 (some .int), Cond.fieldLink RX2 7 "SignOnHouse$Keys" "signing" "I", Cond.methodLink RX4 119 yX3_add, Cond.instanceMethod yX3_add, Cond.selects RX3 yX3_add yX3_add, Cond.code yX3_add cX3_add 5 (some .int), Cond.fieldLink RX3 9 "SignOnHouse$Sessions" "people" "[I", Cond.fieldLink RX3 13 "SignOnHouse$Sessions" "signedWith" "[I", Cond.fieldLink RX3 16 "SignOnHouse$Sessions" "openedAt" "[I", Cond.fieldLink RX3 19 "SignOnHouse$Sessions" "usedAt" "[I", Cond.methodLink RL 20 yX4_close, Cond.instanceMethod yX4_close, Cond.selects RX4 yX4_close yX4_close, Cond.code yX4_close cX4_close 2 (some .int), Cond.classLink RX4 125 "java/lang/IndexOutOfBoundsException", Cond.initialized "java/lang/IndexOutOfBoundsException", Cond.methodLink RX4 122 yX3_has, Cond.instanceMethod yX3_has]
def wsL_sets_r5 : List Cond := [Cond.selects RX3 yX3_has yX3_has, Cond.code yX3_has cX3_has 2 (some .boolean), Cond.methodLink RX4 130 yX3_isOver, Cond.instanceMethod yX3_isOver, Cond.selects RX3 yX3_isOver yX3_isOver, Cond.code yX3_isOver cX3_isOver 2 (some .boolean), Cond.fieldLink RX3 22 "SignOnHouse$Sessions" "over" "[Z", Cond.methodLink RX4 135 yX3_end, Cond.instanceMethod yX3_end, Cond.selects RX3 yX3_end yX3_end, Cond.code yX3_end cX3_end 2 none, Cond.methodLink RX4 139 yX3_age, Cond.instanceMethod yX3_age, Cond.selects RX3 yX3_age yX3_age, Cond.code yX3_age cX3_age 3 (some .int), Cond.methodLink RL 23 yX4_breakGlass, Cond.instanceMethod yX4_breakGlass, Cond.selects RX4 yX4_breakGlass yX4_breakGlass, Cond.code yX4_breakGlass cX4_breakGlass 6 (some .int), Cond.fieldLink RX4 41 "SignOnHouse" "glassEnds" "[I", Cond.methodLink RX4 163 yX4_servesAsWitness, Cond.instanceMethod yX4_servesAsWitness, Cond.selects RX4 yX4_servesAsWitness yX4_servesAsWitness, Cond.code yX4_servesAsWitness cX4_servesAsWitness 3 (some .boolean)]
def wsL_sets_r6 : List Cond := [Cond.methodLink RX4 202 yX1_anyGrants, Cond.instanceMethod yX1_anyGrants, Cond.selects RX1 yX1_anyGrants yX1_anyGrants, Cond.code yX1_anyGrants cX1_anyGrants 3 (some .boolean), Cond.fieldLink RX1 18 "SignOnHouse$Groups" "grantedOfRole" "[I", Cond.methodLink RL 75 yX4_setRole, Cond.instanceMethod yX4_setRole, Cond.selects RX4 yX4_setRole yX4_setRole, Cond.code yX4_setRole cX4_setRole 4 (some .int), Cond.methodLink RX4 82 yX1_giveRole, Cond.instanceMethod yX1_giveRole, Cond.selects RX1 yX1_giveRole yX1_giveRole, Cond.code yX1_giveRole cX1_giveRole 5 (some .int), Cond.fieldLink RX1 21 "SignOnHouse$Groups" "deniedOfRole" "[I", Cond.methodLink RX1 32 yX1_roleOf, Cond.instanceMethod yX1_roleOf, Cond.selects RX1 yX1_roleOf yX1_roleOf, Cond.code yX1_roleOf cX1_roleOf 3 (some .int), Cond.methodLink RL 79 yX4_setRisk, Cond.instanceMethod yX4_setRisk, Cond.selects RX4 yX4_setRisk yX4_setRisk, Cond.code yX4_setRisk cX4_setRisk 4 (some .int), Cond.methodLink RX4 88 yX3_endAllOf, Cond.instanceMethod yX3_endAllOf]
def wsL_sets_r7 : List Cond := [Cond.selects RX3 yX3_endAllOf yX3_endAllOf, Cond.code yX3_endAllOf cX3_endAllOf 4 (some .int), Cond.methodLink RX3 30 yX3_end]
def wsL_sets : List Cond := .code yL_sets cL_sets 16 (some .boolean) :: ((wsL_sets_r1 ++ (wsL_sets_r2 ++ (wsL_sets_r3 ++ (wsL_sets_r4 ++ (wsL_sets_r5 ++ (wsL_sets_r6 ++ wsL_sets_r7)))))) ++ wsX40 ++ wsX10 ++ wsX30 ++ wsX20 ++ (vx_atS RX4 56 "java/lang/IllegalArgumentException" ["java/lang/RuntimeException", "java/lang/Exception"]).filter goodWord ++ (vx_atS RX4 74 "java/lang/IllegalStateException" ["java/lang/RuntimeException", "java/lang/Exception"]).filter goodWord ++ (vx_atS RX4 129 "java/lang/IndexOutOfBoundsException" ["java/lang/RuntimeException", "java/lang/Exception"]).filter goodWord)
def wsL_decides_r1 : List Cond := [Cond.methodLink RL 64 yL_low, Cond.static yL_low, Cond.initialized RL, Cond.code yL_low cL_low 2 (some .int), Cond.constant RL 9 (2147483647), Cond.methodLink RL 82 yX4_decide, Cond.instanceMethod yX4_decide, Cond.selects RX4 yX4_decide yX4_decide, Cond.initialized RX4, Cond.code yX4_decide cX4_decide 4 (some .int), Cond.classLink RX4 52 "java/lang/IllegalArgumentException", Cond.initialized "java/lang/IllegalArgumentException", Cond.classLink RX4 125 "java/lang/IndexOutOfBoundsException", Cond.initialized "java/lang/IndexOutOfBoundsException", Cond.fieldLink RX4 19 "SignOnHouse" "sessions" "LSignOnHouse$Sessions;", Cond.fieldLink RX4 44 "SignOnHouse" "minute" "I", Cond.methodLink RX4 48 yX4_isOutside, Cond.static yX4_isOutside, Cond.code yX4_isOutside cX4_isOutside 2 (some .boolean), Cond.methodLink RX4 122 yX3_has, Cond.instanceMethod yX3_has, Cond.selects RX3 yX3_has yX3_has, Cond.initialized RX3, Cond.code yX3_has cX3_has 2 (some .boolean)]
def wsL_decides_r2 : List Cond := [Cond.fieldLink RX3 26 "SignOnHouse$Sessions" "count" "I", Cond.methodLink RX4 130 yX3_isOver, Cond.instanceMethod yX3_isOver, Cond.selects RX3 yX3_isOver yX3_isOver, Cond.code yX3_isOver cX3_isOver 2 (some .boolean), Cond.fieldLink RX3 22 "SignOnHouse$Sessions" "over" "[Z", Cond.methodLink RX4 182 yX3_use, Cond.instanceMethod yX3_use, Cond.selects RX3 yX3_use yX3_use, Cond.code yX3_use cX3_use 3 none, Cond.fieldLink RX3 19 "SignOnHouse$Sessions" "usedAt" "[I", Cond.methodLink RX4 185 yX3_personOf, Cond.instanceMethod yX3_personOf, Cond.selects RX3 yX3_personOf yX3_personOf, Cond.code yX3_personOf cX3_personOf 2 (some .int), Cond.fieldLink RX3 9 "SignOnHouse$Sessions" "people" "[I", Cond.methodLink RX4 188 yX4_answerOfApp, Cond.instanceMethod yX4_answerOfApp, Cond.selects RX4 yX4_answerOfApp yX4_answerOfApp, Cond.code yX4_answerOfApp cX4_answerOfApp 5 (some .int), Cond.fieldLink RX4 33 "SignOnHouse" "decisions" "LSignOnHouse$Decisions;", Cond.methodLink RX4 211 yX0_areKept, Cond.instanceMethod yX0_areKept, Cond.selects RX0 yX0_areKept yX0_areKept]
def wsL_decides_r3 : List Cond := [Cond.initialized RX0, Cond.code yX0_areKept cX0_areKept 4 (some .boolean), Cond.fieldLink RX0 15 "SignOnHouse$Decisions" "answers" "[I", Cond.methodLink RX0 27 yX0_place, Cond.static yX0_place, Cond.code yX0_place cX0_place 3 (some .int), Cond.methodLink RX4 214 yX0_answer, Cond.instanceMethod yX0_answer, Cond.selects RX0 yX0_answer yX0_answer, Cond.code yX0_answer cX0_answer 4 (some .int), Cond.methodLink RX4 97 yX4_answerOfHouse, Cond.instanceMethod yX4_answerOfHouse, Cond.selects RX4 yX4_answerOfHouse yX4_answerOfHouse, Cond.code yX4_answerOfHouse cX4_answerOfHouse 4 (some .int), Cond.fieldLink RX4 10 "SignOnHouse" "groups" "LSignOnHouse$Groups;", Cond.methodLink RX4 103 yX4_isBarred, Cond.instanceMethod yX4_isBarred, Cond.selects RX4 yX4_isBarred yX4_isBarred, Cond.code yX4_isBarred cX4_isBarred 2 (some .boolean), Cond.fieldLink RX4 37 "SignOnHouse" "risks" "[I", Cond.methodLink RX4 202 yX1_anyGrants, Cond.instanceMethod yX1_anyGrants, Cond.selects RX1 yX1_anyGrants yX1_anyGrants, Cond.initialized RX1]
def wsL_decides_r4 : List Cond := [Cond.code yX1_anyGrants cX1_anyGrants 3 (some .boolean), Cond.fieldLink RX1 9 "SignOnHouse$Groups" "homesOfPerson" "[I", Cond.fieldLink RX1 18 "SignOnHouse$Groups" "grantedOfRole" "[I", Cond.methodLink RX1 36 yX1_allAround, Cond.instanceMethod yX1_allAround, Cond.selects RX1 yX1_allAround yX1_allAround, Cond.code yX1_allAround cX1_allAround 4 (some .int), Cond.methodLink RX1 40 yX1_oneLinkFurther, Cond.instanceMethod yX1_oneLinkFurther, Cond.selects RX1 yX1_oneLinkFurther yX1_oneLinkFurther, Cond.code yX1_oneLinkFurther cX1_oneLinkFurther 4 (some .int), Cond.fieldLink RX1 15 "SignOnHouse$Groups" "homesOfGroup" "[I", Cond.methodLink RX1 24 yX1_contains, Cond.static yX1_contains, Cond.code yX1_contains cX1_contains 2 (some .boolean), Cond.methodLink RX4 205 yX1_anyDenies, Cond.instanceMethod yX1_anyDenies, Cond.selects RX1 yX1_anyDenies yX1_anyDenies, Cond.code yX1_anyDenies cX1_anyDenies 3 (some .boolean), Cond.fieldLink RX1 21 "SignOnHouse$Groups" "deniedOfRole" "[I", Cond.methodLink RX4 208 yX4_holdsGlass, Cond.instanceMethod yX4_holdsGlass, Cond.selects RX4 yX4_holdsGlass yX4_holdsGlass, Cond.code yX4_holdsGlass cX4_holdsGlass 3 (some .boolean)]
def wsL_decides_r5 : List Cond := [Cond.fieldLink RX4 41 "SignOnHouse" "glassEnds" "[I", Cond.methodLink RX4 217 yX0_keep, Cond.instanceMethod yX0_keep, Cond.selects RX0 yX0_keep yX0_keep, Cond.code yX0_keep cX0_keep 6 none, Cond.fieldLink RX0 9 "SignOnHouse$Decisions" "caches" "[I", Cond.fieldLink RX0 18 "SignOnHouse$Decisions" "keptSince" "[I", Cond.methodLink RL 58 yL_allows, Cond.static yL_allows, Cond.code yL_allows cL_allows 11 (some .boolean), Cond.methodLink RL 31 yL_isIn, Cond.static yL_isIn, Cond.code yL_isIn cL_isIn 7 (some .boolean)]
def wsL_decides : List Cond := .code yL_decides cL_decides 14 (some .boolean) :: ((wsL_decides_r1 ++ (wsL_decides_r2 ++ (wsL_decides_r3 ++ (wsL_decides_r4 ++ wsL_decides_r5)))) ++ wsX40 ++ wsX30 ++ wsX00 ++ wsX10 ++ (vx_atS RX4 56 "java/lang/IllegalArgumentException" ["java/lang/RuntimeException", "java/lang/Exception"]).filter goodWord ++ (vx_atS RX4 129 "java/lang/IndexOutOfBoundsException" ["java/lang/RuntimeException", "java/lang/Exception"]).filter goodWord)
def wsL_caches_r1 : List Cond := [Cond.methodLink RL 64 yL_low, Cond.static yL_low, Cond.initialized RL, Cond.code yL_low cL_low 2 (some .int), Cond.constant RL 9 (2147483647), Cond.methodLink RL 85 yX4_setCache, Cond.instanceMethod yX4_setCache, Cond.selects RX4 yX4_setCache yX4_setCache, Cond.initialized RX4, Cond.code yX4_setCache cX4_setCache 4 (some .int), Cond.classLink RX4 52 "java/lang/IllegalArgumentException", Cond.initialized "java/lang/IllegalArgumentException", Cond.fieldLink RX4 33 "SignOnHouse" "decisions" "LSignOnHouse$Decisions;", Cond.fieldLink RX4 44 "SignOnHouse" "minute" "I", Cond.methodLink RX4 48 yX4_isOutside, Cond.static yX4_isOutside, Cond.code yX4_isOutside cX4_isOutside 2 (some .boolean), Cond.methodLink RX4 170 yX0_cacheOf, Cond.instanceMethod yX0_cacheOf, Cond.selects RX0 yX0_cacheOf yX0_cacheOf, Cond.initialized RX0, Cond.code yX0_cacheOf cX0_cacheOf 2 (some .int), Cond.fieldLink RX0 9 "SignOnHouse$Decisions" "caches" "[I", Cond.methodLink RX4 173 yX0_allowCache]
def wsL_caches_r2 : List Cond := [Cond.instanceMethod yX0_allowCache, Cond.selects RX0 yX0_allowCache yX0_allowCache, Cond.code yX0_allowCache cX0_allowCache 3 none, Cond.methodLink RX4 177 yX0_dropDue, Cond.instanceMethod yX0_dropDue, Cond.selects RX0 yX0_dropDue yX0_dropDue, Cond.code yX0_dropDue cX0_dropDue 5 none, Cond.fieldLink RX0 18 "SignOnHouse$Decisions" "keptSince" "[I", Cond.fieldLink RX0 15 "SignOnHouse$Decisions" "answers" "[I", Cond.methodLink RX0 27 yX0_place, Cond.static yX0_place, Cond.code yX0_place cX0_place 3 (some .int), Cond.methodLink RL 88 yX4_forget, Cond.instanceMethod yX4_forget, Cond.selects RX4 yX4_forget yX4_forget, Cond.code yX4_forget cX4_forget 3 (some .int), Cond.methodLink RX4 193 yX0_dropAllOf, Cond.instanceMethod yX0_dropAllOf, Cond.selects RX0 yX0_dropAllOf yX0_dropAllOf, Cond.code yX0_dropAllOf cX0_dropAllOf 5 (some .int), Cond.methodLink RX0 31 yX0_areKept, Cond.instanceMethod yX0_areKept, Cond.selects RX0 yX0_areKept yX0_areKept, Cond.code yX0_areKept cX0_areKept 4 (some .boolean)]
def wsL_caches : List Cond := .code yL_caches cL_caches 9 (some .boolean) :: ((wsL_caches_r1 ++ wsL_caches_r2) ++ wsX40 ++ wsX00 ++ (vx_atS RX4 56 "java/lang/IllegalArgumentException" ["java/lang/RuntimeException", "java/lang/Exception"]).filter goodWord)
def wsL_law0_r1 : List Cond := [Cond.classLink RL 11 RX4, Cond.instantiable RX4 7, Cond.initialized RX4, Cond.arrayClass .int, Cond.methodLink RL 91 yX4_init, Cond.instanceMethod yX4_init, Cond.code yX4_init cX4_init 1 none, Cond.methodLink RX4 1 objectInit, Cond.instanceMethod objectInit, Cond.code objectInit ⟨#[0xb1]⟩ 1 none, Cond.classLink RX4 7 RX1, Cond.instantiable RX1 4, Cond.initialized RX1, Cond.fieldLink RX4 10 "SignOnHouse" "groups" "LSignOnHouse$Groups;", Cond.classLink RX4 16 RX3, Cond.instantiable RX3 6, Cond.initialized RX3, Cond.fieldLink RX4 19 "SignOnHouse" "sessions" "LSignOnHouse$Sessions;", Cond.classLink RX4 23 RX2, Cond.instantiable RX2 2, Cond.initialized RX2, Cond.fieldLink RX4 26 "SignOnHouse" "keys" "LSignOnHouse$Keys;", Cond.classLink RX4 30 RX0, Cond.instantiable RX0 3]
def wsL_law0_r2 : List Cond := [Cond.initialized RX0, Cond.fieldLink RX4 33 "SignOnHouse" "decisions" "LSignOnHouse$Decisions;", Cond.fieldLink RX4 37 "SignOnHouse" "risks" "[I", Cond.fieldLink RX4 41 "SignOnHouse" "glassEnds" "[I", Cond.fieldLink RX4 44 "SignOnHouse" "minute" "I", Cond.methodLink RX4 9 yX1_init, Cond.instanceMethod yX1_init, Cond.code yX1_init cX1_init 1 none, Cond.methodLink RX1 3 objectInit, Cond.fieldLink RX1 9 "SignOnHouse$Groups" "homesOfPerson" "[I", Cond.fieldLink RX1 15 "SignOnHouse$Groups" "homesOfGroup" "[I", Cond.fieldLink RX1 18 "SignOnHouse$Groups" "grantedOfRole" "[I", Cond.fieldLink RX1 21 "SignOnHouse$Groups" "deniedOfRole" "[I", Cond.methodLink RX4 18 yX3_init, Cond.instanceMethod yX3_init, Cond.code yX3_init cX3_init 1 none, Cond.methodLink RX3 1 objectInit, Cond.fieldLink RX3 9 "SignOnHouse$Sessions" "people" "[I", Cond.fieldLink RX3 13 "SignOnHouse$Sessions" "signedWith" "[I", Cond.fieldLink RX3 16 "SignOnHouse$Sessions" "openedAt" "[I", Cond.fieldLink RX3 19 "SignOnHouse$Sessions" "usedAt" "[I", Cond.arrayClass .boolean, Cond.fieldLink RX3 22 "SignOnHouse$Sessions" "over" "[Z", Cond.fieldLink RX3 26 "SignOnHouse$Sessions" "count" "I"]
def wsL_law0_r3 : List Cond := [Cond.methodLink RX4 25 yX2_init, Cond.instanceMethod yX2_init, Cond.code yX2_init cX2_init 1 none, Cond.methodLink RX2 1 objectInit, Cond.fieldLink RX2 7 "SignOnHouse$Keys" "signing" "I", Cond.fieldLink RX2 13 "SignOnHouse$Keys" "endOfBefore" "I", Cond.methodLink RX4 32 yX0_init, Cond.instanceMethod yX0_init, Cond.code yX0_init cX0_init 1 none, Cond.methodLink RX0 3 objectInit, Cond.fieldLink RX0 9 "SignOnHouse$Decisions" "caches" "[I", Cond.fieldLink RX0 15 "SignOnHouse$Decisions" "answers" "[I", Cond.fieldLink RX0 18 "SignOnHouse$Decisions" "keptSince" "[I", Cond.methodLink RX0 21 yJ7_fill_53178, Cond.static yJ7_fill_53178, Cond.initialized RJ7, Cond.code yJ7_fill_53178 cJ7_fill_53178 4 none, Cond.methodLink RL 92 yL_cell, Cond.static yL_cell, Cond.initialized RL, Cond.code yL_cell cL_cell 2 (some .int), Cond.constant RL 7 (52387), Cond.constant RL 8 (2008907), Cond.methodLink RL 64 yL_low]
def wsL_law0_r4 : List Cond := [Cond.static yL_low, Cond.code yL_low cL_low 2 (some .int), Cond.constant RL 9 (2147483647), Cond.methodLink RL 96 yL_sets, Cond.static yL_sets, Cond.code yL_sets cL_sets 16 (some .boolean), Cond.methodLink RL 68 yX4_setPerson, Cond.instanceMethod yX4_setPerson, Cond.selects RX4 yX4_setPerson yX4_setPerson, Cond.code yX4_setPerson cX4_setPerson 4 (some .boolean), Cond.classLink RX4 52 "java/lang/IllegalArgumentException", Cond.initialized "java/lang/IllegalArgumentException", Cond.methodLink RX4 48 yX4_isOutside, Cond.static yX4_isOutside, Cond.code yX4_isOutside cX4_isOutside 2 (some .boolean), Cond.methodLink RX4 59 yX1_placePerson, Cond.instanceMethod yX1_placePerson, Cond.selects RX1 yX1_placePerson yX1_placePerson, Cond.code yX1_placePerson cX1_placePerson 5 (some .boolean), Cond.methodLink RX1 24 yX1_contains, Cond.static yX1_contains, Cond.code yX1_contains cX1_contains 2 (some .boolean), Cond.methodLink RX1 28 yX1_changed, Cond.static yX1_changed]
def wsL_law0_r5 : List Cond := [Cond.code yX1_changed cX1_changed 3 (some .int), Cond.methodLink RL 71 yL_calls, Cond.static yL_calls, Cond.codeWith yL_calls cL_calls 7 (some .int) [(0, 68, 69, 27), (0, 68, 74, 29)], Cond.classLink RL 27 "java/lang/IllegalArgumentException", Cond.classLink RL 29 "java/lang/IllegalStateException", Cond.methodLink RL 10 yX4_setGroup, Cond.instanceMethod yX4_setGroup, Cond.selects RX4 yX4_setGroup yX4_setGroup, Cond.code yX4_setGroup cX4_setGroup 4 (some .boolean), Cond.classLink RX4 70 "java/lang/IllegalStateException", Cond.initialized "java/lang/IllegalStateException", Cond.methodLink RX4 67 yX1_isAround, Cond.instanceMethod yX1_isAround, Cond.selects RX1 yX1_isAround yX1_isAround, Cond.code yX1_isAround cX1_isAround 3 (some .boolean), Cond.methodLink RX1 36 yX1_allAround, Cond.instanceMethod yX1_allAround, Cond.selects RX1 yX1_allAround yX1_allAround, Cond.code yX1_allAround cX1_allAround 4 (some .int), Cond.methodLink RX1 40 yX1_oneLinkFurther, Cond.instanceMethod yX1_oneLinkFurther, Cond.selects RX1 yX1_oneLinkFurther yX1_oneLinkFurther, Cond.code yX1_oneLinkFurther cX1_oneLinkFurther 4 (some .int)]
def wsL_law0_r6 : List Cond := [Cond.methodLink RX4 75 yX1_placeGroup, Cond.instanceMethod yX1_placeGroup, Cond.selects RX1 yX1_placeGroup yX1_placeGroup, Cond.code yX1_placeGroup cX1_placeGroup 5 (some .boolean), Cond.methodLink RL 16 yX4_open, Cond.instanceMethod yX4_open, Cond.selects RX4 yX4_open yX4_open, Cond.code yX4_open cX4_open 2 (some .int), Cond.methodLink RX4 103 yX4_isBarred, Cond.instanceMethod yX4_isBarred, Cond.selects RX4 yX4_isBarred yX4_isBarred, Cond.code yX4_isBarred cX4_isBarred 2 (some .boolean), Cond.methodLink RX4 109 yX3_areAllOpened, Cond.instanceMethod yX3_areAllOpened, Cond.selects RX3 yX3_areAllOpened yX3_areAllOpened, Cond.code yX3_areAllOpened cX3_areAllOpened 1 (some .boolean), Cond.methodLink RX4 115 yX2_signing, Cond.instanceMethod yX2_signing, Cond.selects RX2 yX2_signing yX2_signing, Cond.code yX2_signing cX2_signing 1 (some .int), Cond.methodLink RX4 119 yX3_add, Cond.instanceMethod yX3_add, Cond.selects RX3 yX3_add yX3_add, Cond.code yX3_add cX3_add 5 (some .int)]
def wsL_law0_r7 : List Cond := [Cond.methodLink RL 20 yX4_close, Cond.instanceMethod yX4_close, Cond.selects RX4 yX4_close yX4_close, Cond.code yX4_close cX4_close 2 (some .int), Cond.classLink RX4 125 "java/lang/IndexOutOfBoundsException", Cond.initialized "java/lang/IndexOutOfBoundsException", Cond.methodLink RX4 122 yX3_has, Cond.instanceMethod yX3_has, Cond.selects RX3 yX3_has yX3_has, Cond.code yX3_has cX3_has 2 (some .boolean), Cond.methodLink RX4 130 yX3_isOver, Cond.instanceMethod yX3_isOver, Cond.selects RX3 yX3_isOver yX3_isOver, Cond.code yX3_isOver cX3_isOver 2 (some .boolean), Cond.methodLink RX4 135 yX3_end, Cond.instanceMethod yX3_end, Cond.selects RX3 yX3_end yX3_end, Cond.code yX3_end cX3_end 2 none, Cond.methodLink RX4 139 yX3_age, Cond.instanceMethod yX3_age, Cond.selects RX3 yX3_age yX3_age, Cond.code yX3_age cX3_age 3 (some .int), Cond.methodLink RL 23 yX4_breakGlass, Cond.instanceMethod yX4_breakGlass]
def wsL_law0_r8 : List Cond := [Cond.selects RX4 yX4_breakGlass yX4_breakGlass, Cond.code yX4_breakGlass cX4_breakGlass 6 (some .int), Cond.methodLink RX4 163 yX4_servesAsWitness, Cond.instanceMethod yX4_servesAsWitness, Cond.selects RX4 yX4_servesAsWitness yX4_servesAsWitness, Cond.code yX4_servesAsWitness cX4_servesAsWitness 3 (some .boolean), Cond.methodLink RX4 202 yX1_anyGrants, Cond.instanceMethod yX1_anyGrants, Cond.selects RX1 yX1_anyGrants yX1_anyGrants, Cond.code yX1_anyGrants cX1_anyGrants 3 (some .boolean), Cond.methodLink RL 75 yX4_setRole, Cond.instanceMethod yX4_setRole, Cond.selects RX4 yX4_setRole yX4_setRole, Cond.code yX4_setRole cX4_setRole 4 (some .int), Cond.methodLink RX4 82 yX1_giveRole, Cond.instanceMethod yX1_giveRole, Cond.selects RX1 yX1_giveRole yX1_giveRole, Cond.code yX1_giveRole cX1_giveRole 5 (some .int), Cond.methodLink RX1 32 yX1_roleOf, Cond.instanceMethod yX1_roleOf, Cond.selects RX1 yX1_roleOf yX1_roleOf, Cond.code yX1_roleOf cX1_roleOf 3 (some .int), Cond.methodLink RL 79 yX4_setRisk, Cond.instanceMethod yX4_setRisk]
def wsL_law0_r9 : List Cond := [Cond.selects RX4 yX4_setRisk yX4_setRisk, Cond.code yX4_setRisk cX4_setRisk 4 (some .int), Cond.methodLink RX4 88 yX3_endAllOf, Cond.instanceMethod yX3_endAllOf, Cond.selects RX3 yX3_endAllOf yX3_endAllOf, Cond.code yX3_endAllOf cX3_endAllOf 4 (some .int), Cond.methodLink RX3 30 yX3_end, Cond.methodLink RL 100 yL_decides, Cond.static yL_decides, Cond.code yL_decides cL_decides 14 (some .boolean), Cond.methodLink RL 82 yX4_decide, Cond.instanceMethod yX4_decide, Cond.selects RX4 yX4_decide yX4_decide, Cond.code yX4_decide cX4_decide 4 (some .int), Cond.methodLink RX4 182 yX3_use, Cond.instanceMethod yX3_use, Cond.selects RX3 yX3_use yX3_use, Cond.code yX3_use cX3_use 3 none, Cond.methodLink RX4 185 yX3_personOf, Cond.instanceMethod yX3_personOf, Cond.selects RX3 yX3_personOf yX3_personOf, Cond.code yX3_personOf cX3_personOf 2 (some .int), Cond.methodLink RX4 188 yX4_answerOfApp, Cond.instanceMethod yX4_answerOfApp]
def wsL_law0_r10 : List Cond := [Cond.selects RX4 yX4_answerOfApp yX4_answerOfApp, Cond.code yX4_answerOfApp cX4_answerOfApp 5 (some .int), Cond.methodLink RX4 211 yX0_areKept, Cond.instanceMethod yX0_areKept, Cond.selects RX0 yX0_areKept yX0_areKept, Cond.code yX0_areKept cX0_areKept 4 (some .boolean), Cond.methodLink RX0 27 yX0_place, Cond.static yX0_place, Cond.code yX0_place cX0_place 3 (some .int), Cond.methodLink RX4 214 yX0_answer, Cond.instanceMethod yX0_answer, Cond.selects RX0 yX0_answer yX0_answer, Cond.code yX0_answer cX0_answer 4 (some .int), Cond.methodLink RX4 97 yX4_answerOfHouse, Cond.instanceMethod yX4_answerOfHouse, Cond.selects RX4 yX4_answerOfHouse yX4_answerOfHouse, Cond.code yX4_answerOfHouse cX4_answerOfHouse 4 (some .int), Cond.methodLink RX4 205 yX1_anyDenies, Cond.instanceMethod yX1_anyDenies, Cond.selects RX1 yX1_anyDenies yX1_anyDenies, Cond.code yX1_anyDenies cX1_anyDenies 3 (some .boolean), Cond.methodLink RX4 208 yX4_holdsGlass, Cond.instanceMethod yX4_holdsGlass, Cond.selects RX4 yX4_holdsGlass yX4_holdsGlass]
def wsL_law0_r11 : List Cond := [Cond.code yX4_holdsGlass cX4_holdsGlass 3 (some .boolean), Cond.methodLink RX4 217 yX0_keep, Cond.instanceMethod yX0_keep, Cond.selects RX0 yX0_keep yX0_keep, Cond.code yX0_keep cX0_keep 6 none, Cond.methodLink RL 58 yL_allows, Cond.static yL_allows, Cond.code yL_allows cL_allows 11 (some .boolean), Cond.methodLink RL 31 yL_isIn, Cond.static yL_isIn, Cond.code yL_isIn cL_isIn 7 (some .boolean), Cond.methodLink RL 104 yL_serves, Cond.static yL_serves, Cond.code yL_serves cL_serves 7 (some .boolean), Cond.methodLink RL 108 yL_caches, Cond.static yL_caches, Cond.code yL_caches cL_caches 9 (some .boolean), Cond.methodLink RL 85 yX4_setCache, Cond.instanceMethod yX4_setCache, Cond.selects RX4 yX4_setCache yX4_setCache, Cond.code yX4_setCache cX4_setCache 4 (some .int), Cond.methodLink RX4 170 yX0_cacheOf, Cond.instanceMethod yX0_cacheOf, Cond.selects RX0 yX0_cacheOf yX0_cacheOf]
def wsL_law0_r12 : List Cond := [Cond.code yX0_cacheOf cX0_cacheOf 2 (some .int), Cond.methodLink RX4 173 yX0_allowCache, Cond.instanceMethod yX0_allowCache, Cond.selects RX0 yX0_allowCache yX0_allowCache, Cond.code yX0_allowCache cX0_allowCache 3 none, Cond.methodLink RX4 177 yX0_dropDue, Cond.instanceMethod yX0_dropDue, Cond.selects RX0 yX0_dropDue yX0_dropDue, Cond.code yX0_dropDue cX0_dropDue 5 none, Cond.methodLink RL 88 yX4_forget, Cond.instanceMethod yX4_forget, Cond.selects RX4 yX4_forget yX4_forget, Cond.code yX4_forget cX4_forget 3 (some .int), Cond.methodLink RX4 193 yX0_dropAllOf, Cond.instanceMethod yX0_dropAllOf, Cond.selects RX0 yX0_dropAllOf yX0_dropAllOf, Cond.code yX0_dropAllOf cX0_dropAllOf 5 (some .int), Cond.methodLink RX0 31 yX0_areKept, Cond.methodLink RL 112 yL_sweep, Cond.static yL_sweep, Cond.code yL_sweep cL_sweep 8 (some .int), Cond.methodLink RL 37 yL_isKey, Cond.static yL_isKey, Cond.code yL_isKey cL_isKey 2 (some .boolean)]
def wsL_law0_r13 : List Cond := [Cond.methodLink RL 116 yX4_changeKeys, Cond.instanceMethod yX4_changeKeys, Cond.selects RX4 yX4_changeKeys yX4_changeKeys, Cond.code yX4_changeKeys cX4_changeKeys 2 (some .int), Cond.methodLink RX4 144 yX2_signWithNext, Cond.instanceMethod yX2_signWithNext, Cond.selects RX2 yX2_signWithNext yX2_signWithNext, Cond.code yX2_signWithNext cX2_signWithNext 2 none, Cond.methodLink RX4 147 yX3_endDue, Cond.instanceMethod yX3_endDue, Cond.selects RX3 yX3_endDue yX3_endDue, Cond.code yX3_endDue cX3_endDue 6 (some .int), Cond.methodLink RX3 34 yX3_isDue, Cond.instanceMethod yX3_isDue, Cond.selects RX3 yX3_isDue yX3_isDue, Cond.code yX3_isDue cX3_isDue 5 (some .boolean), Cond.methodLink RX3 38 yX3_age, Cond.methodLink RX3 42 yX2_takes, Cond.instanceMethod yX2_takes, Cond.selects RX2 yX2_takes yX2_takes, Cond.code yX2_takes cX2_takes 3 (some .boolean), Cond.methodLink RL 119 yX4_pass, Cond.instanceMethod yX4_pass, Cond.selects RX4 yX4_pass yX4_pass]
def wsL_law0_r14 : List Cond := [Cond.code yX4_pass cX4_pass 2 (some .int), Cond.methodLink RX4 156 yX0_dropDueOfAll, Cond.instanceMethod yX0_dropDueOfAll, Cond.selects RX0 yX0_dropDueOfAll yX0_dropDueOfAll, Cond.code yX0_dropDueOfAll cX0_dropDueOfAll 3 none, Cond.methodLink RX0 35 yX0_dropDue, Cond.methodLink RL 122 yL_isSo, Cond.static yL_isSo, Cond.code yL_isSo cL_isSo 14 (some .boolean), Cond.methodLink RL 41 yX4_now, Cond.instanceMethod yX4_now, Cond.selects RX4 yX4_now yX4_now, Cond.code yX4_now cX4_now 1 (some .int), Cond.methodLink RL 45 yX4_isTaken, Cond.instanceMethod yX4_isTaken, Cond.selects RX4 yX4_isTaken yX4_isTaken, Cond.code yX4_isTaken cX4_isTaken 2 (some .boolean), Cond.methodLink RX4 153 yX2_takes, Cond.methodLink RL 49 yX4_goesOn, Cond.instanceMethod yX4_goesOn, Cond.selects RX4 yX4_goesOn yX4_goesOn, Cond.code yX4_goesOn cX4_goesOn 2 (some .boolean), Cond.methodLink RL 52 yX4_isIn, Cond.instanceMethod yX4_isIn]
def wsL_law0_r15 : List Cond := [Cond.selects RX4 yX4_isIn yX4_isIn, Cond.code yX4_isIn cX4_isIn 3 (some .boolean), Cond.methodLink RX4 92 yX1_hasPerson, Cond.instanceMethod yX1_hasPerson, Cond.selects RX1 yX1_hasPerson yX1_hasPerson, Cond.code yX1_hasPerson cX1_hasPerson 3 (some .boolean), Cond.methodLink RL 55 yX4_allows, Cond.instanceMethod yX4_allows, Cond.selects RX4 yX4_allows yX4_allows, Cond.code yX4_allows cX4_allows 3 (some .boolean), Cond.methodLink RL 61 yX4_stale, Cond.instanceMethod yX4_stale, Cond.selects RX4 yX4_stale yX4_stale, Cond.code yX4_stale cX4_stale 5 (some .int), Cond.methodLink RX4 198 yX4_isStale, Cond.instanceMethod yX4_isStale, Cond.selects RX4 yX4_isStale yX4_isStale, Cond.code yX4_isStale cX4_isStale 4 (some .boolean)]
def wsL_law0 : List Cond := (wsL_law0_r1 ++ (wsL_law0_r2 ++ (wsL_law0_r3 ++ (wsL_law0_r4 ++ (wsL_law0_r5 ++ (wsL_law0_r6 ++ (wsL_law0_r7 ++ (wsL_law0_r8 ++ (wsL_law0_r9 ++ (wsL_law0_r10 ++ (wsL_law0_r11 ++ (wsL_law0_r12 ++ (wsL_law0_r13 ++ (wsL_law0_r14 ++ wsL_law0_r15)))))))))))))) ++ wsX40 ++ wsX10 ++ wsX30 ++ wsX20 ++ wsX00 ++ ([] : List Cond)
def wsL_law : List Cond := wsL_law0 ++ (vx_atS RX4 56 "java/lang/IllegalArgumentException" ["java/lang/RuntimeException", "java/lang/Exception"]).filter goodWord ++ (vx_atS RX4 74 "java/lang/IllegalStateException" ["java/lang/RuntimeException", "java/lang/Exception"]).filter goodWord ++ (vx_atS RX4 129 "java/lang/IndexOutOfBoundsException" ["java/lang/RuntimeException", "java/lang/Exception"]).filter goodWord
end
section
set_option maxRecDepth 20000 in
theorem wsL_law_in0_r1 : ∀ w ∈ wsL_law0_r1, w ∈ lw_tbl := fun w h => (goodIn_p wsL_law0_r1 [28, 31] (by decide +kernel) (by decide +kernel) w h).1
set_option maxRecDepth 20000 in
theorem wsL_law_in0_r2 : ∀ w ∈ wsL_law0_r2, w ∈ lw_tbl := fun w h => (goodIn_p wsL_law0_r2 [36, 56] (by decide +kernel) (by decide +kernel) w h).1
set_option maxRecDepth 20000 in
theorem wsL_law_in0_r3 : ∀ w ∈ wsL_law0_r3, w ∈ lw_tbl := fun w h => (goodIn_p wsL_law0_r3 [82, 95, 99, 249] (by decide +kernel) (by decide +kernel) w h).1
set_option maxRecDepth 20000 in
theorem wsL_law_in0_r4 : ∀ w ∈ wsL_law0_r4, w ∈ lw_tbl := fun w h => (goodIn_p wsL_law0_r4 [254, 450, 454, 267, 458, 284] (by decide +kernel) (by decide +kernel) w h).1
set_option maxRecDepth 20000 in
theorem wsL_law_in0_r5 : ∀ w ∈ wsL_law0_r5, w ∈ lw_tbl := fun w h => (goodIn_p wsL_law0_r5 [307, 264, 273, 277, 281] (by decide +kernel) (by decide +kernel) w h).1
set_option maxRecDepth 20000 in
theorem wsL_law_in0_r6 : ∀ w ∈ wsL_law0_r6, w ∈ lw_tbl := fun w h => (goodIn_p wsL_law0_r6 [304, 311, 316, 321, 231, 326] (by decide +kernel) (by decide +kernel) w h).1
set_option maxRecDepth 20000 in
theorem wsL_law_in0_r7 : ∀ w ∈ wsL_law0_r7, w ∈ lw_tbl := fun w h => (goodIn_p wsL_law0_r7 [330, 334, 354, 227, 219] (by decide +kernel) (by decide +kernel) w h).1
end
section
set_option maxRecDepth 20000 in
theorem wsL_law_in0_r8 : ∀ w ∈ wsL_law0_r8, w ∈ lw_tbl := fun w h => (goodIn_p wsL_law0_r8 [361, 368, 372, 462, 468, 472] (by decide +kernel) (by decide +kernel) w h).1
set_option maxRecDepth 20000 in
theorem wsL_law_in0_r9 : ∀ w ∈ wsL_law0_r9, w ∈ lw_tbl := fun w h => (goodIn_p wsL_law0_r9 [476, 481, 484, 488, 493, 497] (by decide +kernel) (by decide +kernel) w h).1
set_option maxRecDepth 20000 in
theorem wsL_law_in0_r10 : ∀ w ∈ wsL_law0_r10, w ∈ lw_tbl := fun w h => (goodIn_p wsL_law0_r10 [501, 443, 246, 447, 419, 423] (by decide +kernel) (by decide +kernel) w h).1
set_option maxRecDepth 20000 in
theorem wsL_law_in0_r11 : ∀ w ∈ wsL_law0_r11, w ∈ lw_tbl := fun w h => (goodIn_p wsL_law0_r11 [427, 505, 430, 379, 376, 508, 512] (by decide +kernel) (by decide +kernel) w h).1
set_option maxRecDepth 20000 in
theorem wsL_law_in0_r12 : ∀ w ∈ wsL_law0_r12, w ∈ lw_tbl := fun w h => (goodIn_p wsL_law0_r12 [517, 521, 243, 526, 531, 382, 385] (by decide +kernel) (by decide +kernel) w h).1
set_option maxRecDepth 20000 in
theorem wsL_law_in0_r13 : ∀ w ∈ wsL_law0_r13, w ∈ lw_tbl := fun w h => (goodIn_p wsL_law0_r13 [135, 207, 211, 215, 223] (by decide +kernel) (by decide +kernel) w h).1
set_option maxRecDepth 20000 in
theorem wsL_law_in0_r14 : ∀ w ∈ wsL_law0_r14, w ∈ lw_tbl := fun w h => (goodIn_p wsL_law0_r14 [235, 239, 388, 392, 396, 402] (by decide +kernel) (by decide +kernel) w h).1
set_option maxRecDepth 20000 in
theorem wsL_law_in0_r15 : ∀ w ∈ wsL_law0_r15, w ∈ lw_tbl := fun w h => (goodIn_p wsL_law0_r15 [406, 411, 415, 434, 439] (by decide +kernel) (by decide +kernel) w h).1
theorem inq_wsX00 : ∀ w ∈ wsX00, w ∈ lw_tbl := by decide +kernel
theorem inq_wsX20 : ∀ w ∈ wsX20, w ∈ lw_tbl := by decide +kernel
theorem inq_wsX30 : ∀ w ∈ wsX30, w ∈ lw_tbl := by decide +kernel
theorem inq_wsX10 : ∀ w ∈ wsX10, w ∈ lw_tbl := by decide +kernel
theorem inq_wsX40 : ∀ w ∈ wsX40, w ∈ lw_tbl := by decide +kernel
set_option maxRecDepth 20000 in
theorem wsL_law_in0 : ∀ w ∈ wsL_law0, w ∈ lw_tbl := by
  intro w h
  unfold wsL_law0 at h
  rcases List.mem_append.mp h with h | h
  rotate_left
  · exact absurd h List.not_mem_nil
  rcases List.mem_append.mp h with h | h
  rotate_left
  · exact inq_wsX00 w h
  rcases List.mem_append.mp h with h | h
  rotate_left
  · exact inq_wsX20 w h
  rcases List.mem_append.mp h with h | h
  rotate_left
  · exact inq_wsX30 w h
  rcases List.mem_append.mp h with h | h
  rotate_left
  · exact inq_wsX10 w h
  rcases List.mem_append.mp h with h | h
  rotate_left
  · exact inq_wsX40 w h
  rcases List.mem_append.mp h with h | h
  · exact wsL_law_in0_r1 w h
  rcases List.mem_append.mp h with h | h
  · exact wsL_law_in0_r2 w h
  rcases List.mem_append.mp h with h | h
  · exact wsL_law_in0_r3 w h
  rcases List.mem_append.mp h with h | h
  · exact wsL_law_in0_r4 w h
  rcases List.mem_append.mp h with h | h
  · exact wsL_law_in0_r5 w h
  rcases List.mem_append.mp h with h | h
  · exact wsL_law_in0_r6 w h
  rcases List.mem_append.mp h with h | h
  · exact wsL_law_in0_r7 w h
  rcases List.mem_append.mp h with h | h
  · exact wsL_law_in0_r8 w h
  rcases List.mem_append.mp h with h | h
  · exact wsL_law_in0_r9 w h
  rcases List.mem_append.mp h with h | h
  · exact wsL_law_in0_r10 w h
  rcases List.mem_append.mp h with h | h
  · exact wsL_law_in0_r11 w h
  rcases List.mem_append.mp h with h | h
  · exact wsL_law_in0_r12 w h
  rcases List.mem_append.mp h with h | h
  · exact wsL_law_in0_r13 w h
  rcases List.mem_append.mp h with h | h
  · exact wsL_law_in0_r14 w h
  exact wsL_law_in0_r15 w h
end
section
theorem wsL_law_x0 : ∀ w ∈ (vx_atS RX4 56 "java/lang/IllegalArgumentException" ["java/lang/RuntimeException", "java/lang/Exception"]).filter goodWord, w ∈ lw_tbl := by decide +kernel
theorem wsL_law_x1 : ∀ w ∈ (vx_atS RX4 74 "java/lang/IllegalStateException" ["java/lang/RuntimeException", "java/lang/Exception"]).filter goodWord, w ∈ lw_tbl := by decide +kernel
theorem wsL_law_x2 : ∀ w ∈ (vx_atS RX4 129 "java/lang/IndexOutOfBoundsException" ["java/lang/RuntimeException", "java/lang/Exception"]).filter goodWord, w ∈ lw_tbl := by decide +kernel
theorem wsL_law_in : ∀ w ∈ wsL_law, w ∈ lw_tbl := fun w h => (List.mem_append.mp h).elim (fun h => (List.mem_append.mp h).elim (fun h => (List.mem_append.mp h).elim (fun h => wsL_law_in0 w h) (fun h => wsL_law_x0 w h)) (fun h => wsL_law_x1 w h)) (fun h => wsL_law_x2 w h)
theorem inlX0 : ∀ w ∈ wsX00, w ∈ wsL_law := fun _ h => List.mem_append_left _ (List.mem_append_left _ (List.mem_append_left _ (List.mem_append_left _ (List.mem_append_right _ h))))
theorem inX0 : ∀ w ∈ wsX00, w ∈ lw_tbl := fun w h => wsL_law_in w (inlX0 w h)
theorem inlX1 : ∀ w ∈ wsX10, w ∈ wsL_law := fun _ h => List.mem_append_left _ (List.mem_append_left _ (List.mem_append_left _ (List.mem_append_left _ (List.mem_append_left _ (List.mem_append_left _ (List.mem_append_left _ (List.mem_append_right _ h)))))))
theorem inX1 : ∀ w ∈ wsX10, w ∈ lw_tbl := fun w h => wsL_law_in w (inlX1 w h)
theorem inlX2 : ∀ w ∈ wsX20, w ∈ wsL_law := fun _ h => List.mem_append_left _ (List.mem_append_left _ (List.mem_append_left _ (List.mem_append_left _ (List.mem_append_left _ (List.mem_append_right _ h)))))
theorem inX2 : ∀ w ∈ wsX20, w ∈ lw_tbl := fun w h => wsL_law_in w (inlX2 w h)
theorem inlX3 : ∀ w ∈ wsX30, w ∈ wsL_law := fun _ h => List.mem_append_left _ (List.mem_append_left _ (List.mem_append_left _ (List.mem_append_left _ (List.mem_append_left _ (List.mem_append_left _ (List.mem_append_right _ h))))))
theorem inX3 : ∀ w ∈ wsX30, w ∈ lw_tbl := fun w h => wsL_law_in w (inlX3 w h)
theorem inlX4 : ∀ w ∈ wsX40, w ∈ wsL_law := fun _ h => List.mem_append_left _ (List.mem_append_left _ (List.mem_append_left _ (List.mem_append_left _ (List.mem_append_left _ (List.mem_append_left _ (List.mem_append_left _ (List.mem_append_left _ (List.mem_append_right _ h))))))))
theorem inX4 : ∀ w ∈ wsX40, w ∈ lw_tbl := fun w h => wsL_law_in w (inlX4 w h)
theorem inX5 : ∀ w ∈ wsX50, w ∈ lw_tbl := by decide +kernel
theorem inJx145de : ∀ w ∈ wsJx145de0, w ∈ lw_tbl := by decide +kernel
theorem inJ0 : ∀ w ∈ wsJ00, w ∈ lw_tbl := by decide +kernel
theorem inJ7 : ∀ w ∈ wsJ70, w ∈ lw_tbl := by decide +kernel
set_option maxRecDepth 20000 in
theorem ggX0_init_J7_fill_53178 : GoodIn wsX0_init wsJ7_fill_53178 := goodIn_r _ [11] (by decide +kernel) (by decide +kernel)
set_option maxRecDepth 20000 in
theorem gX0_init_J7_fill_53178 : GoodIn wsX0_init (va_wsS RX0 21 yJ7_fill_53178 wsJ7_fill_53178) := goodIn_app (goodIn_of _ (by decide +kernel)) ggX0_init_J7_fill_53178
theorem dX0_init_0 : decode cX0_init 0 = .ok (.aload_n 0, 1) := by decide +kernel
theorem dX0_init_1 : decode cX0_init 1 = .ok (.invokespecial 3, 3) := by decide +kernel
theorem dX0_init_4 : decode cX0_init 4 = .ok (.aload_n 0, 1) := by decide +kernel
theorem dX0_init_5 : decode cX0_init 5 = .ok (.iconst 4, 1) := by decide +kernel
theorem dX0_init_6 : decode cX0_init 6 = .ok (.newarray .int, 2) := by decide +kernel
theorem dX0_init_8 : decode cX0_init 8 = .ok (.putfield 9, 3) := by decide +kernel
theorem dX0_init_11 : decode cX0_init 11 = .ok (.aload_n 0, 1) := by decide +kernel
theorem dX0_init_12 : decode cX0_init 12 = .ok (.sipush 240, 3) := by decide +kernel
theorem dX0_init_15 : decode cX0_init 15 = .ok (.newarray .int, 2) := by decide +kernel
theorem dX0_init_17 : decode cX0_init 17 = .ok (.putfield 15, 3) := by decide +kernel
theorem dX0_init_20 : decode cX0_init 20 = .ok (.aload_n 0, 1) := by decide +kernel
theorem dX0_init_21 : decode cX0_init 21 = .ok (.sipush 240, 3) := by decide +kernel
theorem dX0_init_24 : decode cX0_init 24 = .ok (.newarray .int, 2) := by decide +kernel
theorem dX0_init_26 : decode cX0_init 26 = .ok (.putfield 18, 3) := by decide +kernel
theorem dX0_init_29 : decode cX0_init 29 = .ok (.aload_n 0, 1) := by decide +kernel
theorem dX0_init_30 : decode cX0_init 30 = .ok (.getfield 9, 3) := by decide +kernel
theorem dX0_init_33 : decode cX0_init 33 = .ok (.bipush 10, 2) := by decide +kernel
theorem dX0_init_35 : decode cX0_init 35 = .ok (.invokestatic 21, 3) := by decide +kernel
theorem dX0_init_38 : decode cX0_init 38 = .ok (.aload_n 0, 1) := by decide +kernel
theorem dX0_init_39 : decode cX0_init 39 = .ok (.getfield 15, 3) := by decide +kernel
theorem dX0_init_42 : decode cX0_init 42 = .ok (.iconst (-1), 1) := by decide +kernel
theorem dX0_init_43 : decode cX0_init 43 = .ok (.invokestatic 21, 3) := by decide +kernel
theorem dX0_init_46 : decode cX0_init 46 = .ok (.return_, 1) := by decide +kernel
theorem dX0_cacheOf_0 : decode cX0_cacheOf 0 = .ok (.aload_n 0, 1) := by decide +kernel
theorem dX0_cacheOf_1 : decode cX0_cacheOf 1 = .ok (.getfield 9, 3) := by decide +kernel
theorem dX0_cacheOf_4 : decode cX0_cacheOf 4 = .ok (.iload_n 1, 1) := by decide +kernel
theorem dX0_cacheOf_5 : decode cX0_cacheOf 5 = .ok (.iaload, 1) := by decide +kernel
theorem dX0_cacheOf_6 : decode cX0_cacheOf 6 = .ok (.ireturn, 1) := by decide +kernel
theorem dX0_allowCache_0 : decode cX0_allowCache 0 = .ok (.aload_n 0, 1) := by decide +kernel
theorem dX0_allowCache_1 : decode cX0_allowCache 1 = .ok (.getfield 9, 3) := by decide +kernel
theorem dX0_allowCache_4 : decode cX0_allowCache 4 = .ok (.iload_n 1, 1) := by decide +kernel
theorem dX0_allowCache_5 : decode cX0_allowCache 5 = .ok (.iload_n 2, 1) := by decide +kernel
theorem dX0_allowCache_6 : decode cX0_allowCache 6 = .ok (.iastore, 1) := by decide +kernel
theorem dX0_allowCache_7 : decode cX0_allowCache 7 = .ok (.return_, 1) := by decide +kernel
set_option maxRecDepth 20000 in
theorem ggX0_areKept_X0_place : GoodIn wsX0_areKept wsX0_place := goodIn_r _ [5] (by decide +kernel) (by decide +kernel)
set_option maxRecDepth 20000 in
theorem gX0_areKept_X0_place : GoodIn wsX0_areKept (va_wsS RX0 27 yX0_place wsX0_place) := goodIn_app (goodIn_of _ (by decide +kernel)) ggX0_areKept_X0_place
theorem dX0_areKept_0 : decode cX0_areKept 0 = .ok (.aload_n 0, 1) := by decide +kernel
theorem dX0_areKept_1 : decode cX0_areKept 1 = .ok (.getfield 15, 3) := by decide +kernel
theorem dX0_areKept_4 : decode cX0_areKept 4 = .ok (.iload_n 1, 1) := by decide +kernel
theorem dX0_areKept_5 : decode cX0_areKept 5 = .ok (.iload_n 2, 1) := by decide +kernel
theorem dX0_areKept_6 : decode cX0_areKept 6 = .ok (.iload_n 3, 1) := by decide +kernel
theorem dX0_areKept_7 : decode cX0_areKept 7 = .ok (.invokestatic 27, 3) := by decide +kernel
theorem dX0_areKept_10 : decode cX0_areKept 10 = .ok (.iaload, 1) := by decide +kernel
theorem dX0_areKept_11 : decode cX0_areKept 11 = .ok (.iconst (-1), 1) := by decide +kernel
theorem dX0_areKept_12 : decode cX0_areKept 12 = .ok (.if_icmp .eq 7, 3) := by decide +kernel
theorem dX0_areKept_15 : decode cX0_areKept 15 = .ok (.iconst 1, 1) := by decide +kernel
theorem dX0_areKept_16 : decode cX0_areKept 16 = .ok (.goto 4, 3) := by decide +kernel
theorem dX0_areKept_19 : decode cX0_areKept 19 = .ok (.iconst 0, 1) := by decide +kernel
theorem dX0_areKept_20 : decode cX0_areKept 20 = .ok (.ireturn, 1) := by decide +kernel
set_option maxRecDepth 20000 in
theorem ggX0_answer_X0_place : GoodIn wsX0_answer wsX0_place := goodIn_r _ [5] (by decide +kernel) (by decide +kernel)
set_option maxRecDepth 20000 in
theorem gX0_answer_X0_place : GoodIn wsX0_answer (va_wsS RX0 27 yX0_place wsX0_place) := goodIn_app (goodIn_of _ (by decide +kernel)) ggX0_answer_X0_place
theorem dX0_answer_0 : decode cX0_answer 0 = .ok (.aload_n 0, 1) := by decide +kernel
theorem dX0_answer_1 : decode cX0_answer 1 = .ok (.getfield 15, 3) := by decide +kernel
theorem dX0_answer_4 : decode cX0_answer 4 = .ok (.iload_n 1, 1) := by decide +kernel
theorem dX0_answer_5 : decode cX0_answer 5 = .ok (.iload_n 2, 1) := by decide +kernel
theorem dX0_answer_6 : decode cX0_answer 6 = .ok (.iload_n 3, 1) := by decide +kernel
theorem dX0_answer_7 : decode cX0_answer 7 = .ok (.invokestatic 27, 3) := by decide +kernel
theorem dX0_answer_10 : decode cX0_answer 10 = .ok (.iaload, 1) := by decide +kernel
theorem dX0_answer_11 : decode cX0_answer 11 = .ok (.ireturn, 1) := by decide +kernel
set_option maxRecDepth 20000 in
theorem ggX0_keep_X0_place : GoodIn wsX0_keep wsX0_place := goodIn_r _ [7] (by decide +kernel) (by decide +kernel)
set_option maxRecDepth 20000 in
theorem gX0_keep_X0_place : GoodIn wsX0_keep (va_wsS RX0 27 yX0_place wsX0_place) := goodIn_app (goodIn_of _ (by decide +kernel)) ggX0_keep_X0_place
theorem dX0_keep_0 : decode cX0_keep 0 = .ok (.aload_n 0, 1) := by decide +kernel
theorem dX0_keep_1 : decode cX0_keep 1 = .ok (.getfield 9, 3) := by decide +kernel
theorem dX0_keep_4 : decode cX0_keep 4 = .ok (.iload_n 1, 1) := by decide +kernel
theorem dX0_keep_5 : decode cX0_keep 5 = .ok (.iaload, 1) := by decide +kernel
theorem dX0_keep_6 : decode cX0_keep 6 = .ok (.ifCond .ne 4, 3) := by decide +kernel
theorem dX0_keep_9 : decode cX0_keep 9 = .ok (.return_, 1) := by decide +kernel
theorem dX0_keep_10 : decode cX0_keep 10 = .ok (.aload_n 0, 1) := by decide +kernel
theorem dX0_keep_11 : decode cX0_keep 11 = .ok (.getfield 15, 3) := by decide +kernel
theorem dX0_keep_14 : decode cX0_keep 14 = .ok (.iload_n 1, 1) := by decide +kernel
theorem dX0_keep_15 : decode cX0_keep 15 = .ok (.iload_n 2, 1) := by decide +kernel
theorem dX0_keep_16 : decode cX0_keep 16 = .ok (.iload_n 3, 1) := by decide +kernel
theorem dX0_keep_17 : decode cX0_keep 17 = .ok (.invokestatic 27, 3) := by decide +kernel
theorem dX0_keep_20 : decode cX0_keep 20 = .ok (.iload 4, 2) := by decide +kernel
theorem dX0_keep_22 : decode cX0_keep 22 = .ok (.iastore, 1) := by decide +kernel
theorem dX0_keep_23 : decode cX0_keep 23 = .ok (.aload_n 0, 1) := by decide +kernel
theorem dX0_keep_24 : decode cX0_keep 24 = .ok (.getfield 18, 3) := by decide +kernel
theorem dX0_keep_27 : decode cX0_keep 27 = .ok (.iload_n 1, 1) := by decide +kernel
theorem dX0_keep_28 : decode cX0_keep 28 = .ok (.iload_n 2, 1) := by decide +kernel
theorem dX0_keep_29 : decode cX0_keep 29 = .ok (.iload_n 3, 1) := by decide +kernel
theorem dX0_keep_30 : decode cX0_keep 30 = .ok (.invokestatic 27, 3) := by decide +kernel
theorem dX0_keep_33 : decode cX0_keep 33 = .ok (.iload 5, 2) := by decide +kernel
theorem dX0_keep_35 : decode cX0_keep 35 = .ok (.iastore, 1) := by decide +kernel
theorem dX0_keep_36 : decode cX0_keep 36 = .ok (.return_, 1) := by decide +kernel
set_option maxRecDepth 20000 in
theorem ggX0_dropAllOf_X0_areKept : GoodIn wsX0_dropAllOf wsX0_areKept := goodIn_r _ [6, 1, 7, 8, 5, 9, 10, 11, 12] (by decide +kernel) (by decide +kernel)
set_option maxRecDepth 20000 in
theorem gX0_dropAllOf_X0_areKept : GoodIn wsX0_dropAllOf (wsV RX0 31 RX0 yX0_areKept wsX0_areKept) := goodIn_app (goodIn_of _ (by decide +kernel)) ggX0_dropAllOf_X0_areKept
set_option maxRecDepth 20000 in
theorem ggX0_dropAllOf_X0_place : GoodIn wsX0_dropAllOf wsX0_place := goodIn_r _ [9] (by decide +kernel) (by decide +kernel)
set_option maxRecDepth 20000 in
theorem gX0_dropAllOf_X0_place : GoodIn wsX0_dropAllOf (va_wsS RX0 27 yX0_place wsX0_place) := goodIn_app (goodIn_of _ (by decide +kernel)) ggX0_dropAllOf_X0_place
theorem dX0_dropAllOf_0 : decode cX0_dropAllOf 0 = .ok (.iconst 0, 1) := by decide +kernel
theorem dX0_dropAllOf_1 : decode cX0_dropAllOf 1 = .ok (.istore_n 3, 1) := by decide +kernel
theorem dX0_dropAllOf_2 : decode cX0_dropAllOf 2 = .ok (.iconst 0, 1) := by decide +kernel
theorem dX0_dropAllOf_3 : decode cX0_dropAllOf 3 = .ok (.istore 4, 2) := by decide +kernel
theorem dX0_dropAllOf_5 : decode cX0_dropAllOf 5 = .ok (.iload 4, 2) := by decide +kernel
theorem dX0_dropAllOf_7 : decode cX0_dropAllOf 7 = .ok (.bipush 6, 2) := by decide +kernel
theorem dX0_dropAllOf_9 : decode cX0_dropAllOf 9 = .ok (.if_icmp .ge 36, 3) := by decide +kernel
theorem dX0_dropAllOf_12 : decode cX0_dropAllOf 12 = .ok (.aload_n 0, 1) := by decide +kernel
theorem dX0_dropAllOf_13 : decode cX0_dropAllOf 13 = .ok (.iload_n 1, 1) := by decide +kernel
theorem dX0_dropAllOf_14 : decode cX0_dropAllOf 14 = .ok (.iload_n 2, 1) := by decide +kernel
theorem dX0_dropAllOf_15 : decode cX0_dropAllOf 15 = .ok (.iload 4, 2) := by decide +kernel
theorem dX0_dropAllOf_17 : decode cX0_dropAllOf 17 = .ok (.invokevirtual 31, 3) := by decide +kernel
theorem dX0_dropAllOf_20 : decode cX0_dropAllOf 20 = .ok (.ifCond .eq 19, 3) := by decide +kernel
theorem dX0_dropAllOf_23 : decode cX0_dropAllOf 23 = .ok (.aload_n 0, 1) := by decide +kernel
theorem dX0_dropAllOf_24 : decode cX0_dropAllOf 24 = .ok (.getfield 15, 3) := by decide +kernel
theorem dX0_dropAllOf_27 : decode cX0_dropAllOf 27 = .ok (.iload_n 1, 1) := by decide +kernel
theorem dX0_dropAllOf_28 : decode cX0_dropAllOf 28 = .ok (.iload_n 2, 1) := by decide +kernel
theorem dX0_dropAllOf_29 : decode cX0_dropAllOf 29 = .ok (.iload 4, 2) := by decide +kernel
theorem dX0_dropAllOf_31 : decode cX0_dropAllOf 31 = .ok (.invokestatic 27, 3) := by decide +kernel
theorem dX0_dropAllOf_34 : decode cX0_dropAllOf 34 = .ok (.iconst (-1), 1) := by decide +kernel
theorem dX0_dropAllOf_35 : decode cX0_dropAllOf 35 = .ok (.iastore, 1) := by decide +kernel
theorem dX0_dropAllOf_36 : decode cX0_dropAllOf 36 = .ok (.iinc 3 1, 3) := by decide +kernel
theorem dX0_dropAllOf_39 : decode cX0_dropAllOf 39 = .ok (.iinc 4 1, 3) := by decide +kernel
theorem dX0_dropAllOf_42 : decode cX0_dropAllOf 42 = .ok (.goto (-37), 3) := by decide +kernel
theorem dX0_dropAllOf_45 : decode cX0_dropAllOf 45 = .ok (.iload_n 3, 1) := by decide +kernel
theorem dX0_dropAllOf_46 : decode cX0_dropAllOf 46 = .ok (.ireturn, 1) := by decide +kernel
set_option maxRecDepth 20000 in
theorem ggX0_dropDueOfAll_X0_dropDue : GoodIn wsX0_dropDueOfAll wsX0_dropDue := goodIn_r _ [5, 6, 7, 8, 9, 10, 4, 11, 12, 13, 14] (by decide +kernel) (by decide +kernel)
set_option maxRecDepth 20000 in
theorem gX0_dropDueOfAll_X0_dropDue : GoodIn wsX0_dropDueOfAll (wsV RX0 35 RX0 yX0_dropDue wsX0_dropDue) := goodIn_app (goodIn_of _ (by decide +kernel)) ggX0_dropDueOfAll_X0_dropDue
theorem dX0_dropDueOfAll_0 : decode cX0_dropDueOfAll 0 = .ok (.iconst 0, 1) := by decide +kernel
theorem dX0_dropDueOfAll_1 : decode cX0_dropDueOfAll 1 = .ok (.istore_n 2, 1) := by decide +kernel
theorem dX0_dropDueOfAll_2 : decode cX0_dropDueOfAll 2 = .ok (.iload_n 2, 1) := by decide +kernel
theorem dX0_dropDueOfAll_3 : decode cX0_dropDueOfAll 3 = .ok (.iconst 4, 1) := by decide +kernel
theorem dX0_dropDueOfAll_4 : decode cX0_dropDueOfAll 4 = .ok (.if_icmp .ge 15, 3) := by decide +kernel
theorem dX0_dropDueOfAll_7 : decode cX0_dropDueOfAll 7 = .ok (.aload_n 0, 1) := by decide +kernel
theorem dX0_dropDueOfAll_8 : decode cX0_dropDueOfAll 8 = .ok (.iload_n 2, 1) := by decide +kernel
theorem dX0_dropDueOfAll_9 : decode cX0_dropDueOfAll 9 = .ok (.iload_n 1, 1) := by decide +kernel
theorem dX0_dropDueOfAll_10 : decode cX0_dropDueOfAll 10 = .ok (.invokevirtual 35, 3) := by decide +kernel
theorem dX0_dropDueOfAll_13 : decode cX0_dropDueOfAll 13 = .ok (.iinc 2 1, 3) := by decide +kernel
theorem dX0_dropDueOfAll_16 : decode cX0_dropDueOfAll 16 = .ok (.goto (-14), 3) := by decide +kernel
theorem dX0_dropDueOfAll_19 : decode cX0_dropDueOfAll 19 = .ok (.return_, 1) := by decide +kernel
set_option maxRecDepth 20000 in
theorem ggX0_dropDue_X0_place : GoodIn wsX0_dropDue wsX0_place := goodIn_r _ [7] (by decide +kernel) (by decide +kernel)
set_option maxRecDepth 20000 in
theorem gX0_dropDue_X0_place : GoodIn wsX0_dropDue (va_wsS RX0 27 yX0_place wsX0_place) := goodIn_app (goodIn_of _ (by decide +kernel)) ggX0_dropDue_X0_place
theorem dX0_dropDue_0 : decode cX0_dropDue 0 = .ok (.iload_n 1, 1) := by decide +kernel
theorem dX0_dropDue_1 : decode cX0_dropDue 1 = .ok (.iconst 0, 1) := by decide +kernel
theorem dX0_dropDue_2 : decode cX0_dropDue 2 = .ok (.iconst 0, 1) := by decide +kernel
theorem dX0_dropDue_3 : decode cX0_dropDue 3 = .ok (.invokestatic 27, 3) := by decide +kernel
theorem dX0_dropDue_6 : decode cX0_dropDue 6 = .ok (.istore_n 3, 1) := by decide +kernel
theorem dX0_dropDue_7 : decode cX0_dropDue 7 = .ok (.iload_n 3, 1) := by decide +kernel
theorem dX0_dropDue_8 : decode cX0_dropDue 8 = .ok (.istore 4, 2) := by decide +kernel
theorem dX0_dropDue_10 : decode cX0_dropDue 10 = .ok (.iload 4, 2) := by decide +kernel
theorem dX0_dropDue_12 : decode cX0_dropDue 12 = .ok (.iload_n 3, 1) := by decide +kernel
theorem dX0_dropDue_13 : decode cX0_dropDue 13 = .ok (.bipush 60, 2) := by decide +kernel
theorem dX0_dropDue_15 : decode cX0_dropDue 15 = .ok (.iadd, 1) := by decide +kernel
theorem dX0_dropDue_16 : decode cX0_dropDue 16 = .ok (.if_icmp .ge 35, 3) := by decide +kernel
theorem dX0_dropDue_19 : decode cX0_dropDue 19 = .ok (.iload_n 2, 1) := by decide +kernel
theorem dX0_dropDue_20 : decode cX0_dropDue 20 = .ok (.aload_n 0, 1) := by decide +kernel
theorem dX0_dropDue_21 : decode cX0_dropDue 21 = .ok (.getfield 18, 3) := by decide +kernel
theorem dX0_dropDue_24 : decode cX0_dropDue 24 = .ok (.iload 4, 2) := by decide +kernel
theorem dX0_dropDue_26 : decode cX0_dropDue 26 = .ok (.iaload, 1) := by decide +kernel
theorem dX0_dropDue_27 : decode cX0_dropDue 27 = .ok (.isub, 1) := by decide +kernel
theorem dX0_dropDue_28 : decode cX0_dropDue 28 = .ok (.aload_n 0, 1) := by decide +kernel
theorem dX0_dropDue_29 : decode cX0_dropDue 29 = .ok (.getfield 9, 3) := by decide +kernel
theorem dX0_dropDue_32 : decode cX0_dropDue 32 = .ok (.iload_n 1, 1) := by decide +kernel
theorem dX0_dropDue_33 : decode cX0_dropDue 33 = .ok (.iaload, 1) := by decide +kernel
theorem dX0_dropDue_34 : decode cX0_dropDue 34 = .ok (.if_icmp .lt 11, 3) := by decide +kernel
theorem dX0_dropDue_37 : decode cX0_dropDue 37 = .ok (.aload_n 0, 1) := by decide +kernel
theorem dX0_dropDue_38 : decode cX0_dropDue 38 = .ok (.getfield 15, 3) := by decide +kernel
theorem dX0_dropDue_41 : decode cX0_dropDue 41 = .ok (.iload 4, 2) := by decide +kernel
theorem dX0_dropDue_43 : decode cX0_dropDue 43 = .ok (.iconst (-1), 1) := by decide +kernel
theorem dX0_dropDue_44 : decode cX0_dropDue 44 = .ok (.iastore, 1) := by decide +kernel
theorem dX0_dropDue_45 : decode cX0_dropDue 45 = .ok (.iinc 4 1, 3) := by decide +kernel
theorem dX0_dropDue_48 : decode cX0_dropDue 48 = .ok (.goto (-38), 3) := by decide +kernel
theorem dX0_dropDue_51 : decode cX0_dropDue 51 = .ok (.return_, 1) := by decide +kernel
theorem dX0_place_0 : decode cX0_place 0 = .ok (.iload_n 0, 1) := by decide +kernel
theorem dX0_place_1 : decode cX0_place 1 = .ok (.bipush 60, 2) := by decide +kernel
theorem dX0_place_3 : decode cX0_place 3 = .ok (.imul, 1) := by decide +kernel
theorem dX0_place_4 : decode cX0_place 4 = .ok (.iload_n 1, 1) := by decide +kernel
theorem dX0_place_5 : decode cX0_place 5 = .ok (.bipush 6, 2) := by decide +kernel
theorem dX0_place_7 : decode cX0_place 7 = .ok (.imul, 1) := by decide +kernel
theorem dX0_place_8 : decode cX0_place 8 = .ok (.iadd, 1) := by decide +kernel
theorem dX0_place_9 : decode cX0_place 9 = .ok (.iload_n 2, 1) := by decide +kernel
theorem dX0_place_10 : decode cX0_place 10 = .ok (.iadd, 1) := by decide +kernel
theorem dX0_place_11 : decode cX0_place 11 = .ok (.ireturn, 1) := by decide +kernel
theorem dX1_init_0 : decode cX1_init 0 = .ok (.aload_n 0, 1) := by decide +kernel
theorem dX1_init_1 : decode cX1_init 1 = .ok (.invokespecial 3, 3) := by decide +kernel
theorem dX1_init_4 : decode cX1_init 4 = .ok (.aload_n 0, 1) := by decide +kernel
theorem dX1_init_5 : decode cX1_init 5 = .ok (.bipush 10, 2) := by decide +kernel
theorem dX1_init_7 : decode cX1_init 7 = .ok (.newarray .int, 2) := by decide +kernel
theorem dX1_init_9 : decode cX1_init 9 = .ok (.putfield 9, 3) := by decide +kernel
theorem dX1_init_12 : decode cX1_init 12 = .ok (.aload_n 0, 1) := by decide +kernel
theorem dX1_init_13 : decode cX1_init 13 = .ok (.bipush 8, 2) := by decide +kernel
theorem dX1_init_15 : decode cX1_init 15 = .ok (.newarray .int, 2) := by decide +kernel
theorem dX1_init_17 : decode cX1_init 17 = .ok (.putfield 15, 3) := by decide +kernel
theorem dX1_init_20 : decode cX1_init 20 = .ok (.aload_n 0, 1) := by decide +kernel
theorem dX1_init_21 : decode cX1_init 21 = .ok (.bipush 6, 2) := by decide +kernel
theorem dX1_init_23 : decode cX1_init 23 = .ok (.newarray .int, 2) := by decide +kernel
theorem dX1_init_25 : decode cX1_init 25 = .ok (.putfield 18, 3) := by decide +kernel
theorem dX1_init_28 : decode cX1_init 28 = .ok (.aload_n 0, 1) := by decide +kernel
theorem dX1_init_29 : decode cX1_init 29 = .ok (.bipush 6, 2) := by decide +kernel
theorem dX1_init_31 : decode cX1_init 31 = .ok (.newarray .int, 2) := by decide +kernel
theorem dX1_init_33 : decode cX1_init 33 = .ok (.putfield 21, 3) := by decide +kernel
theorem dX1_init_36 : decode cX1_init 36 = .ok (.return_, 1) := by decide +kernel
set_option maxRecDepth 20000 in
theorem ggX1_placePerson_X1_contains : GoodIn wsX1_placePerson wsX1_contains := goodIn_r _ [5] (by decide +kernel) (by decide +kernel)
set_option maxRecDepth 20000 in
theorem gX1_placePerson_X1_contains : GoodIn wsX1_placePerson (va_wsS RX1 24 yX1_contains wsX1_contains) := goodIn_app (goodIn_of _ (by decide +kernel)) ggX1_placePerson_X1_contains
set_option maxRecDepth 20000 in
theorem ggX1_placePerson_X1_changed : GoodIn wsX1_placePerson wsX1_changed := goodIn_r _ [8] (by decide +kernel) (by decide +kernel)
set_option maxRecDepth 20000 in
theorem gX1_placePerson_X1_changed : GoodIn wsX1_placePerson (va_wsS RX1 28 yX1_changed wsX1_changed) := goodIn_app (goodIn_of _ (by decide +kernel)) ggX1_placePerson_X1_changed
theorem dX1_placePerson_0 : decode cX1_placePerson 0 = .ok (.aload_n 0, 1) := by decide +kernel
theorem dX1_placePerson_1 : decode cX1_placePerson 1 = .ok (.getfield 9, 3) := by decide +kernel
theorem dX1_placePerson_4 : decode cX1_placePerson 4 = .ok (.iload_n 2, 1) := by decide +kernel
theorem dX1_placePerson_5 : decode cX1_placePerson 5 = .ok (.iaload, 1) := by decide +kernel
theorem dX1_placePerson_6 : decode cX1_placePerson 6 = .ok (.iload_n 1, 1) := by decide +kernel
theorem dX1_placePerson_7 : decode cX1_placePerson 7 = .ok (.invokestatic 24, 3) := by decide +kernel
theorem dX1_placePerson_10 : decode cX1_placePerson 10 = .ok (.istore 4, 2) := by decide +kernel
theorem dX1_placePerson_12 : decode cX1_placePerson 12 = .ok (.aload_n 0, 1) := by decide +kernel
theorem dX1_placePerson_13 : decode cX1_placePerson 13 = .ok (.getfield 9, 3) := by decide +kernel
theorem dX1_placePerson_16 : decode cX1_placePerson 16 = .ok (.iload_n 2, 1) := by decide +kernel
theorem dX1_placePerson_17 : decode cX1_placePerson 17 = .ok (.aload_n 0, 1) := by decide +kernel
theorem dX1_placePerson_18 : decode cX1_placePerson 18 = .ok (.getfield 9, 3) := by decide +kernel
theorem dX1_placePerson_21 : decode cX1_placePerson 21 = .ok (.iload_n 2, 1) := by decide +kernel
theorem dX1_placePerson_22 : decode cX1_placePerson 22 = .ok (.iaload, 1) := by decide +kernel
theorem dX1_placePerson_23 : decode cX1_placePerson 23 = .ok (.iload_n 1, 1) := by decide +kernel
theorem dX1_placePerson_24 : decode cX1_placePerson 24 = .ok (.iload_n 3, 1) := by decide +kernel
theorem dX1_placePerson_25 : decode cX1_placePerson 25 = .ok (.invokestatic 28, 3) := by decide +kernel
theorem dX1_placePerson_28 : decode cX1_placePerson 28 = .ok (.iastore, 1) := by decide +kernel
theorem dX1_placePerson_29 : decode cX1_placePerson 29 = .ok (.iload 4, 2) := by decide +kernel
theorem dX1_placePerson_31 : decode cX1_placePerson 31 = .ok (.ireturn, 1) := by decide +kernel
set_option maxRecDepth 20000 in
theorem ggX1_placeGroup_X1_contains : GoodIn wsX1_placeGroup wsX1_contains := goodIn_r _ [5] (by decide +kernel) (by decide +kernel)
set_option maxRecDepth 20000 in
theorem gX1_placeGroup_X1_contains : GoodIn wsX1_placeGroup (va_wsS RX1 24 yX1_contains wsX1_contains) := goodIn_app (goodIn_of _ (by decide +kernel)) ggX1_placeGroup_X1_contains
set_option maxRecDepth 20000 in
theorem ggX1_placeGroup_X1_changed : GoodIn wsX1_placeGroup wsX1_changed := goodIn_r _ [8] (by decide +kernel) (by decide +kernel)
set_option maxRecDepth 20000 in
theorem gX1_placeGroup_X1_changed : GoodIn wsX1_placeGroup (va_wsS RX1 28 yX1_changed wsX1_changed) := goodIn_app (goodIn_of _ (by decide +kernel)) ggX1_placeGroup_X1_changed
theorem dX1_placeGroup_0 : decode cX1_placeGroup 0 = .ok (.aload_n 0, 1) := by decide +kernel
theorem dX1_placeGroup_1 : decode cX1_placeGroup 1 = .ok (.getfield 15, 3) := by decide +kernel
theorem dX1_placeGroup_4 : decode cX1_placeGroup 4 = .ok (.iload_n 2, 1) := by decide +kernel
theorem dX1_placeGroup_5 : decode cX1_placeGroup 5 = .ok (.iaload, 1) := by decide +kernel
theorem dX1_placeGroup_6 : decode cX1_placeGroup 6 = .ok (.iload_n 1, 1) := by decide +kernel
theorem dX1_placeGroup_7 : decode cX1_placeGroup 7 = .ok (.invokestatic 24, 3) := by decide +kernel
theorem dX1_placeGroup_10 : decode cX1_placeGroup 10 = .ok (.istore 4, 2) := by decide +kernel
theorem dX1_placeGroup_12 : decode cX1_placeGroup 12 = .ok (.aload_n 0, 1) := by decide +kernel
theorem dX1_placeGroup_13 : decode cX1_placeGroup 13 = .ok (.getfield 15, 3) := by decide +kernel
theorem dX1_placeGroup_16 : decode cX1_placeGroup 16 = .ok (.iload_n 2, 1) := by decide +kernel
theorem dX1_placeGroup_17 : decode cX1_placeGroup 17 = .ok (.aload_n 0, 1) := by decide +kernel
theorem dX1_placeGroup_18 : decode cX1_placeGroup 18 = .ok (.getfield 15, 3) := by decide +kernel
theorem dX1_placeGroup_21 : decode cX1_placeGroup 21 = .ok (.iload_n 2, 1) := by decide +kernel
theorem dX1_placeGroup_22 : decode cX1_placeGroup 22 = .ok (.iaload, 1) := by decide +kernel
theorem dX1_placeGroup_23 : decode cX1_placeGroup 23 = .ok (.iload_n 1, 1) := by decide +kernel
theorem dX1_placeGroup_24 : decode cX1_placeGroup 24 = .ok (.iload_n 3, 1) := by decide +kernel
theorem dX1_placeGroup_25 : decode cX1_placeGroup 25 = .ok (.invokestatic 28, 3) := by decide +kernel
theorem dX1_placeGroup_28 : decode cX1_placeGroup 28 = .ok (.iastore, 1) := by decide +kernel
theorem dX1_placeGroup_29 : decode cX1_placeGroup 29 = .ok (.iload 4, 2) := by decide +kernel
theorem dX1_placeGroup_31 : decode cX1_placeGroup 31 = .ok (.ireturn, 1) := by decide +kernel
set_option maxRecDepth 20000 in
theorem ggX1_giveRole_X1_roleOf : GoodIn wsX1_giveRole wsX1_roleOf := goodIn_r _ [7, 1, 2, 8, 9, 6, 10, 14, 15, 16, 17] (by decide +kernel) (by decide +kernel)
set_option maxRecDepth 20000 in
theorem gX1_giveRole_X1_roleOf : GoodIn wsX1_giveRole (wsV RX1 32 RX1 yX1_roleOf wsX1_roleOf) := goodIn_app (goodIn_of _ (by decide +kernel)) ggX1_giveRole_X1_roleOf
set_option maxRecDepth 20000 in
theorem ggX1_giveRole_X1_changed : GoodIn wsX1_giveRole wsX1_changed := goodIn_r _ [13] (by decide +kernel) (by decide +kernel)
set_option maxRecDepth 20000 in
theorem gX1_giveRole_X1_changed : GoodIn wsX1_giveRole (va_wsS RX1 28 yX1_changed wsX1_changed) := goodIn_app (goodIn_of _ (by decide +kernel)) ggX1_giveRole_X1_changed
theorem dX1_giveRole_0 : decode cX1_giveRole 0 = .ok (.aload_n 0, 1) := by decide +kernel
theorem dX1_giveRole_1 : decode cX1_giveRole 1 = .ok (.iload_n 1, 1) := by decide +kernel
theorem dX1_giveRole_2 : decode cX1_giveRole 2 = .ok (.iload_n 2, 1) := by decide +kernel
theorem dX1_giveRole_3 : decode cX1_giveRole 3 = .ok (.invokevirtual 32, 3) := by decide +kernel
theorem dX1_giveRole_6 : decode cX1_giveRole 6 = .ok (.istore 4, 2) := by decide +kernel
theorem dX1_giveRole_8 : decode cX1_giveRole 8 = .ok (.aload_n 0, 1) := by decide +kernel
theorem dX1_giveRole_9 : decode cX1_giveRole 9 = .ok (.getfield 18, 3) := by decide +kernel
theorem dX1_giveRole_12 : decode cX1_giveRole 12 = .ok (.iload_n 2, 1) := by decide +kernel
theorem dX1_giveRole_13 : decode cX1_giveRole 13 = .ok (.aload_n 0, 1) := by decide +kernel
theorem dX1_giveRole_14 : decode cX1_giveRole 14 = .ok (.getfield 18, 3) := by decide +kernel
theorem dX1_giveRole_17 : decode cX1_giveRole 17 = .ok (.iload_n 2, 1) := by decide +kernel
theorem dX1_giveRole_18 : decode cX1_giveRole 18 = .ok (.iaload, 1) := by decide +kernel
theorem dX1_giveRole_19 : decode cX1_giveRole 19 = .ok (.iload_n 1, 1) := by decide +kernel
theorem dX1_giveRole_20 : decode cX1_giveRole 20 = .ok (.iload_n 3, 1) := by decide +kernel
theorem dX1_giveRole_21 : decode cX1_giveRole 21 = .ok (.iconst 1, 1) := by decide +kernel
theorem dX1_giveRole_22 : decode cX1_giveRole 22 = .ok (.if_icmp .ne 7, 3) := by decide +kernel
theorem dX1_giveRole_25 : decode cX1_giveRole 25 = .ok (.iconst 1, 1) := by decide +kernel
theorem dX1_giveRole_26 : decode cX1_giveRole 26 = .ok (.goto 4, 3) := by decide +kernel
theorem dX1_giveRole_29 : decode cX1_giveRole 29 = .ok (.iconst 0, 1) := by decide +kernel
theorem dX1_giveRole_30 : decode cX1_giveRole 30 = .ok (.invokestatic 28, 3) := by decide +kernel
theorem dX1_giveRole_33 : decode cX1_giveRole 33 = .ok (.iastore, 1) := by decide +kernel
theorem dX1_giveRole_34 : decode cX1_giveRole 34 = .ok (.aload_n 0, 1) := by decide +kernel
theorem dX1_giveRole_35 : decode cX1_giveRole 35 = .ok (.getfield 21, 3) := by decide +kernel
theorem dX1_giveRole_38 : decode cX1_giveRole 38 = .ok (.iload_n 2, 1) := by decide +kernel
theorem dX1_giveRole_39 : decode cX1_giveRole 39 = .ok (.aload_n 0, 1) := by decide +kernel
theorem dX1_giveRole_40 : decode cX1_giveRole 40 = .ok (.getfield 21, 3) := by decide +kernel
theorem dX1_giveRole_43 : decode cX1_giveRole 43 = .ok (.iload_n 2, 1) := by decide +kernel
theorem dX1_giveRole_44 : decode cX1_giveRole 44 = .ok (.iaload, 1) := by decide +kernel
theorem dX1_giveRole_45 : decode cX1_giveRole 45 = .ok (.iload_n 1, 1) := by decide +kernel
theorem dX1_giveRole_46 : decode cX1_giveRole 46 = .ok (.iload_n 3, 1) := by decide +kernel
theorem dX1_giveRole_47 : decode cX1_giveRole 47 = .ok (.iconst 2, 1) := by decide +kernel
theorem dX1_giveRole_48 : decode cX1_giveRole 48 = .ok (.if_icmp .ne 7, 3) := by decide +kernel
theorem dX1_giveRole_51 : decode cX1_giveRole 51 = .ok (.iconst 1, 1) := by decide +kernel
theorem dX1_giveRole_52 : decode cX1_giveRole 52 = .ok (.goto 4, 3) := by decide +kernel
theorem dX1_giveRole_55 : decode cX1_giveRole 55 = .ok (.iconst 0, 1) := by decide +kernel
theorem dX1_giveRole_56 : decode cX1_giveRole 56 = .ok (.invokestatic 28, 3) := by decide +kernel
theorem dX1_giveRole_59 : decode cX1_giveRole 59 = .ok (.iastore, 1) := by decide +kernel
theorem dX1_giveRole_60 : decode cX1_giveRole 60 = .ok (.iload 4, 2) := by decide +kernel
theorem dX1_giveRole_62 : decode cX1_giveRole 62 = .ok (.ireturn, 1) := by decide +kernel
set_option maxRecDepth 20000 in
theorem ggX1_hasPerson_X1_allAround : GoodIn wsX1_hasPerson wsX1_allAround := goodIn_r _ [6, 7, 8, 9, 5, 10, 11, 12, 13, 14, 15, 16, 17, 18] (by decide +kernel) (by decide +kernel)
set_option maxRecDepth 20000 in
theorem gX1_hasPerson_X1_allAround : GoodIn wsX1_hasPerson (wsV RX1 36 RX1 yX1_allAround wsX1_allAround) := goodIn_app (goodIn_of _ (by decide +kernel)) ggX1_hasPerson_X1_allAround
set_option maxRecDepth 20000 in
theorem ggX1_hasPerson_X1_contains : GoodIn wsX1_hasPerson wsX1_contains := goodIn_r _ [14] (by decide +kernel) (by decide +kernel)
set_option maxRecDepth 20000 in
theorem gX1_hasPerson_X1_contains : GoodIn wsX1_hasPerson (va_wsS RX1 24 yX1_contains wsX1_contains) := goodIn_app (goodIn_of _ (by decide +kernel)) ggX1_hasPerson_X1_contains
theorem dX1_hasPerson_0 : decode cX1_hasPerson 0 = .ok (.aload_n 0, 1) := by decide +kernel
theorem dX1_hasPerson_1 : decode cX1_hasPerson 1 = .ok (.aload_n 0, 1) := by decide +kernel
theorem dX1_hasPerson_2 : decode cX1_hasPerson 2 = .ok (.getfield 9, 3) := by decide +kernel
theorem dX1_hasPerson_5 : decode cX1_hasPerson 5 = .ok (.iload_n 2, 1) := by decide +kernel
theorem dX1_hasPerson_6 : decode cX1_hasPerson 6 = .ok (.iaload, 1) := by decide +kernel
theorem dX1_hasPerson_7 : decode cX1_hasPerson 7 = .ok (.invokevirtual 36, 3) := by decide +kernel
theorem dX1_hasPerson_10 : decode cX1_hasPerson 10 = .ok (.iload_n 1, 1) := by decide +kernel
theorem dX1_hasPerson_11 : decode cX1_hasPerson 11 = .ok (.invokestatic 24, 3) := by decide +kernel
theorem dX1_hasPerson_14 : decode cX1_hasPerson 14 = .ok (.ireturn, 1) := by decide +kernel
set_option maxRecDepth 20000 in
theorem ggX1_isAround_X1_allAround : GoodIn wsX1_isAround wsX1_allAround := goodIn_r _ [6, 7, 8, 9, 5, 10, 1, 11, 12, 13, 14, 15, 16, 17] (by decide +kernel) (by decide +kernel)
set_option maxRecDepth 20000 in
theorem gX1_isAround_X1_allAround : GoodIn wsX1_isAround (wsV RX1 36 RX1 yX1_allAround wsX1_allAround) := goodIn_app (goodIn_of _ (by decide +kernel)) ggX1_isAround_X1_allAround
set_option maxRecDepth 20000 in
theorem ggX1_isAround_X1_contains : GoodIn wsX1_isAround wsX1_contains := goodIn_r _ [13] (by decide +kernel) (by decide +kernel)
set_option maxRecDepth 20000 in
theorem gX1_isAround_X1_contains : GoodIn wsX1_isAround (va_wsS RX1 24 yX1_contains wsX1_contains) := goodIn_app (goodIn_of _ (by decide +kernel)) ggX1_isAround_X1_contains
theorem dX1_isAround_0 : decode cX1_isAround 0 = .ok (.aload_n 0, 1) := by decide +kernel
theorem dX1_isAround_1 : decode cX1_isAround 1 = .ok (.aload_n 0, 1) := by decide +kernel
theorem dX1_isAround_2 : decode cX1_isAround 2 = .ok (.getfield 15, 3) := by decide +kernel
theorem dX1_isAround_5 : decode cX1_isAround 5 = .ok (.iload_n 2, 1) := by decide +kernel
theorem dX1_isAround_6 : decode cX1_isAround 6 = .ok (.iaload, 1) := by decide +kernel
theorem dX1_isAround_7 : decode cX1_isAround 7 = .ok (.invokevirtual 36, 3) := by decide +kernel
theorem dX1_isAround_10 : decode cX1_isAround 10 = .ok (.iload_n 1, 1) := by decide +kernel
theorem dX1_isAround_11 : decode cX1_isAround 11 = .ok (.invokestatic 24, 3) := by decide +kernel
theorem dX1_isAround_14 : decode cX1_isAround 14 = .ok (.ireturn, 1) := by decide +kernel
set_option maxRecDepth 20000 in
theorem ggX1_anyGrants_X1_allAround : GoodIn wsX1_anyGrants wsX1_allAround := goodIn_r _ [7, 8, 9, 10, 6, 11, 12, 13, 14, 15, 16, 17, 18, 19] (by decide +kernel) (by decide +kernel)
set_option maxRecDepth 20000 in
theorem gX1_anyGrants_X1_allAround : GoodIn wsX1_anyGrants (wsV RX1 36 RX1 yX1_allAround wsX1_allAround) := goodIn_app (goodIn_of _ (by decide +kernel)) ggX1_anyGrants_X1_allAround
theorem dX1_anyGrants_0 : decode cX1_anyGrants 0 = .ok (.aload_n 0, 1) := by decide +kernel
theorem dX1_anyGrants_1 : decode cX1_anyGrants 1 = .ok (.aload_n 0, 1) := by decide +kernel
theorem dX1_anyGrants_2 : decode cX1_anyGrants 2 = .ok (.getfield 9, 3) := by decide +kernel
theorem dX1_anyGrants_5 : decode cX1_anyGrants 5 = .ok (.iload_n 1, 1) := by decide +kernel
theorem dX1_anyGrants_6 : decode cX1_anyGrants 6 = .ok (.iaload, 1) := by decide +kernel
theorem dX1_anyGrants_7 : decode cX1_anyGrants 7 = .ok (.invokevirtual 36, 3) := by decide +kernel
theorem dX1_anyGrants_10 : decode cX1_anyGrants 10 = .ok (.aload_n 0, 1) := by decide +kernel
theorem dX1_anyGrants_11 : decode cX1_anyGrants 11 = .ok (.getfield 18, 3) := by decide +kernel
theorem dX1_anyGrants_14 : decode cX1_anyGrants 14 = .ok (.iload_n 2, 1) := by decide +kernel
theorem dX1_anyGrants_15 : decode cX1_anyGrants 15 = .ok (.iaload, 1) := by decide +kernel
theorem dX1_anyGrants_16 : decode cX1_anyGrants 16 = .ok (.iand, 1) := by decide +kernel
theorem dX1_anyGrants_17 : decode cX1_anyGrants 17 = .ok (.ifCond .eq 7, 3) := by decide +kernel
theorem dX1_anyGrants_20 : decode cX1_anyGrants 20 = .ok (.iconst 1, 1) := by decide +kernel
theorem dX1_anyGrants_21 : decode cX1_anyGrants 21 = .ok (.goto 4, 3) := by decide +kernel
theorem dX1_anyGrants_24 : decode cX1_anyGrants 24 = .ok (.iconst 0, 1) := by decide +kernel
theorem dX1_anyGrants_25 : decode cX1_anyGrants 25 = .ok (.ireturn, 1) := by decide +kernel
set_option maxRecDepth 20000 in
theorem ggX1_anyDenies_X1_allAround : GoodIn wsX1_anyDenies wsX1_allAround := goodIn_r _ [7, 8, 9, 10, 6, 11, 12, 13, 14, 15, 16, 17, 18, 19] (by decide +kernel) (by decide +kernel)
set_option maxRecDepth 20000 in
theorem gX1_anyDenies_X1_allAround : GoodIn wsX1_anyDenies (wsV RX1 36 RX1 yX1_allAround wsX1_allAround) := goodIn_app (goodIn_of _ (by decide +kernel)) ggX1_anyDenies_X1_allAround
theorem dX1_anyDenies_0 : decode cX1_anyDenies 0 = .ok (.aload_n 0, 1) := by decide +kernel
theorem dX1_anyDenies_1 : decode cX1_anyDenies 1 = .ok (.aload_n 0, 1) := by decide +kernel
theorem dX1_anyDenies_2 : decode cX1_anyDenies 2 = .ok (.getfield 9, 3) := by decide +kernel
theorem dX1_anyDenies_5 : decode cX1_anyDenies 5 = .ok (.iload_n 1, 1) := by decide +kernel
theorem dX1_anyDenies_6 : decode cX1_anyDenies 6 = .ok (.iaload, 1) := by decide +kernel
theorem dX1_anyDenies_7 : decode cX1_anyDenies 7 = .ok (.invokevirtual 36, 3) := by decide +kernel
theorem dX1_anyDenies_10 : decode cX1_anyDenies 10 = .ok (.aload_n 0, 1) := by decide +kernel
theorem dX1_anyDenies_11 : decode cX1_anyDenies 11 = .ok (.getfield 21, 3) := by decide +kernel
theorem dX1_anyDenies_14 : decode cX1_anyDenies 14 = .ok (.iload_n 2, 1) := by decide +kernel
theorem dX1_anyDenies_15 : decode cX1_anyDenies 15 = .ok (.iaload, 1) := by decide +kernel
theorem dX1_anyDenies_16 : decode cX1_anyDenies 16 = .ok (.iand, 1) := by decide +kernel
theorem dX1_anyDenies_17 : decode cX1_anyDenies 17 = .ok (.ifCond .eq 7, 3) := by decide +kernel
theorem dX1_anyDenies_20 : decode cX1_anyDenies 20 = .ok (.iconst 1, 1) := by decide +kernel
theorem dX1_anyDenies_21 : decode cX1_anyDenies 21 = .ok (.goto 4, 3) := by decide +kernel
theorem dX1_anyDenies_24 : decode cX1_anyDenies 24 = .ok (.iconst 0, 1) := by decide +kernel
theorem dX1_anyDenies_25 : decode cX1_anyDenies 25 = .ok (.ireturn, 1) := by decide +kernel
set_option maxRecDepth 20000 in
theorem ggX1_roleOf_X1_contains : GoodIn wsX1_roleOf wsX1_contains := goodIn_r _ [6] (by decide +kernel) (by decide +kernel)
set_option maxRecDepth 20000 in
theorem gX1_roleOf_X1_contains : GoodIn wsX1_roleOf (va_wsS RX1 24 yX1_contains wsX1_contains) := goodIn_app (goodIn_of _ (by decide +kernel)) ggX1_roleOf_X1_contains
theorem dX1_roleOf_0 : decode cX1_roleOf 0 = .ok (.aload_n 0, 1) := by decide +kernel
theorem dX1_roleOf_1 : decode cX1_roleOf 1 = .ok (.getfield 18, 3) := by decide +kernel
theorem dX1_roleOf_4 : decode cX1_roleOf 4 = .ok (.iload_n 2, 1) := by decide +kernel
theorem dX1_roleOf_5 : decode cX1_roleOf 5 = .ok (.iaload, 1) := by decide +kernel
theorem dX1_roleOf_6 : decode cX1_roleOf 6 = .ok (.iload_n 1, 1) := by decide +kernel
theorem dX1_roleOf_7 : decode cX1_roleOf 7 = .ok (.invokestatic 24, 3) := by decide +kernel
theorem dX1_roleOf_10 : decode cX1_roleOf 10 = .ok (.ifCond .eq 5, 3) := by decide +kernel
theorem dX1_roleOf_13 : decode cX1_roleOf 13 = .ok (.iconst 1, 1) := by decide +kernel
theorem dX1_roleOf_14 : decode cX1_roleOf 14 = .ok (.ireturn, 1) := by decide +kernel
theorem dX1_roleOf_15 : decode cX1_roleOf 15 = .ok (.aload_n 0, 1) := by decide +kernel
theorem dX1_roleOf_16 : decode cX1_roleOf 16 = .ok (.getfield 21, 3) := by decide +kernel
theorem dX1_roleOf_19 : decode cX1_roleOf 19 = .ok (.iload_n 2, 1) := by decide +kernel
theorem dX1_roleOf_20 : decode cX1_roleOf 20 = .ok (.iaload, 1) := by decide +kernel
theorem dX1_roleOf_21 : decode cX1_roleOf 21 = .ok (.iload_n 1, 1) := by decide +kernel
theorem dX1_roleOf_22 : decode cX1_roleOf 22 = .ok (.invokestatic 24, 3) := by decide +kernel
theorem dX1_roleOf_25 : decode cX1_roleOf 25 = .ok (.ifCond .eq 7, 3) := by decide +kernel
theorem dX1_roleOf_28 : decode cX1_roleOf 28 = .ok (.iconst 2, 1) := by decide +kernel
theorem dX1_roleOf_29 : decode cX1_roleOf 29 = .ok (.goto 4, 3) := by decide +kernel
theorem dX1_roleOf_32 : decode cX1_roleOf 32 = .ok (.iconst 0, 1) := by decide +kernel
theorem dX1_roleOf_33 : decode cX1_roleOf 33 = .ok (.ireturn, 1) := by decide +kernel
set_option maxRecDepth 20000 in
theorem ggX1_allAround_X1_oneLinkFurther : GoodIn wsX1_allAround wsX1_oneLinkFurther := goodIn_r _ [5, 6, 7, 8, 4, 9, 10, 11, 12, 13] (by decide +kernel) (by decide +kernel)
set_option maxRecDepth 20000 in
theorem gX1_allAround_X1_oneLinkFurther : GoodIn wsX1_allAround (wsV RX1 40 RX1 yX1_oneLinkFurther wsX1_oneLinkFurther) := goodIn_app (goodIn_of _ (by decide +kernel)) ggX1_allAround_X1_oneLinkFurther
theorem dX1_allAround_0 : decode cX1_allAround 0 = .ok (.iload_n 1, 1) := by decide +kernel
theorem dX1_allAround_1 : decode cX1_allAround 1 = .ok (.istore_n 2, 1) := by decide +kernel
theorem dX1_allAround_2 : decode cX1_allAround 2 = .ok (.iconst 1, 1) := by decide +kernel
theorem dX1_allAround_3 : decode cX1_allAround 3 = .ok (.istore_n 3, 1) := by decide +kernel
theorem dX1_allAround_4 : decode cX1_allAround 4 = .ok (.iload_n 3, 1) := by decide +kernel
theorem dX1_allAround_5 : decode cX1_allAround 5 = .ok (.bipush 8, 2) := by decide +kernel
theorem dX1_allAround_7 : decode cX1_allAround 7 = .ok (.if_icmp .ge 15, 3) := by decide +kernel
theorem dX1_allAround_10 : decode cX1_allAround 10 = .ok (.aload_n 0, 1) := by decide +kernel
theorem dX1_allAround_11 : decode cX1_allAround 11 = .ok (.iload_n 2, 1) := by decide +kernel
theorem dX1_allAround_12 : decode cX1_allAround 12 = .ok (.invokevirtual 40, 3) := by decide +kernel
theorem dX1_allAround_15 : decode cX1_allAround 15 = .ok (.istore_n 2, 1) := by decide +kernel
theorem dX1_allAround_16 : decode cX1_allAround 16 = .ok (.iinc 3 1, 3) := by decide +kernel
theorem dX1_allAround_19 : decode cX1_allAround 19 = .ok (.goto (-15), 3) := by decide +kernel
theorem dX1_allAround_22 : decode cX1_allAround 22 = .ok (.iload_n 2, 1) := by decide +kernel
theorem dX1_allAround_23 : decode cX1_allAround 23 = .ok (.ireturn, 1) := by decide +kernel
set_option maxRecDepth 20000 in
theorem ggX1_oneLinkFurther_X1_contains : GoodIn wsX1_oneLinkFurther wsX1_contains := goodIn_r _ [5] (by decide +kernel) (by decide +kernel)
set_option maxRecDepth 20000 in
theorem gX1_oneLinkFurther_X1_contains : GoodIn wsX1_oneLinkFurther (va_wsS RX1 24 yX1_contains wsX1_contains) := goodIn_app (goodIn_of _ (by decide +kernel)) ggX1_oneLinkFurther_X1_contains
theorem dX1_oneLinkFurther_0 : decode cX1_oneLinkFurther 0 = .ok (.iload_n 1, 1) := by decide +kernel
theorem dX1_oneLinkFurther_1 : decode cX1_oneLinkFurther 1 = .ok (.istore_n 2, 1) := by decide +kernel
theorem dX1_oneLinkFurther_2 : decode cX1_oneLinkFurther 2 = .ok (.iconst 0, 1) := by decide +kernel
theorem dX1_oneLinkFurther_3 : decode cX1_oneLinkFurther 3 = .ok (.istore_n 3, 1) := by decide +kernel
theorem dX1_oneLinkFurther_4 : decode cX1_oneLinkFurther 4 = .ok (.iload_n 3, 1) := by decide +kernel
theorem dX1_oneLinkFurther_5 : decode cX1_oneLinkFurther 5 = .ok (.bipush 8, 2) := by decide +kernel
theorem dX1_oneLinkFurther_7 : decode cX1_oneLinkFurther 7 = .ok (.if_icmp .ge 26, 3) := by decide +kernel
theorem dX1_oneLinkFurther_10 : decode cX1_oneLinkFurther 10 = .ok (.iload_n 1, 1) := by decide +kernel
theorem dX1_oneLinkFurther_11 : decode cX1_oneLinkFurther 11 = .ok (.iload_n 3, 1) := by decide +kernel
theorem dX1_oneLinkFurther_12 : decode cX1_oneLinkFurther 12 = .ok (.invokestatic 24, 3) := by decide +kernel
theorem dX1_oneLinkFurther_15 : decode cX1_oneLinkFurther 15 = .ok (.ifCond .eq 12, 3) := by decide +kernel
theorem dX1_oneLinkFurther_18 : decode cX1_oneLinkFurther 18 = .ok (.iload_n 2, 1) := by decide +kernel
theorem dX1_oneLinkFurther_19 : decode cX1_oneLinkFurther 19 = .ok (.aload_n 0, 1) := by decide +kernel
theorem dX1_oneLinkFurther_20 : decode cX1_oneLinkFurther 20 = .ok (.getfield 15, 3) := by decide +kernel
theorem dX1_oneLinkFurther_23 : decode cX1_oneLinkFurther 23 = .ok (.iload_n 3, 1) := by decide +kernel
theorem dX1_oneLinkFurther_24 : decode cX1_oneLinkFurther 24 = .ok (.iaload, 1) := by decide +kernel
theorem dX1_oneLinkFurther_25 : decode cX1_oneLinkFurther 25 = .ok (.ior, 1) := by decide +kernel
theorem dX1_oneLinkFurther_26 : decode cX1_oneLinkFurther 26 = .ok (.istore_n 2, 1) := by decide +kernel
theorem dX1_oneLinkFurther_27 : decode cX1_oneLinkFurther 27 = .ok (.iinc 3 1, 3) := by decide +kernel
theorem dX1_oneLinkFurther_30 : decode cX1_oneLinkFurther 30 = .ok (.goto (-26), 3) := by decide +kernel
theorem dX1_oneLinkFurther_33 : decode cX1_oneLinkFurther 33 = .ok (.iload_n 2, 1) := by decide +kernel
theorem dX1_oneLinkFurther_34 : decode cX1_oneLinkFurther 34 = .ok (.ireturn, 1) := by decide +kernel
theorem dX1_contains_0 : decode cX1_contains 0 = .ok (.iload_n 0, 1) := by decide +kernel
theorem dX1_contains_1 : decode cX1_contains 1 = .ok (.iload_n 1, 1) := by decide +kernel
theorem dX1_contains_2 : decode cX1_contains 2 = .ok (.ishr, 1) := by decide +kernel
theorem dX1_contains_3 : decode cX1_contains 3 = .ok (.iconst 1, 1) := by decide +kernel
theorem dX1_contains_4 : decode cX1_contains 4 = .ok (.iand, 1) := by decide +kernel
theorem dX1_contains_5 : decode cX1_contains 5 = .ok (.iconst 1, 1) := by decide +kernel
theorem dX1_contains_6 : decode cX1_contains 6 = .ok (.if_icmp .ne 7, 3) := by decide +kernel
theorem dX1_contains_9 : decode cX1_contains 9 = .ok (.iconst 1, 1) := by decide +kernel
theorem dX1_contains_10 : decode cX1_contains 10 = .ok (.goto 4, 3) := by decide +kernel
theorem dX1_contains_13 : decode cX1_contains 13 = .ok (.iconst 0, 1) := by decide +kernel
theorem dX1_contains_14 : decode cX1_contains 14 = .ok (.ireturn, 1) := by decide +kernel
theorem dX1_changed_0 : decode cX1_changed 0 = .ok (.iload_n 2, 1) := by decide +kernel
theorem dX1_changed_1 : decode cX1_changed 1 = .ok (.ifCond .eq 11, 3) := by decide +kernel
theorem dX1_changed_4 : decode cX1_changed 4 = .ok (.iload_n 0, 1) := by decide +kernel
theorem dX1_changed_5 : decode cX1_changed 5 = .ok (.iconst 1, 1) := by decide +kernel
theorem dX1_changed_6 : decode cX1_changed 6 = .ok (.iload_n 1, 1) := by decide +kernel
theorem dX1_changed_7 : decode cX1_changed 7 = .ok (.ishl, 1) := by decide +kernel
theorem dX1_changed_8 : decode cX1_changed 8 = .ok (.ior, 1) := by decide +kernel
theorem dX1_changed_9 : decode cX1_changed 9 = .ok (.goto 10, 3) := by decide +kernel
theorem dX1_changed_12 : decode cX1_changed 12 = .ok (.iload_n 0, 1) := by decide +kernel
theorem dX1_changed_13 : decode cX1_changed 13 = .ok (.iconst 1, 1) := by decide +kernel
theorem dX1_changed_14 : decode cX1_changed 14 = .ok (.iload_n 1, 1) := by decide +kernel
theorem dX1_changed_15 : decode cX1_changed 15 = .ok (.ishl, 1) := by decide +kernel
theorem dX1_changed_16 : decode cX1_changed 16 = .ok (.iconst (-1), 1) := by decide +kernel
theorem dX1_changed_17 : decode cX1_changed 17 = .ok (.ixor, 1) := by decide +kernel
theorem dX1_changed_18 : decode cX1_changed 18 = .ok (.iand, 1) := by decide +kernel
theorem dX1_changed_19 : decode cX1_changed 19 = .ok (.ireturn, 1) := by decide +kernel
theorem dX2_init_0 : decode cX2_init 0 = .ok (.aload_n 0, 1) := by decide +kernel
theorem dX2_init_1 : decode cX2_init 1 = .ok (.invokespecial 1, 3) := by decide +kernel
theorem dX2_init_4 : decode cX2_init 4 = .ok (.aload_n 0, 1) := by decide +kernel
theorem dX2_init_5 : decode cX2_init 5 = .ok (.iconst 0, 1) := by decide +kernel
theorem dX2_init_6 : decode cX2_init 6 = .ok (.putfield 7, 3) := by decide +kernel
theorem dX2_init_9 : decode cX2_init 9 = .ok (.aload_n 0, 1) := by decide +kernel
theorem dX2_init_10 : decode cX2_init 10 = .ok (.iconst 0, 1) := by decide +kernel
theorem dX2_init_11 : decode cX2_init 11 = .ok (.putfield 13, 3) := by decide +kernel
theorem dX2_init_14 : decode cX2_init 14 = .ok (.return_, 1) := by decide +kernel
theorem dX2_signing_0 : decode cX2_signing 0 = .ok (.aload_n 0, 1) := by decide +kernel
theorem dX2_signing_1 : decode cX2_signing 1 = .ok (.getfield 7, 3) := by decide +kernel
theorem dX2_signing_4 : decode cX2_signing 4 = .ok (.ireturn, 1) := by decide +kernel
theorem dX2_signWithNext_0 : decode cX2_signWithNext 0 = .ok (.aload_n 0, 1) := by decide +kernel
theorem dX2_signWithNext_1 : decode cX2_signWithNext 1 = .ok (.dup, 1) := by decide +kernel
theorem dX2_signWithNext_2 : decode cX2_signWithNext 2 = .ok (.getfield 7, 3) := by decide +kernel
theorem dX2_signWithNext_5 : decode cX2_signWithNext 5 = .ok (.iconst 1, 1) := by decide +kernel
theorem dX2_signWithNext_6 : decode cX2_signWithNext 6 = .ok (.iadd, 1) := by decide +kernel
theorem dX2_signWithNext_7 : decode cX2_signWithNext 7 = .ok (.putfield 7, 3) := by decide +kernel
theorem dX2_signWithNext_10 : decode cX2_signWithNext 10 = .ok (.aload_n 0, 1) := by decide +kernel
theorem dX2_signWithNext_11 : decode cX2_signWithNext 11 = .ok (.iload_n 1, 1) := by decide +kernel
theorem dX2_signWithNext_12 : decode cX2_signWithNext 12 = .ok (.putfield 13, 3) := by decide +kernel
theorem dX2_signWithNext_15 : decode cX2_signWithNext 15 = .ok (.return_, 1) := by decide +kernel
theorem dX2_takes_0 : decode cX2_takes 0 = .ok (.iload_n 1, 1) := by decide +kernel
theorem dX2_takes_1 : decode cX2_takes 1 = .ok (.aload_n 0, 1) := by decide +kernel
theorem dX2_takes_2 : decode cX2_takes 2 = .ok (.getfield 7, 3) := by decide +kernel
theorem dX2_takes_5 : decode cX2_takes 5 = .ok (.if_icmp .eq 21, 3) := by decide +kernel
theorem dX2_takes_8 : decode cX2_takes 8 = .ok (.iload_n 1, 1) := by decide +kernel
theorem dX2_takes_9 : decode cX2_takes 9 = .ok (.aload_n 0, 1) := by decide +kernel
theorem dX2_takes_10 : decode cX2_takes 10 = .ok (.getfield 7, 3) := by decide +kernel
theorem dX2_takes_13 : decode cX2_takes 13 = .ok (.iconst 1, 1) := by decide +kernel
theorem dX2_takes_14 : decode cX2_takes 14 = .ok (.isub, 1) := by decide +kernel
theorem dX2_takes_15 : decode cX2_takes 15 = .ok (.if_icmp .ne 15, 3) := by decide +kernel
theorem dX2_takes_18 : decode cX2_takes 18 = .ok (.iload_n 2, 1) := by decide +kernel
theorem dX2_takes_19 : decode cX2_takes 19 = .ok (.aload_n 0, 1) := by decide +kernel
theorem dX2_takes_20 : decode cX2_takes 20 = .ok (.getfield 13, 3) := by decide +kernel
theorem dX2_takes_23 : decode cX2_takes 23 = .ok (.if_icmp .ge 7, 3) := by decide +kernel
theorem dX2_takes_26 : decode cX2_takes 26 = .ok (.iconst 1, 1) := by decide +kernel
theorem dX2_takes_27 : decode cX2_takes 27 = .ok (.goto 4, 3) := by decide +kernel
theorem dX2_takes_30 : decode cX2_takes 30 = .ok (.iconst 0, 1) := by decide +kernel
theorem dX2_takes_31 : decode cX2_takes 31 = .ok (.ireturn, 1) := by decide +kernel
theorem dX3_init_0 : decode cX3_init 0 = .ok (.aload_n 0, 1) := by decide +kernel
theorem dX3_init_1 : decode cX3_init 1 = .ok (.invokespecial 1, 3) := by decide +kernel
theorem dX3_init_4 : decode cX3_init 4 = .ok (.aload_n 0, 1) := by decide +kernel
theorem dX3_init_5 : decode cX3_init 5 = .ok (.bipush 30, 2) := by decide +kernel
theorem dX3_init_7 : decode cX3_init 7 = .ok (.newarray .int, 2) := by decide +kernel
theorem dX3_init_9 : decode cX3_init 9 = .ok (.putfield 9, 3) := by decide +kernel
theorem dX3_init_12 : decode cX3_init 12 = .ok (.aload_n 0, 1) := by decide +kernel
theorem dX3_init_13 : decode cX3_init 13 = .ok (.bipush 30, 2) := by decide +kernel
theorem dX3_init_15 : decode cX3_init 15 = .ok (.newarray .int, 2) := by decide +kernel
theorem dX3_init_17 : decode cX3_init 17 = .ok (.putfield 13, 3) := by decide +kernel
theorem dX3_init_20 : decode cX3_init 20 = .ok (.aload_n 0, 1) := by decide +kernel
theorem dX3_init_21 : decode cX3_init 21 = .ok (.bipush 30, 2) := by decide +kernel
theorem dX3_init_23 : decode cX3_init 23 = .ok (.newarray .int, 2) := by decide +kernel
theorem dX3_init_25 : decode cX3_init 25 = .ok (.putfield 16, 3) := by decide +kernel
theorem dX3_init_28 : decode cX3_init 28 = .ok (.aload_n 0, 1) := by decide +kernel
theorem dX3_init_29 : decode cX3_init 29 = .ok (.bipush 30, 2) := by decide +kernel
theorem dX3_init_31 : decode cX3_init 31 = .ok (.newarray .int, 2) := by decide +kernel
theorem dX3_init_33 : decode cX3_init 33 = .ok (.putfield 19, 3) := by decide +kernel
theorem dX3_init_36 : decode cX3_init 36 = .ok (.aload_n 0, 1) := by decide +kernel
theorem dX3_init_37 : decode cX3_init 37 = .ok (.bipush 30, 2) := by decide +kernel
theorem dX3_init_39 : decode cX3_init 39 = .ok (.newarray .boolean, 2) := by decide +kernel
theorem dX3_init_41 : decode cX3_init 41 = .ok (.putfield 22, 3) := by decide +kernel
theorem dX3_init_44 : decode cX3_init 44 = .ok (.aload_n 0, 1) := by decide +kernel
theorem dX3_init_45 : decode cX3_init 45 = .ok (.iconst 0, 1) := by decide +kernel
theorem dX3_init_46 : decode cX3_init 46 = .ok (.putfield 26, 3) := by decide +kernel
theorem dX3_init_49 : decode cX3_init 49 = .ok (.return_, 1) := by decide +kernel
theorem dX3_areAllOpened_0 : decode cX3_areAllOpened 0 = .ok (.aload_n 0, 1) := by decide +kernel
theorem dX3_areAllOpened_1 : decode cX3_areAllOpened 1 = .ok (.getfield 26, 3) := by decide +kernel
theorem dX3_areAllOpened_4 : decode cX3_areAllOpened 4 = .ok (.bipush 30, 2) := by decide +kernel
theorem dX3_areAllOpened_6 : decode cX3_areAllOpened 6 = .ok (.if_icmp .lt 7, 3) := by decide +kernel
theorem dX3_areAllOpened_9 : decode cX3_areAllOpened 9 = .ok (.iconst 1, 1) := by decide +kernel
theorem dX3_areAllOpened_10 : decode cX3_areAllOpened 10 = .ok (.goto 4, 3) := by decide +kernel
theorem dX3_areAllOpened_13 : decode cX3_areAllOpened 13 = .ok (.iconst 0, 1) := by decide +kernel
theorem dX3_areAllOpened_14 : decode cX3_areAllOpened 14 = .ok (.ireturn, 1) := by decide +kernel
theorem dX3_has_0 : decode cX3_has 0 = .ok (.iload_n 1, 1) := by decide +kernel
theorem dX3_has_1 : decode cX3_has 1 = .ok (.ifCond .lt 15, 3) := by decide +kernel
theorem dX3_has_4 : decode cX3_has 4 = .ok (.iload_n 1, 1) := by decide +kernel
theorem dX3_has_5 : decode cX3_has 5 = .ok (.aload_n 0, 1) := by decide +kernel
theorem dX3_has_6 : decode cX3_has 6 = .ok (.getfield 26, 3) := by decide +kernel
theorem dX3_has_9 : decode cX3_has 9 = .ok (.if_icmp .ge 7, 3) := by decide +kernel
theorem dX3_has_12 : decode cX3_has 12 = .ok (.iconst 1, 1) := by decide +kernel
theorem dX3_has_13 : decode cX3_has 13 = .ok (.goto 4, 3) := by decide +kernel
theorem dX3_has_16 : decode cX3_has 16 = .ok (.iconst 0, 1) := by decide +kernel
theorem dX3_has_17 : decode cX3_has 17 = .ok (.ireturn, 1) := by decide +kernel
theorem dX3_add_0 : decode cX3_add 0 = .ok (.aload_n 0, 1) := by decide +kernel
theorem dX3_add_1 : decode cX3_add 1 = .ok (.getfield 26, 3) := by decide +kernel
theorem dX3_add_4 : decode cX3_add 4 = .ok (.istore 4, 2) := by decide +kernel
theorem dX3_add_6 : decode cX3_add 6 = .ok (.aload_n 0, 1) := by decide +kernel
theorem dX3_add_7 : decode cX3_add 7 = .ok (.getfield 9, 3) := by decide +kernel
theorem dX3_add_10 : decode cX3_add 10 = .ok (.iload 4, 2) := by decide +kernel
theorem dX3_add_12 : decode cX3_add 12 = .ok (.iload_n 1, 1) := by decide +kernel
theorem dX3_add_13 : decode cX3_add 13 = .ok (.iastore, 1) := by decide +kernel
theorem dX3_add_14 : decode cX3_add 14 = .ok (.aload_n 0, 1) := by decide +kernel
theorem dX3_add_15 : decode cX3_add 15 = .ok (.getfield 13, 3) := by decide +kernel
theorem dX3_add_18 : decode cX3_add 18 = .ok (.iload 4, 2) := by decide +kernel
theorem dX3_add_20 : decode cX3_add 20 = .ok (.iload_n 2, 1) := by decide +kernel
theorem dX3_add_21 : decode cX3_add 21 = .ok (.iastore, 1) := by decide +kernel
theorem dX3_add_22 : decode cX3_add 22 = .ok (.aload_n 0, 1) := by decide +kernel
theorem dX3_add_23 : decode cX3_add 23 = .ok (.getfield 16, 3) := by decide +kernel
theorem dX3_add_26 : decode cX3_add 26 = .ok (.iload 4, 2) := by decide +kernel
theorem dX3_add_28 : decode cX3_add 28 = .ok (.iload_n 3, 1) := by decide +kernel
theorem dX3_add_29 : decode cX3_add 29 = .ok (.iastore, 1) := by decide +kernel
theorem dX3_add_30 : decode cX3_add 30 = .ok (.aload_n 0, 1) := by decide +kernel
theorem dX3_add_31 : decode cX3_add 31 = .ok (.getfield 19, 3) := by decide +kernel
theorem dX3_add_34 : decode cX3_add 34 = .ok (.iload 4, 2) := by decide +kernel
theorem dX3_add_36 : decode cX3_add 36 = .ok (.iload_n 3, 1) := by decide +kernel
theorem dX3_add_37 : decode cX3_add 37 = .ok (.iastore, 1) := by decide +kernel
theorem dX3_add_38 : decode cX3_add 38 = .ok (.aload_n 0, 1) := by decide +kernel
theorem dX3_add_39 : decode cX3_add 39 = .ok (.dup, 1) := by decide +kernel
theorem dX3_add_40 : decode cX3_add 40 = .ok (.getfield 26, 3) := by decide +kernel
theorem dX3_add_43 : decode cX3_add 43 = .ok (.iconst 1, 1) := by decide +kernel
theorem dX3_add_44 : decode cX3_add 44 = .ok (.iadd, 1) := by decide +kernel
theorem dX3_add_45 : decode cX3_add 45 = .ok (.putfield 26, 3) := by decide +kernel
theorem dX3_add_48 : decode cX3_add 48 = .ok (.iload 4, 2) := by decide +kernel
theorem dX3_add_50 : decode cX3_add 50 = .ok (.ireturn, 1) := by decide +kernel
theorem dX3_isOver_0 : decode cX3_isOver 0 = .ok (.aload_n 0, 1) := by decide +kernel
theorem dX3_isOver_1 : decode cX3_isOver 1 = .ok (.getfield 22, 3) := by decide +kernel
theorem dX3_isOver_4 : decode cX3_isOver 4 = .ok (.iload_n 1, 1) := by decide +kernel
theorem dX3_isOver_5 : decode cX3_isOver 5 = .ok (.baload, 1) := by decide +kernel
theorem dX3_isOver_6 : decode cX3_isOver 6 = .ok (.ireturn, 1) := by decide +kernel
theorem dX3_end_0 : decode cX3_end 0 = .ok (.aload_n 0, 1) := by decide +kernel
theorem dX3_end_1 : decode cX3_end 1 = .ok (.getfield 22, 3) := by decide +kernel
theorem dX3_end_4 : decode cX3_end 4 = .ok (.iload_n 1, 1) := by decide +kernel
theorem dX3_end_5 : decode cX3_end 5 = .ok (.iconst 1, 1) := by decide +kernel
theorem dX3_end_6 : decode cX3_end 6 = .ok (.bastore, 1) := by decide +kernel
theorem dX3_end_7 : decode cX3_end 7 = .ok (.return_, 1) := by decide +kernel
theorem dX3_use_0 : decode cX3_use 0 = .ok (.aload_n 0, 1) := by decide +kernel
theorem dX3_use_1 : decode cX3_use 1 = .ok (.getfield 19, 3) := by decide +kernel
theorem dX3_use_4 : decode cX3_use 4 = .ok (.iload_n 1, 1) := by decide +kernel
theorem dX3_use_5 : decode cX3_use 5 = .ok (.iload_n 2, 1) := by decide +kernel
theorem dX3_use_6 : decode cX3_use 6 = .ok (.iastore, 1) := by decide +kernel
theorem dX3_use_7 : decode cX3_use 7 = .ok (.return_, 1) := by decide +kernel
theorem dX3_personOf_0 : decode cX3_personOf 0 = .ok (.aload_n 0, 1) := by decide +kernel
theorem dX3_personOf_1 : decode cX3_personOf 1 = .ok (.getfield 9, 3) := by decide +kernel
theorem dX3_personOf_4 : decode cX3_personOf 4 = .ok (.iload_n 1, 1) := by decide +kernel
theorem dX3_personOf_5 : decode cX3_personOf 5 = .ok (.iaload, 1) := by decide +kernel
theorem dX3_personOf_6 : decode cX3_personOf 6 = .ok (.ireturn, 1) := by decide +kernel
theorem dX3_age_0 : decode cX3_age 0 = .ok (.iload_n 2, 1) := by decide +kernel
theorem dX3_age_1 : decode cX3_age 1 = .ok (.aload_n 0, 1) := by decide +kernel
theorem dX3_age_2 : decode cX3_age 2 = .ok (.getfield 16, 3) := by decide +kernel
theorem dX3_age_5 : decode cX3_age 5 = .ok (.iload_n 1, 1) := by decide +kernel
theorem dX3_age_6 : decode cX3_age 6 = .ok (.iaload, 1) := by decide +kernel
theorem dX3_age_7 : decode cX3_age 7 = .ok (.isub, 1) := by decide +kernel
theorem dX3_age_8 : decode cX3_age 8 = .ok (.ireturn, 1) := by decide +kernel
set_option maxRecDepth 20000 in
theorem ggX3_endAllOf_X3_end : GoodIn wsX3_endAllOf wsX3_end := goodIn_r _ [8, 2, 9, 10, 11, 12, 13, 14] (by decide +kernel) (by decide +kernel)
set_option maxRecDepth 20000 in
theorem gX3_endAllOf_X3_end : GoodIn wsX3_endAllOf (wsV RX3 30 RX3 yX3_end wsX3_end) := goodIn_app (goodIn_of _ (by decide +kernel)) ggX3_endAllOf_X3_end
theorem dX3_endAllOf_0 : decode cX3_endAllOf 0 = .ok (.iconst 0, 1) := by decide +kernel
theorem dX3_endAllOf_1 : decode cX3_endAllOf 1 = .ok (.istore_n 2, 1) := by decide +kernel
theorem dX3_endAllOf_2 : decode cX3_endAllOf 2 = .ok (.iconst 0, 1) := by decide +kernel
theorem dX3_endAllOf_3 : decode cX3_endAllOf 3 = .ok (.istore_n 3, 1) := by decide +kernel
theorem dX3_endAllOf_4 : decode cX3_endAllOf 4 = .ok (.iload_n 3, 1) := by decide +kernel
theorem dX3_endAllOf_5 : decode cX3_endAllOf 5 = .ok (.aload_n 0, 1) := by decide +kernel
theorem dX3_endAllOf_6 : decode cX3_endAllOf 6 = .ok (.getfield 26, 3) := by decide +kernel
theorem dX3_endAllOf_9 : decode cX3_endAllOf 9 = .ok (.if_icmp .ge 36, 3) := by decide +kernel
theorem dX3_endAllOf_12 : decode cX3_endAllOf 12 = .ok (.aload_n 0, 1) := by decide +kernel
theorem dX3_endAllOf_13 : decode cX3_endAllOf 13 = .ok (.getfield 22, 3) := by decide +kernel
theorem dX3_endAllOf_16 : decode cX3_endAllOf 16 = .ok (.iload_n 3, 1) := by decide +kernel
theorem dX3_endAllOf_17 : decode cX3_endAllOf 17 = .ok (.baload, 1) := by decide +kernel
theorem dX3_endAllOf_18 : decode cX3_endAllOf 18 = .ok (.ifCond .ne 21, 3) := by decide +kernel
theorem dX3_endAllOf_21 : decode cX3_endAllOf 21 = .ok (.aload_n 0, 1) := by decide +kernel
theorem dX3_endAllOf_22 : decode cX3_endAllOf 22 = .ok (.getfield 9, 3) := by decide +kernel
theorem dX3_endAllOf_25 : decode cX3_endAllOf 25 = .ok (.iload_n 3, 1) := by decide +kernel
theorem dX3_endAllOf_26 : decode cX3_endAllOf 26 = .ok (.iaload, 1) := by decide +kernel
theorem dX3_endAllOf_27 : decode cX3_endAllOf 27 = .ok (.iload_n 1, 1) := by decide +kernel
theorem dX3_endAllOf_28 : decode cX3_endAllOf 28 = .ok (.if_icmp .ne 11, 3) := by decide +kernel
theorem dX3_endAllOf_31 : decode cX3_endAllOf 31 = .ok (.aload_n 0, 1) := by decide +kernel
theorem dX3_endAllOf_32 : decode cX3_endAllOf 32 = .ok (.iload_n 3, 1) := by decide +kernel
theorem dX3_endAllOf_33 : decode cX3_endAllOf 33 = .ok (.invokevirtual 30, 3) := by decide +kernel
theorem dX3_endAllOf_36 : decode cX3_endAllOf 36 = .ok (.iinc 2 1, 3) := by decide +kernel
theorem dX3_endAllOf_39 : decode cX3_endAllOf 39 = .ok (.iinc 3 1, 3) := by decide +kernel
theorem dX3_endAllOf_42 : decode cX3_endAllOf 42 = .ok (.goto (-38), 3) := by decide +kernel
theorem dX3_endAllOf_45 : decode cX3_endAllOf 45 = .ok (.iload_n 2, 1) := by decide +kernel
theorem dX3_endAllOf_46 : decode cX3_endAllOf 46 = .ok (.ireturn, 1) := by decide +kernel
set_option maxRecDepth 20000 in
theorem ggX3_endDue_X3_isDue : GoodIn wsX3_endDue wsX3_isDue := goodIn_r _ [8, 9, 10, 11, 12, 13, 7, 14, 15, 16, 17, 18, 19, 20, 21, 22, 27, 28, 29, 30, 31, 32, 33, 34] (by decide +kernel) (by decide +kernel)
set_option maxRecDepth 20000 in
theorem gX3_endDue_X3_isDue : GoodIn wsX3_endDue (wsV RX3 34 RX3 yX3_isDue wsX3_isDue) := goodIn_app (goodIn_of _ (by decide +kernel)) ggX3_endDue_X3_isDue
set_option maxRecDepth 20000 in
theorem ggX3_endDue_X3_end : GoodIn wsX3_endDue wsX3_end := goodIn_r _ [26, 2, 27, 28, 29, 30, 31, 32] (by decide +kernel) (by decide +kernel)
set_option maxRecDepth 20000 in
theorem gX3_endDue_X3_end : GoodIn wsX3_endDue (wsV RX3 30 RX3 yX3_end wsX3_end) := goodIn_app (goodIn_of _ (by decide +kernel)) ggX3_endDue_X3_end
theorem dX3_endDue_0 : decode cX3_endDue 0 = .ok (.iconst 0, 1) := by decide +kernel
theorem dX3_endDue_1 : decode cX3_endDue 1 = .ok (.istore 4, 2) := by decide +kernel
theorem dX3_endDue_3 : decode cX3_endDue 3 = .ok (.iconst 0, 1) := by decide +kernel
theorem dX3_endDue_4 : decode cX3_endDue 4 = .ok (.istore 5, 2) := by decide +kernel
theorem dX3_endDue_6 : decode cX3_endDue 6 = .ok (.iload 5, 2) := by decide +kernel
theorem dX3_endDue_8 : decode cX3_endDue 8 = .ok (.aload_n 0, 1) := by decide +kernel
theorem dX3_endDue_9 : decode cX3_endDue 9 = .ok (.getfield 26, 3) := by decide +kernel
theorem dX3_endDue_12 : decode cX3_endDue 12 = .ok (.if_icmp .ge 48, 3) := by decide +kernel
theorem dX3_endDue_15 : decode cX3_endDue 15 = .ok (.aload_n 0, 1) := by decide +kernel
theorem dX3_endDue_16 : decode cX3_endDue 16 = .ok (.getfield 22, 3) := by decide +kernel
theorem dX3_endDue_19 : decode cX3_endDue 19 = .ok (.iload 5, 2) := by decide +kernel
theorem dX3_endDue_21 : decode cX3_endDue 21 = .ok (.baload, 1) := by decide +kernel
theorem dX3_endDue_22 : decode cX3_endDue 22 = .ok (.ifCond .ne 32, 3) := by decide +kernel
theorem dX3_endDue_25 : decode cX3_endDue 25 = .ok (.aload_n 0, 1) := by decide +kernel
theorem dX3_endDue_26 : decode cX3_endDue 26 = .ok (.iload 5, 2) := by decide +kernel
theorem dX3_endDue_28 : decode cX3_endDue 28 = .ok (.iload_n 1, 1) := by decide +kernel
theorem dX3_endDue_29 : decode cX3_endDue 29 = .ok (.aload_n 2, 1) := by decide +kernel
theorem dX3_endDue_30 : decode cX3_endDue 30 = .ok (.aload_n 0, 1) := by decide +kernel
end
section
theorem dX3_endDue_31 : decode cX3_endDue 31 = .ok (.getfield 9, 3) := by decide +kernel
theorem dX3_endDue_34 : decode cX3_endDue 34 = .ok (.iload 5, 2) := by decide +kernel
theorem dX3_endDue_36 : decode cX3_endDue 36 = .ok (.iaload, 1) := by decide +kernel
theorem dX3_endDue_37 : decode cX3_endDue 37 = .ok (.iaload, 1) := by decide +kernel
theorem dX3_endDue_38 : decode cX3_endDue 38 = .ok (.aload_n 3, 1) := by decide +kernel
theorem dX3_endDue_39 : decode cX3_endDue 39 = .ok (.invokevirtual 34, 3) := by decide +kernel
theorem dX3_endDue_42 : decode cX3_endDue 42 = .ok (.ifCond .eq 12, 3) := by decide +kernel
theorem dX3_endDue_45 : decode cX3_endDue 45 = .ok (.aload_n 0, 1) := by decide +kernel
theorem dX3_endDue_46 : decode cX3_endDue 46 = .ok (.iload 5, 2) := by decide +kernel
theorem dX3_endDue_48 : decode cX3_endDue 48 = .ok (.invokevirtual 30, 3) := by decide +kernel
theorem dX3_endDue_51 : decode cX3_endDue 51 = .ok (.iinc 4 1, 3) := by decide +kernel
theorem dX3_endDue_54 : decode cX3_endDue 54 = .ok (.iinc 5 1, 3) := by decide +kernel
theorem dX3_endDue_57 : decode cX3_endDue 57 = .ok (.goto (-51), 3) := by decide +kernel
theorem dX3_endDue_60 : decode cX3_endDue 60 = .ok (.iload 4, 2) := by decide +kernel
theorem dX3_endDue_62 : decode cX3_endDue 62 = .ok (.ireturn, 1) := by decide +kernel
set_option maxRecDepth 20000 in
theorem ggX3_isDue_X3_age : GoodIn wsX3_isDue wsX3_age := goodIn_r _ [7, 8, 16, 17, 18, 19, 20, 21] (by decide +kernel) (by decide +kernel)
set_option maxRecDepth 20000 in
theorem gX3_isDue_X3_age : GoodIn wsX3_isDue (wsV RX3 38 RX3 yX3_age wsX3_age) := goodIn_app (goodIn_of _ (by decide +kernel)) ggX3_isDue_X3_age
set_option maxRecDepth 20000 in
theorem ggX3_isDue_X2_takes : GoodIn wsX3_isDue wsX2_takes := goodIn_r _ [13, 14, 15, 22, 23] (by decide +kernel) (by decide +kernel)
set_option maxRecDepth 20000 in
theorem gX3_isDue_X2_takes : GoodIn wsX3_isDue (wsV RX3 42 RX2 yX2_takes wsX2_takes) := goodIn_app (goodIn_of _ (by decide +kernel)) ggX3_isDue_X2_takes
theorem dX3_isDue_0 : decode cX3_isDue 0 = .ok (.iload_n 2, 1) := by decide +kernel
theorem dX3_isDue_1 : decode cX3_isDue 1 = .ok (.aload_n 0, 1) := by decide +kernel
theorem dX3_isDue_2 : decode cX3_isDue 2 = .ok (.getfield 19, 3) := by decide +kernel
theorem dX3_isDue_5 : decode cX3_isDue 5 = .ok (.iload_n 1, 1) := by decide +kernel
theorem dX3_isDue_6 : decode cX3_isDue 6 = .ok (.iaload, 1) := by decide +kernel
theorem dX3_isDue_7 : decode cX3_isDue 7 = .ok (.isub, 1) := by decide +kernel
theorem dX3_isDue_8 : decode cX3_isDue 8 = .ok (.bipush 30, 2) := by decide +kernel
theorem dX3_isDue_10 : decode cX3_isDue 10 = .ok (.if_icmp .ge 35, 3) := by decide +kernel
theorem dX3_isDue_13 : decode cX3_isDue 13 = .ok (.aload_n 0, 1) := by decide +kernel
theorem dX3_isDue_14 : decode cX3_isDue 14 = .ok (.iload_n 1, 1) := by decide +kernel
theorem dX3_isDue_15 : decode cX3_isDue 15 = .ok (.iload_n 2, 1) := by decide +kernel
theorem dX3_isDue_16 : decode cX3_isDue 16 = .ok (.invokevirtual 38, 3) := by decide +kernel
theorem dX3_isDue_19 : decode cX3_isDue 19 = .ok (.sipush 240, 3) := by decide +kernel
theorem dX3_isDue_22 : decode cX3_isDue 22 = .ok (.bipush 60, 2) := by decide +kernel
theorem dX3_isDue_24 : decode cX3_isDue 24 = .ok (.iload_n 3, 1) := by decide +kernel
theorem dX3_isDue_25 : decode cX3_isDue 25 = .ok (.imul, 1) := by decide +kernel
theorem dX3_isDue_26 : decode cX3_isDue 26 = .ok (.isub, 1) := by decide +kernel
theorem dX3_isDue_27 : decode cX3_isDue 27 = .ok (.if_icmp .ge 18, 3) := by decide +kernel
theorem dX3_isDue_30 : decode cX3_isDue 30 = .ok (.aload 4, 2) := by decide +kernel
theorem dX3_isDue_32 : decode cX3_isDue 32 = .ok (.aload_n 0, 1) := by decide +kernel
theorem dX3_isDue_33 : decode cX3_isDue 33 = .ok (.getfield 13, 3) := by decide +kernel
theorem dX3_isDue_36 : decode cX3_isDue 36 = .ok (.iload_n 1, 1) := by decide +kernel
theorem dX3_isDue_37 : decode cX3_isDue 37 = .ok (.iaload, 1) := by decide +kernel
theorem dX3_isDue_38 : decode cX3_isDue 38 = .ok (.iload_n 2, 1) := by decide +kernel
theorem dX3_isDue_39 : decode cX3_isDue 39 = .ok (.invokevirtual 42, 3) := by decide +kernel
theorem dX3_isDue_42 : decode cX3_isDue 42 = .ok (.ifCond .ne 7, 3) := by decide +kernel
theorem dX3_isDue_45 : decode cX3_isDue 45 = .ok (.iconst 1, 1) := by decide +kernel
theorem dX3_isDue_46 : decode cX3_isDue 46 = .ok (.goto 4, 3) := by decide +kernel
theorem dX3_isDue_49 : decode cX3_isDue 49 = .ok (.iconst 0, 1) := by decide +kernel
theorem dX3_isDue_50 : decode cX3_isDue 50 = .ok (.ireturn, 1) := by decide +kernel
set_option maxRecDepth 20000 in
theorem ggX4_init_X1_init : GoodIn wsX4_init wsX1_init := goodIn_r _ [26, 27, 2, 3, 20, 28, 29, 30, 31, 60, 61, 62, 63] (by decide +kernel) (by decide +kernel)
set_option maxRecDepth 20000 in
theorem gX4_init_X1_init : GoodIn wsX4_init (wsX1_init) := ggX4_init_X1_init
set_option maxRecDepth 20000 in
theorem ggX4_init_X3_init : GoodIn wsX4_init wsX3_init := goodIn_r _ [34, 35, 2, 3, 20, 36, 37, 38, 39, 40, 41, 42, 71, 72, 73, 74, 75, 76] (by decide +kernel) (by decide +kernel)
set_option maxRecDepth 20000 in
theorem gX4_init_X3_init : GoodIn wsX4_init (wsX3_init) := ggX4_init_X3_init
set_option maxRecDepth 20000 in
theorem ggX4_init_X2_init : GoodIn wsX4_init wsX2_init := goodIn_r _ [45, 46, 2, 3, 47, 48, 77, 78] (by decide +kernel) (by decide +kernel)
set_option maxRecDepth 20000 in
theorem gX4_init_X2_init : GoodIn wsX4_init (wsX2_init) := ggX4_init_X2_init
set_option maxRecDepth 20000 in
theorem ggX4_init_X0_init : GoodIn wsX4_init wsX0_init := goodIn_r _ [51, 52, 2, 3, 20, 53, 54, 55, 56, 57, 58, 59, 79, 80, 81] (by decide +kernel) (by decide +kernel)
set_option maxRecDepth 20000 in
theorem gX4_init_X0_init : GoodIn wsX4_init (wsX0_init) := ggX4_init_X0_init
theorem dX4_init_0 : decode cX4_init 0 = .ok (.aload_n 0, 1) := by decide +kernel
theorem dX4_init_1 : decode cX4_init 1 = .ok (.invokespecial 1, 3) := by decide +kernel
theorem dX4_init_4 : decode cX4_init 4 = .ok (.aload_n 0, 1) := by decide +kernel
theorem dX4_init_5 : decode cX4_init 5 = .ok (.new 7, 3) := by decide +kernel
theorem dX4_init_8 : decode cX4_init 8 = .ok (.dup, 1) := by decide +kernel
theorem dX4_init_9 : decode cX4_init 9 = .ok (.invokespecial 9, 3) := by decide +kernel
theorem dX4_init_12 : decode cX4_init 12 = .ok (.putfield 10, 3) := by decide +kernel
theorem dX4_init_15 : decode cX4_init 15 = .ok (.aload_n 0, 1) := by decide +kernel
theorem dX4_init_16 : decode cX4_init 16 = .ok (.new 16, 3) := by decide +kernel
theorem dX4_init_19 : decode cX4_init 19 = .ok (.dup, 1) := by decide +kernel
theorem dX4_init_20 : decode cX4_init 20 = .ok (.invokespecial 18, 3) := by decide +kernel
theorem dX4_init_23 : decode cX4_init 23 = .ok (.putfield 19, 3) := by decide +kernel
theorem dX4_init_26 : decode cX4_init 26 = .ok (.aload_n 0, 1) := by decide +kernel
theorem dX4_init_27 : decode cX4_init 27 = .ok (.new 23, 3) := by decide +kernel
theorem dX4_init_30 : decode cX4_init 30 = .ok (.dup, 1) := by decide +kernel
theorem dX4_init_31 : decode cX4_init 31 = .ok (.invokespecial 25, 3) := by decide +kernel
theorem dX4_init_34 : decode cX4_init 34 = .ok (.putfield 26, 3) := by decide +kernel
theorem dX4_init_37 : decode cX4_init 37 = .ok (.aload_n 0, 1) := by decide +kernel
theorem dX4_init_38 : decode cX4_init 38 = .ok (.new 30, 3) := by decide +kernel
theorem dX4_init_41 : decode cX4_init 41 = .ok (.dup, 1) := by decide +kernel
theorem dX4_init_42 : decode cX4_init 42 = .ok (.invokespecial 32, 3) := by decide +kernel
theorem dX4_init_45 : decode cX4_init 45 = .ok (.putfield 33, 3) := by decide +kernel
theorem dX4_init_48 : decode cX4_init 48 = .ok (.aload_n 0, 1) := by decide +kernel
theorem dX4_init_49 : decode cX4_init 49 = .ok (.bipush 10, 2) := by decide +kernel
theorem dX4_init_51 : decode cX4_init 51 = .ok (.newarray .int, 2) := by decide +kernel
theorem dX4_init_53 : decode cX4_init 53 = .ok (.putfield 37, 3) := by decide +kernel
theorem dX4_init_56 : decode cX4_init 56 = .ok (.aload_n 0, 1) := by decide +kernel
theorem dX4_init_57 : decode cX4_init 57 = .ok (.bipush 60, 2) := by decide +kernel
theorem dX4_init_59 : decode cX4_init 59 = .ok (.newarray .int, 2) := by decide +kernel
theorem dX4_init_61 : decode cX4_init 61 = .ok (.putfield 41, 3) := by decide +kernel
theorem dX4_init_64 : decode cX4_init 64 = .ok (.aload_n 0, 1) := by decide +kernel
theorem dX4_init_65 : decode cX4_init 65 = .ok (.iconst 0, 1) := by decide +kernel
theorem dX4_init_66 : decode cX4_init 66 = .ok (.putfield 44, 3) := by decide +kernel
theorem dX4_init_69 : decode cX4_init 69 = .ok (.return_, 1) := by decide +kernel
set_option maxRecDepth 20000 in
theorem ggX4_setPerson_X4_isOutside : GoodIn wsX4_setPerson wsX4_isOutside := goodIn_r _ [7] (by decide +kernel) (by decide +kernel)
set_option maxRecDepth 20000 in
theorem gX4_setPerson_X4_isOutside : GoodIn wsX4_setPerson (va_wsS RX4 48 yX4_isOutside wsX4_isOutside) := goodIn_app (goodIn_of _ (by decide +kernel)) ggX4_setPerson_X4_isOutside
set_option maxRecDepth 20000 in
theorem ggX4_setPerson_X1_placePerson : GoodIn wsX4_setPerson wsX1_placePerson := goodIn_r _ [12, 13, 14, 15, 11, 16, 17, 18, 19, 27, 28, 29, 30] (by decide +kernel) (by decide +kernel)
set_option maxRecDepth 20000 in
theorem gX4_setPerson_X1_placePerson : GoodIn wsX4_setPerson (wsV RX4 59 RX1 yX1_placePerson wsX1_placePerson) := goodIn_app (goodIn_of _ (by decide +kernel)) ggX4_setPerson_X1_placePerson
theorem dX4_setPerson_0 : decode cX4_setPerson 0 = .ok (.iload_n 1, 1) := by decide +kernel
theorem dX4_setPerson_1 : decode cX4_setPerson 1 = .ok (.bipush 8, 2) := by decide +kernel
theorem dX4_setPerson_3 : decode cX4_setPerson 3 = .ok (.invokestatic 48, 3) := by decide +kernel
theorem dX4_setPerson_6 : decode cX4_setPerson 6 = .ok (.ifCond .ne 12, 3) := by decide +kernel
theorem dX4_setPerson_9 : decode cX4_setPerson 9 = .ok (.iload_n 2, 1) := by decide +kernel
theorem dX4_setPerson_10 : decode cX4_setPerson 10 = .ok (.bipush 10, 2) := by decide +kernel
theorem dX4_setPerson_12 : decode cX4_setPerson 12 = .ok (.invokestatic 48, 3) := by decide +kernel
theorem dX4_setPerson_15 : decode cX4_setPerson 15 = .ok (.ifCond .eq 13, 3) := by decide +kernel
theorem dX4_setPerson_18 : decode cX4_setPerson 18 = .ok (.new 52, 3) := by decide +kernel
theorem dX4_setPerson_21 : decode cX4_setPerson 21 = .ok (.dup, 1) := by decide +kernel
theorem dX4_setPerson_22 : decode cX4_setPerson 22 = .ok (.ldc 54, 2) := by decide +kernel
theorem dX4_setPerson_24 : decode cX4_setPerson 24 = .ok (.invokespecial 56, 3) := by decide +kernel
theorem dX4_setPerson_27 : decode cX4_setPerson 27 = .ok (.athrow, 1) := by decide +kernel
theorem dX4_setPerson_28 : decode cX4_setPerson 28 = .ok (.aload_n 0, 1) := by decide +kernel
theorem dX4_setPerson_29 : decode cX4_setPerson 29 = .ok (.getfield 10, 3) := by decide +kernel
theorem dX4_setPerson_32 : decode cX4_setPerson 32 = .ok (.iload_n 1, 1) := by decide +kernel
theorem dX4_setPerson_33 : decode cX4_setPerson 33 = .ok (.iload_n 2, 1) := by decide +kernel
theorem dX4_setPerson_34 : decode cX4_setPerson 34 = .ok (.iload_n 3, 1) := by decide +kernel
theorem dX4_setPerson_35 : decode cX4_setPerson 35 = .ok (.invokevirtual 59, 3) := by decide +kernel
theorem dX4_setPerson_38 : decode cX4_setPerson 38 = .ok (.ireturn, 1) := by decide +kernel
set_option maxRecDepth 20000 in
theorem ggX4_setGroup_X4_isOutside : GoodIn wsX4_setGroup wsX4_isOutside := goodIn_r _ [9] (by decide +kernel) (by decide +kernel)
set_option maxRecDepth 20000 in
theorem gX4_setGroup_X4_isOutside : GoodIn wsX4_setGroup (va_wsS RX4 48 yX4_isOutside wsX4_isOutside) := goodIn_app (goodIn_of _ (by decide +kernel)) ggX4_setGroup_X4_isOutside
set_option maxRecDepth 20000 in
theorem ggX4_setGroup_X1_isAround : GoodIn wsX4_setGroup wsX1_isAround := goodIn_r _ [14, 15, 16, 17, 18, 13, 19, 20, 21, 22, 23, 24, 25, 26, 41, 42, 43, 44] (by decide +kernel) (by decide +kernel)
set_option maxRecDepth 20000 in
theorem gX4_setGroup_X1_isAround : GoodIn wsX4_setGroup (wsV RX4 67 RX1 yX1_isAround wsX1_isAround) := goodIn_app (goodIn_of _ (by decide +kernel)) ggX4_setGroup_X1_isAround
set_option maxRecDepth 20000 in
theorem ggX4_setGroup_X1_placeGroup : GoodIn wsX4_setGroup wsX1_placeGroup := goodIn_r _ [30, 15, 24, 25, 13, 26, 31, 32, 33, 41, 42, 43, 44] (by decide +kernel) (by decide +kernel)
set_option maxRecDepth 20000 in
theorem gX4_setGroup_X1_placeGroup : GoodIn wsX4_setGroup (wsV RX4 75 RX1 yX1_placeGroup wsX1_placeGroup) := goodIn_app (goodIn_of _ (by decide +kernel)) ggX4_setGroup_X1_placeGroup
theorem dX4_setGroup_0 : decode cX4_setGroup 0 = .ok (.iload_n 1, 1) := by decide +kernel
theorem dX4_setGroup_1 : decode cX4_setGroup 1 = .ok (.bipush 8, 2) := by decide +kernel
theorem dX4_setGroup_3 : decode cX4_setGroup 3 = .ok (.invokestatic 48, 3) := by decide +kernel
theorem dX4_setGroup_6 : decode cX4_setGroup 6 = .ok (.ifCond .ne 12, 3) := by decide +kernel
theorem dX4_setGroup_9 : decode cX4_setGroup 9 = .ok (.iload_n 2, 1) := by decide +kernel
theorem dX4_setGroup_10 : decode cX4_setGroup 10 = .ok (.bipush 8, 2) := by decide +kernel
theorem dX4_setGroup_12 : decode cX4_setGroup 12 = .ok (.invokestatic 48, 3) := by decide +kernel
theorem dX4_setGroup_15 : decode cX4_setGroup 15 = .ok (.ifCond .eq 13, 3) := by decide +kernel
theorem dX4_setGroup_18 : decode cX4_setGroup 18 = .ok (.new 52, 3) := by decide +kernel
theorem dX4_setGroup_21 : decode cX4_setGroup 21 = .ok (.dup, 1) := by decide +kernel
theorem dX4_setGroup_22 : decode cX4_setGroup 22 = .ok (.ldc 63, 2) := by decide +kernel
theorem dX4_setGroup_24 : decode cX4_setGroup 24 = .ok (.invokespecial 56, 3) := by decide +kernel
theorem dX4_setGroup_27 : decode cX4_setGroup 27 = .ok (.athrow, 1) := by decide +kernel
theorem dX4_setGroup_28 : decode cX4_setGroup 28 = .ok (.iload_n 1, 1) := by decide +kernel
theorem dX4_setGroup_29 : decode cX4_setGroup 29 = .ok (.iload_n 2, 1) := by decide +kernel
theorem dX4_setGroup_30 : decode cX4_setGroup 30 = .ok (.if_icmp .ne 13, 3) := by decide +kernel
theorem dX4_setGroup_33 : decode cX4_setGroup 33 = .ok (.new 52, 3) := by decide +kernel
theorem dX4_setGroup_36 : decode cX4_setGroup 36 = .ok (.dup, 1) := by decide +kernel
theorem dX4_setGroup_37 : decode cX4_setGroup 37 = .ok (.ldc 65, 2) := by decide +kernel
theorem dX4_setGroup_39 : decode cX4_setGroup 39 = .ok (.invokespecial 56, 3) := by decide +kernel
theorem dX4_setGroup_42 : decode cX4_setGroup 42 = .ok (.athrow, 1) := by decide +kernel
theorem dX4_setGroup_43 : decode cX4_setGroup 43 = .ok (.iload_n 3, 1) := by decide +kernel
theorem dX4_setGroup_44 : decode cX4_setGroup 44 = .ok (.ifCond .eq 25, 3) := by decide +kernel
theorem dX4_setGroup_47 : decode cX4_setGroup 47 = .ok (.aload_n 0, 1) := by decide +kernel
theorem dX4_setGroup_48 : decode cX4_setGroup 48 = .ok (.getfield 10, 3) := by decide +kernel
theorem dX4_setGroup_51 : decode cX4_setGroup 51 = .ok (.iload_n 2, 1) := by decide +kernel
theorem dX4_setGroup_52 : decode cX4_setGroup 52 = .ok (.iload_n 1, 1) := by decide +kernel
theorem dX4_setGroup_53 : decode cX4_setGroup 53 = .ok (.invokevirtual 67, 3) := by decide +kernel
theorem dX4_setGroup_56 : decode cX4_setGroup 56 = .ok (.ifCond .eq 13, 3) := by decide +kernel
theorem dX4_setGroup_59 : decode cX4_setGroup 59 = .ok (.new 70, 3) := by decide +kernel
theorem dX4_setGroup_62 : decode cX4_setGroup 62 = .ok (.dup, 1) := by decide +kernel
theorem dX4_setGroup_63 : decode cX4_setGroup 63 = .ok (.ldc 72, 2) := by decide +kernel
theorem dX4_setGroup_65 : decode cX4_setGroup 65 = .ok (.invokespecial 74, 3) := by decide +kernel
theorem dX4_setGroup_68 : decode cX4_setGroup 68 = .ok (.athrow, 1) := by decide +kernel
theorem dX4_setGroup_69 : decode cX4_setGroup 69 = .ok (.aload_n 0, 1) := by decide +kernel
theorem dX4_setGroup_70 : decode cX4_setGroup 70 = .ok (.getfield 10, 3) := by decide +kernel
theorem dX4_setGroup_73 : decode cX4_setGroup 73 = .ok (.iload_n 1, 1) := by decide +kernel
theorem dX4_setGroup_74 : decode cX4_setGroup 74 = .ok (.iload_n 2, 1) := by decide +kernel
theorem dX4_setGroup_75 : decode cX4_setGroup 75 = .ok (.iload_n 3, 1) := by decide +kernel
theorem dX4_setGroup_76 : decode cX4_setGroup 76 = .ok (.invokevirtual 75, 3) := by decide +kernel
theorem dX4_setGroup_79 : decode cX4_setGroup 79 = .ok (.ireturn, 1) := by decide +kernel
set_option maxRecDepth 20000 in
theorem ggX4_setRole_X4_isOutside : GoodIn wsX4_setRole wsX4_isOutside := goodIn_r _ [7] (by decide +kernel) (by decide +kernel)
set_option maxRecDepth 20000 in
theorem gX4_setRole_X4_isOutside : GoodIn wsX4_setRole (va_wsS RX4 48 yX4_isOutside wsX4_isOutside) := goodIn_app (goodIn_of _ (by decide +kernel)) ggX4_setRole_X4_isOutside
set_option maxRecDepth 20000 in
theorem ggX4_setRole_X1_giveRole : GoodIn wsX4_setRole wsX1_giveRole := goodIn_r _ [12, 13, 14, 15, 16, 17, 11, 18, 19, 20, 21, 22, 23, 24, 32, 33, 34, 35] (by decide +kernel) (by decide +kernel)
set_option maxRecDepth 20000 in
theorem gX4_setRole_X1_giveRole : GoodIn wsX4_setRole (wsV RX4 82 RX1 yX1_giveRole wsX1_giveRole) := goodIn_app (goodIn_of _ (by decide +kernel)) ggX4_setRole_X1_giveRole
theorem dX4_setRole_0 : decode cX4_setRole 0 = .ok (.iload_n 1, 1) := by decide +kernel
theorem dX4_setRole_1 : decode cX4_setRole 1 = .ok (.bipush 8, 2) := by decide +kernel
theorem dX4_setRole_3 : decode cX4_setRole 3 = .ok (.invokestatic 48, 3) := by decide +kernel
theorem dX4_setRole_6 : decode cX4_setRole 6 = .ok (.ifCond .ne 12, 3) := by decide +kernel
theorem dX4_setRole_9 : decode cX4_setRole 9 = .ok (.iload_n 2, 1) := by decide +kernel
theorem dX4_setRole_10 : decode cX4_setRole 10 = .ok (.bipush 6, 2) := by decide +kernel
theorem dX4_setRole_12 : decode cX4_setRole 12 = .ok (.invokestatic 48, 3) := by decide +kernel
theorem dX4_setRole_15 : decode cX4_setRole 15 = .ok (.ifCond .eq 13, 3) := by decide +kernel
theorem dX4_setRole_18 : decode cX4_setRole 18 = .ok (.new 52, 3) := by decide +kernel
theorem dX4_setRole_21 : decode cX4_setRole 21 = .ok (.dup, 1) := by decide +kernel
theorem dX4_setRole_22 : decode cX4_setRole 22 = .ok (.ldc 78, 2) := by decide +kernel
theorem dX4_setRole_24 : decode cX4_setRole 24 = .ok (.invokespecial 56, 3) := by decide +kernel
theorem dX4_setRole_27 : decode cX4_setRole 27 = .ok (.athrow, 1) := by decide +kernel
theorem dX4_setRole_28 : decode cX4_setRole 28 = .ok (.iload_n 3, 1) := by decide +kernel
theorem dX4_setRole_29 : decode cX4_setRole 29 = .ok (.ifCond .lt 8, 3) := by decide +kernel
theorem dX4_setRole_32 : decode cX4_setRole 32 = .ok (.iload_n 3, 1) := by decide +kernel
theorem dX4_setRole_33 : decode cX4_setRole 33 = .ok (.iconst 2, 1) := by decide +kernel
theorem dX4_setRole_34 : decode cX4_setRole 34 = .ok (.if_icmp .le 13, 3) := by decide +kernel
theorem dX4_setRole_37 : decode cX4_setRole 37 = .ok (.new 52, 3) := by decide +kernel
theorem dX4_setRole_40 : decode cX4_setRole 40 = .ok (.dup, 1) := by decide +kernel
theorem dX4_setRole_41 : decode cX4_setRole 41 = .ok (.ldc 80, 2) := by decide +kernel
theorem dX4_setRole_43 : decode cX4_setRole 43 = .ok (.invokespecial 56, 3) := by decide +kernel
theorem dX4_setRole_46 : decode cX4_setRole 46 = .ok (.athrow, 1) := by decide +kernel
theorem dX4_setRole_47 : decode cX4_setRole 47 = .ok (.aload_n 0, 1) := by decide +kernel
theorem dX4_setRole_48 : decode cX4_setRole 48 = .ok (.getfield 10, 3) := by decide +kernel
theorem dX4_setRole_51 : decode cX4_setRole 51 = .ok (.iload_n 1, 1) := by decide +kernel
theorem dX4_setRole_52 : decode cX4_setRole 52 = .ok (.iload_n 2, 1) := by decide +kernel
theorem dX4_setRole_53 : decode cX4_setRole 53 = .ok (.iload_n 3, 1) := by decide +kernel
theorem dX4_setRole_54 : decode cX4_setRole 54 = .ok (.invokevirtual 82, 3) := by decide +kernel
theorem dX4_setRole_57 : decode cX4_setRole 57 = .ok (.ireturn, 1) := by decide +kernel
set_option maxRecDepth 20000 in
theorem ggX4_setRisk_X4_isOutside : GoodIn wsX4_setRisk wsX4_isOutside := goodIn_r _ [8] (by decide +kernel) (by decide +kernel)
set_option maxRecDepth 20000 in
theorem gX4_setRisk_X4_isOutside : GoodIn wsX4_setRisk (va_wsS RX4 48 yX4_isOutside wsX4_isOutside) := goodIn_app (goodIn_of _ (by decide +kernel)) ggX4_setRisk_X4_isOutside
set_option maxRecDepth 20000 in
theorem ggX4_setRisk_X3_endAllOf : GoodIn wsX4_setRisk wsX3_endAllOf := goodIn_r _ [13, 14, 15, 16, 17, 18, 19, 12, 20, 28, 29, 30, 31, 32, 33] (by decide +kernel) (by decide +kernel)
set_option maxRecDepth 20000 in
theorem gX4_setRisk_X3_endAllOf : GoodIn wsX4_setRisk (wsV RX4 88 RX3 yX3_endAllOf wsX3_endAllOf) := goodIn_app (goodIn_of _ (by decide +kernel)) ggX4_setRisk_X3_endAllOf
theorem dX4_setRisk_0 : decode cX4_setRisk 0 = .ok (.iload_n 1, 1) := by decide +kernel
theorem dX4_setRisk_1 : decode cX4_setRisk 1 = .ok (.bipush 10, 2) := by decide +kernel
theorem dX4_setRisk_3 : decode cX4_setRisk 3 = .ok (.invokestatic 48, 3) := by decide +kernel
theorem dX4_setRisk_6 : decode cX4_setRisk 6 = .ok (.ifCond .ne 12, 3) := by decide +kernel
theorem dX4_setRisk_9 : decode cX4_setRisk 9 = .ok (.iload_n 2, 1) := by decide +kernel
theorem dX4_setRisk_10 : decode cX4_setRisk 10 = .ok (.ifCond .lt 8, 3) := by decide +kernel
theorem dX4_setRisk_13 : decode cX4_setRisk 13 = .ok (.iload_n 2, 1) := by decide +kernel
theorem dX4_setRisk_14 : decode cX4_setRisk 14 = .ok (.iconst 3, 1) := by decide +kernel
theorem dX4_setRisk_15 : decode cX4_setRisk 15 = .ok (.if_icmp .le 13, 3) := by decide +kernel
theorem dX4_setRisk_18 : decode cX4_setRisk 18 = .ok (.new 52, 3) := by decide +kernel
theorem dX4_setRisk_21 : decode cX4_setRisk 21 = .ok (.dup, 1) := by decide +kernel
theorem dX4_setRisk_22 : decode cX4_setRisk 22 = .ok (.ldc 86, 2) := by decide +kernel
theorem dX4_setRisk_24 : decode cX4_setRisk 24 = .ok (.invokespecial 56, 3) := by decide +kernel
theorem dX4_setRisk_27 : decode cX4_setRisk 27 = .ok (.athrow, 1) := by decide +kernel
theorem dX4_setRisk_28 : decode cX4_setRisk 28 = .ok (.iload_n 2, 1) := by decide +kernel
theorem dX4_setRisk_29 : decode cX4_setRisk 29 = .ok (.aload_n 0, 1) := by decide +kernel
theorem dX4_setRisk_30 : decode cX4_setRisk 30 = .ok (.getfield 37, 3) := by decide +kernel
theorem dX4_setRisk_33 : decode cX4_setRisk 33 = .ok (.iload_n 1, 1) := by decide +kernel
theorem dX4_setRisk_34 : decode cX4_setRisk 34 = .ok (.iaload, 1) := by decide +kernel
theorem dX4_setRisk_35 : decode cX4_setRisk 35 = .ok (.if_icmp .le 7, 3) := by decide +kernel
theorem dX4_setRisk_38 : decode cX4_setRisk 38 = .ok (.iconst 1, 1) := by decide +kernel
theorem dX4_setRisk_39 : decode cX4_setRisk 39 = .ok (.goto 4, 3) := by decide +kernel
theorem dX4_setRisk_42 : decode cX4_setRisk 42 = .ok (.iconst 0, 1) := by decide +kernel
theorem dX4_setRisk_43 : decode cX4_setRisk 43 = .ok (.istore_n 3, 1) := by decide +kernel
theorem dX4_setRisk_44 : decode cX4_setRisk 44 = .ok (.aload_n 0, 1) := by decide +kernel
theorem dX4_setRisk_45 : decode cX4_setRisk 45 = .ok (.getfield 37, 3) := by decide +kernel
theorem dX4_setRisk_48 : decode cX4_setRisk 48 = .ok (.iload_n 1, 1) := by decide +kernel
theorem dX4_setRisk_49 : decode cX4_setRisk 49 = .ok (.iload_n 2, 1) := by decide +kernel
theorem dX4_setRisk_50 : decode cX4_setRisk 50 = .ok (.iastore, 1) := by decide +kernel
theorem dX4_setRisk_51 : decode cX4_setRisk 51 = .ok (.iload_n 3, 1) := by decide +kernel
theorem dX4_setRisk_52 : decode cX4_setRisk 52 = .ok (.ifCond .eq 14, 3) := by decide +kernel
theorem dX4_setRisk_55 : decode cX4_setRisk 55 = .ok (.aload_n 0, 1) := by decide +kernel
theorem dX4_setRisk_56 : decode cX4_setRisk 56 = .ok (.getfield 19, 3) := by decide +kernel
theorem dX4_setRisk_59 : decode cX4_setRisk 59 = .ok (.iload_n 1, 1) := by decide +kernel
theorem dX4_setRisk_60 : decode cX4_setRisk 60 = .ok (.invokevirtual 88, 3) := by decide +kernel
theorem dX4_setRisk_63 : decode cX4_setRisk 63 = .ok (.goto 4, 3) := by decide +kernel
theorem dX4_setRisk_66 : decode cX4_setRisk 66 = .ok (.iconst 0, 1) := by decide +kernel
theorem dX4_setRisk_67 : decode cX4_setRisk 67 = .ok (.ireturn, 1) := by decide +kernel
set_option maxRecDepth 20000 in
theorem ggX4_isIn_X4_isOutside : GoodIn wsX4_isIn wsX4_isOutside := goodIn_r _ [7] (by decide +kernel) (by decide +kernel)
set_option maxRecDepth 20000 in
theorem gX4_isIn_X4_isOutside : GoodIn wsX4_isIn (va_wsS RX4 48 yX4_isOutside wsX4_isOutside) := goodIn_app (goodIn_of _ (by decide +kernel)) ggX4_isIn_X4_isOutside
set_option maxRecDepth 20000 in
theorem ggX4_isIn_X1_hasPerson : GoodIn wsX4_isIn wsX1_hasPerson := goodIn_r _ [12, 13, 14, 15, 16, 11, 17, 18, 19, 20, 21, 22, 23, 24, 25, 33, 34, 35, 36] (by decide +kernel) (by decide +kernel)
set_option maxRecDepth 20000 in
theorem gX4_isIn_X1_hasPerson : GoodIn wsX4_isIn (wsV RX4 92 RX1 yX1_hasPerson wsX1_hasPerson) := goodIn_app (goodIn_of _ (by decide +kernel)) ggX4_isIn_X1_hasPerson
theorem dX4_isIn_0 : decode cX4_isIn 0 = .ok (.iload_n 1, 1) := by decide +kernel
theorem dX4_isIn_1 : decode cX4_isIn 1 = .ok (.bipush 8, 2) := by decide +kernel
theorem dX4_isIn_3 : decode cX4_isIn 3 = .ok (.invokestatic 48, 3) := by decide +kernel
theorem dX4_isIn_6 : decode cX4_isIn 6 = .ok (.ifCond .ne 12, 3) := by decide +kernel
theorem dX4_isIn_9 : decode cX4_isIn 9 = .ok (.iload_n 2, 1) := by decide +kernel
theorem dX4_isIn_10 : decode cX4_isIn 10 = .ok (.bipush 10, 2) := by decide +kernel
theorem dX4_isIn_12 : decode cX4_isIn 12 = .ok (.invokestatic 48, 3) := by decide +kernel
theorem dX4_isIn_15 : decode cX4_isIn 15 = .ok (.ifCond .eq 13, 3) := by decide +kernel
theorem dX4_isIn_18 : decode cX4_isIn 18 = .ok (.new 52, 3) := by decide +kernel
theorem dX4_isIn_21 : decode cX4_isIn 21 = .ok (.dup, 1) := by decide +kernel
theorem dX4_isIn_22 : decode cX4_isIn 22 = .ok (.ldc 54, 2) := by decide +kernel
theorem dX4_isIn_24 : decode cX4_isIn 24 = .ok (.invokespecial 56, 3) := by decide +kernel
theorem dX4_isIn_27 : decode cX4_isIn 27 = .ok (.athrow, 1) := by decide +kernel
theorem dX4_isIn_28 : decode cX4_isIn 28 = .ok (.aload_n 0, 1) := by decide +kernel
theorem dX4_isIn_29 : decode cX4_isIn 29 = .ok (.getfield 10, 3) := by decide +kernel
theorem dX4_isIn_32 : decode cX4_isIn 32 = .ok (.iload_n 1, 1) := by decide +kernel
theorem dX4_isIn_33 : decode cX4_isIn 33 = .ok (.iload_n 2, 1) := by decide +kernel
theorem dX4_isIn_34 : decode cX4_isIn 34 = .ok (.invokevirtual 92, 3) := by decide +kernel
theorem dX4_isIn_37 : decode cX4_isIn 37 = .ok (.ireturn, 1) := by decide +kernel
set_option maxRecDepth 20000 in
theorem ggX4_allows_X4_isOutside : GoodIn wsX4_allows wsX4_isOutside := goodIn_r _ [6] (by decide +kernel) (by decide +kernel)
set_option maxRecDepth 20000 in
theorem gX4_allows_X4_isOutside : GoodIn wsX4_allows (va_wsS RX4 48 yX4_isOutside wsX4_isOutside) := goodIn_app (goodIn_of _ (by decide +kernel)) ggX4_allows_X4_isOutside
set_option maxRecDepth 20000 in
theorem ggX4_allows_X4_answerOfHouse : GoodIn wsX4_allows wsX4_answerOfHouse := goodIn_r _ [10, 11, 12, 13, 14, 5, 15, 16, 17, 18, 19, 20, 21, 22, 23, 24, 25, 26, 27, 28, 29, 30, 31, 32, 33, 34, 35, 36, 37, 38, 39, 40, 41, 42, 43, 44, 45, 46, 47, 48, 49, 50, 51, 52, 53, 54, 55, 56, 57] (by decide +kernel) (by decide +kernel)
set_option maxRecDepth 20000 in
theorem gX4_allows_X4_answerOfHouse : GoodIn wsX4_allows (wsV RX4 97 RX4 yX4_answerOfHouse wsX4_answerOfHouse) := goodIn_app (goodIn_of _ (by decide +kernel)) ggX4_allows_X4_answerOfHouse
theorem dX4_allows_0 : decode cX4_allows 0 = .ok (.iload_n 1, 1) := by decide +kernel
theorem dX4_allows_1 : decode cX4_allows 1 = .ok (.bipush 10, 2) := by decide +kernel
theorem dX4_allows_3 : decode cX4_allows 3 = .ok (.invokestatic 48, 3) := by decide +kernel
theorem dX4_allows_6 : decode cX4_allows 6 = .ok (.ifCond .ne 12, 3) := by decide +kernel
theorem dX4_allows_9 : decode cX4_allows 9 = .ok (.iload_n 2, 1) := by decide +kernel
theorem dX4_allows_10 : decode cX4_allows 10 = .ok (.bipush 6, 2) := by decide +kernel
theorem dX4_allows_12 : decode cX4_allows 12 = .ok (.invokestatic 48, 3) := by decide +kernel
theorem dX4_allows_15 : decode cX4_allows 15 = .ok (.ifCond .eq 13, 3) := by decide +kernel
theorem dX4_allows_18 : decode cX4_allows 18 = .ok (.new 52, 3) := by decide +kernel
theorem dX4_allows_21 : decode cX4_allows 21 = .ok (.dup, 1) := by decide +kernel
theorem dX4_allows_22 : decode cX4_allows 22 = .ok (.ldc 95, 2) := by decide +kernel
theorem dX4_allows_24 : decode cX4_allows 24 = .ok (.invokespecial 56, 3) := by decide +kernel
theorem dX4_allows_27 : decode cX4_allows 27 = .ok (.athrow, 1) := by decide +kernel
theorem dX4_allows_28 : decode cX4_allows 28 = .ok (.aload_n 0, 1) := by decide +kernel
theorem dX4_allows_29 : decode cX4_allows 29 = .ok (.iload_n 1, 1) := by decide +kernel
theorem dX4_allows_30 : decode cX4_allows 30 = .ok (.iload_n 2, 1) := by decide +kernel
theorem dX4_allows_31 : decode cX4_allows 31 = .ok (.invokevirtual 97, 3) := by decide +kernel
theorem dX4_allows_34 : decode cX4_allows 34 = .ok (.ifCond .ne 7, 3) := by decide +kernel
theorem dX4_allows_37 : decode cX4_allows 37 = .ok (.iconst 1, 1) := by decide +kernel
theorem dX4_allows_38 : decode cX4_allows 38 = .ok (.goto 4, 3) := by decide +kernel
theorem dX4_allows_41 : decode cX4_allows 41 = .ok (.iconst 0, 1) := by decide +kernel
theorem dX4_allows_42 : decode cX4_allows 42 = .ok (.ireturn, 1) := by decide +kernel
set_option maxRecDepth 20000 in
theorem ggX4_open_X4_isOutside : GoodIn wsX4_open wsX4_isOutside := goodIn_r _ [11] (by decide +kernel) (by decide +kernel)
set_option maxRecDepth 20000 in
theorem gX4_open_X4_isOutside : GoodIn wsX4_open (va_wsS RX4 48 yX4_isOutside wsX4_isOutside) := goodIn_app (goodIn_of _ (by decide +kernel)) ggX4_open_X4_isOutside
set_option maxRecDepth 20000 in
theorem ggX4_open_X4_isBarred : GoodIn wsX4_open wsX4_isBarred := goodIn_r _ [15, 16, 37, 38, 39, 40, 41, 42, 43] (by decide +kernel) (by decide +kernel)
set_option maxRecDepth 20000 in
theorem gX4_open_X4_isBarred : GoodIn wsX4_open (wsV RX4 103 RX4 yX4_isBarred wsX4_isBarred) := goodIn_app (goodIn_of _ (by decide +kernel)) ggX4_open_X4_isBarred
set_option maxRecDepth 20000 in
theorem ggX4_open_X3_areAllOpened : GoodIn wsX4_open wsX3_areAllOpened := goodIn_r _ [21, 22, 44, 45, 46, 47, 48, 49] (by decide +kernel) (by decide +kernel)
set_option maxRecDepth 20000 in
theorem gX4_open_X3_areAllOpened : GoodIn wsX4_open (wsV RX4 109 RX3 yX3_areAllOpened wsX3_areAllOpened) := goodIn_app (goodIn_of _ (by decide +kernel)) ggX4_open_X3_areAllOpened
set_option maxRecDepth 20000 in
theorem ggX4_open_X2_signing : GoodIn wsX4_open wsX2_signing := goodIn_r _ [27, 28, 50, 51] (by decide +kernel) (by decide +kernel)
set_option maxRecDepth 20000 in
theorem gX4_open_X2_signing : GoodIn wsX4_open (wsV RX4 115 RX2 yX2_signing wsX2_signing) := goodIn_app (goodIn_of _ (by decide +kernel)) ggX4_open_X2_signing
set_option maxRecDepth 20000 in
theorem ggX4_open_X3_add : GoodIn wsX4_open wsX3_add := goodIn_r _ [32, 22, 33, 34, 35, 36, 44, 45, 46, 47, 48, 49] (by decide +kernel) (by decide +kernel)
set_option maxRecDepth 20000 in
theorem gX4_open_X3_add : GoodIn wsX4_open (wsV RX4 119 RX3 yX3_add wsX3_add) := goodIn_app (goodIn_of _ (by decide +kernel)) ggX4_open_X3_add
theorem dX4_open_0 : decode cX4_open 0 = .ok (.iload_n 1, 1) := by decide +kernel
theorem dX4_open_1 : decode cX4_open 1 = .ok (.bipush 10, 2) := by decide +kernel
theorem dX4_open_3 : decode cX4_open 3 = .ok (.invokestatic 48, 3) := by decide +kernel
theorem dX4_open_6 : decode cX4_open 6 = .ok (.ifCond .eq 13, 3) := by decide +kernel
theorem dX4_open_9 : decode cX4_open 9 = .ok (.new 52, 3) := by decide +kernel
theorem dX4_open_12 : decode cX4_open 12 = .ok (.dup, 1) := by decide +kernel
theorem dX4_open_13 : decode cX4_open 13 = .ok (.ldc 101, 2) := by decide +kernel
theorem dX4_open_15 : decode cX4_open 15 = .ok (.invokespecial 56, 3) := by decide +kernel
theorem dX4_open_18 : decode cX4_open 18 = .ok (.athrow, 1) := by decide +kernel
theorem dX4_open_19 : decode cX4_open 19 = .ok (.aload_n 0, 1) := by decide +kernel
theorem dX4_open_20 : decode cX4_open 20 = .ok (.iload_n 1, 1) := by decide +kernel
theorem dX4_open_21 : decode cX4_open 21 = .ok (.invokevirtual 103, 3) := by decide +kernel
theorem dX4_open_24 : decode cX4_open 24 = .ok (.ifCond .eq 13, 3) := by decide +kernel
theorem dX4_open_27 : decode cX4_open 27 = .ok (.new 70, 3) := by decide +kernel
theorem dX4_open_30 : decode cX4_open 30 = .ok (.dup, 1) := by decide +kernel
theorem dX4_open_31 : decode cX4_open 31 = .ok (.ldc 107, 2) := by decide +kernel
theorem dX4_open_33 : decode cX4_open 33 = .ok (.invokespecial 74, 3) := by decide +kernel
theorem dX4_open_36 : decode cX4_open 36 = .ok (.athrow, 1) := by decide +kernel
theorem dX4_open_37 : decode cX4_open 37 = .ok (.aload_n 0, 1) := by decide +kernel
theorem dX4_open_38 : decode cX4_open 38 = .ok (.getfield 19, 3) := by decide +kernel
theorem dX4_open_41 : decode cX4_open 41 = .ok (.invokevirtual 109, 3) := by decide +kernel
theorem dX4_open_44 : decode cX4_open 44 = .ok (.ifCond .eq 13, 3) := by decide +kernel
theorem dX4_open_47 : decode cX4_open 47 = .ok (.new 70, 3) := by decide +kernel
theorem dX4_open_50 : decode cX4_open 50 = .ok (.dup, 1) := by decide +kernel
theorem dX4_open_51 : decode cX4_open 51 = .ok (.ldc 113, 2) := by decide +kernel
theorem dX4_open_53 : decode cX4_open 53 = .ok (.invokespecial 74, 3) := by decide +kernel
theorem dX4_open_56 : decode cX4_open 56 = .ok (.athrow, 1) := by decide +kernel
theorem dX4_open_57 : decode cX4_open 57 = .ok (.aload_n 0, 1) := by decide +kernel
theorem dX4_open_58 : decode cX4_open 58 = .ok (.getfield 19, 3) := by decide +kernel
theorem dX4_open_61 : decode cX4_open 61 = .ok (.iload_n 1, 1) := by decide +kernel
theorem dX4_open_62 : decode cX4_open 62 = .ok (.aload_n 0, 1) := by decide +kernel
theorem dX4_open_63 : decode cX4_open 63 = .ok (.getfield 26, 3) := by decide +kernel
theorem dX4_open_66 : decode cX4_open 66 = .ok (.invokevirtual 115, 3) := by decide +kernel
theorem dX4_open_69 : decode cX4_open 69 = .ok (.aload_n 0, 1) := by decide +kernel
theorem dX4_open_70 : decode cX4_open 70 = .ok (.getfield 44, 3) := by decide +kernel
theorem dX4_open_73 : decode cX4_open 73 = .ok (.invokevirtual 119, 3) := by decide +kernel
theorem dX4_open_76 : decode cX4_open 76 = .ok (.ireturn, 1) := by decide +kernel
set_option maxRecDepth 20000 in
theorem ggX4_close_X3_has : GoodIn wsX4_close wsX3_has := goodIn_r _ [11, 12, 34, 35, 36, 37, 38, 39] (by decide +kernel) (by decide +kernel)
set_option maxRecDepth 20000 in
theorem gX4_close_X3_has : GoodIn wsX4_close (wsV RX4 122 RX3 yX3_has wsX3_has) := goodIn_app (goodIn_of _ (by decide +kernel)) ggX4_close_X3_has
set_option maxRecDepth 20000 in
theorem ggX4_close_X3_isOver : GoodIn wsX4_close wsX3_isOver := goodIn_r _ [16, 17, 34, 35, 36, 37, 38, 39] (by decide +kernel) (by decide +kernel)
set_option maxRecDepth 20000 in
theorem gX4_close_X3_isOver : GoodIn wsX4_close (wsV RX4 130 RX3 yX3_isOver wsX3_isOver) := goodIn_app (goodIn_of _ (by decide +kernel)) ggX4_close_X3_isOver
set_option maxRecDepth 20000 in
theorem ggX4_close_X3_end : GoodIn wsX4_close wsX3_end := goodIn_r _ [21, 17, 34, 35, 36, 37, 38, 39] (by decide +kernel) (by decide +kernel)
set_option maxRecDepth 20000 in
theorem gX4_close_X3_end : GoodIn wsX4_close (wsV RX4 135 RX3 yX3_end wsX3_end) := goodIn_app (goodIn_of _ (by decide +kernel)) ggX4_close_X3_end
set_option maxRecDepth 20000 in
theorem ggX4_close_X3_age : GoodIn wsX4_close wsX3_age := goodIn_r _ [25, 26, 34, 35, 36, 37, 38, 39] (by decide +kernel) (by decide +kernel)
set_option maxRecDepth 20000 in
theorem gX4_close_X3_age : GoodIn wsX4_close (wsV RX4 139 RX3 yX3_age wsX3_age) := goodIn_app (goodIn_of _ (by decide +kernel)) ggX4_close_X3_age
theorem dX4_close_0 : decode cX4_close 0 = .ok (.aload_n 0, 1) := by decide +kernel
theorem dX4_close_1 : decode cX4_close 1 = .ok (.getfield 19, 3) := by decide +kernel
theorem dX4_close_4 : decode cX4_close 4 = .ok (.iload_n 1, 1) := by decide +kernel
theorem dX4_close_5 : decode cX4_close 5 = .ok (.invokevirtual 122, 3) := by decide +kernel
theorem dX4_close_8 : decode cX4_close 8 = .ok (.ifCond .ne 13, 3) := by decide +kernel
theorem dX4_close_11 : decode cX4_close 11 = .ok (.new 125, 3) := by decide +kernel
theorem dX4_close_14 : decode cX4_close 14 = .ok (.dup, 1) := by decide +kernel
theorem dX4_close_15 : decode cX4_close 15 = .ok (.ldc 127, 2) := by decide +kernel
theorem dX4_close_17 : decode cX4_close 17 = .ok (.invokespecial 129, 3) := by decide +kernel
theorem dX4_close_20 : decode cX4_close 20 = .ok (.athrow, 1) := by decide +kernel
theorem dX4_close_21 : decode cX4_close 21 = .ok (.aload_n 0, 1) := by decide +kernel
theorem dX4_close_22 : decode cX4_close 22 = .ok (.getfield 19, 3) := by decide +kernel
theorem dX4_close_25 : decode cX4_close 25 = .ok (.iload_n 1, 1) := by decide +kernel
theorem dX4_close_26 : decode cX4_close 26 = .ok (.invokevirtual 130, 3) := by decide +kernel
theorem dX4_close_29 : decode cX4_close 29 = .ok (.ifCond .eq 13, 3) := by decide +kernel
theorem dX4_close_32 : decode cX4_close 32 = .ok (.new 70, 3) := by decide +kernel
theorem dX4_close_35 : decode cX4_close 35 = .ok (.dup, 1) := by decide +kernel
theorem dX4_close_36 : decode cX4_close 36 = .ok (.ldc 133, 2) := by decide +kernel
theorem dX4_close_38 : decode cX4_close 38 = .ok (.invokespecial 74, 3) := by decide +kernel
theorem dX4_close_41 : decode cX4_close 41 = .ok (.athrow, 1) := by decide +kernel
theorem dX4_close_42 : decode cX4_close 42 = .ok (.aload_n 0, 1) := by decide +kernel
theorem dX4_close_43 : decode cX4_close 43 = .ok (.getfield 19, 3) := by decide +kernel
theorem dX4_close_46 : decode cX4_close 46 = .ok (.iload_n 1, 1) := by decide +kernel
theorem dX4_close_47 : decode cX4_close 47 = .ok (.invokevirtual 135, 3) := by decide +kernel
theorem dX4_close_50 : decode cX4_close 50 = .ok (.aload_n 0, 1) := by decide +kernel
theorem dX4_close_51 : decode cX4_close 51 = .ok (.getfield 19, 3) := by decide +kernel
theorem dX4_close_54 : decode cX4_close 54 = .ok (.iload_n 1, 1) := by decide +kernel
theorem dX4_close_55 : decode cX4_close 55 = .ok (.aload_n 0, 1) := by decide +kernel
theorem dX4_close_56 : decode cX4_close 56 = .ok (.getfield 44, 3) := by decide +kernel
theorem dX4_close_59 : decode cX4_close 59 = .ok (.invokevirtual 139, 3) := by decide +kernel
theorem dX4_close_62 : decode cX4_close 62 = .ok (.ireturn, 1) := by decide +kernel
set_option maxRecDepth 20000 in
theorem ggX4_goesOn_X3_has : GoodIn wsX4_goesOn wsX3_has := goodIn_r _ [8, 9, 22, 23, 24, 25, 26, 27] (by decide +kernel) (by decide +kernel)
set_option maxRecDepth 20000 in
theorem gX4_goesOn_X3_has : GoodIn wsX4_goesOn (wsV RX4 122 RX3 yX3_has wsX3_has) := goodIn_app (goodIn_of _ (by decide +kernel)) ggX4_goesOn_X3_has
set_option maxRecDepth 20000 in
theorem ggX4_goesOn_X3_isOver : GoodIn wsX4_goesOn wsX3_isOver := goodIn_r _ [13, 14, 22, 23, 24, 25, 26, 27] (by decide +kernel) (by decide +kernel)
set_option maxRecDepth 20000 in
theorem gX4_goesOn_X3_isOver : GoodIn wsX4_goesOn (wsV RX4 130 RX3 yX3_isOver wsX3_isOver) := goodIn_app (goodIn_of _ (by decide +kernel)) ggX4_goesOn_X3_isOver
theorem dX4_goesOn_0 : decode cX4_goesOn 0 = .ok (.aload_n 0, 1) := by decide +kernel
theorem dX4_goesOn_1 : decode cX4_goesOn 1 = .ok (.getfield 19, 3) := by decide +kernel
theorem dX4_goesOn_4 : decode cX4_goesOn 4 = .ok (.iload_n 1, 1) := by decide +kernel
theorem dX4_goesOn_5 : decode cX4_goesOn 5 = .ok (.invokevirtual 122, 3) := by decide +kernel
theorem dX4_goesOn_8 : decode cX4_goesOn 8 = .ok (.ifCond .ne 13, 3) := by decide +kernel
theorem dX4_goesOn_11 : decode cX4_goesOn 11 = .ok (.new 125, 3) := by decide +kernel
theorem dX4_goesOn_14 : decode cX4_goesOn 14 = .ok (.dup, 1) := by decide +kernel
theorem dX4_goesOn_15 : decode cX4_goesOn 15 = .ok (.ldc 127, 2) := by decide +kernel
theorem dX4_goesOn_17 : decode cX4_goesOn 17 = .ok (.invokespecial 129, 3) := by decide +kernel
theorem dX4_goesOn_20 : decode cX4_goesOn 20 = .ok (.athrow, 1) := by decide +kernel
theorem dX4_goesOn_21 : decode cX4_goesOn 21 = .ok (.aload_n 0, 1) := by decide +kernel
theorem dX4_goesOn_22 : decode cX4_goesOn 22 = .ok (.getfield 19, 3) := by decide +kernel
theorem dX4_goesOn_25 : decode cX4_goesOn 25 = .ok (.iload_n 1, 1) := by decide +kernel
theorem dX4_goesOn_26 : decode cX4_goesOn 26 = .ok (.invokevirtual 130, 3) := by decide +kernel
theorem dX4_goesOn_29 : decode cX4_goesOn 29 = .ok (.ifCond .ne 7, 3) := by decide +kernel
theorem dX4_goesOn_32 : decode cX4_goesOn 32 = .ok (.iconst 1, 1) := by decide +kernel
theorem dX4_goesOn_33 : decode cX4_goesOn 33 = .ok (.goto 4, 3) := by decide +kernel
theorem dX4_goesOn_36 : decode cX4_goesOn 36 = .ok (.iconst 0, 1) := by decide +kernel
theorem dX4_goesOn_37 : decode cX4_goesOn 37 = .ok (.ireturn, 1) := by decide +kernel
set_option maxRecDepth 20000 in
theorem ggX4_changeKeys_X2_signWithNext : GoodIn wsX4_changeKeys wsX2_signWithNext := goodIn_r _ [11, 12, 13, 52, 53] (by decide +kernel) (by decide +kernel)
set_option maxRecDepth 20000 in
theorem gX4_changeKeys_X2_signWithNext : GoodIn wsX4_changeKeys (wsV RX4 144 RX2 yX2_signWithNext wsX2_signWithNext) := goodIn_app (goodIn_of _ (by decide +kernel)) ggX4_changeKeys_X2_signWithNext
set_option maxRecDepth 20000 in
theorem ggX4_changeKeys_X3_endDue : GoodIn wsX4_changeKeys wsX3_endDue := goodIn_r _ [18, 19, 20, 21, 22, 23, 24, 17, 25, 26, 27, 28, 29, 30, 31, 32, 33, 34, 35, 10, 36, 12, 13, 37, 38, 39, 40, 54, 55, 56, 57, 58, 59, 52, 53] (by decide +kernel) (by decide +kernel)
set_option maxRecDepth 20000 in
theorem gX4_changeKeys_X3_endDue : GoodIn wsX4_changeKeys (wsV RX4 147 RX3 yX3_endDue wsX3_endDue) := goodIn_app (goodIn_of _ (by decide +kernel)) ggX4_changeKeys_X3_endDue
set_option maxRecDepth 20000 in
theorem ggX4_changeKeys_X2_signing : GoodIn wsX4_changeKeys wsX2_signing := goodIn_r _ [44, 12, 52, 53] (by decide +kernel) (by decide +kernel)
set_option maxRecDepth 20000 in
theorem gX4_changeKeys_X2_signing : GoodIn wsX4_changeKeys (wsV RX4 115 RX2 yX2_signing wsX2_signing) := goodIn_app (goodIn_of _ (by decide +kernel)) ggX4_changeKeys_X2_signing
theorem dX4_changeKeys_0 : decode cX4_changeKeys 0 = .ok (.iload_n 1, 1) := by decide +kernel
theorem dX4_changeKeys_1 : decode cX4_changeKeys 1 = .ok (.ifCond .lt 10, 3) := by decide +kernel
theorem dX4_changeKeys_4 : decode cX4_changeKeys 4 = .ok (.iload_n 1, 1) := by decide +kernel
theorem dX4_changeKeys_5 : decode cX4_changeKeys 5 = .ok (.sipush 300, 3) := by decide +kernel
theorem dX4_changeKeys_8 : decode cX4_changeKeys 8 = .ok (.if_icmp .le 13, 3) := by decide +kernel
theorem dX4_changeKeys_11 : decode cX4_changeKeys 11 = .ok (.new 52, 3) := by decide +kernel
theorem dX4_changeKeys_14 : decode cX4_changeKeys 14 = .ok (.dup, 1) := by decide +kernel
theorem dX4_changeKeys_15 : decode cX4_changeKeys 15 = .ok (.ldc 142, 2) := by decide +kernel
theorem dX4_changeKeys_17 : decode cX4_changeKeys 17 = .ok (.invokespecial 56, 3) := by decide +kernel
theorem dX4_changeKeys_20 : decode cX4_changeKeys 20 = .ok (.athrow, 1) := by decide +kernel
theorem dX4_changeKeys_21 : decode cX4_changeKeys 21 = .ok (.aload_n 0, 1) := by decide +kernel
theorem dX4_changeKeys_22 : decode cX4_changeKeys 22 = .ok (.getfield 26, 3) := by decide +kernel
theorem dX4_changeKeys_25 : decode cX4_changeKeys 25 = .ok (.aload_n 0, 1) := by decide +kernel
theorem dX4_changeKeys_26 : decode cX4_changeKeys 26 = .ok (.getfield 44, 3) := by decide +kernel
theorem dX4_changeKeys_29 : decode cX4_changeKeys 29 = .ok (.iload_n 1, 1) := by decide +kernel
theorem dX4_changeKeys_30 : decode cX4_changeKeys 30 = .ok (.iadd, 1) := by decide +kernel
theorem dX4_changeKeys_31 : decode cX4_changeKeys 31 = .ok (.invokevirtual 144, 3) := by decide +kernel
theorem dX4_changeKeys_34 : decode cX4_changeKeys 34 = .ok (.aload_n 0, 1) := by decide +kernel
theorem dX4_changeKeys_35 : decode cX4_changeKeys 35 = .ok (.getfield 19, 3) := by decide +kernel
theorem dX4_changeKeys_38 : decode cX4_changeKeys 38 = .ok (.aload_n 0, 1) := by decide +kernel
theorem dX4_changeKeys_39 : decode cX4_changeKeys 39 = .ok (.getfield 44, 3) := by decide +kernel
theorem dX4_changeKeys_42 : decode cX4_changeKeys 42 = .ok (.aload_n 0, 1) := by decide +kernel
theorem dX4_changeKeys_43 : decode cX4_changeKeys 43 = .ok (.getfield 37, 3) := by decide +kernel
theorem dX4_changeKeys_46 : decode cX4_changeKeys 46 = .ok (.aload_n 0, 1) := by decide +kernel
theorem dX4_changeKeys_47 : decode cX4_changeKeys 47 = .ok (.getfield 26, 3) := by decide +kernel
theorem dX4_changeKeys_50 : decode cX4_changeKeys 50 = .ok (.invokevirtual 147, 3) := by decide +kernel
theorem dX4_changeKeys_53 : decode cX4_changeKeys 53 = .ok (.pop, 1) := by decide +kernel
theorem dX4_changeKeys_54 : decode cX4_changeKeys 54 = .ok (.aload_n 0, 1) := by decide +kernel
theorem dX4_changeKeys_55 : decode cX4_changeKeys 55 = .ok (.getfield 26, 3) := by decide +kernel
theorem dX4_changeKeys_58 : decode cX4_changeKeys 58 = .ok (.invokevirtual 115, 3) := by decide +kernel
theorem dX4_changeKeys_61 : decode cX4_changeKeys 61 = .ok (.ireturn, 1) := by decide +kernel
set_option maxRecDepth 20000 in
theorem ggX4_isTaken_X2_signing : GoodIn wsX4_isTaken wsX2_signing := goodIn_r _ [9, 10, 23, 24] (by decide +kernel) (by decide +kernel)
set_option maxRecDepth 20000 in
theorem gX4_isTaken_X2_signing : GoodIn wsX4_isTaken (wsV RX4 115 RX2 yX2_signing wsX2_signing) := goodIn_app (goodIn_of _ (by decide +kernel)) ggX4_isTaken_X2_signing
set_option maxRecDepth 20000 in
theorem ggX4_isTaken_X2_takes : GoodIn wsX4_isTaken wsX2_takes := goodIn_r _ [14, 10, 15, 23, 24] (by decide +kernel) (by decide +kernel)
set_option maxRecDepth 20000 in
theorem gX4_isTaken_X2_takes : GoodIn wsX4_isTaken (wsV RX4 153 RX2 yX2_takes wsX2_takes) := goodIn_app (goodIn_of _ (by decide +kernel)) ggX4_isTaken_X2_takes
theorem dX4_isTaken_0 : decode cX4_isTaken 0 = .ok (.iload_n 1, 1) := by decide +kernel
theorem dX4_isTaken_1 : decode cX4_isTaken 1 = .ok (.ifCond .lt 14, 3) := by decide +kernel
theorem dX4_isTaken_4 : decode cX4_isTaken 4 = .ok (.iload_n 1, 1) := by decide +kernel
theorem dX4_isTaken_5 : decode cX4_isTaken 5 = .ok (.aload_n 0, 1) := by decide +kernel
theorem dX4_isTaken_6 : decode cX4_isTaken 6 = .ok (.getfield 26, 3) := by decide +kernel
theorem dX4_isTaken_9 : decode cX4_isTaken 9 = .ok (.invokevirtual 115, 3) := by decide +kernel
theorem dX4_isTaken_12 : decode cX4_isTaken 12 = .ok (.if_icmp .le 13, 3) := by decide +kernel
theorem dX4_isTaken_15 : decode cX4_isTaken 15 = .ok (.new 52, 3) := by decide +kernel
theorem dX4_isTaken_18 : decode cX4_isTaken 18 = .ok (.dup, 1) := by decide +kernel
theorem dX4_isTaken_19 : decode cX4_isTaken 19 = .ok (.ldc 151, 2) := by decide +kernel
theorem dX4_isTaken_21 : decode cX4_isTaken 21 = .ok (.invokespecial 56, 3) := by decide +kernel
theorem dX4_isTaken_24 : decode cX4_isTaken 24 = .ok (.athrow, 1) := by decide +kernel
theorem dX4_isTaken_25 : decode cX4_isTaken 25 = .ok (.aload_n 0, 1) := by decide +kernel
theorem dX4_isTaken_26 : decode cX4_isTaken 26 = .ok (.getfield 26, 3) := by decide +kernel
theorem dX4_isTaken_29 : decode cX4_isTaken 29 = .ok (.iload_n 1, 1) := by decide +kernel
theorem dX4_isTaken_30 : decode cX4_isTaken 30 = .ok (.aload_n 0, 1) := by decide +kernel
theorem dX4_isTaken_31 : decode cX4_isTaken 31 = .ok (.getfield 44, 3) := by decide +kernel
theorem dX4_isTaken_34 : decode cX4_isTaken 34 = .ok (.invokevirtual 153, 3) := by decide +kernel
theorem dX4_isTaken_37 : decode cX4_isTaken 37 = .ok (.ireturn, 1) := by decide +kernel
set_option maxRecDepth 20000 in
theorem ggX4_pass_X0_dropDueOfAll : GoodIn wsX4_pass wsX0_dropDueOfAll := goodIn_r _ [12, 13, 14, 15, 11, 16, 17, 18, 19, 20, 21, 22, 60, 61, 62] (by decide +kernel) (by decide +kernel)
set_option maxRecDepth 20000 in
theorem gX4_pass_X0_dropDueOfAll : GoodIn wsX4_pass (wsV RX4 156 RX0 yX0_dropDueOfAll wsX0_dropDueOfAll) := goodIn_app (goodIn_of _ (by decide +kernel)) ggX4_pass_X0_dropDueOfAll
set_option maxRecDepth 20000 in
theorem ggX4_pass_X3_endDue : GoodIn wsX4_pass wsX3_endDue := goodIn_r _ [27, 28, 29, 30, 31, 32, 33, 26, 34, 35, 36, 37, 38, 39, 40, 41, 42, 43, 44, 45, 46, 47, 48, 49, 50, 51, 52, 63, 64, 65, 66, 67, 68, 69, 70] (by decide +kernel) (by decide +kernel)
set_option maxRecDepth 20000 in
theorem gX4_pass_X3_endDue : GoodIn wsX4_pass (wsV RX4 147 RX3 yX3_endDue wsX3_endDue) := goodIn_app (goodIn_of _ (by decide +kernel)) ggX4_pass_X3_endDue
theorem dX4_pass_0 : decode cX4_pass 0 = .ok (.iload_n 1, 1) := by decide +kernel
theorem dX4_pass_1 : decode cX4_pass 1 = .ok (.iconst 1, 1) := by decide +kernel
theorem dX4_pass_2 : decode cX4_pass 2 = .ok (.if_icmp .lt 10, 3) := by decide +kernel
theorem dX4_pass_5 : decode cX4_pass 5 = .ok (.iload_n 1, 1) := by decide +kernel
theorem dX4_pass_6 : decode cX4_pass 6 = .ok (.sipush 300, 3) := by decide +kernel
theorem dX4_pass_9 : decode cX4_pass 9 = .ok (.if_icmp .le 13, 3) := by decide +kernel
theorem dX4_pass_12 : decode cX4_pass 12 = .ok (.new 52, 3) := by decide +kernel
theorem dX4_pass_15 : decode cX4_pass 15 = .ok (.dup, 1) := by decide +kernel
theorem dX4_pass_16 : decode cX4_pass 16 = .ok (.ldc 142, 2) := by decide +kernel
theorem dX4_pass_18 : decode cX4_pass 18 = .ok (.invokespecial 56, 3) := by decide +kernel
theorem dX4_pass_21 : decode cX4_pass 21 = .ok (.athrow, 1) := by decide +kernel
theorem dX4_pass_22 : decode cX4_pass 22 = .ok (.aload_n 0, 1) := by decide +kernel
theorem dX4_pass_23 : decode cX4_pass 23 = .ok (.dup, 1) := by decide +kernel
theorem dX4_pass_24 : decode cX4_pass 24 = .ok (.getfield 44, 3) := by decide +kernel
theorem dX4_pass_27 : decode cX4_pass 27 = .ok (.iload_n 1, 1) := by decide +kernel
theorem dX4_pass_28 : decode cX4_pass 28 = .ok (.iadd, 1) := by decide +kernel
theorem dX4_pass_29 : decode cX4_pass 29 = .ok (.putfield 44, 3) := by decide +kernel
theorem dX4_pass_32 : decode cX4_pass 32 = .ok (.aload_n 0, 1) := by decide +kernel
theorem dX4_pass_33 : decode cX4_pass 33 = .ok (.getfield 33, 3) := by decide +kernel
theorem dX4_pass_36 : decode cX4_pass 36 = .ok (.aload_n 0, 1) := by decide +kernel
theorem dX4_pass_37 : decode cX4_pass 37 = .ok (.getfield 44, 3) := by decide +kernel
theorem dX4_pass_40 : decode cX4_pass 40 = .ok (.invokevirtual 156, 3) := by decide +kernel
theorem dX4_pass_43 : decode cX4_pass 43 = .ok (.aload_n 0, 1) := by decide +kernel
theorem dX4_pass_44 : decode cX4_pass 44 = .ok (.getfield 19, 3) := by decide +kernel
theorem dX4_pass_47 : decode cX4_pass 47 = .ok (.aload_n 0, 1) := by decide +kernel
theorem dX4_pass_48 : decode cX4_pass 48 = .ok (.getfield 44, 3) := by decide +kernel
theorem dX4_pass_51 : decode cX4_pass 51 = .ok (.aload_n 0, 1) := by decide +kernel
theorem dX4_pass_52 : decode cX4_pass 52 = .ok (.getfield 37, 3) := by decide +kernel
theorem dX4_pass_55 : decode cX4_pass 55 = .ok (.aload_n 0, 1) := by decide +kernel
theorem dX4_pass_56 : decode cX4_pass 56 = .ok (.getfield 26, 3) := by decide +kernel
theorem dX4_pass_59 : decode cX4_pass 59 = .ok (.invokevirtual 147, 3) := by decide +kernel
theorem dX4_pass_62 : decode cX4_pass 62 = .ok (.ireturn, 1) := by decide +kernel
theorem dX4_now_0 : decode cX4_now 0 = .ok (.aload_n 0, 1) := by decide +kernel
theorem dX4_now_1 : decode cX4_now 1 = .ok (.getfield 44, 3) := by decide +kernel
theorem dX4_now_4 : decode cX4_now 4 = .ok (.ireturn, 1) := by decide +kernel
set_option maxRecDepth 20000 in
theorem ggX4_breakGlass_X4_isOutside : GoodIn wsX4_breakGlass wsX4_isOutside := goodIn_r _ [10] (by decide +kernel) (by decide +kernel)
set_option maxRecDepth 20000 in
theorem gX4_breakGlass_X4_isOutside : GoodIn wsX4_breakGlass (va_wsS RX4 48 yX4_isOutside wsX4_isOutside) := goodIn_app (goodIn_of _ (by decide +kernel)) ggX4_breakGlass_X4_isOutside
set_option maxRecDepth 20000 in
theorem ggX4_breakGlass_X4_servesAsWitness : GoodIn wsX4_breakGlass wsX4_servesAsWitness := goodIn_r _ [14, 15, 16, 17, 18, 9, 19, 20, 21, 22, 23, 24, 25, 26, 27, 28, 29, 30, 31, 32, 33, 34, 35, 36, 37, 38, 39, 40, 41, 42, 43, 44, 45, 46, 47, 48, 49, 50] (by decide +kernel) (by decide +kernel)
set_option maxRecDepth 20000 in
theorem gX4_breakGlass_X4_servesAsWitness : GoodIn wsX4_breakGlass (wsV RX4 163 RX4 yX4_servesAsWitness wsX4_servesAsWitness) := goodIn_app (goodIn_of _ (by decide +kernel)) ggX4_breakGlass_X4_servesAsWitness
theorem dX4_breakGlass_0 : decode cX4_breakGlass 0 = .ok (.iload_n 1, 1) := by decide +kernel
theorem dX4_breakGlass_1 : decode cX4_breakGlass 1 = .ok (.bipush 10, 2) := by decide +kernel
theorem dX4_breakGlass_3 : decode cX4_breakGlass 3 = .ok (.invokestatic 48, 3) := by decide +kernel
theorem dX4_breakGlass_6 : decode cX4_breakGlass 6 = .ok (.ifCond .ne 12, 3) := by decide +kernel
theorem dX4_breakGlass_9 : decode cX4_breakGlass 9 = .ok (.iload_n 2, 1) := by decide +kernel
theorem dX4_breakGlass_10 : decode cX4_breakGlass 10 = .ok (.bipush 6, 2) := by decide +kernel
theorem dX4_breakGlass_12 : decode cX4_breakGlass 12 = .ok (.invokestatic 48, 3) := by decide +kernel
theorem dX4_breakGlass_15 : decode cX4_breakGlass 15 = .ok (.ifCond .eq 13, 3) := by decide +kernel
theorem dX4_breakGlass_18 : decode cX4_breakGlass 18 = .ok (.new 52, 3) := by decide +kernel
theorem dX4_breakGlass_21 : decode cX4_breakGlass 21 = .ok (.dup, 1) := by decide +kernel
theorem dX4_breakGlass_22 : decode cX4_breakGlass 22 = .ok (.ldc 95, 2) := by decide +kernel
theorem dX4_breakGlass_24 : decode cX4_breakGlass 24 = .ok (.invokespecial 56, 3) := by decide +kernel
theorem dX4_breakGlass_27 : decode cX4_breakGlass 27 = .ok (.athrow, 1) := by decide +kernel
theorem dX4_breakGlass_28 : decode cX4_breakGlass 28 = .ok (.iload_n 3, 1) := by decide +kernel
theorem dX4_breakGlass_29 : decode cX4_breakGlass 29 = .ok (.bipush 10, 2) := by decide +kernel
theorem dX4_breakGlass_31 : decode cX4_breakGlass 31 = .ok (.invokestatic 48, 3) := by decide +kernel
theorem dX4_breakGlass_34 : decode cX4_breakGlass 34 = .ok (.ifCond .ne 13, 3) := by decide +kernel
theorem dX4_breakGlass_37 : decode cX4_breakGlass 37 = .ok (.iload 4, 2) := by decide +kernel
theorem dX4_breakGlass_39 : decode cX4_breakGlass 39 = .ok (.bipush 10, 2) := by decide +kernel
theorem dX4_breakGlass_41 : decode cX4_breakGlass 41 = .ok (.invokestatic 48, 3) := by decide +kernel
theorem dX4_breakGlass_44 : decode cX4_breakGlass 44 = .ok (.ifCond .eq 13, 3) := by decide +kernel
theorem dX4_breakGlass_47 : decode cX4_breakGlass 47 = .ok (.new 52, 3) := by decide +kernel
theorem dX4_breakGlass_50 : decode cX4_breakGlass 50 = .ok (.dup, 1) := by decide +kernel
theorem dX4_breakGlass_51 : decode cX4_breakGlass 51 = .ok (.ldc 159, 2) := by decide +kernel
theorem dX4_breakGlass_53 : decode cX4_breakGlass 53 = .ok (.invokespecial 56, 3) := by decide +kernel
theorem dX4_breakGlass_56 : decode cX4_breakGlass 56 = .ok (.athrow, 1) := by decide +kernel
theorem dX4_breakGlass_57 : decode cX4_breakGlass 57 = .ok (.iload_n 1, 1) := by decide +kernel
theorem dX4_breakGlass_58 : decode cX4_breakGlass 58 = .ok (.iload_n 3, 1) := by decide +kernel
theorem dX4_breakGlass_59 : decode cX4_breakGlass 59 = .ok (.if_icmp .eq 15, 3) := by decide +kernel
theorem dX4_breakGlass_62 : decode cX4_breakGlass 62 = .ok (.iload_n 1, 1) := by decide +kernel
theorem dX4_breakGlass_63 : decode cX4_breakGlass 63 = .ok (.iload 4, 2) := by decide +kernel
theorem dX4_breakGlass_65 : decode cX4_breakGlass 65 = .ok (.if_icmp .eq 9, 3) := by decide +kernel
theorem dX4_breakGlass_68 : decode cX4_breakGlass 68 = .ok (.iload_n 3, 1) := by decide +kernel
theorem dX4_breakGlass_69 : decode cX4_breakGlass 69 = .ok (.iload 4, 2) := by decide +kernel
theorem dX4_breakGlass_71 : decode cX4_breakGlass 71 = .ok (.if_icmp .ne 13, 3) := by decide +kernel
theorem dX4_breakGlass_74 : decode cX4_breakGlass 74 = .ok (.new 52, 3) := by decide +kernel
theorem dX4_breakGlass_77 : decode cX4_breakGlass 77 = .ok (.dup, 1) := by decide +kernel
theorem dX4_breakGlass_78 : decode cX4_breakGlass 78 = .ok (.ldc 161, 2) := by decide +kernel
theorem dX4_breakGlass_80 : decode cX4_breakGlass 80 = .ok (.invokespecial 56, 3) := by decide +kernel
theorem dX4_breakGlass_83 : decode cX4_breakGlass 83 = .ok (.athrow, 1) := by decide +kernel
theorem dX4_breakGlass_84 : decode cX4_breakGlass 84 = .ok (.aload_n 0, 1) := by decide +kernel
theorem dX4_breakGlass_85 : decode cX4_breakGlass 85 = .ok (.iload_n 3, 1) := by decide +kernel
theorem dX4_breakGlass_86 : decode cX4_breakGlass 86 = .ok (.iload_n 2, 1) := by decide +kernel
theorem dX4_breakGlass_87 : decode cX4_breakGlass 87 = .ok (.invokevirtual 163, 3) := by decide +kernel
theorem dX4_breakGlass_90 : decode cX4_breakGlass 90 = .ok (.ifCond .eq 13, 3) := by decide +kernel
theorem dX4_breakGlass_93 : decode cX4_breakGlass 93 = .ok (.aload_n 0, 1) := by decide +kernel
theorem dX4_breakGlass_94 : decode cX4_breakGlass 94 = .ok (.iload 4, 2) := by decide +kernel
theorem dX4_breakGlass_96 : decode cX4_breakGlass 96 = .ok (.iload_n 2, 1) := by decide +kernel
theorem dX4_breakGlass_97 : decode cX4_breakGlass 97 = .ok (.invokevirtual 163, 3) := by decide +kernel
theorem dX4_breakGlass_100 : decode cX4_breakGlass 100 = .ok (.ifCond .ne 13, 3) := by decide +kernel
theorem dX4_breakGlass_103 : decode cX4_breakGlass 103 = .ok (.new 70, 3) := by decide +kernel
theorem dX4_breakGlass_106 : decode cX4_breakGlass 106 = .ok (.dup, 1) := by decide +kernel
theorem dX4_breakGlass_107 : decode cX4_breakGlass 107 = .ok (.ldc 166, 2) := by decide +kernel
theorem dX4_breakGlass_109 : decode cX4_breakGlass 109 = .ok (.invokespecial 74, 3) := by decide +kernel
theorem dX4_breakGlass_112 : decode cX4_breakGlass 112 = .ok (.athrow, 1) := by decide +kernel
theorem dX4_breakGlass_113 : decode cX4_breakGlass 113 = .ok (.aload_n 0, 1) := by decide +kernel
theorem dX4_breakGlass_114 : decode cX4_breakGlass 114 = .ok (.getfield 44, 3) := by decide +kernel
theorem dX4_breakGlass_117 : decode cX4_breakGlass 117 = .ok (.bipush 60, 2) := by decide +kernel
theorem dX4_breakGlass_119 : decode cX4_breakGlass 119 = .ok (.iadd, 1) := by decide +kernel
theorem dX4_breakGlass_120 : decode cX4_breakGlass 120 = .ok (.istore 5, 2) := by decide +kernel
theorem dX4_breakGlass_122 : decode cX4_breakGlass 122 = .ok (.aload_n 0, 1) := by decide +kernel
theorem dX4_breakGlass_123 : decode cX4_breakGlass 123 = .ok (.getfield 41, 3) := by decide +kernel
theorem dX4_breakGlass_126 : decode cX4_breakGlass 126 = .ok (.iload_n 1, 1) := by decide +kernel
theorem dX4_breakGlass_127 : decode cX4_breakGlass 127 = .ok (.bipush 6, 2) := by decide +kernel
theorem dX4_breakGlass_129 : decode cX4_breakGlass 129 = .ok (.imul, 1) := by decide +kernel
theorem dX4_breakGlass_130 : decode cX4_breakGlass 130 = .ok (.iload_n 2, 1) := by decide +kernel
theorem dX4_breakGlass_131 : decode cX4_breakGlass 131 = .ok (.iadd, 1) := by decide +kernel
theorem dX4_breakGlass_132 : decode cX4_breakGlass 132 = .ok (.iload 5, 2) := by decide +kernel
theorem dX4_breakGlass_134 : decode cX4_breakGlass 134 = .ok (.iastore, 1) := by decide +kernel
theorem dX4_breakGlass_135 : decode cX4_breakGlass 135 = .ok (.iload 5, 2) := by decide +kernel
theorem dX4_breakGlass_137 : decode cX4_breakGlass 137 = .ok (.ireturn, 1) := by decide +kernel
set_option maxRecDepth 20000 in
theorem ggX4_setCache_X4_isOutside : GoodIn wsX4_setCache wsX4_isOutside := goodIn_r _ [8] (by decide +kernel) (by decide +kernel)
set_option maxRecDepth 20000 in
theorem gX4_setCache_X4_isOutside : GoodIn wsX4_setCache (va_wsS RX4 48 yX4_isOutside wsX4_isOutside) := goodIn_app (goodIn_of _ (by decide +kernel)) ggX4_setCache_X4_isOutside
set_option maxRecDepth 20000 in
theorem ggX4_setCache_X0_cacheOf : GoodIn wsX4_setCache wsX0_cacheOf := goodIn_r _ [13, 14, 35, 36, 37] (by decide +kernel) (by decide +kernel)
set_option maxRecDepth 20000 in
theorem gX4_setCache_X0_cacheOf : GoodIn wsX4_setCache (wsV RX4 170 RX0 yX0_cacheOf wsX0_cacheOf) := goodIn_app (goodIn_of _ (by decide +kernel)) ggX4_setCache_X0_cacheOf
set_option maxRecDepth 20000 in
theorem ggX4_setCache_X0_allowCache : GoodIn wsX4_setCache wsX0_allowCache := goodIn_r _ [18, 14, 35, 36, 37] (by decide +kernel) (by decide +kernel)
set_option maxRecDepth 20000 in
theorem gX4_setCache_X0_allowCache : GoodIn wsX4_setCache (wsV RX4 173 RX0 yX0_allowCache wsX0_allowCache) := goodIn_app (goodIn_of _ (by decide +kernel)) ggX4_setCache_X0_allowCache
set_option maxRecDepth 20000 in
theorem ggX4_setCache_X0_dropDue : GoodIn wsX4_setCache wsX0_dropDue := goodIn_r _ [22, 23, 14, 24, 25, 26, 12, 27, 35, 36, 37] (by decide +kernel) (by decide +kernel)
set_option maxRecDepth 20000 in
theorem gX4_setCache_X0_dropDue : GoodIn wsX4_setCache (wsV RX4 177 RX0 yX0_dropDue wsX0_dropDue) := goodIn_app (goodIn_of _ (by decide +kernel)) ggX4_setCache_X0_dropDue
theorem dX4_setCache_0 : decode cX4_setCache 0 = .ok (.iload_n 1, 1) := by decide +kernel
theorem dX4_setCache_1 : decode cX4_setCache 1 = .ok (.iconst 4, 1) := by decide +kernel
theorem dX4_setCache_2 : decode cX4_setCache 2 = .ok (.invokestatic 48, 3) := by decide +kernel
theorem dX4_setCache_5 : decode cX4_setCache 5 = .ok (.ifCond .ne 13, 3) := by decide +kernel
theorem dX4_setCache_8 : decode cX4_setCache 8 = .ok (.iload_n 2, 1) := by decide +kernel
theorem dX4_setCache_9 : decode cX4_setCache 9 = .ok (.ifCond .lt 9, 3) := by decide +kernel
theorem dX4_setCache_12 : decode cX4_setCache 12 = .ok (.iload_n 2, 1) := by decide +kernel
theorem dX4_setCache_13 : decode cX4_setCache 13 = .ok (.bipush 60, 2) := by decide +kernel
theorem dX4_setCache_15 : decode cX4_setCache 15 = .ok (.if_icmp .le 13, 3) := by decide +kernel
theorem dX4_setCache_18 : decode cX4_setCache 18 = .ok (.new 52, 3) := by decide +kernel
theorem dX4_setCache_21 : decode cX4_setCache 21 = .ok (.dup, 1) := by decide +kernel
theorem dX4_setCache_22 : decode cX4_setCache 22 = .ok (.ldc 168, 2) := by decide +kernel
theorem dX4_setCache_24 : decode cX4_setCache 24 = .ok (.invokespecial 56, 3) := by decide +kernel
theorem dX4_setCache_27 : decode cX4_setCache 27 = .ok (.athrow, 1) := by decide +kernel
theorem dX4_setCache_28 : decode cX4_setCache 28 = .ok (.aload_n 0, 1) := by decide +kernel
theorem dX4_setCache_29 : decode cX4_setCache 29 = .ok (.getfield 33, 3) := by decide +kernel
theorem dX4_setCache_32 : decode cX4_setCache 32 = .ok (.iload_n 1, 1) := by decide +kernel
theorem dX4_setCache_33 : decode cX4_setCache 33 = .ok (.invokevirtual 170, 3) := by decide +kernel
theorem dX4_setCache_36 : decode cX4_setCache 36 = .ok (.istore_n 3, 1) := by decide +kernel
theorem dX4_setCache_37 : decode cX4_setCache 37 = .ok (.aload_n 0, 1) := by decide +kernel
theorem dX4_setCache_38 : decode cX4_setCache 38 = .ok (.getfield 33, 3) := by decide +kernel
theorem dX4_setCache_41 : decode cX4_setCache 41 = .ok (.iload_n 1, 1) := by decide +kernel
theorem dX4_setCache_42 : decode cX4_setCache 42 = .ok (.iload_n 2, 1) := by decide +kernel
theorem dX4_setCache_43 : decode cX4_setCache 43 = .ok (.invokevirtual 173, 3) := by decide +kernel
theorem dX4_setCache_46 : decode cX4_setCache 46 = .ok (.aload_n 0, 1) := by decide +kernel
theorem dX4_setCache_47 : decode cX4_setCache 47 = .ok (.getfield 33, 3) := by decide +kernel
theorem dX4_setCache_50 : decode cX4_setCache 50 = .ok (.iload_n 1, 1) := by decide +kernel
theorem dX4_setCache_51 : decode cX4_setCache 51 = .ok (.aload_n 0, 1) := by decide +kernel
theorem dX4_setCache_52 : decode cX4_setCache 52 = .ok (.getfield 44, 3) := by decide +kernel
theorem dX4_setCache_55 : decode cX4_setCache 55 = .ok (.invokevirtual 177, 3) := by decide +kernel
theorem dX4_setCache_58 : decode cX4_setCache 58 = .ok (.iload_n 3, 1) := by decide +kernel
theorem dX4_setCache_59 : decode cX4_setCache 59 = .ok (.ireturn, 1) := by decide +kernel
set_option maxRecDepth 20000 in
theorem ggX4_decide_X4_isOutside : GoodIn wsX4_decide wsX4_isOutside := goodIn_r _ [10] (by decide +kernel) (by decide +kernel)
set_option maxRecDepth 20000 in
theorem gX4_decide_X4_isOutside : GoodIn wsX4_decide (va_wsS RX4 48 yX4_isOutside wsX4_isOutside) := goodIn_app (goodIn_of _ (by decide +kernel)) ggX4_decide_X4_isOutside
end
section
set_option maxRecDepth 20000 in
theorem ggX4_decide_X3_has : GoodIn wsX4_decide wsX3_has := goodIn_r _ [15, 16, 102, 103, 104, 105, 106, 107] (by decide +kernel) (by decide +kernel)
set_option maxRecDepth 20000 in
theorem gX4_decide_X3_has : GoodIn wsX4_decide (wsV RX4 122 RX3 yX3_has wsX3_has) := goodIn_app (goodIn_of _ (by decide +kernel)) ggX4_decide_X3_has
set_option maxRecDepth 20000 in
theorem ggX4_decide_X3_isOver : GoodIn wsX4_decide wsX3_isOver := goodIn_r _ [20, 21, 102, 103, 104, 105, 106, 107] (by decide +kernel) (by decide +kernel)
set_option maxRecDepth 20000 in
theorem gX4_decide_X3_isOver : GoodIn wsX4_decide (wsV RX4 130 RX3 yX3_isOver wsX3_isOver) := goodIn_app (goodIn_of _ (by decide +kernel)) ggX4_decide_X3_isOver
set_option maxRecDepth 20000 in
theorem ggX4_decide_X3_use : GoodIn wsX4_decide wsX3_use := goodIn_r _ [25, 26, 102, 103, 104, 105, 106, 107] (by decide +kernel) (by decide +kernel)
set_option maxRecDepth 20000 in
theorem gX4_decide_X3_use : GoodIn wsX4_decide (wsV RX4 182 RX3 yX3_use wsX3_use) := goodIn_app (goodIn_of _ (by decide +kernel)) ggX4_decide_X3_use
set_option maxRecDepth 20000 in
theorem ggX4_decide_X3_personOf : GoodIn wsX4_decide wsX3_personOf := goodIn_r _ [30, 31, 102, 103, 104, 105, 106, 107] (by decide +kernel) (by decide +kernel)
set_option maxRecDepth 20000 in
theorem gX4_decide_X3_personOf : GoodIn wsX4_decide (wsV RX4 185 RX3 yX3_personOf wsX3_personOf) := goodIn_app (goodIn_of _ (by decide +kernel)) ggX4_decide_X3_personOf
set_option maxRecDepth 20000 in
theorem ggX4_decide_X4_answerOfApp : GoodIn wsX4_decide wsX4_answerOfApp := goodIn_r _ [35, 36, 6, 37, 38, 39, 40, 41, 42, 43, 44, 45, 46, 47, 48, 49, 50, 51, 52, 9, 53, 54, 55, 56, 57, 58, 59, 60, 61, 62, 63, 64, 65, 66, 67, 68, 69, 70, 71, 72, 73, 74, 75, 76, 77, 78, 79, 80, 81, 82, 83, 84, 85, 86, 87, 88, 89, 90, 91, 92, 93, 94, 95, 96, 97, 98, 99, 100, 101, 108, 109, 110, 111, 112, 113, 114] (by decide +kernel) (by decide +kernel)
set_option maxRecDepth 20000 in
theorem gX4_decide_X4_answerOfApp : GoodIn wsX4_decide (wsV RX4 188 RX4 yX4_answerOfApp wsX4_answerOfApp) := goodIn_app (goodIn_of _ (by decide +kernel)) ggX4_decide_X4_answerOfApp
theorem dX4_decide_0 : decode cX4_decide 0 = .ok (.iload_n 1, 1) := by decide +kernel
theorem dX4_decide_1 : decode cX4_decide 1 = .ok (.iconst 4, 1) := by decide +kernel
theorem dX4_decide_2 : decode cX4_decide 2 = .ok (.invokestatic 48, 3) := by decide +kernel
theorem dX4_decide_5 : decode cX4_decide 5 = .ok (.ifCond .ne 12, 3) := by decide +kernel
theorem dX4_decide_8 : decode cX4_decide 8 = .ok (.iload_n 3, 1) := by decide +kernel
theorem dX4_decide_9 : decode cX4_decide 9 = .ok (.bipush 6, 2) := by decide +kernel
theorem dX4_decide_11 : decode cX4_decide 11 = .ok (.invokestatic 48, 3) := by decide +kernel
theorem dX4_decide_14 : decode cX4_decide 14 = .ok (.ifCond .eq 13, 3) := by decide +kernel
theorem dX4_decide_17 : decode cX4_decide 17 = .ok (.new 52, 3) := by decide +kernel
theorem dX4_decide_20 : decode cX4_decide 20 = .ok (.dup, 1) := by decide +kernel
theorem dX4_decide_21 : decode cX4_decide 21 = .ok (.ldc 180, 2) := by decide +kernel
theorem dX4_decide_23 : decode cX4_decide 23 = .ok (.invokespecial 56, 3) := by decide +kernel
theorem dX4_decide_26 : decode cX4_decide 26 = .ok (.athrow, 1) := by decide +kernel
theorem dX4_decide_27 : decode cX4_decide 27 = .ok (.aload_n 0, 1) := by decide +kernel
theorem dX4_decide_28 : decode cX4_decide 28 = .ok (.getfield 19, 3) := by decide +kernel
theorem dX4_decide_31 : decode cX4_decide 31 = .ok (.iload_n 2, 1) := by decide +kernel
theorem dX4_decide_32 : decode cX4_decide 32 = .ok (.invokevirtual 122, 3) := by decide +kernel
theorem dX4_decide_35 : decode cX4_decide 35 = .ok (.ifCond .ne 13, 3) := by decide +kernel
theorem dX4_decide_38 : decode cX4_decide 38 = .ok (.new 125, 3) := by decide +kernel
theorem dX4_decide_41 : decode cX4_decide 41 = .ok (.dup, 1) := by decide +kernel
theorem dX4_decide_42 : decode cX4_decide 42 = .ok (.ldc 127, 2) := by decide +kernel
theorem dX4_decide_44 : decode cX4_decide 44 = .ok (.invokespecial 129, 3) := by decide +kernel
theorem dX4_decide_47 : decode cX4_decide 47 = .ok (.athrow, 1) := by decide +kernel
theorem dX4_decide_48 : decode cX4_decide 48 = .ok (.aload_n 0, 1) := by decide +kernel
theorem dX4_decide_49 : decode cX4_decide 49 = .ok (.getfield 19, 3) := by decide +kernel
theorem dX4_decide_52 : decode cX4_decide 52 = .ok (.iload_n 2, 1) := by decide +kernel
theorem dX4_decide_53 : decode cX4_decide 53 = .ok (.invokevirtual 130, 3) := by decide +kernel
theorem dX4_decide_56 : decode cX4_decide 56 = .ok (.ifCond .eq 5, 3) := by decide +kernel
theorem dX4_decide_59 : decode cX4_decide 59 = .ok (.iconst 2, 1) := by decide +kernel
theorem dX4_decide_60 : decode cX4_decide 60 = .ok (.ireturn, 1) := by decide +kernel
theorem dX4_decide_61 : decode cX4_decide 61 = .ok (.aload_n 0, 1) := by decide +kernel
theorem dX4_decide_62 : decode cX4_decide 62 = .ok (.getfield 19, 3) := by decide +kernel
theorem dX4_decide_65 : decode cX4_decide 65 = .ok (.iload_n 2, 1) := by decide +kernel
theorem dX4_decide_66 : decode cX4_decide 66 = .ok (.aload_n 0, 1) := by decide +kernel
theorem dX4_decide_67 : decode cX4_decide 67 = .ok (.getfield 44, 3) := by decide +kernel
theorem dX4_decide_70 : decode cX4_decide 70 = .ok (.invokevirtual 182, 3) := by decide +kernel
theorem dX4_decide_73 : decode cX4_decide 73 = .ok (.aload_n 0, 1) := by decide +kernel
theorem dX4_decide_74 : decode cX4_decide 74 = .ok (.iload_n 1, 1) := by decide +kernel
theorem dX4_decide_75 : decode cX4_decide 75 = .ok (.aload_n 0, 1) := by decide +kernel
theorem dX4_decide_76 : decode cX4_decide 76 = .ok (.getfield 19, 3) := by decide +kernel
theorem dX4_decide_79 : decode cX4_decide 79 = .ok (.iload_n 2, 1) := by decide +kernel
theorem dX4_decide_80 : decode cX4_decide 80 = .ok (.invokevirtual 185, 3) := by decide +kernel
theorem dX4_decide_83 : decode cX4_decide 83 = .ok (.iload_n 3, 1) := by decide +kernel
theorem dX4_decide_84 : decode cX4_decide 84 = .ok (.invokevirtual 188, 3) := by decide +kernel
theorem dX4_decide_87 : decode cX4_decide 87 = .ok (.ireturn, 1) := by decide +kernel
set_option maxRecDepth 20000 in
theorem ggX4_forget_X4_isOutside : GoodIn wsX4_forget wsX4_isOutside := goodIn_r _ [7] (by decide +kernel) (by decide +kernel)
set_option maxRecDepth 20000 in
theorem gX4_forget_X4_isOutside : GoodIn wsX4_forget (va_wsS RX4 48 yX4_isOutside wsX4_isOutside) := goodIn_app (goodIn_of _ (by decide +kernel)) ggX4_forget_X4_isOutside
set_option maxRecDepth 20000 in
theorem ggX4_forget_X0_dropAllOf : GoodIn wsX4_forget wsX0_dropAllOf := goodIn_r _ [12, 13, 14, 15, 16, 11, 17, 18, 19, 20, 28, 29, 30] (by decide +kernel) (by decide +kernel)
set_option maxRecDepth 20000 in
theorem gX4_forget_X0_dropAllOf : GoodIn wsX4_forget (wsV RX4 193 RX0 yX0_dropAllOf wsX0_dropAllOf) := goodIn_app (goodIn_of _ (by decide +kernel)) ggX4_forget_X0_dropAllOf
theorem dX4_forget_0 : decode cX4_forget 0 = .ok (.iload_n 1, 1) := by decide +kernel
theorem dX4_forget_1 : decode cX4_forget 1 = .ok (.iconst 4, 1) := by decide +kernel
theorem dX4_forget_2 : decode cX4_forget 2 = .ok (.invokestatic 48, 3) := by decide +kernel
theorem dX4_forget_5 : decode cX4_forget 5 = .ok (.ifCond .ne 12, 3) := by decide +kernel
theorem dX4_forget_8 : decode cX4_forget 8 = .ok (.iload_n 2, 1) := by decide +kernel
theorem dX4_forget_9 : decode cX4_forget 9 = .ok (.bipush 10, 2) := by decide +kernel
theorem dX4_forget_11 : decode cX4_forget 11 = .ok (.invokestatic 48, 3) := by decide +kernel
theorem dX4_forget_14 : decode cX4_forget 14 = .ok (.ifCond .eq 13, 3) := by decide +kernel
theorem dX4_forget_17 : decode cX4_forget 17 = .ok (.new 52, 3) := by decide +kernel
theorem dX4_forget_20 : decode cX4_forget 20 = .ok (.dup, 1) := by decide +kernel
theorem dX4_forget_21 : decode cX4_forget 21 = .ok (.ldc 191, 2) := by decide +kernel
theorem dX4_forget_23 : decode cX4_forget 23 = .ok (.invokespecial 56, 3) := by decide +kernel
theorem dX4_forget_26 : decode cX4_forget 26 = .ok (.athrow, 1) := by decide +kernel
theorem dX4_forget_27 : decode cX4_forget 27 = .ok (.aload_n 0, 1) := by decide +kernel
theorem dX4_forget_28 : decode cX4_forget 28 = .ok (.getfield 33, 3) := by decide +kernel
theorem dX4_forget_31 : decode cX4_forget 31 = .ok (.iload_n 1, 1) := by decide +kernel
theorem dX4_forget_32 : decode cX4_forget 32 = .ok (.iload_n 2, 1) := by decide +kernel
theorem dX4_forget_33 : decode cX4_forget 33 = .ok (.invokevirtual 193, 3) := by decide +kernel
theorem dX4_forget_36 : decode cX4_forget 36 = .ok (.ireturn, 1) := by decide +kernel
set_option maxRecDepth 20000 in
theorem ggX4_stale_X4_isOutside : GoodIn wsX4_stale wsX4_isOutside := goodIn_r _ [6] (by decide +kernel) (by decide +kernel)
set_option maxRecDepth 20000 in
theorem gX4_stale_X4_isOutside : GoodIn wsX4_stale (va_wsS RX4 48 yX4_isOutside wsX4_isOutside) := goodIn_app (goodIn_of _ (by decide +kernel)) ggX4_stale_X4_isOutside
set_option maxRecDepth 20000 in
theorem ggX4_stale_X4_isStale : GoodIn wsX4_stale wsX4_isStale := goodIn_r _ [10, 11, 12, 13, 14, 15, 16, 17, 18, 19, 20, 21, 22, 23, 24, 25, 26, 27, 5, 28, 29, 30, 31, 32, 33, 34, 35, 36, 37, 38, 39, 40, 41, 42, 43, 44, 45, 46, 47, 48, 49, 50, 51, 52, 53, 54, 55, 56, 57, 58, 59, 60, 61, 62, 63, 64, 65, 66, 67, 68, 69, 70, 71, 72, 73, 74, 75, 76, 77, 78] (by decide +kernel) (by decide +kernel)
set_option maxRecDepth 20000 in
theorem gX4_stale_X4_isStale : GoodIn wsX4_stale (wsV RX4 198 RX4 yX4_isStale wsX4_isStale) := goodIn_app (goodIn_of _ (by decide +kernel)) ggX4_stale_X4_isStale
theorem dX4_stale_0 : decode cX4_stale 0 = .ok (.iload_n 1, 1) := by decide +kernel
theorem dX4_stale_1 : decode cX4_stale 1 = .ok (.iconst 4, 1) := by decide +kernel
theorem dX4_stale_2 : decode cX4_stale 2 = .ok (.invokestatic 48, 3) := by decide +kernel
theorem dX4_stale_5 : decode cX4_stale 5 = .ok (.ifCond .eq 13, 3) := by decide +kernel
theorem dX4_stale_8 : decode cX4_stale 8 = .ok (.new 52, 3) := by decide +kernel
theorem dX4_stale_11 : decode cX4_stale 11 = .ok (.dup, 1) := by decide +kernel
theorem dX4_stale_12 : decode cX4_stale 12 = .ok (.ldc 196, 2) := by decide +kernel
theorem dX4_stale_14 : decode cX4_stale 14 = .ok (.invokespecial 56, 3) := by decide +kernel
theorem dX4_stale_17 : decode cX4_stale 17 = .ok (.athrow, 1) := by decide +kernel
theorem dX4_stale_18 : decode cX4_stale 18 = .ok (.iconst 0, 1) := by decide +kernel
theorem dX4_stale_19 : decode cX4_stale 19 = .ok (.istore_n 2, 1) := by decide +kernel
theorem dX4_stale_20 : decode cX4_stale 20 = .ok (.iconst 0, 1) := by decide +kernel
theorem dX4_stale_21 : decode cX4_stale 21 = .ok (.istore_n 3, 1) := by decide +kernel
theorem dX4_stale_22 : decode cX4_stale 22 = .ok (.iload_n 3, 1) := by decide +kernel
theorem dX4_stale_23 : decode cX4_stale 23 = .ok (.bipush 10, 2) := by decide +kernel
theorem dX4_stale_25 : decode cX4_stale 25 = .ok (.if_icmp .ge 39, 3) := by decide +kernel
theorem dX4_stale_28 : decode cX4_stale 28 = .ok (.iconst 0, 1) := by decide +kernel
theorem dX4_stale_29 : decode cX4_stale 29 = .ok (.istore 4, 2) := by decide +kernel
theorem dX4_stale_31 : decode cX4_stale 31 = .ok (.iload 4, 2) := by decide +kernel
theorem dX4_stale_33 : decode cX4_stale 33 = .ok (.bipush 6, 2) := by decide +kernel
theorem dX4_stale_35 : decode cX4_stale 35 = .ok (.if_icmp .ge 23, 3) := by decide +kernel
theorem dX4_stale_38 : decode cX4_stale 38 = .ok (.aload_n 0, 1) := by decide +kernel
theorem dX4_stale_39 : decode cX4_stale 39 = .ok (.iload_n 1, 1) := by decide +kernel
theorem dX4_stale_40 : decode cX4_stale 40 = .ok (.iload_n 3, 1) := by decide +kernel
theorem dX4_stale_41 : decode cX4_stale 41 = .ok (.iload 4, 2) := by decide +kernel
theorem dX4_stale_43 : decode cX4_stale 43 = .ok (.invokevirtual 198, 3) := by decide +kernel
theorem dX4_stale_46 : decode cX4_stale 46 = .ok (.ifCond .eq 6, 3) := by decide +kernel
theorem dX4_stale_49 : decode cX4_stale 49 = .ok (.iinc 2 1, 3) := by decide +kernel
theorem dX4_stale_52 : decode cX4_stale 52 = .ok (.iinc 4 1, 3) := by decide +kernel
theorem dX4_stale_55 : decode cX4_stale 55 = .ok (.goto (-24), 3) := by decide +kernel
theorem dX4_stale_58 : decode cX4_stale 58 = .ok (.iinc 3 1, 3) := by decide +kernel
theorem dX4_stale_61 : decode cX4_stale 61 = .ok (.goto (-39), 3) := by decide +kernel
theorem dX4_stale_64 : decode cX4_stale 64 = .ok (.iload_n 2, 1) := by decide +kernel
theorem dX4_stale_65 : decode cX4_stale 65 = .ok (.ireturn, 1) := by decide +kernel
theorem dX4_isOutside_0 : decode cX4_isOutside 0 = .ok (.iload_n 0, 1) := by decide +kernel
theorem dX4_isOutside_1 : decode cX4_isOutside 1 = .ok (.ifCond .lt 8, 3) := by decide +kernel
theorem dX4_isOutside_4 : decode cX4_isOutside 4 = .ok (.iload_n 0, 1) := by decide +kernel
theorem dX4_isOutside_5 : decode cX4_isOutside 5 = .ok (.iload_n 1, 1) := by decide +kernel
theorem dX4_isOutside_6 : decode cX4_isOutside 6 = .ok (.if_icmp .lt 7, 3) := by decide +kernel
theorem dX4_isOutside_9 : decode cX4_isOutside 9 = .ok (.iconst 1, 1) := by decide +kernel
theorem dX4_isOutside_10 : decode cX4_isOutside 10 = .ok (.goto 4, 3) := by decide +kernel
theorem dX4_isOutside_13 : decode cX4_isOutside 13 = .ok (.iconst 0, 1) := by decide +kernel
theorem dX4_isOutside_14 : decode cX4_isOutside 14 = .ok (.ireturn, 1) := by decide +kernel
theorem dX4_isBarred_0 : decode cX4_isBarred 0 = .ok (.aload_n 0, 1) := by decide +kernel
theorem dX4_isBarred_1 : decode cX4_isBarred 1 = .ok (.getfield 37, 3) := by decide +kernel
theorem dX4_isBarred_4 : decode cX4_isBarred 4 = .ok (.iload_n 1, 1) := by decide +kernel
theorem dX4_isBarred_5 : decode cX4_isBarred 5 = .ok (.iaload, 1) := by decide +kernel
theorem dX4_isBarred_6 : decode cX4_isBarred 6 = .ok (.iconst 3, 1) := by decide +kernel
theorem dX4_isBarred_7 : decode cX4_isBarred 7 = .ok (.if_icmp .ne 7, 3) := by decide +kernel
theorem dX4_isBarred_10 : decode cX4_isBarred 10 = .ok (.iconst 1, 1) := by decide +kernel
theorem dX4_isBarred_11 : decode cX4_isBarred 11 = .ok (.goto 4, 3) := by decide +kernel
theorem dX4_isBarred_14 : decode cX4_isBarred 14 = .ok (.iconst 0, 1) := by decide +kernel
theorem dX4_isBarred_15 : decode cX4_isBarred 15 = .ok (.ireturn, 1) := by decide +kernel
theorem dX4_holdsGlass_0 : decode cX4_holdsGlass 0 = .ok (.aload_n 0, 1) := by decide +kernel
theorem dX4_holdsGlass_1 : decode cX4_holdsGlass 1 = .ok (.getfield 44, 3) := by decide +kernel
theorem dX4_holdsGlass_4 : decode cX4_holdsGlass 4 = .ok (.aload_n 0, 1) := by decide +kernel
theorem dX4_holdsGlass_5 : decode cX4_holdsGlass 5 = .ok (.getfield 41, 3) := by decide +kernel
theorem dX4_holdsGlass_8 : decode cX4_holdsGlass 8 = .ok (.iload_n 1, 1) := by decide +kernel
theorem dX4_holdsGlass_9 : decode cX4_holdsGlass 9 = .ok (.bipush 6, 2) := by decide +kernel
theorem dX4_holdsGlass_11 : decode cX4_holdsGlass 11 = .ok (.imul, 1) := by decide +kernel
theorem dX4_holdsGlass_12 : decode cX4_holdsGlass 12 = .ok (.iload_n 2, 1) := by decide +kernel
theorem dX4_holdsGlass_13 : decode cX4_holdsGlass 13 = .ok (.iadd, 1) := by decide +kernel
theorem dX4_holdsGlass_14 : decode cX4_holdsGlass 14 = .ok (.iaload, 1) := by decide +kernel
theorem dX4_holdsGlass_15 : decode cX4_holdsGlass 15 = .ok (.if_icmp .ge 7, 3) := by decide +kernel
theorem dX4_holdsGlass_18 : decode cX4_holdsGlass 18 = .ok (.iconst 1, 1) := by decide +kernel
theorem dX4_holdsGlass_19 : decode cX4_holdsGlass 19 = .ok (.goto 4, 3) := by decide +kernel
theorem dX4_holdsGlass_22 : decode cX4_holdsGlass 22 = .ok (.iconst 0, 1) := by decide +kernel
theorem dX4_holdsGlass_23 : decode cX4_holdsGlass 23 = .ok (.ireturn, 1) := by decide +kernel
set_option maxRecDepth 20000 in
theorem ggX4_servesAsWitness_X4_isBarred : GoodIn wsX4_servesAsWitness wsX4_isBarred := goodIn_r _ [6, 7, 27, 28, 29, 30, 31, 32, 33] (by decide +kernel) (by decide +kernel)
set_option maxRecDepth 20000 in
theorem gX4_servesAsWitness_X4_isBarred : GoodIn wsX4_servesAsWitness (wsV RX4 103 RX4 yX4_isBarred wsX4_isBarred) := goodIn_app (goodIn_of _ (by decide +kernel)) ggX4_servesAsWitness_X4_isBarred
set_option maxRecDepth 20000 in
theorem ggX4_servesAsWitness_X1_anyGrants : GoodIn wsX4_servesAsWitness wsX1_anyGrants := goodIn_r _ [12, 13, 14, 15, 16, 17, 11, 18, 19, 20, 21, 22, 23, 24, 25, 26, 34, 35, 36, 37] (by decide +kernel) (by decide +kernel)
set_option maxRecDepth 20000 in
theorem gX4_servesAsWitness_X1_anyGrants : GoodIn wsX4_servesAsWitness (wsV RX4 202 RX1 yX1_anyGrants wsX1_anyGrants) := goodIn_app (goodIn_of _ (by decide +kernel)) ggX4_servesAsWitness_X1_anyGrants
theorem dX4_servesAsWitness_0 : decode cX4_servesAsWitness 0 = .ok (.aload_n 0, 1) := by decide +kernel
theorem dX4_servesAsWitness_1 : decode cX4_servesAsWitness 1 = .ok (.iload_n 1, 1) := by decide +kernel
theorem dX4_servesAsWitness_2 : decode cX4_servesAsWitness 2 = .ok (.invokevirtual 103, 3) := by decide +kernel
theorem dX4_servesAsWitness_5 : decode cX4_servesAsWitness 5 = .ok (.ifCond .ne 19, 3) := by decide +kernel
theorem dX4_servesAsWitness_8 : decode cX4_servesAsWitness 8 = .ok (.aload_n 0, 1) := by decide +kernel
theorem dX4_servesAsWitness_9 : decode cX4_servesAsWitness 9 = .ok (.getfield 10, 3) := by decide +kernel
theorem dX4_servesAsWitness_12 : decode cX4_servesAsWitness 12 = .ok (.iload_n 1, 1) := by decide +kernel
theorem dX4_servesAsWitness_13 : decode cX4_servesAsWitness 13 = .ok (.iload_n 2, 1) := by decide +kernel
theorem dX4_servesAsWitness_14 : decode cX4_servesAsWitness 14 = .ok (.invokevirtual 202, 3) := by decide +kernel
theorem dX4_servesAsWitness_17 : decode cX4_servesAsWitness 17 = .ok (.ifCond .eq 7, 3) := by decide +kernel
theorem dX4_servesAsWitness_20 : decode cX4_servesAsWitness 20 = .ok (.iconst 1, 1) := by decide +kernel
theorem dX4_servesAsWitness_21 : decode cX4_servesAsWitness 21 = .ok (.goto 4, 3) := by decide +kernel
theorem dX4_servesAsWitness_24 : decode cX4_servesAsWitness 24 = .ok (.iconst 0, 1) := by decide +kernel
theorem dX4_servesAsWitness_25 : decode cX4_servesAsWitness 25 = .ok (.ireturn, 1) := by decide +kernel
set_option maxRecDepth 20000 in
theorem ggX4_answerOfHouse_X4_isBarred : GoodIn wsX4_answerOfHouse wsX4_isBarred := goodIn_r _ [6, 7, 38, 39, 40, 41, 42, 43, 44] (by decide +kernel) (by decide +kernel)
set_option maxRecDepth 20000 in
theorem gX4_answerOfHouse_X4_isBarred : GoodIn wsX4_answerOfHouse (wsV RX4 103 RX4 yX4_isBarred wsX4_isBarred) := goodIn_app (goodIn_of _ (by decide +kernel)) ggX4_answerOfHouse_X4_isBarred
set_option maxRecDepth 20000 in
theorem ggX4_answerOfHouse_X1_anyGrants : GoodIn wsX4_answerOfHouse wsX1_anyGrants := goodIn_r _ [12, 13, 14, 15, 16, 17, 11, 18, 19, 20, 21, 22, 23, 24, 25, 26, 45, 46, 47, 48] (by decide +kernel) (by decide +kernel)
set_option maxRecDepth 20000 in
theorem gX4_answerOfHouse_X1_anyGrants : GoodIn wsX4_answerOfHouse (wsV RX4 202 RX1 yX1_anyGrants wsX1_anyGrants) := goodIn_app (goodIn_of _ (by decide +kernel)) ggX4_answerOfHouse_X1_anyGrants
set_option maxRecDepth 20000 in
theorem ggX4_answerOfHouse_X1_anyDenies : GoodIn wsX4_answerOfHouse wsX1_anyDenies := goodIn_r _ [30, 13, 31, 15, 16, 17, 11, 18, 19, 20, 21, 22, 23, 24, 25, 26, 45, 46, 47, 48] (by decide +kernel) (by decide +kernel)
set_option maxRecDepth 20000 in
theorem gX4_answerOfHouse_X1_anyDenies : GoodIn wsX4_answerOfHouse (wsV RX4 205 RX1 yX1_anyDenies wsX1_anyDenies) := goodIn_app (goodIn_of _ (by decide +kernel)) ggX4_answerOfHouse_X1_anyDenies
set_option maxRecDepth 20000 in
theorem ggX4_answerOfHouse_X4_holdsGlass : GoodIn wsX4_answerOfHouse wsX4_holdsGlass := goodIn_r _ [35, 36, 37, 38, 39, 40, 41, 42, 43, 44] (by decide +kernel) (by decide +kernel)
set_option maxRecDepth 20000 in
theorem gX4_answerOfHouse_X4_holdsGlass : GoodIn wsX4_answerOfHouse (wsV RX4 208 RX4 yX4_holdsGlass wsX4_holdsGlass) := goodIn_app (goodIn_of _ (by decide +kernel)) ggX4_answerOfHouse_X4_holdsGlass
theorem dX4_answerOfHouse_0 : decode cX4_answerOfHouse 0 = .ok (.aload_n 0, 1) := by decide +kernel
theorem dX4_answerOfHouse_1 : decode cX4_answerOfHouse 1 = .ok (.iload_n 1, 1) := by decide +kernel
theorem dX4_answerOfHouse_2 : decode cX4_answerOfHouse 2 = .ok (.invokevirtual 103, 3) := by decide +kernel
theorem dX4_answerOfHouse_5 : decode cX4_answerOfHouse 5 = .ok (.ifCond .eq 5, 3) := by decide +kernel
theorem dX4_answerOfHouse_8 : decode cX4_answerOfHouse 8 = .ok (.iconst 1, 1) := by decide +kernel
theorem dX4_answerOfHouse_9 : decode cX4_answerOfHouse 9 = .ok (.ireturn, 1) := by decide +kernel
theorem dX4_answerOfHouse_10 : decode cX4_answerOfHouse 10 = .ok (.aload_n 0, 1) := by decide +kernel
theorem dX4_answerOfHouse_11 : decode cX4_answerOfHouse 11 = .ok (.getfield 10, 3) := by decide +kernel
theorem dX4_answerOfHouse_14 : decode cX4_answerOfHouse 14 = .ok (.iload_n 1, 1) := by decide +kernel
theorem dX4_answerOfHouse_15 : decode cX4_answerOfHouse 15 = .ok (.iload_n 2, 1) := by decide +kernel
theorem dX4_answerOfHouse_16 : decode cX4_answerOfHouse 16 = .ok (.invokevirtual 202, 3) := by decide +kernel
theorem dX4_answerOfHouse_19 : decode cX4_answerOfHouse 19 = .ok (.ifCond .eq 19, 3) := by decide +kernel
theorem dX4_answerOfHouse_22 : decode cX4_answerOfHouse 22 = .ok (.aload_n 0, 1) := by decide +kernel
theorem dX4_answerOfHouse_23 : decode cX4_answerOfHouse 23 = .ok (.getfield 10, 3) := by decide +kernel
theorem dX4_answerOfHouse_26 : decode cX4_answerOfHouse 26 = .ok (.iload_n 1, 1) := by decide +kernel
theorem dX4_answerOfHouse_27 : decode cX4_answerOfHouse 27 = .ok (.iload_n 2, 1) := by decide +kernel
theorem dX4_answerOfHouse_28 : decode cX4_answerOfHouse 28 = .ok (.invokevirtual 205, 3) := by decide +kernel
theorem dX4_answerOfHouse_31 : decode cX4_answerOfHouse 31 = .ok (.ifCond .ne 7, 3) := by decide +kernel
theorem dX4_answerOfHouse_34 : decode cX4_answerOfHouse 34 = .ok (.iconst 1, 1) := by decide +kernel
theorem dX4_answerOfHouse_35 : decode cX4_answerOfHouse 35 = .ok (.goto 4, 3) := by decide +kernel
theorem dX4_answerOfHouse_38 : decode cX4_answerOfHouse 38 = .ok (.iconst 0, 1) := by decide +kernel
theorem dX4_answerOfHouse_39 : decode cX4_answerOfHouse 39 = .ok (.istore_n 3, 1) := by decide +kernel
theorem dX4_answerOfHouse_40 : decode cX4_answerOfHouse 40 = .ok (.iload_n 3, 1) := by decide +kernel
theorem dX4_answerOfHouse_41 : decode cX4_answerOfHouse 41 = .ok (.ifCond .ne 12, 3) := by decide +kernel
theorem dX4_answerOfHouse_44 : decode cX4_answerOfHouse 44 = .ok (.aload_n 0, 1) := by decide +kernel
theorem dX4_answerOfHouse_45 : decode cX4_answerOfHouse 45 = .ok (.iload_n 1, 1) := by decide +kernel
theorem dX4_answerOfHouse_46 : decode cX4_answerOfHouse 46 = .ok (.iload_n 2, 1) := by decide +kernel
theorem dX4_answerOfHouse_47 : decode cX4_answerOfHouse 47 = .ok (.invokevirtual 208, 3) := by decide +kernel
theorem dX4_answerOfHouse_50 : decode cX4_answerOfHouse 50 = .ok (.ifCond .eq 7, 3) := by decide +kernel
theorem dX4_answerOfHouse_53 : decode cX4_answerOfHouse 53 = .ok (.iconst 0, 1) := by decide +kernel
theorem dX4_answerOfHouse_54 : decode cX4_answerOfHouse 54 = .ok (.goto 4, 3) := by decide +kernel
theorem dX4_answerOfHouse_57 : decode cX4_answerOfHouse 57 = .ok (.iconst 1, 1) := by decide +kernel
theorem dX4_answerOfHouse_58 : decode cX4_answerOfHouse 58 = .ok (.ireturn, 1) := by decide +kernel
set_option maxRecDepth 20000 in
theorem ggX4_answerOfApp_X0_areKept : GoodIn wsX4_answerOfApp wsX0_areKept := goodIn_r _ [7, 8, 9, 10, 6, 11, 69, 70, 71] (by decide +kernel) (by decide +kernel)
set_option maxRecDepth 20000 in
theorem gX4_answerOfApp_X0_areKept : GoodIn wsX4_answerOfApp (wsV RX4 211 RX0 yX0_areKept wsX0_areKept) := goodIn_app (goodIn_of _ (by decide +kernel)) ggX4_answerOfApp_X0_areKept
set_option maxRecDepth 20000 in
theorem ggX4_answerOfApp_X0_answer : GoodIn wsX4_answerOfApp wsX0_answer := goodIn_r _ [15, 8, 9, 10, 6, 11, 69, 70, 71] (by decide +kernel) (by decide +kernel)
set_option maxRecDepth 20000 in
theorem gX4_answerOfApp_X0_answer : GoodIn wsX4_answerOfApp (wsV RX4 214 RX0 yX0_answer wsX0_answer) := goodIn_app (goodIn_of _ (by decide +kernel)) ggX4_answerOfApp_X0_answer
set_option maxRecDepth 20000 in
theorem ggX4_answerOfApp_X4_answerOfHouse : GoodIn wsX4_answerOfApp wsX4_answerOfHouse := goodIn_r _ [20, 21, 22, 23, 24, 19, 25, 26, 27, 28, 29, 30, 31, 32, 33, 34, 35, 36, 37, 38, 39, 40, 41, 42, 43, 44, 45, 46, 47, 48, 49, 50, 51, 52, 53, 54, 2, 55, 62, 63, 64, 65, 66, 67, 68, 72, 73, 74, 75] (by decide +kernel) (by decide +kernel)
set_option maxRecDepth 20000 in
theorem gX4_answerOfApp_X4_answerOfHouse : GoodIn wsX4_answerOfApp (wsV RX4 97 RX4 yX4_answerOfHouse wsX4_answerOfHouse) := goodIn_app (goodIn_of _ (by decide +kernel)) ggX4_answerOfApp_X4_answerOfHouse
set_option maxRecDepth 20000 in
theorem ggX4_answerOfApp_X0_keep : GoodIn wsX4_answerOfApp wsX0_keep := goodIn_r _ [59, 60, 8, 61, 9, 10, 6, 11, 69, 70, 71] (by decide +kernel) (by decide +kernel)
set_option maxRecDepth 20000 in
theorem gX4_answerOfApp_X0_keep : GoodIn wsX4_answerOfApp (wsV RX4 217 RX0 yX0_keep wsX0_keep) := goodIn_app (goodIn_of _ (by decide +kernel)) ggX4_answerOfApp_X0_keep
theorem dX4_answerOfApp_0 : decode cX4_answerOfApp 0 = .ok (.aload_n 0, 1) := by decide +kernel
theorem dX4_answerOfApp_1 : decode cX4_answerOfApp 1 = .ok (.getfield 33, 3) := by decide +kernel
theorem dX4_answerOfApp_4 : decode cX4_answerOfApp 4 = .ok (.iload_n 1, 1) := by decide +kernel
theorem dX4_answerOfApp_5 : decode cX4_answerOfApp 5 = .ok (.iload_n 2, 1) := by decide +kernel
theorem dX4_answerOfApp_6 : decode cX4_answerOfApp 6 = .ok (.iload_n 3, 1) := by decide +kernel
theorem dX4_answerOfApp_7 : decode cX4_answerOfApp 7 = .ok (.invokevirtual 211, 3) := by decide +kernel
theorem dX4_answerOfApp_10 : decode cX4_answerOfApp 10 = .ok (.ifCond .eq 14, 3) := by decide +kernel
theorem dX4_answerOfApp_13 : decode cX4_answerOfApp 13 = .ok (.aload_n 0, 1) := by decide +kernel
theorem dX4_answerOfApp_14 : decode cX4_answerOfApp 14 = .ok (.getfield 33, 3) := by decide +kernel
theorem dX4_answerOfApp_17 : decode cX4_answerOfApp 17 = .ok (.iload_n 1, 1) := by decide +kernel
theorem dX4_answerOfApp_18 : decode cX4_answerOfApp 18 = .ok (.iload_n 2, 1) := by decide +kernel
theorem dX4_answerOfApp_19 : decode cX4_answerOfApp 19 = .ok (.iload_n 3, 1) := by decide +kernel
theorem dX4_answerOfApp_20 : decode cX4_answerOfApp 20 = .ok (.invokevirtual 214, 3) := by decide +kernel
theorem dX4_answerOfApp_23 : decode cX4_answerOfApp 23 = .ok (.ireturn, 1) := by decide +kernel
theorem dX4_answerOfApp_24 : decode cX4_answerOfApp 24 = .ok (.aload_n 0, 1) := by decide +kernel
theorem dX4_answerOfApp_25 : decode cX4_answerOfApp 25 = .ok (.iload_n 2, 1) := by decide +kernel
theorem dX4_answerOfApp_26 : decode cX4_answerOfApp 26 = .ok (.iload_n 3, 1) := by decide +kernel
theorem dX4_answerOfApp_27 : decode cX4_answerOfApp 27 = .ok (.invokevirtual 97, 3) := by decide +kernel
theorem dX4_answerOfApp_30 : decode cX4_answerOfApp 30 = .ok (.istore 4, 2) := by decide +kernel
theorem dX4_answerOfApp_32 : decode cX4_answerOfApp 32 = .ok (.aload_n 0, 1) := by decide +kernel
theorem dX4_answerOfApp_33 : decode cX4_answerOfApp 33 = .ok (.getfield 33, 3) := by decide +kernel
theorem dX4_answerOfApp_36 : decode cX4_answerOfApp 36 = .ok (.iload_n 1, 1) := by decide +kernel
theorem dX4_answerOfApp_37 : decode cX4_answerOfApp 37 = .ok (.iload_n 2, 1) := by decide +kernel
theorem dX4_answerOfApp_38 : decode cX4_answerOfApp 38 = .ok (.iload_n 3, 1) := by decide +kernel
theorem dX4_answerOfApp_39 : decode cX4_answerOfApp 39 = .ok (.iload 4, 2) := by decide +kernel
theorem dX4_answerOfApp_41 : decode cX4_answerOfApp 41 = .ok (.aload_n 0, 1) := by decide +kernel
theorem dX4_answerOfApp_42 : decode cX4_answerOfApp 42 = .ok (.getfield 44, 3) := by decide +kernel
theorem dX4_answerOfApp_45 : decode cX4_answerOfApp 45 = .ok (.invokevirtual 217, 3) := by decide +kernel
theorem dX4_answerOfApp_48 : decode cX4_answerOfApp 48 = .ok (.iload 4, 2) := by decide +kernel
theorem dX4_answerOfApp_50 : decode cX4_answerOfApp 50 = .ok (.ireturn, 1) := by decide +kernel
set_option maxRecDepth 20000 in
theorem ggX4_isStale_X0_areKept : GoodIn wsX4_isStale wsX0_areKept := goodIn_r _ [6, 7, 8, 9, 5, 10, 63, 64, 65] (by decide +kernel) (by decide +kernel)
set_option maxRecDepth 20000 in
theorem gX4_isStale_X0_areKept : GoodIn wsX4_isStale (wsV RX4 211 RX0 yX0_areKept wsX0_areKept) := goodIn_app (goodIn_of _ (by decide +kernel)) ggX4_isStale_X0_areKept
set_option maxRecDepth 20000 in
theorem ggX4_isStale_X0_answer : GoodIn wsX4_isStale wsX0_answer := goodIn_r _ [14, 7, 8, 9, 5, 10, 63, 64, 65] (by decide +kernel) (by decide +kernel)
set_option maxRecDepth 20000 in
theorem gX4_isStale_X0_answer : GoodIn wsX4_isStale (wsV RX4 214 RX0 yX0_answer wsX0_answer) := goodIn_app (goodIn_of _ (by decide +kernel)) ggX4_isStale_X0_answer
set_option maxRecDepth 20000 in
theorem ggX4_isStale_X4_answerOfHouse : GoodIn wsX4_isStale wsX4_answerOfHouse := goodIn_r _ [19, 20, 21, 22, 23, 18, 24, 25, 26, 27, 28, 29, 30, 31, 32, 33, 34, 35, 36, 37, 38, 39, 40, 41, 42, 43, 44, 45, 46, 47, 48, 49, 50, 51, 52, 53, 54, 55, 56, 57, 58, 59, 60, 61, 62, 66, 67, 68, 69] (by decide +kernel) (by decide +kernel)
set_option maxRecDepth 20000 in
theorem gX4_isStale_X4_answerOfHouse : GoodIn wsX4_isStale (wsV RX4 97 RX4 yX4_answerOfHouse wsX4_answerOfHouse) := goodIn_app (goodIn_of _ (by decide +kernel)) ggX4_isStale_X4_answerOfHouse
theorem dX4_isStale_0 : decode cX4_isStale 0 = .ok (.aload_n 0, 1) := by decide +kernel
theorem dX4_isStale_1 : decode cX4_isStale 1 = .ok (.getfield 33, 3) := by decide +kernel
theorem dX4_isStale_4 : decode cX4_isStale 4 = .ok (.iload_n 1, 1) := by decide +kernel
theorem dX4_isStale_5 : decode cX4_isStale 5 = .ok (.iload_n 2, 1) := by decide +kernel
theorem dX4_isStale_6 : decode cX4_isStale 6 = .ok (.iload_n 3, 1) := by decide +kernel
theorem dX4_isStale_7 : decode cX4_isStale 7 = .ok (.invokevirtual 211, 3) := by decide +kernel
theorem dX4_isStale_10 : decode cX4_isStale 10 = .ok (.ifCond .eq 26, 3) := by decide +kernel
theorem dX4_isStale_13 : decode cX4_isStale 13 = .ok (.aload_n 0, 1) := by decide +kernel
theorem dX4_isStale_14 : decode cX4_isStale 14 = .ok (.getfield 33, 3) := by decide +kernel
theorem dX4_isStale_17 : decode cX4_isStale 17 = .ok (.iload_n 1, 1) := by decide +kernel
theorem dX4_isStale_18 : decode cX4_isStale 18 = .ok (.iload_n 2, 1) := by decide +kernel
theorem dX4_isStale_19 : decode cX4_isStale 19 = .ok (.iload_n 3, 1) := by decide +kernel
theorem dX4_isStale_20 : decode cX4_isStale 20 = .ok (.invokevirtual 214, 3) := by decide +kernel
theorem dX4_isStale_23 : decode cX4_isStale 23 = .ok (.aload_n 0, 1) := by decide +kernel
theorem dX4_isStale_24 : decode cX4_isStale 24 = .ok (.iload_n 2, 1) := by decide +kernel
theorem dX4_isStale_25 : decode cX4_isStale 25 = .ok (.iload_n 3, 1) := by decide +kernel
theorem dX4_isStale_26 : decode cX4_isStale 26 = .ok (.invokevirtual 97, 3) := by decide +kernel
theorem dX4_isStale_29 : decode cX4_isStale 29 = .ok (.if_icmp .eq 7, 3) := by decide +kernel
theorem dX4_isStale_32 : decode cX4_isStale 32 = .ok (.iconst 1, 1) := by decide +kernel
theorem dX4_isStale_33 : decode cX4_isStale 33 = .ok (.goto 4, 3) := by decide +kernel
theorem dX4_isStale_36 : decode cX4_isStale 36 = .ok (.iconst 0, 1) := by decide +kernel
theorem dX4_isStale_37 : decode cX4_isStale 37 = .ok (.ireturn, 1) := by decide +kernel
theorem dJ7_fill_53178_0 : decode cJ7_fill_53178 0 = .ok (.iconst 0, 1) := by decide +kernel
theorem dJ7_fill_53178_1 : decode cJ7_fill_53178 1 = .ok (.istore_n 2, 1) := by decide +kernel
theorem dJ7_fill_53178_2 : decode cJ7_fill_53178 2 = .ok (.aload_n 0, 1) := by decide +kernel
theorem dJ7_fill_53178_3 : decode cJ7_fill_53178 3 = .ok (.arraylength, 1) := by decide +kernel
theorem dJ7_fill_53178_4 : decode cJ7_fill_53178 4 = .ok (.istore_n 3, 1) := by decide +kernel
theorem dJ7_fill_53178_5 : decode cJ7_fill_53178 5 = .ok (.iload_n 2, 1) := by decide +kernel
theorem dJ7_fill_53178_6 : decode cJ7_fill_53178 6 = .ok (.iload_n 3, 1) := by decide +kernel
theorem dJ7_fill_53178_7 : decode cJ7_fill_53178 7 = .ok (.if_icmp .ge 13, 3) := by decide +kernel
theorem dJ7_fill_53178_10 : decode cJ7_fill_53178 10 = .ok (.aload_n 0, 1) := by decide +kernel
theorem dJ7_fill_53178_11 : decode cJ7_fill_53178 11 = .ok (.iload_n 2, 1) := by decide +kernel
theorem dJ7_fill_53178_12 : decode cJ7_fill_53178 12 = .ok (.iload_n 1, 1) := by decide +kernel
theorem dJ7_fill_53178_13 : decode cJ7_fill_53178 13 = .ok (.iastore, 1) := by decide +kernel
theorem dJ7_fill_53178_14 : decode cJ7_fill_53178 14 = .ok (.iinc 2 1, 3) := by decide +kernel
theorem dJ7_fill_53178_17 : decode cJ7_fill_53178 17 = .ok (.goto (-12), 3) := by decide +kernel
theorem dJ7_fill_53178_20 : decode cJ7_fill_53178 20 = .ok (.return_, 1) := by decide +kernel
theorem dL_cell_0 : decode cL_cell 0 = .ok (.iload_n 1, 1) := by decide +kernel
theorem dL_cell_1 : decode cL_cell 1 = .ok (.aload_n 0, 1) := by decide +kernel
theorem dL_cell_2 : decode cL_cell 2 = .ok (.arraylength, 1) := by decide +kernel
theorem dL_cell_3 : decode cL_cell 3 = .ok (.if_icmp .ge 9, 3) := by decide +kernel
theorem dL_cell_6 : decode cL_cell 6 = .ok (.aload_n 0, 1) := by decide +kernel
theorem dL_cell_7 : decode cL_cell 7 = .ok (.iload_n 1, 1) := by decide +kernel
theorem dL_cell_8 : decode cL_cell 8 = .ok (.iaload, 1) := by decide +kernel
theorem dL_cell_9 : decode cL_cell 9 = .ok (.goto 13, 3) := by decide +kernel
theorem dL_cell_12 : decode cL_cell 12 = .ok (.ldc 7, 2) := by decide +kernel
theorem dL_cell_14 : decode cL_cell 14 = .ok (.iload_n 1, 1) := by decide +kernel
theorem dL_cell_15 : decode cL_cell 15 = .ok (.bipush 19, 2) := by decide +kernel
theorem dL_cell_17 : decode cL_cell 17 = .ok (.iadd, 1) := by decide +kernel
theorem dL_cell_18 : decode cL_cell 18 = .ok (.imul, 1) := by decide +kernel
theorem dL_cell_19 : decode cL_cell 19 = .ok (.ldc 8, 2) := by decide +kernel
theorem dL_cell_21 : decode cL_cell 21 = .ok (.iadd, 1) := by decide +kernel
theorem dL_cell_22 : decode cL_cell 22 = .ok (.ireturn, 1) := by decide +kernel
theorem dL_low_0 : decode cL_low 0 = .ok (.iload_n 0, 1) := by decide +kernel
theorem dL_low_1 : decode cL_low 1 = .ok (.ldc 9, 2) := by decide +kernel
theorem dL_low_3 : decode cL_low 3 = .ok (.iand, 1) := by decide +kernel
theorem dL_low_4 : decode cL_low 4 = .ok (.iload_n 1, 1) := by decide +kernel
theorem dL_low_5 : decode cL_low 5 = .ok (.irem, 1) := by decide +kernel
theorem dL_low_6 : decode cL_low 6 = .ok (.ireturn, 1) := by decide +kernel
set_option maxRecDepth 20000 in
theorem ggL_calls_X4_setGroup : GoodIn wsL_calls wsX4_setGroup := goodIn_ca (goodIn_ca (goodIn_r _ [7, 8, 9, 10, 11, 12, 13, 14, 6, 15, 16, 17, 18, 19, 20, 21, 22, 23, 24, 25, 26, 27, 28, 29, 30, 31, 32, 33, 34, 35, 36, 37, 38, 39, 110, 111, 112, 113, 114, 115, 116, 117, 118, 119, 120] (by decide +kernel) (by decide +kernel)) (goodIn_sub (fun _ h => List.mem_cons_of_mem _ (List.mem_append_left _ (List.mem_append_left _ (List.mem_append_right _ h)))) (by decide +kernel))) (goodIn_sub (fun _ h => List.mem_cons_of_mem _ (List.mem_append_left _ (List.mem_append_right _ h))) (by decide +kernel))
set_option maxRecDepth 20000 in
theorem gL_calls_X4_setGroup : GoodIn wsL_calls (wsV RL 10 RX4 yX4_setGroup wsX4_setGroup) := goodIn_app (goodIn_of _ (by decide +kernel)) ggL_calls_X4_setGroup
set_option maxRecDepth 20000 in
theorem ggL_calls_X4_open : GoodIn wsL_calls wsX4_open := goodIn_ca (goodIn_ca (goodIn_r _ [43, 8, 9, 10, 11, 44, 45, 46, 13, 14, 6, 15, 47, 48, 49, 50, 51, 52, 53, 54, 55, 56, 57, 58, 59, 60, 61, 62, 63, 64, 65, 66, 67, 68, 69, 70, 71, 110, 111, 112, 113, 114, 115, 116, 121, 122, 123, 124, 125, 126, 127, 128] (by decide +kernel) (by decide +kernel)) (goodIn_sub (fun _ h => List.mem_cons_of_mem _ (List.mem_append_left _ (List.mem_append_left _ (List.mem_append_right _ h)))) (by decide +kernel))) (goodIn_sub (fun _ h => List.mem_cons_of_mem _ (List.mem_append_left _ (List.mem_append_right _ h))) (by decide +kernel))
set_option maxRecDepth 20000 in
theorem gL_calls_X4_open : GoodIn wsL_calls (wsV RL 16 RX4 yX4_open wsX4_open) := goodIn_app (goodIn_of _ (by decide +kernel)) ggL_calls_X4_open
set_option maxRecDepth 20000 in
theorem ggL_calls_X4_close : GoodIn wsL_calls wsX4_close := goodIn_ca (goodIn_ca (goodIn_r _ [75, 76, 77, 10, 11, 44, 46, 78, 79, 80, 55, 81, 57, 82, 83, 84, 85, 86, 87, 88, 89, 90, 91, 92, 93, 94, 70, 110, 111, 112, 113, 114, 115, 116, 121, 122, 123, 124, 125, 126] (by decide +kernel) (by decide +kernel)) (goodIn_sub (fun _ h => List.mem_cons_of_mem _ (List.mem_append_right _ h)) (by decide +kernel))) (goodIn_sub (fun _ h => List.mem_cons_of_mem _ (List.mem_append_left _ (List.mem_append_right _ h))) (by decide +kernel))
set_option maxRecDepth 20000 in
theorem gL_calls_X4_close : GoodIn wsL_calls (wsV RL 20 RX4 yX4_close wsX4_close) := goodIn_app (goodIn_of _ (by decide +kernel)) ggL_calls_X4_close
set_option maxRecDepth 20000 in
theorem ggL_calls_X4_breakGlass : GoodIn wsL_calls wsX4_breakGlass := goodIn_ca (goodIn_ca (goodIn_r _ [98, 8, 9, 10, 11, 46, 99, 13, 14, 6, 15, 100, 101, 102, 103, 12, 47, 48, 49, 50, 51, 104, 105, 106, 19, 107, 108, 109, 22, 23, 24, 25, 26, 27, 28, 29, 21, 30, 31, 32, 110, 111, 112, 113, 114, 115, 116, 117, 118, 119, 120] (by decide +kernel) (by decide +kernel)) (goodIn_sub (fun _ h => List.mem_cons_of_mem _ (List.mem_append_left _ (List.mem_append_left _ (List.mem_append_right _ h)))) (by decide +kernel))) (goodIn_sub (fun _ h => List.mem_cons_of_mem _ (List.mem_append_left _ (List.mem_append_right _ h))) (by decide +kernel))
set_option maxRecDepth 20000 in
theorem gL_calls_X4_breakGlass : GoodIn wsL_calls (wsV RL 23 RX4 yX4_breakGlass wsX4_breakGlass) := goodIn_app (goodIn_of _ (by decide +kernel)) ggL_calls_X4_breakGlass
theorem dL_calls_0 : decode cL_calls 0 = .ok (.iload_n 1, 1) := by decide +kernel
theorem dL_calls_1 : decode cL_calls 1 = .ok (.ifCond .ne 31, 3) := by decide +kernel
theorem dL_calls_4 : decode cL_calls 4 = .ok (.aload_n 0, 1) := by decide +kernel
theorem dL_calls_5 : decode cL_calls 5 = .ok (.iload_n 2, 1) := by decide +kernel
theorem dL_calls_6 : decode cL_calls 6 = .ok (.iload_n 3, 1) := by decide +kernel
theorem dL_calls_7 : decode cL_calls 7 = .ok (.iload 4, 2) := by decide +kernel
theorem dL_calls_9 : decode cL_calls 9 = .ok (.iconst 1, 1) := by decide +kernel
theorem dL_calls_10 : decode cL_calls 10 = .ok (.if_icmp .ne 7, 3) := by decide +kernel
theorem dL_calls_13 : decode cL_calls 13 = .ok (.iconst 1, 1) := by decide +kernel
theorem dL_calls_14 : decode cL_calls 14 = .ok (.goto 4, 3) := by decide +kernel
theorem dL_calls_17 : decode cL_calls 17 = .ok (.iconst 0, 1) := by decide +kernel
theorem dL_calls_18 : decode cL_calls 18 = .ok (.invokevirtual 10, 3) := by decide +kernel
theorem dL_calls_21 : decode cL_calls 21 = .ok (.ifCond .eq 7, 3) := by decide +kernel
theorem dL_calls_24 : decode cL_calls 24 = .ok (.iconst 1, 1) := by decide +kernel
theorem dL_calls_25 : decode cL_calls 25 = .ok (.goto 43, 3) := by decide +kernel
theorem dL_calls_28 : decode cL_calls 28 = .ok (.iconst 0, 1) := by decide +kernel
theorem dL_calls_29 : decode cL_calls 29 = .ok (.goto 39, 3) := by decide +kernel
theorem dL_calls_32 : decode cL_calls 32 = .ok (.iload_n 1, 1) := by decide +kernel
theorem dL_calls_33 : decode cL_calls 33 = .ok (.iconst 1, 1) := by decide +kernel
theorem dL_calls_34 : decode cL_calls 34 = .ok (.if_icmp .ne 11, 3) := by decide +kernel
theorem dL_calls_37 : decode cL_calls 37 = .ok (.aload_n 0, 1) := by decide +kernel
theorem dL_calls_38 : decode cL_calls 38 = .ok (.iload_n 2, 1) := by decide +kernel
theorem dL_calls_39 : decode cL_calls 39 = .ok (.invokevirtual 16, 3) := by decide +kernel
theorem dL_calls_42 : decode cL_calls 42 = .ok (.goto 26, 3) := by decide +kernel
theorem dL_calls_45 : decode cL_calls 45 = .ok (.iload_n 1, 1) := by decide +kernel
theorem dL_calls_46 : decode cL_calls 46 = .ok (.iconst 2, 1) := by decide +kernel
theorem dL_calls_47 : decode cL_calls 47 = .ok (.if_icmp .ne 11, 3) := by decide +kernel
theorem dL_calls_50 : decode cL_calls 50 = .ok (.aload_n 0, 1) := by decide +kernel
theorem dL_calls_51 : decode cL_calls 51 = .ok (.iload_n 2, 1) := by decide +kernel
theorem dL_calls_52 : decode cL_calls 52 = .ok (.invokevirtual 20, 3) := by decide +kernel
theorem dL_calls_55 : decode cL_calls 55 = .ok (.goto 13, 3) := by decide +kernel
theorem dL_calls_58 : decode cL_calls 58 = .ok (.aload_n 0, 1) := by decide +kernel
theorem dL_calls_59 : decode cL_calls 59 = .ok (.iload_n 2, 1) := by decide +kernel
theorem dL_calls_60 : decode cL_calls 60 = .ok (.iload_n 3, 1) := by decide +kernel
theorem dL_calls_61 : decode cL_calls 61 = .ok (.iload 4, 2) := by decide +kernel
theorem dL_calls_63 : decode cL_calls 63 = .ok (.iload 5, 2) := by decide +kernel
theorem dL_calls_65 : decode cL_calls 65 = .ok (.invokevirtual 23, 3) := by decide +kernel
theorem dL_calls_68 : decode cL_calls 68 = .ok (.ireturn, 1) := by decide +kernel
theorem dL_calls_69 : decode cL_calls 69 = .ok (.astore 6, 2) := by decide +kernel
theorem dL_calls_71 : decode cL_calls 71 = .ok (.bipush (-2), 2) := by decide +kernel
theorem dL_calls_73 : decode cL_calls 73 = .ok (.ireturn, 1) := by decide +kernel
theorem dL_calls_74 : decode cL_calls 74 = .ok (.astore 6, 2) := by decide +kernel
theorem dL_calls_76 : decode cL_calls 76 = .ok (.bipush (-3), 2) := by decide +kernel
theorem dL_calls_78 : decode cL_calls 78 = .ok (.ireturn, 1) := by decide +kernel
theorem dL_isIn_0 : decode cL_isIn 0 = .ok (.iconst 1, 1) := by decide +kernel
theorem dL_isIn_1 : decode cL_isIn 1 = .ok (.iload_n 0, 1) := by decide +kernel
theorem dL_isIn_2 : decode cL_isIn 2 = .ok (.ishl, 1) := by decide +kernel
theorem dL_isIn_3 : decode cL_isIn 3 = .ok (.istore_n 3, 1) := by decide +kernel
theorem dL_isIn_4 : decode cL_isIn 4 = .ok (.iconst 0, 1) := by decide +kernel
theorem dL_isIn_5 : decode cL_isIn 5 = .ok (.istore 4, 2) := by decide +kernel
theorem dL_isIn_7 : decode cL_isIn 7 = .ok (.iconst 0, 1) := by decide +kernel
theorem dL_isIn_8 : decode cL_isIn 8 = .ok (.istore 5, 2) := by decide +kernel
theorem dL_isIn_10 : decode cL_isIn 10 = .ok (.iload 4, 2) := by decide +kernel
theorem dL_isIn_12 : decode cL_isIn 12 = .ok (.iload_n 3, 1) := by decide +kernel
theorem dL_isIn_13 : decode cL_isIn 13 = .ok (.if_icmp .eq 48, 3) := by decide +kernel
theorem dL_isIn_16 : decode cL_isIn 16 = .ok (.iload_n 3, 1) := by decide +kernel
theorem dL_isIn_17 : decode cL_isIn 17 = .ok (.istore 4, 2) := by decide +kernel
theorem dL_isIn_19 : decode cL_isIn 19 = .ok (.iconst 0, 1) := by decide +kernel
theorem dL_isIn_20 : decode cL_isIn 20 = .ok (.istore 6, 2) := by decide +kernel
theorem dL_isIn_22 : decode cL_isIn 22 = .ok (.iload 6, 2) := by decide +kernel
theorem dL_isIn_24 : decode cL_isIn 24 = .ok (.iconst 4, 1) := by decide +kernel
theorem dL_isIn_25 : decode cL_isIn 25 = .ok (.if_icmp .ge 33, 3) := by decide +kernel
theorem dL_isIn_28 : decode cL_isIn 28 = .ok (.iload_n 3, 1) := by decide +kernel
theorem dL_isIn_29 : decode cL_isIn 29 = .ok (.iload 4, 2) := by decide +kernel
theorem dL_isIn_31 : decode cL_isIn 31 = .ok (.iload 6, 2) := by decide +kernel
theorem dL_isIn_33 : decode cL_isIn 33 = .ok (.ishr, 1) := by decide +kernel
theorem dL_isIn_34 : decode cL_isIn 34 = .ok (.iconst 1, 1) := by decide +kernel
theorem dL_isIn_35 : decode cL_isIn 35 = .ok (.iand, 1) := by decide +kernel
theorem dL_isIn_36 : decode cL_isIn 36 = .ok (.iconst 1, 1) := by decide +kernel
theorem dL_isIn_37 : decode cL_isIn 37 = .ok (.if_icmp .ne 12, 3) := by decide +kernel
theorem dL_isIn_40 : decode cL_isIn 40 = .ok (.aload_n 2, 1) := by decide +kernel
theorem dL_isIn_41 : decode cL_isIn 41 = .ok (.iconst 4, 1) := by decide +kernel
theorem dL_isIn_42 : decode cL_isIn 42 = .ok (.iload 6, 2) := by decide +kernel
theorem dL_isIn_44 : decode cL_isIn 44 = .ok (.iadd, 1) := by decide +kernel
theorem dL_isIn_45 : decode cL_isIn 45 = .ok (.iaload, 1) := by decide +kernel
theorem dL_isIn_46 : decode cL_isIn 46 = .ok (.goto 4, 3) := by decide +kernel
theorem dL_isIn_49 : decode cL_isIn 49 = .ok (.iconst 0, 1) := by decide +kernel
theorem dL_isIn_50 : decode cL_isIn 50 = .ok (.ior, 1) := by decide +kernel
theorem dL_isIn_51 : decode cL_isIn 51 = .ok (.istore_n 3, 1) := by decide +kernel
theorem dL_isIn_52 : decode cL_isIn 52 = .ok (.iinc 6 1, 3) := by decide +kernel
theorem dL_isIn_55 : decode cL_isIn 55 = .ok (.goto (-33), 3) := by decide +kernel
theorem dL_isIn_58 : decode cL_isIn 58 = .ok (.goto (-48), 3) := by decide +kernel
theorem dL_isIn_61 : decode cL_isIn 61 = .ok (.iconst 0, 1) := by decide +kernel
theorem dL_isIn_62 : decode cL_isIn 62 = .ok (.istore 6, 2) := by decide +kernel
theorem dL_isIn_64 : decode cL_isIn 64 = .ok (.iload 6, 2) := by decide +kernel
theorem dL_isIn_66 : decode cL_isIn 66 = .ok (.iconst 4, 1) := by decide +kernel
theorem dL_isIn_67 : decode cL_isIn 67 = .ok (.if_icmp .ge 43, 3) := by decide +kernel
theorem dL_isIn_70 : decode cL_isIn 70 = .ok (.iload 5, 2) := by decide +kernel
theorem dL_isIn_72 : decode cL_isIn 72 = .ok (.ifCond .ne 25, 3) := by decide +kernel
theorem dL_isIn_75 : decode cL_isIn 75 = .ok (.iload_n 3, 1) := by decide +kernel
theorem dL_isIn_76 : decode cL_isIn 76 = .ok (.iload 6, 2) := by decide +kernel
theorem dL_isIn_78 : decode cL_isIn 78 = .ok (.ishr, 1) := by decide +kernel
theorem dL_isIn_79 : decode cL_isIn 79 = .ok (.iconst 1, 1) := by decide +kernel
theorem dL_isIn_80 : decode cL_isIn 80 = .ok (.iand, 1) := by decide +kernel
theorem dL_isIn_81 : decode cL_isIn 81 = .ok (.iconst 1, 1) := by decide +kernel
theorem dL_isIn_82 : decode cL_isIn 82 = .ok (.if_icmp .ne 19, 3) := by decide +kernel
theorem dL_isIn_85 : decode cL_isIn 85 = .ok (.aload_n 2, 1) := by decide +kernel
theorem dL_isIn_86 : decode cL_isIn 86 = .ok (.iload 6, 2) := by decide +kernel
theorem dL_isIn_88 : decode cL_isIn 88 = .ok (.iaload, 1) := by decide +kernel
theorem dL_isIn_89 : decode cL_isIn 89 = .ok (.iload_n 1, 1) := by decide +kernel
theorem dL_isIn_90 : decode cL_isIn 90 = .ok (.ishr, 1) := by decide +kernel
theorem dL_isIn_91 : decode cL_isIn 91 = .ok (.iconst 1, 1) := by decide +kernel
theorem dL_isIn_92 : decode cL_isIn 92 = .ok (.iand, 1) := by decide +kernel
theorem dL_isIn_93 : decode cL_isIn 93 = .ok (.iconst 1, 1) := by decide +kernel
theorem dL_isIn_94 : decode cL_isIn 94 = .ok (.if_icmp .ne 7, 3) := by decide +kernel
theorem dL_isIn_97 : decode cL_isIn 97 = .ok (.iconst 1, 1) := by decide +kernel
theorem dL_isIn_98 : decode cL_isIn 98 = .ok (.goto 4, 3) := by decide +kernel
theorem dL_isIn_101 : decode cL_isIn 101 = .ok (.iconst 0, 1) := by decide +kernel
theorem dL_isIn_102 : decode cL_isIn 102 = .ok (.istore 5, 2) := by decide +kernel
theorem dL_isIn_104 : decode cL_isIn 104 = .ok (.iinc 6 1, 3) := by decide +kernel
theorem dL_isIn_107 : decode cL_isIn 107 = .ok (.goto (-43), 3) := by decide +kernel
theorem dL_isIn_110 : decode cL_isIn 110 = .ok (.iload 5, 2) := by decide +kernel
theorem dL_isIn_112 : decode cL_isIn 112 = .ok (.ireturn, 1) := by decide +kernel
set_option maxRecDepth 20000 in
theorem ggL_allows_L_isIn : GoodIn wsL_allows wsL_isIn := goodIn_r _ [4] (by decide +kernel) (by decide +kernel)
set_option maxRecDepth 20000 in
theorem gL_allows_L_isIn : GoodIn wsL_allows (va_wsS RL 31 yL_isIn wsL_isIn) := goodIn_app (goodIn_of _ (by decide +kernel)) ggL_allows_L_isIn
theorem dL_allows_0 : decode cL_allows 0 = .ok (.iconst 0, 1) := by decide +kernel
theorem dL_allows_1 : decode cL_allows 1 = .ok (.istore 7, 2) := by decide +kernel
theorem dL_allows_3 : decode cL_allows 3 = .ok (.iconst 0, 1) := by decide +kernel
theorem dL_allows_4 : decode cL_allows 4 = .ok (.istore 8, 2) := by decide +kernel
theorem dL_allows_6 : decode cL_allows 6 = .ok (.iconst 0, 1) := by decide +kernel
theorem dL_allows_7 : decode cL_allows 7 = .ok (.istore 9, 2) := by decide +kernel
theorem dL_allows_9 : decode cL_allows 9 = .ok (.iload 9, 2) := by decide +kernel
theorem dL_allows_11 : decode cL_allows 11 = .ok (.iconst 4, 1) := by decide +kernel
theorem dL_allows_12 : decode cL_allows 12 = .ok (.if_icmp .ge 65, 3) := by decide +kernel
theorem dL_allows_15 : decode cL_allows 15 = .ok (.iload 9, 2) := by decide +kernel
theorem dL_allows_17 : decode cL_allows 17 = .ok (.iload_n 0, 1) := by decide +kernel
theorem dL_allows_18 : decode cL_allows 18 = .ok (.aload_n 2, 1) := by decide +kernel
theorem dL_allows_19 : decode cL_allows 19 = .ok (.invokestatic 31, 3) := by decide +kernel
theorem dL_allows_22 : decode cL_allows 22 = .ok (.ifCond .eq 14, 3) := by decide +kernel
theorem dL_allows_25 : decode cL_allows 25 = .ok (.aload_n 3, 1) := by decide +kernel
theorem dL_allows_26 : decode cL_allows 26 = .ok (.iconst 3, 1) := by decide +kernel
theorem dL_allows_27 : decode cL_allows 27 = .ok (.iload 9, 2) := by decide +kernel
theorem dL_allows_29 : decode cL_allows 29 = .ok (.imul, 1) := by decide +kernel
theorem dL_allows_30 : decode cL_allows 30 = .ok (.iload_n 1, 1) := by decide +kernel
theorem dL_allows_31 : decode cL_allows 31 = .ok (.iadd, 1) := by decide +kernel
theorem dL_allows_32 : decode cL_allows 32 = .ok (.iaload, 1) := by decide +kernel
theorem dL_allows_33 : decode cL_allows 33 = .ok (.goto 4, 3) := by decide +kernel
theorem dL_allows_36 : decode cL_allows 36 = .ok (.iconst 0, 1) := by decide +kernel
theorem dL_allows_37 : decode cL_allows 37 = .ok (.istore 10, 2) := by decide +kernel
theorem dL_allows_39 : decode cL_allows 39 = .ok (.iload 7, 2) := by decide +kernel
theorem dL_allows_41 : decode cL_allows 41 = .ok (.iload 10, 2) := by decide +kernel
theorem dL_allows_43 : decode cL_allows 43 = .ok (.iconst 1, 1) := by decide +kernel
theorem dL_allows_44 : decode cL_allows 44 = .ok (.if_icmp .ne 7, 3) := by decide +kernel
theorem dL_allows_47 : decode cL_allows 47 = .ok (.iconst 1, 1) := by decide +kernel
theorem dL_allows_48 : decode cL_allows 48 = .ok (.goto 4, 3) := by decide +kernel
theorem dL_allows_51 : decode cL_allows 51 = .ok (.iconst 0, 1) := by decide +kernel
theorem dL_allows_52 : decode cL_allows 52 = .ok (.iadd, 1) := by decide +kernel
theorem dL_allows_53 : decode cL_allows 53 = .ok (.istore 7, 2) := by decide +kernel
theorem dL_allows_55 : decode cL_allows 55 = .ok (.iload 8, 2) := by decide +kernel
theorem dL_allows_57 : decode cL_allows 57 = .ok (.iload 10, 2) := by decide +kernel
theorem dL_allows_59 : decode cL_allows 59 = .ok (.iconst 2, 1) := by decide +kernel
theorem dL_allows_60 : decode cL_allows 60 = .ok (.if_icmp .ne 7, 3) := by decide +kernel
theorem dL_allows_63 : decode cL_allows 63 = .ok (.iconst 1, 1) := by decide +kernel
theorem dL_allows_64 : decode cL_allows 64 = .ok (.goto 4, 3) := by decide +kernel
theorem dL_allows_67 : decode cL_allows 67 = .ok (.iconst 0, 1) := by decide +kernel
theorem dL_allows_68 : decode cL_allows 68 = .ok (.iadd, 1) := by decide +kernel
theorem dL_allows_69 : decode cL_allows 69 = .ok (.istore 8, 2) := by decide +kernel
theorem dL_allows_71 : decode cL_allows 71 = .ok (.iinc 9 1, 3) := by decide +kernel
theorem dL_allows_74 : decode cL_allows 74 = .ok (.goto (-65), 3) := by decide +kernel
theorem dL_allows_77 : decode cL_allows 77 = .ok (.aload 4, 2) := by decide +kernel
theorem dL_allows_79 : decode cL_allows 79 = .ok (.iload_n 0, 1) := by decide +kernel
theorem dL_allows_80 : decode cL_allows 80 = .ok (.iaload, 1) := by decide +kernel
theorem dL_allows_81 : decode cL_allows 81 = .ok (.iconst 3, 1) := by decide +kernel
theorem dL_allows_82 : decode cL_allows 82 = .ok (.if_icmp .eq 32, 3) := by decide +kernel
theorem dL_allows_85 : decode cL_allows 85 = .ok (.iload 7, 2) := by decide +kernel
theorem dL_allows_87 : decode cL_allows 87 = .ok (.ifCond .le 8, 3) := by decide +kernel
theorem dL_allows_90 : decode cL_allows 90 = .ok (.iload 8, 2) := by decide +kernel
theorem dL_allows_92 : decode cL_allows 92 = .ok (.ifCond .eq 18, 3) := by decide +kernel
theorem dL_allows_95 : decode cL_allows 95 = .ok (.aload 6, 2) := by decide +kernel
theorem dL_allows_97 : decode cL_allows 97 = .ok (.iconst 0, 1) := by decide +kernel
theorem dL_allows_98 : decode cL_allows 98 = .ok (.iaload, 1) := by decide +kernel
theorem dL_allows_99 : decode cL_allows 99 = .ok (.aload 5, 2) := by decide +kernel
theorem dL_allows_101 : decode cL_allows 101 = .ok (.iconst 3, 1) := by decide +kernel
theorem dL_allows_102 : decode cL_allows 102 = .ok (.iload_n 0, 1) := by decide +kernel
theorem dL_allows_103 : decode cL_allows 103 = .ok (.imul, 1) := by decide +kernel
theorem dL_allows_104 : decode cL_allows 104 = .ok (.iload_n 1, 1) := by decide +kernel
theorem dL_allows_105 : decode cL_allows 105 = .ok (.iadd, 1) := by decide +kernel
theorem dL_allows_106 : decode cL_allows 106 = .ok (.iaload, 1) := by decide +kernel
theorem dL_allows_107 : decode cL_allows 107 = .ok (.if_icmp .ge 7, 3) := by decide +kernel
theorem dL_allows_110 : decode cL_allows 110 = .ok (.iconst 1, 1) := by decide +kernel
theorem dL_allows_111 : decode cL_allows 111 = .ok (.goto 4, 3) := by decide +kernel
theorem dL_allows_114 : decode cL_allows 114 = .ok (.iconst 0, 1) := by decide +kernel
theorem dL_allows_115 : decode cL_allows 115 = .ok (.ireturn, 1) := by decide +kernel
set_option maxRecDepth 20000 in
theorem ggL_serves_L_isIn : GoodIn wsL_serves wsL_isIn := goodIn_r _ [4] (by decide +kernel) (by decide +kernel)
set_option maxRecDepth 20000 in
theorem gL_serves_L_isIn : GoodIn wsL_serves (va_wsS RL 31 yL_isIn wsL_isIn) := goodIn_app (goodIn_of _ (by decide +kernel)) ggL_serves_L_isIn
theorem dL_serves_0 : decode cL_serves 0 = .ok (.iconst 0, 1) := by decide +kernel
theorem dL_serves_1 : decode cL_serves 1 = .ok (.istore 5, 2) := by decide +kernel
theorem dL_serves_3 : decode cL_serves 3 = .ok (.iconst 0, 1) := by decide +kernel
theorem dL_serves_4 : decode cL_serves 4 = .ok (.istore 6, 2) := by decide +kernel
theorem dL_serves_6 : decode cL_serves 6 = .ok (.iload 6, 2) := by decide +kernel
theorem dL_serves_8 : decode cL_serves 8 = .ok (.iconst 4, 1) := by decide +kernel
theorem dL_serves_9 : decode cL_serves 9 = .ok (.if_icmp .ge 43, 3) := by decide +kernel
theorem dL_serves_12 : decode cL_serves 12 = .ok (.iload 5, 2) := by decide +kernel
theorem dL_serves_14 : decode cL_serves 14 = .ok (.ifCond .ne 25, 3) := by decide +kernel
theorem dL_serves_17 : decode cL_serves 17 = .ok (.aload_n 3, 1) := by decide +kernel
theorem dL_serves_18 : decode cL_serves 18 = .ok (.iconst 3, 1) := by decide +kernel
theorem dL_serves_19 : decode cL_serves 19 = .ok (.iload 6, 2) := by decide +kernel
theorem dL_serves_21 : decode cL_serves 21 = .ok (.imul, 1) := by decide +kernel
theorem dL_serves_22 : decode cL_serves 22 = .ok (.iload_n 1, 1) := by decide +kernel
theorem dL_serves_23 : decode cL_serves 23 = .ok (.iadd, 1) := by decide +kernel
theorem dL_serves_24 : decode cL_serves 24 = .ok (.iaload, 1) := by decide +kernel
theorem dL_serves_25 : decode cL_serves 25 = .ok (.iconst 1, 1) := by decide +kernel
theorem dL_serves_26 : decode cL_serves 26 = .ok (.if_icmp .ne 17, 3) := by decide +kernel
theorem dL_serves_29 : decode cL_serves 29 = .ok (.iload 6, 2) := by decide +kernel
theorem dL_serves_31 : decode cL_serves 31 = .ok (.iload_n 0, 1) := by decide +kernel
theorem dL_serves_32 : decode cL_serves 32 = .ok (.aload_n 2, 1) := by decide +kernel
theorem dL_serves_33 : decode cL_serves 33 = .ok (.invokestatic 31, 3) := by decide +kernel
theorem dL_serves_36 : decode cL_serves 36 = .ok (.ifCond .eq 7, 3) := by decide +kernel
theorem dL_serves_39 : decode cL_serves 39 = .ok (.iconst 1, 1) := by decide +kernel
theorem dL_serves_40 : decode cL_serves 40 = .ok (.goto 4, 3) := by decide +kernel
theorem dL_serves_43 : decode cL_serves 43 = .ok (.iconst 0, 1) := by decide +kernel
theorem dL_serves_44 : decode cL_serves 44 = .ok (.istore 5, 2) := by decide +kernel
theorem dL_serves_46 : decode cL_serves 46 = .ok (.iinc 6 1, 3) := by decide +kernel
theorem dL_serves_49 : decode cL_serves 49 = .ok (.goto (-43), 3) := by decide +kernel
theorem dL_serves_52 : decode cL_serves 52 = .ok (.iload 5, 2) := by decide +kernel
theorem dL_serves_54 : decode cL_serves 54 = .ok (.ifCond .eq 15, 3) := by decide +kernel
theorem dL_serves_57 : decode cL_serves 57 = .ok (.aload 4, 2) := by decide +kernel
theorem dL_serves_59 : decode cL_serves 59 = .ok (.iload_n 0, 1) := by decide +kernel
theorem dL_serves_60 : decode cL_serves 60 = .ok (.iaload, 1) := by decide +kernel
theorem dL_serves_61 : decode cL_serves 61 = .ok (.iconst 3, 1) := by decide +kernel
theorem dL_serves_62 : decode cL_serves 62 = .ok (.if_icmp .ge 7, 3) := by decide +kernel
theorem dL_serves_65 : decode cL_serves 65 = .ok (.iconst 1, 1) := by decide +kernel
theorem dL_serves_66 : decode cL_serves 66 = .ok (.goto 4, 3) := by decide +kernel
theorem dL_serves_69 : decode cL_serves 69 = .ok (.iconst 0, 1) := by decide +kernel
theorem dL_serves_70 : decode cL_serves 70 = .ok (.ireturn, 1) := by decide +kernel
theorem dL_isKey_0 : decode cL_isKey 0 = .ok (.iload_n 0, 1) := by decide +kernel
theorem dL_isKey_1 : decode cL_isKey 1 = .ok (.aload_n 1, 1) := by decide +kernel
theorem dL_isKey_2 : decode cL_isKey 2 = .ok (.iconst 2, 1) := by decide +kernel
theorem dL_isKey_3 : decode cL_isKey 3 = .ok (.iaload, 1) := by decide +kernel
theorem dL_isKey_4 : decode cL_isKey 4 = .ok (.if_icmp .eq 21, 3) := by decide +kernel
theorem dL_isKey_7 : decode cL_isKey 7 = .ok (.iload_n 0, 1) := by decide +kernel
theorem dL_isKey_8 : decode cL_isKey 8 = .ok (.iconst 1, 1) := by decide +kernel
theorem dL_isKey_9 : decode cL_isKey 9 = .ok (.iadd, 1) := by decide +kernel
theorem dL_isKey_10 : decode cL_isKey 10 = .ok (.aload_n 1, 1) := by decide +kernel
theorem dL_isKey_11 : decode cL_isKey 11 = .ok (.iconst 2, 1) := by decide +kernel
theorem dL_isKey_12 : decode cL_isKey 12 = .ok (.iaload, 1) := by decide +kernel
theorem dL_isKey_13 : decode cL_isKey 13 = .ok (.if_icmp .ne 16, 3) := by decide +kernel
theorem dL_isKey_16 : decode cL_isKey 16 = .ok (.aload_n 1, 1) := by decide +kernel
theorem dL_isKey_17 : decode cL_isKey 17 = .ok (.iconst 3, 1) := by decide +kernel
theorem dL_isKey_18 : decode cL_isKey 18 = .ok (.iaload, 1) := by decide +kernel
theorem dL_isKey_19 : decode cL_isKey 19 = .ok (.aload_n 1, 1) := by decide +kernel
theorem dL_isKey_20 : decode cL_isKey 20 = .ok (.iconst 0, 1) := by decide +kernel
theorem dL_isKey_21 : decode cL_isKey 21 = .ok (.iaload, 1) := by decide +kernel
theorem dL_isKey_22 : decode cL_isKey 22 = .ok (.if_icmp .le 7, 3) := by decide +kernel
theorem dL_isKey_25 : decode cL_isKey 25 = .ok (.iconst 1, 1) := by decide +kernel
theorem dL_isKey_26 : decode cL_isKey 26 = .ok (.goto 4, 3) := by decide +kernel
theorem dL_isKey_29 : decode cL_isKey 29 = .ok (.iconst 0, 1) := by decide +kernel
theorem dL_isKey_30 : decode cL_isKey 30 = .ok (.ireturn, 1) := by decide +kernel
set_option maxRecDepth 20000 in
theorem ggL_sweep_L_isKey : GoodIn wsL_sweep wsL_isKey := goodIn_r _ [4] (by decide +kernel) (by decide +kernel)
set_option maxRecDepth 20000 in
theorem gL_sweep_L_isKey : GoodIn wsL_sweep (va_wsS RL 37 yL_isKey wsL_isKey) := goodIn_app (goodIn_of _ (by decide +kernel)) ggL_sweep_L_isKey
theorem dL_sweep_0 : decode cL_sweep 0 = .ok (.iconst 0, 1) := by decide +kernel
theorem dL_sweep_1 : decode cL_sweep 1 = .ok (.istore_n 3, 1) := by decide +kernel
theorem dL_sweep_2 : decode cL_sweep 2 = .ok (.iconst 0, 1) := by decide +kernel
theorem dL_sweep_3 : decode cL_sweep 3 = .ok (.istore 4, 2) := by decide +kernel
theorem dL_sweep_5 : decode cL_sweep 5 = .ok (.iload 4, 2) := by decide +kernel
theorem dL_sweep_7 : decode cL_sweep 7 = .ok (.aload_n 2, 1) := by decide +kernel
theorem dL_sweep_8 : decode cL_sweep 8 = .ok (.iconst 1, 1) := by decide +kernel
theorem dL_sweep_9 : decode cL_sweep 9 = .ok (.iaload, 1) := by decide +kernel
theorem dL_sweep_10 : decode cL_sweep 10 = .ok (.if_icmp .ge 136, 3) := by decide +kernel
theorem dL_sweep_13 : decode cL_sweep 13 = .ok (.iconst 5, 1) := by decide +kernel
theorem dL_sweep_14 : decode cL_sweep 14 = .ok (.iload 4, 2) := by decide +kernel
theorem dL_sweep_16 : decode cL_sweep 16 = .ok (.imul, 1) := by decide +kernel
theorem dL_sweep_17 : decode cL_sweep 17 = .ok (.istore 5, 2) := by decide +kernel
theorem dL_sweep_19 : decode cL_sweep 19 = .ok (.aload_n 0, 1) := by decide +kernel
theorem dL_sweep_20 : decode cL_sweep 20 = .ok (.iload 5, 2) := by decide +kernel
theorem dL_sweep_22 : decode cL_sweep 22 = .ok (.iconst 2, 1) := by decide +kernel
theorem dL_sweep_23 : decode cL_sweep 23 = .ok (.iadd, 1) := by decide +kernel
theorem dL_sweep_24 : decode cL_sweep 24 = .ok (.iaload, 1) := by decide +kernel
theorem dL_sweep_25 : decode cL_sweep 25 = .ok (.bipush 60, 2) := by decide +kernel
theorem dL_sweep_27 : decode cL_sweep 27 = .ok (.iconst 4, 1) := by decide +kernel
theorem dL_sweep_28 : decode cL_sweep 28 = .ok (.aload_n 1, 1) := by decide +kernel
theorem dL_sweep_29 : decode cL_sweep 29 = .ok (.aload_n 0, 1) := by decide +kernel
theorem dL_sweep_30 : decode cL_sweep 30 = .ok (.iload 5, 2) := by decide +kernel
theorem dL_sweep_32 : decode cL_sweep 32 = .ok (.iaload, 1) := by decide +kernel
theorem dL_sweep_33 : decode cL_sweep 33 = .ok (.iaload, 1) := by decide +kernel
theorem dL_sweep_34 : decode cL_sweep 34 = .ok (.isub, 1) := by decide +kernel
theorem dL_sweep_35 : decode cL_sweep 35 = .ok (.imul, 1) := by decide +kernel
theorem dL_sweep_36 : decode cL_sweep 36 = .ok (.iadd, 1) := by decide +kernel
theorem dL_sweep_37 : decode cL_sweep 37 = .ok (.istore 6, 2) := by decide +kernel
theorem dL_sweep_39 : decode cL_sweep 39 = .ok (.aload_n 0, 1) := by decide +kernel
theorem dL_sweep_40 : decode cL_sweep 40 = .ok (.iload 5, 2) := by decide +kernel
theorem dL_sweep_42 : decode cL_sweep 42 = .ok (.iconst 3, 1) := by decide +kernel
theorem dL_sweep_43 : decode cL_sweep 43 = .ok (.iadd, 1) := by decide +kernel
theorem dL_sweep_44 : decode cL_sweep 44 = .ok (.iaload, 1) := by decide +kernel
theorem dL_sweep_45 : decode cL_sweep 45 = .ok (.bipush 30, 2) := by decide +kernel
theorem dL_sweep_47 : decode cL_sweep 47 = .ok (.iadd, 1) := by decide +kernel
theorem dL_sweep_48 : decode cL_sweep 48 = .ok (.iload 6, 2) := by decide +kernel
theorem dL_sweep_50 : decode cL_sweep 50 = .ok (.if_icmp .ge 15, 3) := by decide +kernel
theorem dL_sweep_53 : decode cL_sweep 53 = .ok (.aload_n 0, 1) := by decide +kernel
theorem dL_sweep_54 : decode cL_sweep 54 = .ok (.iload 5, 2) := by decide +kernel
theorem dL_sweep_56 : decode cL_sweep 56 = .ok (.iconst 3, 1) := by decide +kernel
theorem dL_sweep_57 : decode cL_sweep 57 = .ok (.iadd, 1) := by decide +kernel
theorem dL_sweep_58 : decode cL_sweep 58 = .ok (.iaload, 1) := by decide +kernel
theorem dL_sweep_59 : decode cL_sweep 59 = .ok (.bipush 30, 2) := by decide +kernel
theorem dL_sweep_61 : decode cL_sweep 61 = .ok (.iadd, 1) := by decide +kernel
theorem dL_sweep_62 : decode cL_sweep 62 = .ok (.goto 5, 3) := by decide +kernel
theorem dL_sweep_65 : decode cL_sweep 65 = .ok (.iload 6, 2) := by decide +kernel
theorem dL_sweep_67 : decode cL_sweep 67 = .ok (.istore 6, 2) := by decide +kernel
theorem dL_sweep_69 : decode cL_sweep 69 = .ok (.aload_n 0, 1) := by decide +kernel
theorem dL_sweep_70 : decode cL_sweep 70 = .ok (.iload 5, 2) := by decide +kernel
theorem dL_sweep_72 : decode cL_sweep 72 = .ok (.iconst 4, 1) := by decide +kernel
theorem dL_sweep_73 : decode cL_sweep 73 = .ok (.iadd, 1) := by decide +kernel
theorem dL_sweep_74 : decode cL_sweep 74 = .ok (.iaload, 1) := by decide +kernel
theorem dL_sweep_75 : decode cL_sweep 75 = .ok (.ifCond .ne 28, 3) := by decide +kernel
theorem dL_sweep_78 : decode cL_sweep 78 = .ok (.iload 6, 2) := by decide +kernel
theorem dL_sweep_80 : decode cL_sweep 80 = .ok (.aload_n 2, 1) := by decide +kernel
theorem dL_sweep_81 : decode cL_sweep 81 = .ok (.iconst 0, 1) := by decide +kernel
theorem dL_sweep_82 : decode cL_sweep 82 = .ok (.iaload, 1) := by decide +kernel
theorem dL_sweep_83 : decode cL_sweep 83 = .ok (.if_icmp .le 16, 3) := by decide +kernel
theorem dL_sweep_86 : decode cL_sweep 86 = .ok (.aload_n 0, 1) := by decide +kernel
theorem dL_sweep_87 : decode cL_sweep 87 = .ok (.iload 5, 2) := by decide +kernel
theorem dL_sweep_89 : decode cL_sweep 89 = .ok (.iconst 1, 1) := by decide +kernel
theorem dL_sweep_90 : decode cL_sweep 90 = .ok (.iadd, 1) := by decide +kernel
theorem dL_sweep_91 : decode cL_sweep 91 = .ok (.iaload, 1) := by decide +kernel
theorem dL_sweep_92 : decode cL_sweep 92 = .ok (.aload_n 2, 1) := by decide +kernel
theorem dL_sweep_93 : decode cL_sweep 93 = .ok (.invokestatic 37, 3) := by decide +kernel
theorem dL_sweep_96 : decode cL_sweep 96 = .ok (.ifCond .ne 7, 3) := by decide +kernel
theorem dL_sweep_99 : decode cL_sweep 99 = .ok (.iconst 1, 1) := by decide +kernel
theorem dL_sweep_100 : decode cL_sweep 100 = .ok (.goto 4, 3) := by decide +kernel
theorem dL_sweep_103 : decode cL_sweep 103 = .ok (.iconst 0, 1) := by decide +kernel
theorem dL_sweep_104 : decode cL_sweep 104 = .ok (.istore 7, 2) := by decide +kernel
theorem dL_sweep_106 : decode cL_sweep 106 = .ok (.aload_n 0, 1) := by decide +kernel
end
section
theorem dL_sweep_107 : decode cL_sweep 107 = .ok (.iload 5, 2) := by decide +kernel
theorem dL_sweep_109 : decode cL_sweep 109 = .ok (.iconst 4, 1) := by decide +kernel
theorem dL_sweep_110 : decode cL_sweep 110 = .ok (.iadd, 1) := by decide +kernel
theorem dL_sweep_111 : decode cL_sweep 111 = .ok (.iload 7, 2) := by decide +kernel
theorem dL_sweep_113 : decode cL_sweep 113 = .ok (.ifCond .eq 7, 3) := by decide +kernel
theorem dL_sweep_116 : decode cL_sweep 116 = .ok (.iconst 1, 1) := by decide +kernel
theorem dL_sweep_117 : decode cL_sweep 117 = .ok (.goto 9, 3) := by decide +kernel
theorem dL_sweep_120 : decode cL_sweep 120 = .ok (.aload_n 0, 1) := by decide +kernel
theorem dL_sweep_121 : decode cL_sweep 121 = .ok (.iload 5, 2) := by decide +kernel
theorem dL_sweep_123 : decode cL_sweep 123 = .ok (.iconst 4, 1) := by decide +kernel
theorem dL_sweep_124 : decode cL_sweep 124 = .ok (.iadd, 1) := by decide +kernel
theorem dL_sweep_125 : decode cL_sweep 125 = .ok (.iaload, 1) := by decide +kernel
theorem dL_sweep_126 : decode cL_sweep 126 = .ok (.iastore, 1) := by decide +kernel
theorem dL_sweep_127 : decode cL_sweep 127 = .ok (.iload_n 3, 1) := by decide +kernel
theorem dL_sweep_128 : decode cL_sweep 128 = .ok (.iload 7, 2) := by decide +kernel
theorem dL_sweep_130 : decode cL_sweep 130 = .ok (.ifCond .eq 7, 3) := by decide +kernel
theorem dL_sweep_133 : decode cL_sweep 133 = .ok (.iconst 1, 1) := by decide +kernel
theorem dL_sweep_134 : decode cL_sweep 134 = .ok (.goto 4, 3) := by decide +kernel
theorem dL_sweep_137 : decode cL_sweep 137 = .ok (.iconst 0, 1) := by decide +kernel
theorem dL_sweep_138 : decode cL_sweep 138 = .ok (.iadd, 1) := by decide +kernel
theorem dL_sweep_139 : decode cL_sweep 139 = .ok (.istore_n 3, 1) := by decide +kernel
theorem dL_sweep_140 : decode cL_sweep 140 = .ok (.iinc 4 1, 3) := by decide +kernel
theorem dL_sweep_143 : decode cL_sweep 143 = .ok (.goto (-138), 3) := by decide +kernel
theorem dL_sweep_146 : decode cL_sweep 146 = .ok (.iload_n 3, 1) := by decide +kernel
theorem dL_sweep_147 : decode cL_sweep 147 = .ok (.ireturn, 1) := by decide +kernel
set_option maxRecDepth 20000 in
theorem ggL_isSo_X4_now : GoodIn wsL_isSo wsX4_now := goodIn_r _ [5, 6, 129, 130, 131, 132, 133, 134, 135] (by decide +kernel) (by decide +kernel)
set_option maxRecDepth 20000 in
theorem gL_isSo_X4_now : GoodIn wsL_isSo (wsV RL 41 RX4 yX4_now wsX4_now) := goodIn_app (goodIn_of _ (by decide +kernel)) ggL_isSo_X4_now
set_option maxRecDepth 20000 in
theorem ggL_isSo_X4_isTaken : GoodIn wsL_isSo wsX4_isTaken := goodIn_ca (goodIn_r _ [10, 11, 12, 13, 6, 14, 15, 16, 17, 18, 19, 20, 21, 22, 23, 24, 129, 130, 131, 132, 133, 134, 135, 136, 137] (by decide +kernel) (by decide +kernel)) (goodIn_sub (fun _ h => List.mem_cons_of_mem _ (List.mem_append_left _ (List.mem_append_right _ h))) (by decide +kernel))
set_option maxRecDepth 20000 in
theorem gL_isSo_X4_isTaken : GoodIn wsL_isSo (wsV RL 45 RX4 yX4_isTaken wsX4_isTaken) := goodIn_app (goodIn_of _ (by decide +kernel)) ggL_isSo_X4_isTaken
set_option maxRecDepth 20000 in
theorem ggL_isSo_L_isKey : GoodIn wsL_isSo wsL_isKey := goodIn_r _ [28] (by decide +kernel) (by decide +kernel)
set_option maxRecDepth 20000 in
theorem gL_isSo_L_isKey : GoodIn wsL_isSo (va_wsS RL 37 yL_isKey wsL_isKey) := goodIn_app (goodIn_of _ (by decide +kernel)) ggL_isSo_L_isKey
set_option maxRecDepth 20000 in
theorem ggL_isSo_X4_goesOn : GoodIn wsL_isSo wsX4_goesOn := goodIn_ca (goodIn_r _ [32, 33, 34, 35, 36, 37, 38, 39, 40, 41, 42, 43, 44, 45, 46, 129, 130, 131, 132, 133, 134, 135, 138, 139, 140, 141, 142, 143] (by decide +kernel) (by decide +kernel)) (goodIn_sub (fun _ h => List.mem_cons_of_mem _ (List.mem_append_right _ h)) (by decide +kernel))
set_option maxRecDepth 20000 in
theorem gL_isSo_X4_goesOn : GoodIn wsL_isSo (wsV RL 49 RX4 yX4_goesOn wsX4_goesOn) := goodIn_app (goodIn_of _ (by decide +kernel)) ggL_isSo_X4_goesOn
set_option maxRecDepth 20000 in
theorem ggL_isSo_X4_isIn : GoodIn wsL_isSo wsX4_isIn := goodIn_ca (goodIn_r _ [50, 11, 12, 51, 52, 53, 4, 54, 55, 56, 57, 58, 59, 60, 61, 62, 63, 64, 65, 66, 67, 68, 69, 70, 71, 72, 129, 130, 131, 132, 133, 134, 135, 144, 145, 146, 147] (by decide +kernel) (by decide +kernel)) (goodIn_sub (fun _ h => List.mem_cons_of_mem _ (List.mem_append_left _ (List.mem_append_right _ h))) (by decide +kernel))
set_option maxRecDepth 20000 in
theorem gL_isSo_X4_isIn : GoodIn wsL_isSo (wsV RL 52 RX4 yX4_isIn wsX4_isIn) := goodIn_app (goodIn_of _ (by decide +kernel)) ggL_isSo_X4_isIn
set_option maxRecDepth 20000 in
theorem ggL_isSo_L_isIn : GoodIn wsL_isSo wsL_isIn := goodIn_r _ [75] (by decide +kernel) (by decide +kernel)
set_option maxRecDepth 20000 in
theorem gL_isSo_L_isIn : GoodIn wsL_isSo (va_wsS RL 31 yL_isIn wsL_isIn) := goodIn_app (goodIn_of _ (by decide +kernel)) ggL_isSo_L_isIn
set_option maxRecDepth 20000 in
theorem ggL_isSo_X4_allows : GoodIn wsL_isSo wsX4_allows := goodIn_ca (goodIn_r _ [79, 11, 12, 52, 53, 4, 54, 80, 81, 82, 83, 51, 84, 85, 86, 87, 88, 89, 90, 91, 58, 92, 60, 93, 61, 62, 63, 64, 65, 66, 67, 68, 69, 70, 71, 72, 94, 95, 96, 97, 98, 99, 100, 101, 102, 6, 103, 129, 130, 131, 132, 133, 134, 135, 144, 145, 146, 147] (by decide +kernel) (by decide +kernel)) (goodIn_sub (fun _ h => List.mem_cons_of_mem _ (List.mem_append_left _ (List.mem_append_right _ h))) (by decide +kernel))
set_option maxRecDepth 20000 in
theorem gL_isSo_X4_allows : GoodIn wsL_isSo (wsV RL 55 RX4 yX4_allows wsX4_allows) := goodIn_app (goodIn_of _ (by decide +kernel)) ggL_isSo_X4_allows
set_option maxRecDepth 20000 in
theorem ggL_isSo_L_allows : GoodIn wsL_isSo wsL_allows := goodIn_r _ [106, 73, 74, 27, 75] (by decide +kernel) (by decide +kernel)
set_option maxRecDepth 20000 in
theorem gL_isSo_L_allows : GoodIn wsL_isSo (va_wsS RL 58 yL_allows wsL_allows) := goodIn_app (goodIn_of _ (by decide +kernel)) ggL_isSo_L_allows
set_option maxRecDepth 20000 in
theorem ggL_isSo_X4_stale : GoodIn wsL_isSo wsX4_stale := goodIn_ca (goodIn_r _ [110, 11, 12, 52, 53, 4, 54, 111, 112, 113, 114, 115, 116, 117, 118, 119, 120, 121, 122, 123, 124, 125, 126, 127, 128, 80, 81, 82, 83, 51, 84, 85, 86, 87, 88, 89, 90, 91, 58, 92, 60, 93, 61, 62, 63, 64, 65, 66, 67, 68, 69, 70, 71, 72, 94, 95, 96, 97, 98, 99, 100, 101, 102, 6, 103, 129, 130, 131, 132, 133, 134, 135, 148, 149, 150, 144, 145, 146, 147] (by decide +kernel) (by decide +kernel)) (goodIn_sub (fun _ h => List.mem_cons_of_mem _ (List.mem_append_left _ (List.mem_append_right _ h))) (by decide +kernel))
set_option maxRecDepth 20000 in
theorem gL_isSo_X4_stale : GoodIn wsL_isSo (wsV RL 61 RX4 yX4_stale wsX4_stale) := goodIn_app (goodIn_of _ (by decide +kernel)) ggL_isSo_X4_stale
theorem dL_isSo_0 : decode cL_isSo 0 = .ok (.aload_n 0, 1) := by decide +kernel
theorem dL_isSo_1 : decode cL_isSo 1 = .ok (.invokevirtual 41, 3) := by decide +kernel
theorem dL_isSo_4 : decode cL_isSo 4 = .ok (.aload 8, 2) := by decide +kernel
theorem dL_isSo_6 : decode cL_isSo 6 = .ok (.iconst 0, 1) := by decide +kernel
theorem dL_isSo_7 : decode cL_isSo 7 = .ok (.iaload, 1) := by decide +kernel
theorem dL_isSo_8 : decode cL_isSo 8 = .ok (.if_icmp .ne 18, 3) := by decide +kernel
theorem dL_isSo_11 : decode cL_isSo 11 = .ok (.aload_n 0, 1) := by decide +kernel
theorem dL_isSo_12 : decode cL_isSo 12 = .ok (.aload 8, 2) := by decide +kernel
theorem dL_isSo_14 : decode cL_isSo 14 = .ok (.iconst 2, 1) := by decide +kernel
theorem dL_isSo_15 : decode cL_isSo 15 = .ok (.iaload, 1) := by decide +kernel
theorem dL_isSo_16 : decode cL_isSo 16 = .ok (.invokevirtual 45, 3) := by decide +kernel
theorem dL_isSo_19 : decode cL_isSo 19 = .ok (.ifCond .eq 7, 3) := by decide +kernel
theorem dL_isSo_22 : decode cL_isSo 22 = .ok (.iconst 1, 1) := by decide +kernel
theorem dL_isSo_23 : decode cL_isSo 23 = .ok (.goto 4, 3) := by decide +kernel
theorem dL_isSo_26 : decode cL_isSo 26 = .ok (.iconst 0, 1) := by decide +kernel
theorem dL_isSo_27 : decode cL_isSo 27 = .ok (.istore 9, 2) := by decide +kernel
theorem dL_isSo_29 : decode cL_isSo 29 = .ok (.aload 8, 2) := by decide +kernel
theorem dL_isSo_31 : decode cL_isSo 31 = .ok (.iconst 2, 1) := by decide +kernel
theorem dL_isSo_32 : decode cL_isSo 32 = .ok (.iaload, 1) := by decide +kernel
theorem dL_isSo_33 : decode cL_isSo 33 = .ok (.iconst 2, 1) := by decide +kernel
theorem dL_isSo_34 : decode cL_isSo 34 = .ok (.if_icmp .le 12, 3) := by decide +kernel
theorem dL_isSo_37 : decode cL_isSo 37 = .ok (.aload 8, 2) := by decide +kernel
theorem dL_isSo_39 : decode cL_isSo 39 = .ok (.iconst 2, 1) := by decide +kernel
theorem dL_isSo_40 : decode cL_isSo 40 = .ok (.iaload, 1) := by decide +kernel
theorem dL_isSo_41 : decode cL_isSo 41 = .ok (.iconst 2, 1) := by decide +kernel
theorem dL_isSo_42 : decode cL_isSo 42 = .ok (.isub, 1) := by decide +kernel
theorem dL_isSo_43 : decode cL_isSo 43 = .ok (.goto 4, 3) := by decide +kernel
theorem dL_isSo_46 : decode cL_isSo 46 = .ok (.iconst 0, 1) := by decide +kernel
theorem dL_isSo_47 : decode cL_isSo 47 = .ok (.istore 10, 2) := by decide +kernel
theorem dL_isSo_49 : decode cL_isSo 49 = .ok (.iload 10, 2) := by decide +kernel
theorem dL_isSo_51 : decode cL_isSo 51 = .ok (.aload 8, 2) := by decide +kernel
theorem dL_isSo_53 : decode cL_isSo 53 = .ok (.iconst 2, 1) := by decide +kernel
theorem dL_isSo_54 : decode cL_isSo 54 = .ok (.iaload, 1) := by decide +kernel
theorem dL_isSo_55 : decode cL_isSo 55 = .ok (.if_icmp .ge 37, 3) := by decide +kernel
theorem dL_isSo_58 : decode cL_isSo 58 = .ok (.iload 9, 2) := by decide +kernel
theorem dL_isSo_60 : decode cL_isSo 60 = .ok (.ifCond .eq 32, 3) := by decide +kernel
theorem dL_isSo_63 : decode cL_isSo 63 = .ok (.aload_n 0, 1) := by decide +kernel
theorem dL_isSo_64 : decode cL_isSo 64 = .ok (.iload 10, 2) := by decide +kernel
theorem dL_isSo_66 : decode cL_isSo 66 = .ok (.invokevirtual 45, 3) := by decide +kernel
theorem dL_isSo_69 : decode cL_isSo 69 = .ok (.iload 10, 2) := by decide +kernel
theorem dL_isSo_71 : decode cL_isSo 71 = .ok (.aload 8, 2) := by decide +kernel
theorem dL_isSo_73 : decode cL_isSo 73 = .ok (.invokestatic 37, 3) := by decide +kernel
theorem dL_isSo_76 : decode cL_isSo 76 = .ok (.if_icmp .ne 7, 3) := by decide +kernel
theorem dL_isSo_79 : decode cL_isSo 79 = .ok (.iconst 1, 1) := by decide +kernel
theorem dL_isSo_80 : decode cL_isSo 80 = .ok (.goto 4, 3) := by decide +kernel
theorem dL_isSo_83 : decode cL_isSo 83 = .ok (.iconst 0, 1) := by decide +kernel
theorem dL_isSo_84 : decode cL_isSo 84 = .ok (.istore 9, 2) := by decide +kernel
theorem dL_isSo_86 : decode cL_isSo 86 = .ok (.iinc 10 1, 3) := by decide +kernel
theorem dL_isSo_89 : decode cL_isSo 89 = .ok (.goto (-40), 3) := by decide +kernel
theorem dL_isSo_92 : decode cL_isSo 92 = .ok (.iconst 0, 1) := by decide +kernel
theorem dL_isSo_93 : decode cL_isSo 93 = .ok (.istore 10, 2) := by decide +kernel
theorem dL_isSo_95 : decode cL_isSo 95 = .ok (.iload 10, 2) := by decide +kernel
theorem dL_isSo_97 : decode cL_isSo 97 = .ok (.aload 8, 2) := by decide +kernel
theorem dL_isSo_99 : decode cL_isSo 99 = .ok (.iconst 1, 1) := by decide +kernel
theorem dL_isSo_100 : decode cL_isSo 100 = .ok (.iaload, 1) := by decide +kernel
theorem dL_isSo_101 : decode cL_isSo 101 = .ok (.if_icmp .ge 47, 3) := by decide +kernel
theorem dL_isSo_104 : decode cL_isSo 104 = .ok (.iload 9, 2) := by decide +kernel
theorem dL_isSo_106 : decode cL_isSo 106 = .ok (.ifCond .eq 42, 3) := by decide +kernel
theorem dL_isSo_109 : decode cL_isSo 109 = .ok (.aload_n 0, 1) := by decide +kernel
theorem dL_isSo_110 : decode cL_isSo 110 = .ok (.iload 10, 2) := by decide +kernel
theorem dL_isSo_112 : decode cL_isSo 112 = .ok (.invokevirtual 49, 3) := by decide +kernel
theorem dL_isSo_115 : decode cL_isSo 115 = .ok (.aload 5, 2) := by decide +kernel
theorem dL_isSo_117 : decode cL_isSo 117 = .ok (.iconst 5, 1) := by decide +kernel
theorem dL_isSo_118 : decode cL_isSo 118 = .ok (.iload 10, 2) := by decide +kernel
theorem dL_isSo_120 : decode cL_isSo 120 = .ok (.imul, 1) := by decide +kernel
theorem dL_isSo_121 : decode cL_isSo 121 = .ok (.iconst 4, 1) := by decide +kernel
theorem dL_isSo_122 : decode cL_isSo 122 = .ok (.iadd, 1) := by decide +kernel
theorem dL_isSo_123 : decode cL_isSo 123 = .ok (.iaload, 1) := by decide +kernel
theorem dL_isSo_124 : decode cL_isSo 124 = .ok (.ifCond .ne 7, 3) := by decide +kernel
theorem dL_isSo_127 : decode cL_isSo 127 = .ok (.iconst 1, 1) := by decide +kernel
theorem dL_isSo_128 : decode cL_isSo 128 = .ok (.goto 4, 3) := by decide +kernel
theorem dL_isSo_131 : decode cL_isSo 131 = .ok (.iconst 0, 1) := by decide +kernel
theorem dL_isSo_132 : decode cL_isSo 132 = .ok (.if_icmp .ne 7, 3) := by decide +kernel
theorem dL_isSo_135 : decode cL_isSo 135 = .ok (.iconst 1, 1) := by decide +kernel
theorem dL_isSo_136 : decode cL_isSo 136 = .ok (.goto 4, 3) := by decide +kernel
theorem dL_isSo_139 : decode cL_isSo 139 = .ok (.iconst 0, 1) := by decide +kernel
theorem dL_isSo_140 : decode cL_isSo 140 = .ok (.istore 9, 2) := by decide +kernel
theorem dL_isSo_142 : decode cL_isSo 142 = .ok (.iinc 10 1, 3) := by decide +kernel
theorem dL_isSo_145 : decode cL_isSo 145 = .ok (.goto (-50), 3) := by decide +kernel
theorem dL_isSo_148 : decode cL_isSo 148 = .ok (.iconst 0, 1) := by decide +kernel
theorem dL_isSo_149 : decode cL_isSo 149 = .ok (.istore 10, 2) := by decide +kernel
theorem dL_isSo_151 : decode cL_isSo 151 = .ok (.iload 10, 2) := by decide +kernel
theorem dL_isSo_153 : decode cL_isSo 153 = .ok (.iconst 5, 1) := by decide +kernel
theorem dL_isSo_154 : decode cL_isSo 154 = .ok (.if_icmp .ge 112, 3) := by decide +kernel
theorem dL_isSo_157 : decode cL_isSo 157 = .ok (.iload 9, 2) := by decide +kernel
theorem dL_isSo_159 : decode cL_isSo 159 = .ok (.ifCond .eq 107, 3) := by decide +kernel
theorem dL_isSo_162 : decode cL_isSo 162 = .ok (.iconst 0, 1) := by decide +kernel
theorem dL_isSo_163 : decode cL_isSo 163 = .ok (.istore 11, 2) := by decide +kernel
theorem dL_isSo_165 : decode cL_isSo 165 = .ok (.iload 11, 2) := by decide +kernel
theorem dL_isSo_167 : decode cL_isSo 167 = .ok (.iconst 4, 1) := by decide +kernel
theorem dL_isSo_168 : decode cL_isSo 168 = .ok (.if_icmp .ge 40, 3) := by decide +kernel
theorem dL_isSo_171 : decode cL_isSo 171 = .ok (.iload 9, 2) := by decide +kernel
theorem dL_isSo_173 : decode cL_isSo 173 = .ok (.ifCond .eq 35, 3) := by decide +kernel
theorem dL_isSo_176 : decode cL_isSo 176 = .ok (.aload_n 0, 1) := by decide +kernel
theorem dL_isSo_177 : decode cL_isSo 177 = .ok (.iload 11, 2) := by decide +kernel
theorem dL_isSo_179 : decode cL_isSo 179 = .ok (.iload 10, 2) := by decide +kernel
theorem dL_isSo_181 : decode cL_isSo 181 = .ok (.invokevirtual 52, 3) := by decide +kernel
theorem dL_isSo_184 : decode cL_isSo 184 = .ok (.iload 11, 2) := by decide +kernel
theorem dL_isSo_186 : decode cL_isSo 186 = .ok (.iload 10, 2) := by decide +kernel
theorem dL_isSo_188 : decode cL_isSo 188 = .ok (.aload_n 1, 1) := by decide +kernel
theorem dL_isSo_189 : decode cL_isSo 189 = .ok (.invokestatic 31, 3) := by decide +kernel
theorem dL_isSo_192 : decode cL_isSo 192 = .ok (.if_icmp .ne 7, 3) := by decide +kernel
theorem dL_isSo_195 : decode cL_isSo 195 = .ok (.iconst 1, 1) := by decide +kernel
theorem dL_isSo_196 : decode cL_isSo 196 = .ok (.goto 4, 3) := by decide +kernel
theorem dL_isSo_199 : decode cL_isSo 199 = .ok (.iconst 0, 1) := by decide +kernel
theorem dL_isSo_200 : decode cL_isSo 200 = .ok (.istore 9, 2) := by decide +kernel
theorem dL_isSo_202 : decode cL_isSo 202 = .ok (.iinc 11 1, 3) := by decide +kernel
theorem dL_isSo_205 : decode cL_isSo 205 = .ok (.goto (-40), 3) := by decide +kernel
theorem dL_isSo_208 : decode cL_isSo 208 = .ok (.iconst 0, 1) := by decide +kernel
theorem dL_isSo_209 : decode cL_isSo 209 = .ok (.istore 11, 2) := by decide +kernel
theorem dL_isSo_211 : decode cL_isSo 211 = .ok (.iload 11, 2) := by decide +kernel
theorem dL_isSo_213 : decode cL_isSo 213 = .ok (.iconst 3, 1) := by decide +kernel
theorem dL_isSo_214 : decode cL_isSo 214 = .ok (.if_icmp .ge 46, 3) := by decide +kernel
theorem dL_isSo_217 : decode cL_isSo 217 = .ok (.iload 9, 2) := by decide +kernel
theorem dL_isSo_219 : decode cL_isSo 219 = .ok (.ifCond .eq 41, 3) := by decide +kernel
theorem dL_isSo_222 : decode cL_isSo 222 = .ok (.aload_n 0, 1) := by decide +kernel
theorem dL_isSo_223 : decode cL_isSo 223 = .ok (.iload 10, 2) := by decide +kernel
theorem dL_isSo_225 : decode cL_isSo 225 = .ok (.iload 11, 2) := by decide +kernel
theorem dL_isSo_227 : decode cL_isSo 227 = .ok (.invokevirtual 55, 3) := by decide +kernel
theorem dL_isSo_230 : decode cL_isSo 230 = .ok (.iload 10, 2) := by decide +kernel
theorem dL_isSo_232 : decode cL_isSo 232 = .ok (.iload 11, 2) := by decide +kernel
theorem dL_isSo_234 : decode cL_isSo 234 = .ok (.aload_n 1, 1) := by decide +kernel
theorem dL_isSo_235 : decode cL_isSo 235 = .ok (.aload_n 2, 1) := by decide +kernel
theorem dL_isSo_236 : decode cL_isSo 236 = .ok (.aload_n 3, 1) := by decide +kernel
theorem dL_isSo_237 : decode cL_isSo 237 = .ok (.aload 4, 2) := by decide +kernel
theorem dL_isSo_239 : decode cL_isSo 239 = .ok (.aload 8, 2) := by decide +kernel
theorem dL_isSo_241 : decode cL_isSo 241 = .ok (.invokestatic 58, 3) := by decide +kernel
theorem dL_isSo_244 : decode cL_isSo 244 = .ok (.if_icmp .ne 7, 3) := by decide +kernel
theorem dL_isSo_247 : decode cL_isSo 247 = .ok (.iconst 1, 1) := by decide +kernel
theorem dL_isSo_248 : decode cL_isSo 248 = .ok (.goto 4, 3) := by decide +kernel
theorem dL_isSo_251 : decode cL_isSo 251 = .ok (.iconst 0, 1) := by decide +kernel
theorem dL_isSo_252 : decode cL_isSo 252 = .ok (.istore 9, 2) := by decide +kernel
theorem dL_isSo_254 : decode cL_isSo 254 = .ok (.iinc 11 1, 3) := by decide +kernel
theorem dL_isSo_257 : decode cL_isSo 257 = .ok (.goto (-46), 3) := by decide +kernel
theorem dL_isSo_260 : decode cL_isSo 260 = .ok (.iinc 10 1, 3) := by decide +kernel
theorem dL_isSo_263 : decode cL_isSo 263 = .ok (.goto (-112), 3) := by decide +kernel
theorem dL_isSo_266 : decode cL_isSo 266 = .ok (.iconst 0, 1) := by decide +kernel
theorem dL_isSo_267 : decode cL_isSo 267 = .ok (.istore 10, 2) := by decide +kernel
theorem dL_isSo_269 : decode cL_isSo 269 = .ok (.iload 10, 2) := by decide +kernel
theorem dL_isSo_271 : decode cL_isSo 271 = .ok (.iconst 2, 1) := by decide +kernel
theorem dL_isSo_272 : decode cL_isSo 272 = .ok (.if_icmp .ge 132, 3) := by decide +kernel
theorem dL_isSo_275 : decode cL_isSo 275 = .ok (.iload 9, 2) := by decide +kernel
theorem dL_isSo_277 : decode cL_isSo 277 = .ok (.ifCond .eq 127, 3) := by decide +kernel
theorem dL_isSo_280 : decode cL_isSo 280 = .ok (.iconst 0, 1) := by decide +kernel
theorem dL_isSo_281 : decode cL_isSo 281 = .ok (.istore 11, 2) := by decide +kernel
theorem dL_isSo_283 : decode cL_isSo 283 = .ok (.iconst 0, 1) := by decide +kernel
theorem dL_isSo_284 : decode cL_isSo 284 = .ok (.istore 12, 2) := by decide +kernel
theorem dL_isSo_286 : decode cL_isSo 286 = .ok (.iload 12, 2) := by decide +kernel
theorem dL_isSo_288 : decode cL_isSo 288 = .ok (.bipush 15, 2) := by decide +kernel
theorem dL_isSo_290 : decode cL_isSo 290 = .ok (.if_icmp .ge 90, 3) := by decide +kernel
theorem dL_isSo_293 : decode cL_isSo 293 = .ok (.aload 6, 2) := by decide +kernel
theorem dL_isSo_295 : decode cL_isSo 295 = .ok (.bipush 15, 2) := by decide +kernel
theorem dL_isSo_297 : decode cL_isSo 297 = .ok (.iload 10, 2) := by decide +kernel
theorem dL_isSo_299 : decode cL_isSo 299 = .ok (.imul, 1) := by decide +kernel
theorem dL_isSo_300 : decode cL_isSo 300 = .ok (.iload 12, 2) := by decide +kernel
theorem dL_isSo_302 : decode cL_isSo 302 = .ok (.iadd, 1) := by decide +kernel
theorem dL_isSo_303 : decode cL_isSo 303 = .ok (.iaload, 1) := by decide +kernel
theorem dL_isSo_304 : decode cL_isSo 304 = .ok (.aload 8, 2) := by decide +kernel
theorem dL_isSo_306 : decode cL_isSo 306 = .ok (.iconst 0, 1) := by decide +kernel
theorem dL_isSo_307 : decode cL_isSo 307 = .ok (.iaload, 1) := by decide +kernel
theorem dL_isSo_308 : decode cL_isSo 308 = .ok (.if_icmp .le 7, 3) := by decide +kernel
theorem dL_isSo_311 : decode cL_isSo 311 = .ok (.iconst 1, 1) := by decide +kernel
theorem dL_isSo_312 : decode cL_isSo 312 = .ok (.goto 4, 3) := by decide +kernel
theorem dL_isSo_315 : decode cL_isSo 315 = .ok (.iconst 0, 1) := by decide +kernel
theorem dL_isSo_316 : decode cL_isSo 316 = .ok (.istore 13, 2) := by decide +kernel
theorem dL_isSo_318 : decode cL_isSo 318 = .ok (.iload 11, 2) := by decide +kernel
theorem dL_isSo_320 : decode cL_isSo 320 = .ok (.iload 13, 2) := by decide +kernel
theorem dL_isSo_322 : decode cL_isSo 322 = .ok (.ifCond .eq 48, 3) := by decide +kernel
theorem dL_isSo_325 : decode cL_isSo 325 = .ok (.aload 7, 2) := by decide +kernel
theorem dL_isSo_327 : decode cL_isSo 327 = .ok (.bipush 15, 2) := by decide +kernel
theorem dL_isSo_329 : decode cL_isSo 329 = .ok (.iload 10, 2) := by decide +kernel
theorem dL_isSo_331 : decode cL_isSo 331 = .ok (.imul, 1) := by decide +kernel
theorem dL_isSo_332 : decode cL_isSo 332 = .ok (.iload 12, 2) := by decide +kernel
theorem dL_isSo_334 : decode cL_isSo 334 = .ok (.iadd, 1) := by decide +kernel
theorem dL_isSo_335 : decode cL_isSo 335 = .ok (.iaload, 1) := by decide +kernel
theorem dL_isSo_336 : decode cL_isSo 336 = .ok (.iconst 1, 1) := by decide +kernel
theorem dL_isSo_337 : decode cL_isSo 337 = .ok (.if_icmp .ne 7, 3) := by decide +kernel
theorem dL_isSo_340 : decode cL_isSo 340 = .ok (.iconst 1, 1) := by decide +kernel
theorem dL_isSo_341 : decode cL_isSo 341 = .ok (.goto 4, 3) := by decide +kernel
theorem dL_isSo_344 : decode cL_isSo 344 = .ok (.iconst 0, 1) := by decide +kernel
theorem dL_isSo_345 : decode cL_isSo 345 = .ok (.iload 12, 2) := by decide +kernel
theorem dL_isSo_347 : decode cL_isSo 347 = .ok (.iconst 3, 1) := by decide +kernel
theorem dL_isSo_348 : decode cL_isSo 348 = .ok (.idiv, 1) := by decide +kernel
theorem dL_isSo_349 : decode cL_isSo 349 = .ok (.iload 12, 2) := by decide +kernel
theorem dL_isSo_351 : decode cL_isSo 351 = .ok (.iconst 3, 1) := by decide +kernel
theorem dL_isSo_352 : decode cL_isSo 352 = .ok (.irem, 1) := by decide +kernel
theorem dL_isSo_353 : decode cL_isSo 353 = .ok (.aload_n 1, 1) := by decide +kernel
theorem dL_isSo_354 : decode cL_isSo 354 = .ok (.aload_n 2, 1) := by decide +kernel
theorem dL_isSo_355 : decode cL_isSo 355 = .ok (.aload_n 3, 1) := by decide +kernel
theorem dL_isSo_356 : decode cL_isSo 356 = .ok (.aload 4, 2) := by decide +kernel
theorem dL_isSo_358 : decode cL_isSo 358 = .ok (.aload 8, 2) := by decide +kernel
theorem dL_isSo_360 : decode cL_isSo 360 = .ok (.invokestatic 58, 3) := by decide +kernel
theorem dL_isSo_363 : decode cL_isSo 363 = .ok (.if_icmp .eq 7, 3) := by decide +kernel
theorem dL_isSo_366 : decode cL_isSo 366 = .ok (.iconst 1, 1) := by decide +kernel
theorem dL_isSo_367 : decode cL_isSo 367 = .ok (.goto 4, 3) := by decide +kernel
theorem dL_isSo_370 : decode cL_isSo 370 = .ok (.iconst 0, 1) := by decide +kernel
theorem dL_isSo_371 : decode cL_isSo 371 = .ok (.iadd, 1) := by decide +kernel
theorem dL_isSo_372 : decode cL_isSo 372 = .ok (.istore 11, 2) := by decide +kernel
theorem dL_isSo_374 : decode cL_isSo 374 = .ok (.iinc 12 1, 3) := by decide +kernel
theorem dL_isSo_377 : decode cL_isSo 377 = .ok (.goto (-91), 3) := by decide +kernel
theorem dL_isSo_380 : decode cL_isSo 380 = .ok (.aload_n 0, 1) := by decide +kernel
theorem dL_isSo_381 : decode cL_isSo 381 = .ok (.iload 10, 2) := by decide +kernel
theorem dL_isSo_383 : decode cL_isSo 383 = .ok (.invokevirtual 61, 3) := by decide +kernel
theorem dL_isSo_386 : decode cL_isSo 386 = .ok (.iload 11, 2) := by decide +kernel
theorem dL_isSo_388 : decode cL_isSo 388 = .ok (.if_icmp .ne 7, 3) := by decide +kernel
theorem dL_isSo_391 : decode cL_isSo 391 = .ok (.iconst 1, 1) := by decide +kernel
theorem dL_isSo_392 : decode cL_isSo 392 = .ok (.goto 4, 3) := by decide +kernel
theorem dL_isSo_395 : decode cL_isSo 395 = .ok (.iconst 0, 1) := by decide +kernel
theorem dL_isSo_396 : decode cL_isSo 396 = .ok (.istore 9, 2) := by decide +kernel
theorem dL_isSo_398 : decode cL_isSo 398 = .ok (.iinc 10 1, 3) := by decide +kernel
theorem dL_isSo_401 : decode cL_isSo 401 = .ok (.goto (-132), 3) := by decide +kernel
theorem dL_isSo_404 : decode cL_isSo 404 = .ok (.iload 9, 2) := by decide +kernel
theorem dL_isSo_406 : decode cL_isSo 406 = .ok (.ireturn, 1) := by decide +kernel
set_option maxRecDepth 20000 in
theorem ggL_sets_L_low : GoodIn wsL_sets wsL_low := goodIn_r _ [4, 5] (by decide +kernel) (by decide +kernel)
set_option maxRecDepth 20000 in
theorem gL_sets_L_low : GoodIn wsL_sets (va_wsS RL 64 yL_low wsL_low) := goodIn_app (goodIn_of _ (by decide +kernel)) ggL_sets_L_low
set_option maxRecDepth 20000 in
theorem ggL_sets_X4_setPerson : GoodIn wsL_sets wsX4_setPerson := goodIn_ca (goodIn_r _ [10, 11, 12, 13, 14, 15, 9, 16, 17, 18, 19, 20, 21, 22, 23, 24, 25, 26, 27, 28, 148, 149, 150, 151, 152, 153, 154, 155, 156, 157, 158] (by decide +kernel) (by decide +kernel)) (goodIn_sub (fun _ h => List.mem_cons_of_mem _ (List.mem_append_left _ (List.mem_append_left _ (List.mem_append_right _ h)))) (by decide +kernel))
set_option maxRecDepth 20000 in
theorem gL_sets_X4_setPerson : GoodIn wsL_sets (wsV RL 68 RX4 yX4_setPerson wsX4_setPerson) := goodIn_app (goodIn_of _ (by decide +kernel)) ggL_sets_X4_setPerson
set_option maxRecDepth 20000 in
theorem ggL_sets_L_calls : GoodIn wsL_sets wsL_calls := goodIn_ca (goodIn_ca (goodIn_ca (goodIn_r _ [31, 32, 33, 34, 35, 36, 9, 37, 11, 12, 38, 39, 13, 14, 15, 16, 40, 41, 42, 20, 43, 44, 45, 46, 47, 48, 49, 50, 51, 52, 23, 24, 25, 53, 54, 55, 56, 26, 27, 28, 57, 58, 59, 60, 61, 62, 63, 64, 65, 66, 67, 68, 69, 70, 71, 72, 73, 74, 75, 76, 77, 78, 79, 80, 81, 82, 83, 84, 85, 86, 87, 88, 89, 90, 91, 92, 93, 94, 95, 96, 97, 98, 99, 100, 101, 102, 103, 104, 105, 106, 107, 108, 109, 110, 111, 112, 113, 114, 115, 116, 117, 118, 119, 120, 121, 122, 123, 124, 22, 125, 148, 149, 150, 151, 152, 153, 154, 155, 156, 157, 158, 159, 160, 161, 162, 163, 164, 165, 166] (by decide +kernel) (by decide +kernel)) (goodIn_sub (fun _ h => List.mem_cons_of_mem _ (List.mem_append_left _ (List.mem_append_left _ (List.mem_append_right _ h)))) (by decide +kernel))) (goodIn_sub (fun _ h => List.mem_cons_of_mem _ (List.mem_append_left _ (List.mem_append_right _ h))) (by decide +kernel))) (goodIn_sub (fun _ h => List.mem_cons_of_mem _ (List.mem_append_right _ h)) (by decide +kernel))
set_option maxRecDepth 20000 in
theorem gL_sets_L_calls : GoodIn wsL_sets (va_wsS RL 71 yL_calls wsL_calls) := goodIn_app (goodIn_of _ (by decide +kernel)) ggL_sets_L_calls
set_option maxRecDepth 20000 in
theorem ggL_sets_X4_setRole : GoodIn wsL_sets wsX4_setRole := goodIn_ca (goodIn_r _ [129, 11, 12, 13, 14, 15, 9, 16, 130, 131, 132, 20, 133, 125, 134, 135, 136, 137, 138, 23, 24, 25, 26, 27, 28, 148, 149, 150, 151, 152, 153, 154, 155, 156, 157, 158] (by decide +kernel) (by decide +kernel)) (goodIn_sub (fun _ h => List.mem_cons_of_mem _ (List.mem_append_left _ (List.mem_append_left _ (List.mem_append_right _ h)))) (by decide +kernel))
set_option maxRecDepth 20000 in
theorem gL_sets_X4_setRole : GoodIn wsL_sets (wsV RL 75 RX4 yX4_setRole wsX4_setRole) := goodIn_app (goodIn_of _ (by decide +kernel)) ggL_sets_X4_setRole
set_option maxRecDepth 20000 in
theorem ggL_sets_X4_setRisk : GoodIn wsL_sets wsX4_setRisk := goodIn_ca (goodIn_r _ [142, 11, 12, 68, 61, 14, 15, 9, 16, 143, 144, 145, 72, 146, 74, 103, 85, 147, 105, 106, 107, 148, 149, 150, 151, 152, 153, 154, 159, 160, 161, 162, 163, 164] (by decide +kernel) (by decide +kernel)) (goodIn_sub (fun _ h => List.mem_cons_of_mem _ (List.mem_append_left _ (List.mem_append_left _ (List.mem_append_right _ h)))) (by decide +kernel))
set_option maxRecDepth 20000 in
theorem gL_sets_X4_setRisk : GoodIn wsL_sets (wsV RL 79 RX4 yX4_setRisk wsX4_setRisk) := goodIn_app (goodIn_of _ (by decide +kernel)) ggL_sets_X4_setRisk
theorem dL_sets_0 : decode cL_sets 0 = .ok (.iload_n 2, 1) := by decide +kernel
theorem dL_sets_1 : decode cL_sets 1 = .ok (.iconst 4, 1) := by decide +kernel
theorem dL_sets_2 : decode cL_sets 2 = .ok (.invokestatic 64, 3) := by decide +kernel
theorem dL_sets_5 : decode cL_sets 5 = .ok (.istore 8, 2) := by decide +kernel
theorem dL_sets_7 : decode cL_sets 7 = .ok (.iload_n 1, 1) := by decide +kernel
theorem dL_sets_8 : decode cL_sets 8 = .ok (.iconst 2, 1) := by decide +kernel
theorem dL_sets_9 : decode cL_sets 9 = .ok (.if_icmp .ge 108, 3) := by decide +kernel
theorem dL_sets_12 : decode cL_sets 12 = .ok (.iload_n 2, 1) := by decide +kernel
theorem dL_sets_13 : decode cL_sets 13 = .ok (.iconst 3, 1) := by decide +kernel
theorem dL_sets_14 : decode cL_sets 14 = .ok (.ishr, 1) := by decide +kernel
theorem dL_sets_15 : decode cL_sets 15 = .ok (.iconst 5, 1) := by decide +kernel
theorem dL_sets_16 : decode cL_sets 16 = .ok (.invokestatic 64, 3) := by decide +kernel
theorem dL_sets_19 : decode cL_sets 19 = .ok (.istore 9, 2) := by decide +kernel
theorem dL_sets_21 : decode cL_sets 21 = .ok (.iload_n 2, 1) := by decide +kernel
theorem dL_sets_22 : decode cL_sets 22 = .ok (.bipush 6, 2) := by decide +kernel
theorem dL_sets_24 : decode cL_sets 24 = .ok (.ishr, 1) := by decide +kernel
theorem dL_sets_25 : decode cL_sets 25 = .ok (.iconst 4, 1) := by decide +kernel
theorem dL_sets_26 : decode cL_sets 26 = .ok (.invokestatic 64, 3) := by decide +kernel
theorem dL_sets_29 : decode cL_sets 29 = .ok (.ifCond .le 7, 3) := by decide +kernel
theorem dL_sets_32 : decode cL_sets 32 = .ok (.iconst 1, 1) := by decide +kernel
theorem dL_sets_33 : decode cL_sets 33 = .ok (.goto 4, 3) := by decide +kernel
theorem dL_sets_36 : decode cL_sets 36 = .ok (.iconst 0, 1) := by decide +kernel
theorem dL_sets_37 : decode cL_sets 37 = .ok (.istore 10, 2) := by decide +kernel
theorem dL_sets_39 : decode cL_sets 39 = .ok (.aload_n 3, 1) := by decide +kernel
theorem dL_sets_40 : decode cL_sets 40 = .ok (.iload 8, 2) := by decide +kernel
theorem dL_sets_42 : decode cL_sets 42 = .ok (.iaload, 1) := by decide +kernel
theorem dL_sets_43 : decode cL_sets 43 = .ok (.iload 9, 2) := by decide +kernel
theorem dL_sets_45 : decode cL_sets 45 = .ok (.ishr, 1) := by decide +kernel
theorem dL_sets_46 : decode cL_sets 46 = .ok (.iconst 1, 1) := by decide +kernel
theorem dL_sets_47 : decode cL_sets 47 = .ok (.iand, 1) := by decide +kernel
theorem dL_sets_48 : decode cL_sets 48 = .ok (.iconst 1, 1) := by decide +kernel
theorem dL_sets_49 : decode cL_sets 49 = .ok (.if_icmp .ne 7, 3) := by decide +kernel
theorem dL_sets_52 : decode cL_sets 52 = .ok (.iconst 1, 1) := by decide +kernel
theorem dL_sets_53 : decode cL_sets 53 = .ok (.goto 4, 3) := by decide +kernel
theorem dL_sets_56 : decode cL_sets 56 = .ok (.iconst 0, 1) := by decide +kernel
theorem dL_sets_57 : decode cL_sets 57 = .ok (.istore 11, 2) := by decide +kernel
theorem dL_sets_59 : decode cL_sets 59 = .ok (.aload_n 3, 1) := by decide +kernel
theorem dL_sets_60 : decode cL_sets 60 = .ok (.iload 8, 2) := by decide +kernel
theorem dL_sets_62 : decode cL_sets 62 = .ok (.aload_n 3, 1) := by decide +kernel
theorem dL_sets_63 : decode cL_sets 63 = .ok (.iload 8, 2) := by decide +kernel
theorem dL_sets_65 : decode cL_sets 65 = .ok (.iaload, 1) := by decide +kernel
theorem dL_sets_66 : decode cL_sets 66 = .ok (.iload 11, 2) := by decide +kernel
theorem dL_sets_68 : decode cL_sets 68 = .ok (.ifCond .eq 10, 3) := by decide +kernel
theorem dL_sets_71 : decode cL_sets 71 = .ok (.iconst 1, 1) := by decide +kernel
theorem dL_sets_72 : decode cL_sets 72 = .ok (.iload 9, 2) := by decide +kernel
theorem dL_sets_74 : decode cL_sets 74 = .ok (.ishl, 1) := by decide +kernel
theorem dL_sets_75 : decode cL_sets 75 = .ok (.goto 4, 3) := by decide +kernel
theorem dL_sets_78 : decode cL_sets 78 = .ok (.iconst 0, 1) := by decide +kernel
theorem dL_sets_79 : decode cL_sets 79 = .ok (.isub, 1) := by decide +kernel
theorem dL_sets_80 : decode cL_sets 80 = .ok (.iload 10, 2) := by decide +kernel
theorem dL_sets_82 : decode cL_sets 82 = .ok (.iload 9, 2) := by decide +kernel
theorem dL_sets_84 : decode cL_sets 84 = .ok (.ishl, 1) := by decide +kernel
theorem dL_sets_85 : decode cL_sets 85 = .ok (.iadd, 1) := by decide +kernel
theorem dL_sets_86 : decode cL_sets 86 = .ok (.iastore, 1) := by decide +kernel
theorem dL_sets_87 : decode cL_sets 87 = .ok (.aload_n 0, 1) := by decide +kernel
theorem dL_sets_88 : decode cL_sets 88 = .ok (.iload 8, 2) := by decide +kernel
theorem dL_sets_90 : decode cL_sets 90 = .ok (.iload 9, 2) := by decide +kernel
theorem dL_sets_92 : decode cL_sets 92 = .ok (.iload 10, 2) := by decide +kernel
theorem dL_sets_94 : decode cL_sets 94 = .ok (.iconst 1, 1) := by decide +kernel
theorem dL_sets_95 : decode cL_sets 95 = .ok (.if_icmp .ne 7, 3) := by decide +kernel
theorem dL_sets_98 : decode cL_sets 98 = .ok (.iconst 1, 1) := by decide +kernel
theorem dL_sets_99 : decode cL_sets 99 = .ok (.goto 4, 3) := by decide +kernel
theorem dL_sets_102 : decode cL_sets 102 = .ok (.iconst 0, 1) := by decide +kernel
theorem dL_sets_103 : decode cL_sets 103 = .ok (.invokevirtual 68, 3) := by decide +kernel
theorem dL_sets_106 : decode cL_sets 106 = .ok (.iload 11, 2) := by decide +kernel
theorem dL_sets_108 : decode cL_sets 108 = .ok (.if_icmp .ne 7, 3) := by decide +kernel
theorem dL_sets_111 : decode cL_sets 111 = .ok (.iconst 1, 1) := by decide +kernel
theorem dL_sets_112 : decode cL_sets 112 = .ok (.goto 4, 3) := by decide +kernel
theorem dL_sets_115 : decode cL_sets 115 = .ok (.iconst 0, 1) := by decide +kernel
theorem dL_sets_116 : decode cL_sets 116 = .ok (.ireturn, 1) := by decide +kernel
theorem dL_sets_117 : decode cL_sets 117 = .ok (.iload_n 1, 1) := by decide +kernel
theorem dL_sets_118 : decode cL_sets 118 = .ok (.iconst 4, 1) := by decide +kernel
theorem dL_sets_119 : decode cL_sets 119 = .ok (.if_icmp .ge 256, 3) := by decide +kernel
theorem dL_sets_122 : decode cL_sets 122 = .ok (.iload_n 2, 1) := by decide +kernel
theorem dL_sets_123 : decode cL_sets 123 = .ok (.iconst 3, 1) := by decide +kernel
theorem dL_sets_124 : decode cL_sets 124 = .ok (.ishr, 1) := by decide +kernel
theorem dL_sets_125 : decode cL_sets 125 = .ok (.iconst 4, 1) := by decide +kernel
theorem dL_sets_126 : decode cL_sets 126 = .ok (.invokestatic 64, 3) := by decide +kernel
theorem dL_sets_129 : decode cL_sets 129 = .ok (.istore 9, 2) := by decide +kernel
theorem dL_sets_131 : decode cL_sets 131 = .ok (.iload_n 2, 1) := by decide +kernel
theorem dL_sets_132 : decode cL_sets 132 = .ok (.bipush 6, 2) := by decide +kernel
theorem dL_sets_134 : decode cL_sets 134 = .ok (.ishr, 1) := by decide +kernel
theorem dL_sets_135 : decode cL_sets 135 = .ok (.iconst 3, 1) := by decide +kernel
theorem dL_sets_136 : decode cL_sets 136 = .ok (.invokestatic 64, 3) := by decide +kernel
theorem dL_sets_139 : decode cL_sets 139 = .ok (.ifCond .le 7, 3) := by decide +kernel
theorem dL_sets_142 : decode cL_sets 142 = .ok (.iconst 1, 1) := by decide +kernel
theorem dL_sets_143 : decode cL_sets 143 = .ok (.goto 4, 3) := by decide +kernel
theorem dL_sets_146 : decode cL_sets 146 = .ok (.iconst 0, 1) := by decide +kernel
theorem dL_sets_147 : decode cL_sets 147 = .ok (.istore 10, 2) := by decide +kernel
theorem dL_sets_149 : decode cL_sets 149 = .ok (.aload_n 3, 1) := by decide +kernel
theorem dL_sets_150 : decode cL_sets 150 = .ok (.iconst 4, 1) := by decide +kernel
theorem dL_sets_151 : decode cL_sets 151 = .ok (.iload 8, 2) := by decide +kernel
theorem dL_sets_153 : decode cL_sets 153 = .ok (.iadd, 1) := by decide +kernel
theorem dL_sets_154 : decode cL_sets 154 = .ok (.iaload, 1) := by decide +kernel
theorem dL_sets_155 : decode cL_sets 155 = .ok (.iload 9, 2) := by decide +kernel
theorem dL_sets_157 : decode cL_sets 157 = .ok (.ishr, 1) := by decide +kernel
theorem dL_sets_158 : decode cL_sets 158 = .ok (.iconst 1, 1) := by decide +kernel
theorem dL_sets_159 : decode cL_sets 159 = .ok (.iand, 1) := by decide +kernel
theorem dL_sets_160 : decode cL_sets 160 = .ok (.iconst 1, 1) := by decide +kernel
theorem dL_sets_161 : decode cL_sets 161 = .ok (.if_icmp .ne 7, 3) := by decide +kernel
theorem dL_sets_164 : decode cL_sets 164 = .ok (.iconst 1, 1) := by decide +kernel
theorem dL_sets_165 : decode cL_sets 165 = .ok (.goto 4, 3) := by decide +kernel
theorem dL_sets_168 : decode cL_sets 168 = .ok (.iconst 0, 1) := by decide +kernel
theorem dL_sets_169 : decode cL_sets 169 = .ok (.istore 11, 2) := by decide +kernel
theorem dL_sets_171 : decode cL_sets 171 = .ok (.aload_n 3, 1) := by decide +kernel
theorem dL_sets_172 : decode cL_sets 172 = .ok (.iload 8, 2) := by decide +kernel
theorem dL_sets_174 : decode cL_sets 174 = .ok (.iaload, 1) := by decide +kernel
theorem dL_sets_175 : decode cL_sets 175 = .ok (.istore 12, 2) := by decide +kernel
theorem dL_sets_177 : decode cL_sets 177 = .ok (.iconst 0, 1) := by decide +kernel
theorem dL_sets_178 : decode cL_sets 178 = .ok (.istore 13, 2) := by decide +kernel
theorem dL_sets_180 : decode cL_sets 180 = .ok (.iload 10, 2) := by decide +kernel
theorem dL_sets_182 : decode cL_sets 182 = .ok (.iconst 1, 1) := by decide +kernel
theorem dL_sets_183 : decode cL_sets 183 = .ok (.if_icmp .ne 80, 3) := by decide +kernel
theorem dL_sets_186 : decode cL_sets 186 = .ok (.iload 8, 2) := by decide +kernel
theorem dL_sets_188 : decode cL_sets 188 = .ok (.iload 9, 2) := by decide +kernel
theorem dL_sets_190 : decode cL_sets 190 = .ok (.if_icmp .eq 73, 3) := by decide +kernel
theorem dL_sets_193 : decode cL_sets 193 = .ok (.iconst 1, 1) := by decide +kernel
theorem dL_sets_194 : decode cL_sets 194 = .ok (.iload 9, 2) := by decide +kernel
theorem dL_sets_196 : decode cL_sets 196 = .ok (.ishl, 1) := by decide +kernel
theorem dL_sets_197 : decode cL_sets 197 = .ok (.istore 14, 2) := by decide +kernel
theorem dL_sets_199 : decode cL_sets 199 = .ok (.iconst 0, 1) := by decide +kernel
theorem dL_sets_200 : decode cL_sets 200 = .ok (.istore 15, 2) := by decide +kernel
theorem dL_sets_202 : decode cL_sets 202 = .ok (.iload 15, 2) := by decide +kernel
theorem dL_sets_204 : decode cL_sets 204 = .ok (.bipush 16, 2) := by decide +kernel
theorem dL_sets_206 : decode cL_sets 206 = .ok (.if_icmp .ge 39, 3) := by decide +kernel
theorem dL_sets_209 : decode cL_sets 209 = .ok (.iload 14, 2) := by decide +kernel
theorem dL_sets_211 : decode cL_sets 211 = .ok (.iload 14, 2) := by decide +kernel
theorem dL_sets_213 : decode cL_sets 213 = .ok (.iload 15, 2) := by decide +kernel
theorem dL_sets_215 : decode cL_sets 215 = .ok (.iconst 4, 1) := by decide +kernel
theorem dL_sets_216 : decode cL_sets 216 = .ok (.irem, 1) := by decide +kernel
theorem dL_sets_217 : decode cL_sets 217 = .ok (.ishr, 1) := by decide +kernel
theorem dL_sets_218 : decode cL_sets 218 = .ok (.iconst 1, 1) := by decide +kernel
theorem dL_sets_219 : decode cL_sets 219 = .ok (.iand, 1) := by decide +kernel
theorem dL_sets_220 : decode cL_sets 220 = .ok (.iconst 1, 1) := by decide +kernel
theorem dL_sets_221 : decode cL_sets 221 = .ok (.if_icmp .ne 14, 3) := by decide +kernel
theorem dL_sets_224 : decode cL_sets 224 = .ok (.aload_n 3, 1) := by decide +kernel
theorem dL_sets_225 : decode cL_sets 225 = .ok (.iconst 4, 1) := by decide +kernel
theorem dL_sets_226 : decode cL_sets 226 = .ok (.iload 15, 2) := by decide +kernel
theorem dL_sets_228 : decode cL_sets 228 = .ok (.iconst 4, 1) := by decide +kernel
theorem dL_sets_229 : decode cL_sets 229 = .ok (.irem, 1) := by decide +kernel
theorem dL_sets_230 : decode cL_sets 230 = .ok (.iadd, 1) := by decide +kernel
theorem dL_sets_231 : decode cL_sets 231 = .ok (.iaload, 1) := by decide +kernel
theorem dL_sets_232 : decode cL_sets 232 = .ok (.goto 4, 3) := by decide +kernel
theorem dL_sets_235 : decode cL_sets 235 = .ok (.iconst 0, 1) := by decide +kernel
theorem dL_sets_236 : decode cL_sets 236 = .ok (.ior, 1) := by decide +kernel
theorem dL_sets_237 : decode cL_sets 237 = .ok (.istore 14, 2) := by decide +kernel
theorem dL_sets_239 : decode cL_sets 239 = .ok (.iinc 15 1, 3) := by decide +kernel
theorem dL_sets_242 : decode cL_sets 242 = .ok (.goto (-40), 3) := by decide +kernel
theorem dL_sets_245 : decode cL_sets 245 = .ok (.iload 14, 2) := by decide +kernel
theorem dL_sets_247 : decode cL_sets 247 = .ok (.iload 8, 2) := by decide +kernel
theorem dL_sets_249 : decode cL_sets 249 = .ok (.ishr, 1) := by decide +kernel
theorem dL_sets_250 : decode cL_sets 250 = .ok (.iconst 1, 1) := by decide +kernel
theorem dL_sets_251 : decode cL_sets 251 = .ok (.iand, 1) := by decide +kernel
theorem dL_sets_252 : decode cL_sets 252 = .ok (.iconst 1, 1) := by decide +kernel
theorem dL_sets_253 : decode cL_sets 253 = .ok (.if_icmp .ne 7, 3) := by decide +kernel
theorem dL_sets_256 : decode cL_sets 256 = .ok (.iconst 1, 1) := by decide +kernel
theorem dL_sets_257 : decode cL_sets 257 = .ok (.goto 4, 3) := by decide +kernel
theorem dL_sets_260 : decode cL_sets 260 = .ok (.iconst 0, 1) := by decide +kernel
theorem dL_sets_261 : decode cL_sets 261 = .ok (.istore 13, 2) := by decide +kernel
theorem dL_sets_263 : decode cL_sets 263 = .ok (.iload 8, 2) := by decide +kernel
theorem dL_sets_265 : decode cL_sets 265 = .ok (.iload 9, 2) := by decide +kernel
theorem dL_sets_267 : decode cL_sets 267 = .ok (.if_icmp .ne 8, 3) := by decide +kernel
theorem dL_sets_270 : decode cL_sets 270 = .ok (.bipush (-2), 2) := by decide +kernel
theorem dL_sets_272 : decode cL_sets 272 = .ok (.goto 23, 3) := by decide +kernel
theorem dL_sets_275 : decode cL_sets 275 = .ok (.iload 13, 2) := by decide +kernel
theorem dL_sets_277 : decode cL_sets 277 = .ok (.ifCond .eq 8, 3) := by decide +kernel
theorem dL_sets_280 : decode cL_sets 280 = .ok (.bipush (-3), 2) := by decide +kernel
theorem dL_sets_282 : decode cL_sets 282 = .ok (.goto 13, 3) := by decide +kernel
theorem dL_sets_285 : decode cL_sets 285 = .ok (.iload 11, 2) := by decide +kernel
theorem dL_sets_287 : decode cL_sets 287 = .ok (.ifCond .eq 7, 3) := by decide +kernel
theorem dL_sets_290 : decode cL_sets 290 = .ok (.iconst 1, 1) := by decide +kernel
theorem dL_sets_291 : decode cL_sets 291 = .ok (.goto 4, 3) := by decide +kernel
theorem dL_sets_294 : decode cL_sets 294 = .ok (.iconst 0, 1) := by decide +kernel
theorem dL_sets_295 : decode cL_sets 295 = .ok (.istore 14, 2) := by decide +kernel
theorem dL_sets_297 : decode cL_sets 297 = .ok (.aload_n 3, 1) := by decide +kernel
theorem dL_sets_298 : decode cL_sets 298 = .ok (.iconst 4, 1) := by decide +kernel
theorem dL_sets_299 : decode cL_sets 299 = .ok (.iload 8, 2) := by decide +kernel
theorem dL_sets_301 : decode cL_sets 301 = .ok (.iadd, 1) := by decide +kernel
theorem dL_sets_302 : decode cL_sets 302 = .ok (.iload 14, 2) := by decide +kernel
theorem dL_sets_304 : decode cL_sets 304 = .ok (.ifCond .ge 12, 3) := by decide +kernel
theorem dL_sets_307 : decode cL_sets 307 = .ok (.aload_n 3, 1) := by decide +kernel
theorem dL_sets_308 : decode cL_sets 308 = .ok (.iconst 4, 1) := by decide +kernel
theorem dL_sets_309 : decode cL_sets 309 = .ok (.iload 8, 2) := by decide +kernel
theorem dL_sets_311 : decode cL_sets 311 = .ok (.iadd, 1) := by decide +kernel
theorem dL_sets_312 : decode cL_sets 312 = .ok (.iaload, 1) := by decide +kernel
theorem dL_sets_313 : decode cL_sets 313 = .ok (.goto 29, 3) := by decide +kernel
theorem dL_sets_316 : decode cL_sets 316 = .ok (.aload_n 3, 1) := by decide +kernel
theorem dL_sets_317 : decode cL_sets 317 = .ok (.iconst 4, 1) := by decide +kernel
theorem dL_sets_318 : decode cL_sets 318 = .ok (.iload 8, 2) := by decide +kernel
theorem dL_sets_320 : decode cL_sets 320 = .ok (.iadd, 1) := by decide +kernel
theorem dL_sets_321 : decode cL_sets 321 = .ok (.iaload, 1) := by decide +kernel
theorem dL_sets_322 : decode cL_sets 322 = .ok (.iload 11, 2) := by decide +kernel
theorem dL_sets_324 : decode cL_sets 324 = .ok (.ifCond .eq 10, 3) := by decide +kernel
theorem dL_sets_327 : decode cL_sets 327 = .ok (.iconst 1, 1) := by decide +kernel
theorem dL_sets_328 : decode cL_sets 328 = .ok (.iload 9, 2) := by decide +kernel
theorem dL_sets_330 : decode cL_sets 330 = .ok (.ishl, 1) := by decide +kernel
theorem dL_sets_331 : decode cL_sets 331 = .ok (.goto 4, 3) := by decide +kernel
theorem dL_sets_334 : decode cL_sets 334 = .ok (.iconst 0, 1) := by decide +kernel
theorem dL_sets_335 : decode cL_sets 335 = .ok (.isub, 1) := by decide +kernel
theorem dL_sets_336 : decode cL_sets 336 = .ok (.iload 10, 2) := by decide +kernel
theorem dL_sets_338 : decode cL_sets 338 = .ok (.iload 9, 2) := by decide +kernel
theorem dL_sets_340 : decode cL_sets 340 = .ok (.ishl, 1) := by decide +kernel
theorem dL_sets_341 : decode cL_sets 341 = .ok (.iadd, 1) := by decide +kernel
theorem dL_sets_342 : decode cL_sets 342 = .ok (.iastore, 1) := by decide +kernel
theorem dL_sets_343 : decode cL_sets 343 = .ok (.aload_n 3, 1) := by decide +kernel
theorem dL_sets_344 : decode cL_sets 344 = .ok (.iload 8, 2) := by decide +kernel
theorem dL_sets_346 : decode cL_sets 346 = .ok (.iaload, 1) := by decide +kernel
theorem dL_sets_347 : decode cL_sets 347 = .ok (.iload 12, 2) := by decide +kernel
theorem dL_sets_349 : decode cL_sets 349 = .ok (.if_icmp .ne 24, 3) := by decide +kernel
theorem dL_sets_352 : decode cL_sets 352 = .ok (.aload_n 0, 1) := by decide +kernel
theorem dL_sets_353 : decode cL_sets 353 = .ok (.iconst 0, 1) := by decide +kernel
theorem dL_sets_354 : decode cL_sets 354 = .ok (.iload 8, 2) := by decide +kernel
theorem dL_sets_356 : decode cL_sets 356 = .ok (.iload 9, 2) := by decide +kernel
theorem dL_sets_358 : decode cL_sets 358 = .ok (.iload 10, 2) := by decide +kernel
theorem dL_sets_360 : decode cL_sets 360 = .ok (.iconst 0, 1) := by decide +kernel
theorem dL_sets_361 : decode cL_sets 361 = .ok (.invokestatic 71, 3) := by decide +kernel
theorem dL_sets_364 : decode cL_sets 364 = .ok (.iload 14, 2) := by decide +kernel
theorem dL_sets_366 : decode cL_sets 366 = .ok (.if_icmp .ne 7, 3) := by decide +kernel
theorem dL_sets_369 : decode cL_sets 369 = .ok (.iconst 1, 1) := by decide +kernel
theorem dL_sets_370 : decode cL_sets 370 = .ok (.goto 4, 3) := by decide +kernel
theorem dL_sets_373 : decode cL_sets 373 = .ok (.iconst 0, 1) := by decide +kernel
theorem dL_sets_374 : decode cL_sets 374 = .ok (.ireturn, 1) := by decide +kernel
theorem dL_sets_375 : decode cL_sets 375 = .ok (.iload_n 1, 1) := by decide +kernel
theorem dL_sets_376 : decode cL_sets 376 = .ok (.bipush 7, 2) := by decide +kernel
theorem dL_sets_378 : decode cL_sets 378 = .ok (.if_icmp .ge 84, 3) := by decide +kernel
theorem dL_sets_381 : decode cL_sets 381 = .ok (.iload_n 2, 1) := by decide +kernel
theorem dL_sets_382 : decode cL_sets 382 = .ok (.iconst 3, 1) := by decide +kernel
theorem dL_sets_383 : decode cL_sets 383 = .ok (.ishr, 1) := by decide +kernel
theorem dL_sets_384 : decode cL_sets 384 = .ok (.iconst 3, 1) := by decide +kernel
theorem dL_sets_385 : decode cL_sets 385 = .ok (.invokestatic 64, 3) := by decide +kernel
theorem dL_sets_388 : decode cL_sets 388 = .ok (.istore 9, 2) := by decide +kernel
theorem dL_sets_390 : decode cL_sets 390 = .ok (.aload 4, 2) := by decide +kernel
theorem dL_sets_392 : decode cL_sets 392 = .ok (.iconst 3, 1) := by decide +kernel
theorem dL_sets_393 : decode cL_sets 393 = .ok (.iload 8, 2) := by decide +kernel
theorem dL_sets_395 : decode cL_sets 395 = .ok (.imul, 1) := by decide +kernel
theorem dL_sets_396 : decode cL_sets 396 = .ok (.iload 9, 2) := by decide +kernel
theorem dL_sets_398 : decode cL_sets 398 = .ok (.iadd, 1) := by decide +kernel
theorem dL_sets_399 : decode cL_sets 399 = .ok (.iaload, 1) := by decide +kernel
theorem dL_sets_400 : decode cL_sets 400 = .ok (.istore 10, 2) := by decide +kernel
theorem dL_sets_402 : decode cL_sets 402 = .ok (.aload 4, 2) := by decide +kernel
theorem dL_sets_404 : decode cL_sets 404 = .ok (.iconst 3, 1) := by decide +kernel
theorem dL_sets_405 : decode cL_sets 405 = .ok (.iload 8, 2) := by decide +kernel
theorem dL_sets_407 : decode cL_sets 407 = .ok (.imul, 1) := by decide +kernel
theorem dL_sets_408 : decode cL_sets 408 = .ok (.iload 9, 2) := by decide +kernel
theorem dL_sets_410 : decode cL_sets 410 = .ok (.iadd, 1) := by decide +kernel
theorem dL_sets_411 : decode cL_sets 411 = .ok (.iload_n 2, 1) := by decide +kernel
theorem dL_sets_412 : decode cL_sets 412 = .ok (.iconst 5, 1) := by decide +kernel
theorem dL_sets_413 : decode cL_sets 413 = .ok (.ishr, 1) := by decide +kernel
theorem dL_sets_414 : decode cL_sets 414 = .ok (.iconst 4, 1) := by decide +kernel
theorem dL_sets_415 : decode cL_sets 415 = .ok (.invokestatic 64, 3) := by decide +kernel
theorem dL_sets_418 : decode cL_sets 418 = .ok (.ifCond .ne 7, 3) := by decide +kernel
theorem dL_sets_421 : decode cL_sets 421 = .ok (.iconst 2, 1) := by decide +kernel
theorem dL_sets_422 : decode cL_sets 422 = .ok (.goto 10, 3) := by decide +kernel
theorem dL_sets_425 : decode cL_sets 425 = .ok (.iload_n 2, 1) := by decide +kernel
theorem dL_sets_426 : decode cL_sets 426 = .ok (.iconst 5, 1) := by decide +kernel
theorem dL_sets_427 : decode cL_sets 427 = .ok (.ishr, 1) := by decide +kernel
theorem dL_sets_428 : decode cL_sets 428 = .ok (.iconst 2, 1) := by decide +kernel
theorem dL_sets_429 : decode cL_sets 429 = .ok (.invokestatic 64, 3) := by decide +kernel
theorem dL_sets_432 : decode cL_sets 432 = .ok (.iastore, 1) := by decide +kernel
theorem dL_sets_433 : decode cL_sets 433 = .ok (.aload_n 0, 1) := by decide +kernel
theorem dL_sets_434 : decode cL_sets 434 = .ok (.iload 8, 2) := by decide +kernel
theorem dL_sets_436 : decode cL_sets 436 = .ok (.iload 9, 2) := by decide +kernel
theorem dL_sets_438 : decode cL_sets 438 = .ok (.aload 4, 2) := by decide +kernel
theorem dL_sets_440 : decode cL_sets 440 = .ok (.iconst 3, 1) := by decide +kernel
theorem dL_sets_441 : decode cL_sets 441 = .ok (.iload 8, 2) := by decide +kernel
theorem dL_sets_443 : decode cL_sets 443 = .ok (.imul, 1) := by decide +kernel
theorem dL_sets_444 : decode cL_sets 444 = .ok (.iload 9, 2) := by decide +kernel
theorem dL_sets_446 : decode cL_sets 446 = .ok (.iadd, 1) := by decide +kernel
theorem dL_sets_447 : decode cL_sets 447 = .ok (.iaload, 1) := by decide +kernel
theorem dL_sets_448 : decode cL_sets 448 = .ok (.invokevirtual 75, 3) := by decide +kernel
theorem dL_sets_451 : decode cL_sets 451 = .ok (.iload 10, 2) := by decide +kernel
theorem dL_sets_453 : decode cL_sets 453 = .ok (.if_icmp .ne 7, 3) := by decide +kernel
theorem dL_sets_456 : decode cL_sets 456 = .ok (.iconst 1, 1) := by decide +kernel
theorem dL_sets_457 : decode cL_sets 457 = .ok (.goto 4, 3) := by decide +kernel
theorem dL_sets_460 : decode cL_sets 460 = .ok (.iconst 0, 1) := by decide +kernel
theorem dL_sets_461 : decode cL_sets 461 = .ok (.ireturn, 1) := by decide +kernel
theorem dL_sets_462 : decode cL_sets 462 = .ok (.iload_n 2, 1) := by decide +kernel
theorem dL_sets_463 : decode cL_sets 463 = .ok (.iconst 5, 1) := by decide +kernel
theorem dL_sets_464 : decode cL_sets 464 = .ok (.invokestatic 64, 3) := by decide +kernel
theorem dL_sets_467 : decode cL_sets 467 = .ok (.istore 9, 2) := by decide +kernel
theorem dL_sets_469 : decode cL_sets 469 = .ok (.iload_n 2, 1) := by decide +kernel
theorem dL_sets_470 : decode cL_sets 470 = .ok (.iconst 4, 1) := by decide +kernel
theorem dL_sets_471 : decode cL_sets 471 = .ok (.ishr, 1) := by decide +kernel
theorem dL_sets_472 : decode cL_sets 472 = .ok (.iconst 3, 1) := by decide +kernel
theorem dL_sets_473 : decode cL_sets 473 = .ok (.invokestatic 64, 3) := by decide +kernel
theorem dL_sets_476 : decode cL_sets 476 = .ok (.ifCond .ne 14, 3) := by decide +kernel
theorem dL_sets_479 : decode cL_sets 479 = .ok (.iload_n 2, 1) := by decide +kernel
theorem dL_sets_480 : decode cL_sets 480 = .ok (.bipush 6, 2) := by decide +kernel
theorem dL_sets_482 : decode cL_sets 482 = .ok (.ishr, 1) := by decide +kernel
theorem dL_sets_483 : decode cL_sets 483 = .ok (.iconst 4, 1) := by decide +kernel
theorem dL_sets_484 : decode cL_sets 484 = .ok (.invokestatic 64, 3) := by decide +kernel
theorem dL_sets_487 : decode cL_sets 487 = .ok (.goto 11, 3) := by decide +kernel
theorem dL_sets_490 : decode cL_sets 490 = .ok (.iload_n 2, 1) := by decide +kernel
theorem dL_sets_491 : decode cL_sets 491 = .ok (.bipush 6, 2) := by decide +kernel
theorem dL_sets_493 : decode cL_sets 493 = .ok (.ishr, 1) := by decide +kernel
theorem dL_sets_494 : decode cL_sets 494 = .ok (.iconst 2, 1) := by decide +kernel
theorem dL_sets_495 : decode cL_sets 495 = .ok (.invokestatic 64, 3) := by decide +kernel
theorem dL_sets_498 : decode cL_sets 498 = .ok (.istore 10, 2) := by decide +kernel
theorem dL_sets_500 : decode cL_sets 500 = .ok (.iconst 0, 1) := by decide +kernel
theorem dL_sets_501 : decode cL_sets 501 = .ok (.istore 11, 2) := by decide +kernel
theorem dL_sets_503 : decode cL_sets 503 = .ok (.iconst 0, 1) := by decide +kernel
theorem dL_sets_504 : decode cL_sets 504 = .ok (.istore 12, 2) := by decide +kernel
theorem dL_sets_506 : decode cL_sets 506 = .ok (.iload 12, 2) := by decide +kernel
theorem dL_sets_508 : decode cL_sets 508 = .ok (.aload 7, 2) := by decide +kernel
theorem dL_sets_510 : decode cL_sets 510 = .ok (.iconst 1, 1) := by decide +kernel
theorem dL_sets_511 : decode cL_sets 511 = .ok (.iaload, 1) := by decide +kernel
theorem dL_sets_512 : decode cL_sets 512 = .ok (.if_icmp .ge 92, 3) := by decide +kernel
theorem dL_sets_515 : decode cL_sets 515 = .ok (.iload 10, 2) := by decide +kernel
theorem dL_sets_517 : decode cL_sets 517 = .ok (.aload 5, 2) := by decide +kernel
theorem dL_sets_519 : decode cL_sets 519 = .ok (.iload 9, 2) := by decide +kernel
theorem dL_sets_521 : decode cL_sets 521 = .ok (.iaload, 1) := by decide +kernel
theorem dL_sets_522 : decode cL_sets 522 = .ok (.if_icmp .le 31, 3) := by decide +kernel
theorem dL_sets_525 : decode cL_sets 525 = .ok (.aload 6, 2) := by decide +kernel
theorem dL_sets_527 : decode cL_sets 527 = .ok (.iconst 5, 1) := by decide +kernel
theorem dL_sets_528 : decode cL_sets 528 = .ok (.iload 12, 2) := by decide +kernel
theorem dL_sets_530 : decode cL_sets 530 = .ok (.imul, 1) := by decide +kernel
theorem dL_sets_531 : decode cL_sets 531 = .ok (.iaload, 1) := by decide +kernel
theorem dL_sets_532 : decode cL_sets 532 = .ok (.iload 9, 2) := by decide +kernel
theorem dL_sets_534 : decode cL_sets 534 = .ok (.if_icmp .ne 19, 3) := by decide +kernel
theorem dL_sets_537 : decode cL_sets 537 = .ok (.aload 6, 2) := by decide +kernel
theorem dL_sets_539 : decode cL_sets 539 = .ok (.iconst 5, 1) := by decide +kernel
theorem dL_sets_540 : decode cL_sets 540 = .ok (.iload 12, 2) := by decide +kernel
theorem dL_sets_542 : decode cL_sets 542 = .ok (.imul, 1) := by decide +kernel
theorem dL_sets_543 : decode cL_sets 543 = .ok (.iconst 4, 1) := by decide +kernel
theorem dL_sets_544 : decode cL_sets 544 = .ok (.iadd, 1) := by decide +kernel
theorem dL_sets_545 : decode cL_sets 545 = .ok (.iaload, 1) := by decide +kernel
theorem dL_sets_546 : decode cL_sets 546 = .ok (.ifCond .ne 7, 3) := by decide +kernel
theorem dL_sets_549 : decode cL_sets 549 = .ok (.iconst 1, 1) := by decide +kernel
theorem dL_sets_550 : decode cL_sets 550 = .ok (.goto 4, 3) := by decide +kernel
theorem dL_sets_553 : decode cL_sets 553 = .ok (.iconst 0, 1) := by decide +kernel
theorem dL_sets_554 : decode cL_sets 554 = .ok (.istore 13, 2) := by decide +kernel
theorem dL_sets_556 : decode cL_sets 556 = .ok (.aload 6, 2) := by decide +kernel
theorem dL_sets_558 : decode cL_sets 558 = .ok (.iconst 5, 1) := by decide +kernel
theorem dL_sets_559 : decode cL_sets 559 = .ok (.iload 12, 2) := by decide +kernel
theorem dL_sets_561 : decode cL_sets 561 = .ok (.imul, 1) := by decide +kernel
theorem dL_sets_562 : decode cL_sets 562 = .ok (.iconst 4, 1) := by decide +kernel
theorem dL_sets_563 : decode cL_sets 563 = .ok (.iadd, 1) := by decide +kernel
theorem dL_sets_564 : decode cL_sets 564 = .ok (.iload 13, 2) := by decide +kernel
theorem dL_sets_566 : decode cL_sets 566 = .ok (.ifCond .eq 7, 3) := by decide +kernel
theorem dL_sets_569 : decode cL_sets 569 = .ok (.iconst 1, 1) := by decide +kernel
theorem dL_sets_570 : decode cL_sets 570 = .ok (.goto 12, 3) := by decide +kernel
theorem dL_sets_573 : decode cL_sets 573 = .ok (.aload 6, 2) := by decide +kernel
theorem dL_sets_575 : decode cL_sets 575 = .ok (.iconst 5, 1) := by decide +kernel
theorem dL_sets_576 : decode cL_sets 576 = .ok (.iload 12, 2) := by decide +kernel
theorem dL_sets_578 : decode cL_sets 578 = .ok (.imul, 1) := by decide +kernel
theorem dL_sets_579 : decode cL_sets 579 = .ok (.iconst 4, 1) := by decide +kernel
theorem dL_sets_580 : decode cL_sets 580 = .ok (.iadd, 1) := by decide +kernel
theorem dL_sets_581 : decode cL_sets 581 = .ok (.iaload, 1) := by decide +kernel
theorem dL_sets_582 : decode cL_sets 582 = .ok (.iastore, 1) := by decide +kernel
theorem dL_sets_583 : decode cL_sets 583 = .ok (.iload 11, 2) := by decide +kernel
theorem dL_sets_585 : decode cL_sets 585 = .ok (.iload 13, 2) := by decide +kernel
theorem dL_sets_587 : decode cL_sets 587 = .ok (.ifCond .eq 7, 3) := by decide +kernel
theorem dL_sets_590 : decode cL_sets 590 = .ok (.iconst 1, 1) := by decide +kernel
theorem dL_sets_591 : decode cL_sets 591 = .ok (.goto 4, 3) := by decide +kernel
theorem dL_sets_594 : decode cL_sets 594 = .ok (.iconst 0, 1) := by decide +kernel
theorem dL_sets_595 : decode cL_sets 595 = .ok (.iadd, 1) := by decide +kernel
theorem dL_sets_596 : decode cL_sets 596 = .ok (.istore 11, 2) := by decide +kernel
theorem dL_sets_598 : decode cL_sets 598 = .ok (.iinc 12 1, 3) := by decide +kernel
theorem dL_sets_601 : decode cL_sets 601 = .ok (.goto (-95), 3) := by decide +kernel
theorem dL_sets_604 : decode cL_sets 604 = .ok (.aload 5, 2) := by decide +kernel
theorem dL_sets_606 : decode cL_sets 606 = .ok (.iload 9, 2) := by decide +kernel
theorem dL_sets_608 : decode cL_sets 608 = .ok (.iload 10, 2) := by decide +kernel
theorem dL_sets_610 : decode cL_sets 610 = .ok (.iastore, 1) := by decide +kernel
theorem dL_sets_611 : decode cL_sets 611 = .ok (.aload_n 0, 1) := by decide +kernel
theorem dL_sets_612 : decode cL_sets 612 = .ok (.iload 9, 2) := by decide +kernel
theorem dL_sets_614 : decode cL_sets 614 = .ok (.iload 10, 2) := by decide +kernel
theorem dL_sets_616 : decode cL_sets 616 = .ok (.invokevirtual 79, 3) := by decide +kernel
theorem dL_sets_619 : decode cL_sets 619 = .ok (.iload 11, 2) := by decide +kernel
theorem dL_sets_621 : decode cL_sets 621 = .ok (.if_icmp .ne 7, 3) := by decide +kernel
theorem dL_sets_624 : decode cL_sets 624 = .ok (.iconst 1, 1) := by decide +kernel
theorem dL_sets_625 : decode cL_sets 625 = .ok (.goto 4, 3) := by decide +kernel
theorem dL_sets_628 : decode cL_sets 628 = .ok (.iconst 0, 1) := by decide +kernel
theorem dL_sets_629 : decode cL_sets 629 = .ok (.ireturn, 1) := by decide +kernel
set_option maxRecDepth 20000 in
theorem ggL_decides_L_low : GoodIn wsL_decides wsL_low := goodIn_r _ [4, 5] (by decide +kernel) (by decide +kernel)
set_option maxRecDepth 20000 in
theorem gL_decides_L_low : GoodIn wsL_decides (va_wsS RL 64 yL_low wsL_low) := goodIn_app (goodIn_of _ (by decide +kernel)) ggL_decides_L_low
set_option maxRecDepth 20000 in
theorem ggL_decides_X4_decide : GoodIn wsL_decides wsX4_decide := goodIn_ca (goodIn_ca (goodIn_r _ [10, 11, 12, 13, 14, 15, 16, 17, 18, 9, 19, 20, 21, 22, 23, 24, 25, 26, 27, 28, 29, 30, 31, 32, 33, 34, 35, 36, 37, 38, 39, 40, 41, 42, 43, 44, 45, 46, 47, 48, 49, 50, 51, 52, 53, 54, 55, 56, 57, 58, 59, 60, 61, 62, 63, 64, 65, 66, 67, 68, 69, 70, 71, 72, 73, 74, 75, 76, 77, 78, 79, 80, 81, 82, 83, 84, 85, 86, 87, 88, 89, 90, 91, 92, 93, 94, 95, 96, 97, 98, 99, 100, 101, 102, 103, 110, 111, 112, 113, 114, 115, 116, 117, 118, 119, 120, 121, 122, 123, 124, 125, 126, 127, 128, 129] (by decide +kernel) (by decide +kernel)) (goodIn_sub (fun _ h => List.mem_cons_of_mem _ (List.mem_append_left _ (List.mem_append_right _ h))) (by decide +kernel))) (goodIn_sub (fun _ h => List.mem_cons_of_mem _ (List.mem_append_right _ h)) (by decide +kernel))
set_option maxRecDepth 20000 in
theorem gL_decides_X4_decide : GoodIn wsL_decides (wsV RL 82 RX4 yX4_decide wsX4_decide) := goodIn_app (goodIn_of _ (by decide +kernel)) ggL_decides_X4_decide
set_option maxRecDepth 20000 in
theorem ggL_decides_L_allows : GoodIn wsL_decides wsL_allows := goodIn_r _ [106, 107, 108, 3, 109] (by decide +kernel) (by decide +kernel)
set_option maxRecDepth 20000 in
theorem gL_decides_L_allows : GoodIn wsL_decides (va_wsS RL 58 yL_allows wsL_allows) := goodIn_app (goodIn_of _ (by decide +kernel)) ggL_decides_L_allows
theorem dL_decides_0 : decode cL_decides 0 = .ok (.iload_n 1, 1) := by decide +kernel
theorem dL_decides_1 : decode cL_decides 1 = .ok (.iconst 2, 1) := by decide +kernel
theorem dL_decides_2 : decode cL_decides 2 = .ok (.invokestatic 64, 3) := by decide +kernel
theorem dL_decides_5 : decode cL_decides 5 = .ok (.istore 10, 2) := by decide +kernel
theorem dL_decides_7 : decode cL_decides 7 = .ok (.iload_n 1, 1) := by decide +kernel
theorem dL_decides_8 : decode cL_decides 8 = .ok (.iconst 2, 1) := by decide +kernel
theorem dL_decides_9 : decode cL_decides 9 = .ok (.ishr, 1) := by decide +kernel
theorem dL_decides_10 : decode cL_decides 10 = .ok (.aload 9, 2) := by decide +kernel
theorem dL_decides_12 : decode cL_decides 12 = .ok (.iconst 1, 1) := by decide +kernel
theorem dL_decides_13 : decode cL_decides 13 = .ok (.iaload, 1) := by decide +kernel
theorem dL_decides_14 : decode cL_decides 14 = .ok (.invokestatic 64, 3) := by decide +kernel
theorem dL_decides_17 : decode cL_decides 17 = .ok (.istore 11, 2) := by decide +kernel
theorem dL_decides_19 : decode cL_decides 19 = .ok (.iload_n 1, 1) := by decide +kernel
theorem dL_decides_20 : decode cL_decides 20 = .ok (.bipush 7, 2) := by decide +kernel
theorem dL_decides_22 : decode cL_decides 22 = .ok (.ishr, 1) := by decide +kernel
theorem dL_decides_23 : decode cL_decides 23 = .ok (.iconst 3, 1) := by decide +kernel
theorem dL_decides_24 : decode cL_decides 24 = .ok (.invokestatic 64, 3) := by decide +kernel
theorem dL_decides_27 : decode cL_decides 27 = .ok (.istore 12, 2) := by decide +kernel
theorem dL_decides_29 : decode cL_decides 29 = .ok (.bipush 15, 2) := by decide +kernel
theorem dL_decides_31 : decode cL_decides 31 = .ok (.iload 10, 2) := by decide +kernel
theorem dL_decides_33 : decode cL_decides 33 = .ok (.imul, 1) := by decide +kernel
end
section
theorem dL_decides_34 : decode cL_decides 34 = .ok (.iconst 3, 1) := by decide +kernel
theorem dL_decides_35 : decode cL_decides 35 = .ok (.aload 6, 2) := by decide +kernel
theorem dL_decides_37 : decode cL_decides 37 = .ok (.iconst 5, 1) := by decide +kernel
theorem dL_decides_38 : decode cL_decides 38 = .ok (.iload 11, 2) := by decide +kernel
theorem dL_decides_40 : decode cL_decides 40 = .ok (.imul, 1) := by decide +kernel
theorem dL_decides_41 : decode cL_decides 41 = .ok (.iaload, 1) := by decide +kernel
theorem dL_decides_42 : decode cL_decides 42 = .ok (.imul, 1) := by decide +kernel
theorem dL_decides_43 : decode cL_decides 43 = .ok (.iadd, 1) := by decide +kernel
theorem dL_decides_44 : decode cL_decides 44 = .ok (.iload 12, 2) := by decide +kernel
theorem dL_decides_46 : decode cL_decides 46 = .ok (.iadd, 1) := by decide +kernel
theorem dL_decides_47 : decode cL_decides 47 = .ok (.istore 13, 2) := by decide +kernel
theorem dL_decides_49 : decode cL_decides 49 = .ok (.aload 6, 2) := by decide +kernel
theorem dL_decides_51 : decode cL_decides 51 = .ok (.iconst 5, 1) := by decide +kernel
theorem dL_decides_52 : decode cL_decides 52 = .ok (.iload 11, 2) := by decide +kernel
theorem dL_decides_54 : decode cL_decides 54 = .ok (.imul, 1) := by decide +kernel
theorem dL_decides_55 : decode cL_decides 55 = .ok (.iconst 4, 1) := by decide +kernel
theorem dL_decides_56 : decode cL_decides 56 = .ok (.iadd, 1) := by decide +kernel
theorem dL_decides_57 : decode cL_decides 57 = .ok (.iaload, 1) := by decide +kernel
theorem dL_decides_58 : decode cL_decides 58 = .ok (.iconst 1, 1) := by decide +kernel
theorem dL_decides_59 : decode cL_decides 59 = .ok (.if_icmp .ne 23, 3) := by decide +kernel
theorem dL_decides_62 : decode cL_decides 62 = .ok (.aload_n 0, 1) := by decide +kernel
theorem dL_decides_63 : decode cL_decides 63 = .ok (.iload 10, 2) := by decide +kernel
theorem dL_decides_65 : decode cL_decides 65 = .ok (.iload 11, 2) := by decide +kernel
theorem dL_decides_67 : decode cL_decides 67 = .ok (.iload 12, 2) := by decide +kernel
theorem dL_decides_69 : decode cL_decides 69 = .ok (.invokevirtual 82, 3) := by decide +kernel
theorem dL_decides_72 : decode cL_decides 72 = .ok (.iconst 2, 1) := by decide +kernel
theorem dL_decides_73 : decode cL_decides 73 = .ok (.if_icmp .ne 7, 3) := by decide +kernel
theorem dL_decides_76 : decode cL_decides 76 = .ok (.iconst 1, 1) := by decide +kernel
theorem dL_decides_77 : decode cL_decides 77 = .ok (.goto 4, 3) := by decide +kernel
theorem dL_decides_80 : decode cL_decides 80 = .ok (.iconst 0, 1) := by decide +kernel
theorem dL_decides_81 : decode cL_decides 81 = .ok (.ireturn, 1) := by decide +kernel
theorem dL_decides_82 : decode cL_decides 82 = .ok (.aload 6, 2) := by decide +kernel
theorem dL_decides_84 : decode cL_decides 84 = .ok (.iconst 5, 1) := by decide +kernel
theorem dL_decides_85 : decode cL_decides 85 = .ok (.iload 11, 2) := by decide +kernel
theorem dL_decides_87 : decode cL_decides 87 = .ok (.imul, 1) := by decide +kernel
theorem dL_decides_88 : decode cL_decides 88 = .ok (.iconst 3, 1) := by decide +kernel
theorem dL_decides_89 : decode cL_decides 89 = .ok (.iadd, 1) := by decide +kernel
theorem dL_decides_90 : decode cL_decides 90 = .ok (.aload 9, 2) := by decide +kernel
theorem dL_decides_92 : decode cL_decides 92 = .ok (.iconst 0, 1) := by decide +kernel
theorem dL_decides_93 : decode cL_decides 93 = .ok (.iaload, 1) := by decide +kernel
theorem dL_decides_94 : decode cL_decides 94 = .ok (.iastore, 1) := by decide +kernel
theorem dL_decides_95 : decode cL_decides 95 = .ok (.aload 7, 2) := by decide +kernel
theorem dL_decides_97 : decode cL_decides 97 = .ok (.iload 13, 2) := by decide +kernel
theorem dL_decides_99 : decode cL_decides 99 = .ok (.iaload, 1) := by decide +kernel
theorem dL_decides_100 : decode cL_decides 100 = .ok (.aload 9, 2) := by decide +kernel
theorem dL_decides_102 : decode cL_decides 102 = .ok (.iconst 0, 1) := by decide +kernel
theorem dL_decides_103 : decode cL_decides 103 = .ok (.iaload, 1) := by decide +kernel
theorem dL_decides_104 : decode cL_decides 104 = .ok (.if_icmp .gt 53, 3) := by decide +kernel
theorem dL_decides_107 : decode cL_decides 107 = .ok (.aload 8, 2) := by decide +kernel
theorem dL_decides_109 : decode cL_decides 109 = .ok (.iload 13, 2) := by decide +kernel
theorem dL_decides_111 : decode cL_decides 111 = .ok (.aload 6, 2) := by decide +kernel
theorem dL_decides_113 : decode cL_decides 113 = .ok (.iconst 5, 1) := by decide +kernel
theorem dL_decides_114 : decode cL_decides 114 = .ok (.iload 11, 2) := by decide +kernel
theorem dL_decides_116 : decode cL_decides 116 = .ok (.imul, 1) := by decide +kernel
theorem dL_decides_117 : decode cL_decides 117 = .ok (.iaload, 1) := by decide +kernel
theorem dL_decides_118 : decode cL_decides 118 = .ok (.iload 12, 2) := by decide +kernel
theorem dL_decides_120 : decode cL_decides 120 = .ok (.aload_n 2, 1) := by decide +kernel
theorem dL_decides_121 : decode cL_decides 121 = .ok (.aload_n 3, 1) := by decide +kernel
theorem dL_decides_122 : decode cL_decides 122 = .ok (.aload 4, 2) := by decide +kernel
theorem dL_decides_124 : decode cL_decides 124 = .ok (.aload 5, 2) := by decide +kernel
theorem dL_decides_126 : decode cL_decides 126 = .ok (.aload 9, 2) := by decide +kernel
theorem dL_decides_128 : decode cL_decides 128 = .ok (.invokestatic 58, 3) := by decide +kernel
theorem dL_decides_131 : decode cL_decides 131 = .ok (.ifCond .eq 7, 3) := by decide +kernel
theorem dL_decides_134 : decode cL_decides 134 = .ok (.iconst 1, 1) := by decide +kernel
theorem dL_decides_135 : decode cL_decides 135 = .ok (.goto 4, 3) := by decide +kernel
theorem dL_decides_138 : decode cL_decides 138 = .ok (.iconst 0, 1) := by decide +kernel
theorem dL_decides_139 : decode cL_decides 139 = .ok (.iastore, 1) := by decide +kernel
theorem dL_decides_140 : decode cL_decides 140 = .ok (.aload 7, 2) := by decide +kernel
theorem dL_decides_142 : decode cL_decides 142 = .ok (.iload 13, 2) := by decide +kernel
theorem dL_decides_144 : decode cL_decides 144 = .ok (.aload 9, 2) := by decide +kernel
theorem dL_decides_146 : decode cL_decides 146 = .ok (.iconst 0, 1) := by decide +kernel
theorem dL_decides_147 : decode cL_decides 147 = .ok (.iaload, 1) := by decide +kernel
theorem dL_decides_148 : decode cL_decides 148 = .ok (.aload 9, 2) := by decide +kernel
theorem dL_decides_150 : decode cL_decides 150 = .ok (.iconst 4, 1) := by decide +kernel
theorem dL_decides_151 : decode cL_decides 151 = .ok (.iload 10, 2) := by decide +kernel
theorem dL_decides_153 : decode cL_decides 153 = .ok (.iadd, 1) := by decide +kernel
theorem dL_decides_154 : decode cL_decides 154 = .ok (.iaload, 1) := by decide +kernel
theorem dL_decides_155 : decode cL_decides 155 = .ok (.iadd, 1) := by decide +kernel
theorem dL_decides_156 : decode cL_decides 156 = .ok (.iastore, 1) := by decide +kernel
theorem dL_decides_157 : decode cL_decides 157 = .ok (.aload_n 0, 1) := by decide +kernel
theorem dL_decides_158 : decode cL_decides 158 = .ok (.iload 10, 2) := by decide +kernel
theorem dL_decides_160 : decode cL_decides 160 = .ok (.iload 11, 2) := by decide +kernel
theorem dL_decides_162 : decode cL_decides 162 = .ok (.iload 12, 2) := by decide +kernel
theorem dL_decides_164 : decode cL_decides 164 = .ok (.invokevirtual 82, 3) := by decide +kernel
theorem dL_decides_167 : decode cL_decides 167 = .ok (.iconst 1, 1) := by decide +kernel
theorem dL_decides_168 : decode cL_decides 168 = .ok (.aload 8, 2) := by decide +kernel
theorem dL_decides_170 : decode cL_decides 170 = .ok (.iload 13, 2) := by decide +kernel
theorem dL_decides_172 : decode cL_decides 172 = .ok (.iaload, 1) := by decide +kernel
theorem dL_decides_173 : decode cL_decides 173 = .ok (.isub, 1) := by decide +kernel
theorem dL_decides_174 : decode cL_decides 174 = .ok (.if_icmp .ne 7, 3) := by decide +kernel
theorem dL_decides_177 : decode cL_decides 177 = .ok (.iconst 1, 1) := by decide +kernel
theorem dL_decides_178 : decode cL_decides 178 = .ok (.goto 4, 3) := by decide +kernel
theorem dL_decides_181 : decode cL_decides 181 = .ok (.iconst 0, 1) := by decide +kernel
theorem dL_decides_182 : decode cL_decides 182 = .ok (.ireturn, 1) := by decide +kernel
set_option maxRecDepth 20000 in
theorem ggL_caches_L_low : GoodIn wsL_caches wsL_low := goodIn_r _ [4, 5] (by decide +kernel) (by decide +kernel)
set_option maxRecDepth 20000 in
theorem gL_caches_L_low : GoodIn wsL_caches (va_wsS RL 64 yL_low wsL_low) := goodIn_app (goodIn_of _ (by decide +kernel)) ggL_caches_L_low
set_option maxRecDepth 20000 in
theorem ggL_caches_X4_setCache : GoodIn wsL_caches wsX4_setCache := goodIn_ca (goodIn_r _ [10, 11, 12, 13, 14, 15, 16, 9, 17, 18, 19, 20, 21, 22, 23, 24, 25, 26, 27, 28, 29, 30, 31, 32, 33, 34, 35, 36, 49, 50, 51, 52, 53, 54, 55, 56, 57, 58] (by decide +kernel) (by decide +kernel)) (goodIn_sub (fun _ h => List.mem_cons_of_mem _ (List.mem_append_right _ h)) (by decide +kernel))
set_option maxRecDepth 20000 in
theorem gL_caches_X4_setCache : GoodIn wsL_caches (wsV RL 85 RX4 yX4_setCache wsX4_setCache) := goodIn_app (goodIn_of _ (by decide +kernel)) ggL_caches_X4_setCache
set_option maxRecDepth 20000 in
theorem ggL_caches_X4_forget : GoodIn wsL_caches wsX4_forget := goodIn_ca (goodIn_r _ [40, 11, 12, 13, 15, 16, 9, 17, 41, 42, 43, 21, 44, 33, 45, 46, 47, 48, 34, 35, 36, 49, 50, 51, 52, 53, 54, 55, 56, 57, 58] (by decide +kernel) (by decide +kernel)) (goodIn_sub (fun _ h => List.mem_cons_of_mem _ (List.mem_append_right _ h)) (by decide +kernel))
set_option maxRecDepth 20000 in
theorem gL_caches_X4_forget : GoodIn wsL_caches (wsV RL 88 RX4 yX4_forget wsX4_forget) := goodIn_app (goodIn_of _ (by decide +kernel)) ggL_caches_X4_forget
theorem dL_caches_0 : decode cL_caches 0 = .ok (.iload_n 2, 1) := by decide +kernel
theorem dL_caches_1 : decode cL_caches 1 = .ok (.iconst 2, 1) := by decide +kernel
theorem dL_caches_2 : decode cL_caches 2 = .ok (.invokestatic 64, 3) := by decide +kernel
theorem dL_caches_5 : decode cL_caches 5 = .ok (.istore 5, 2) := by decide +kernel
theorem dL_caches_7 : decode cL_caches 7 = .ok (.iload_n 1, 1) := by decide +kernel
theorem dL_caches_8 : decode cL_caches 8 = .ok (.ifCond .ne 127, 3) := by decide +kernel
theorem dL_caches_11 : decode cL_caches 11 = .ok (.aload 4, 2) := by decide +kernel
theorem dL_caches_13 : decode cL_caches 13 = .ok (.iconst 4, 1) := by decide +kernel
theorem dL_caches_14 : decode cL_caches 14 = .ok (.iload 5, 2) := by decide +kernel
theorem dL_caches_16 : decode cL_caches 16 = .ok (.iadd, 1) := by decide +kernel
theorem dL_caches_17 : decode cL_caches 17 = .ok (.iaload, 1) := by decide +kernel
theorem dL_caches_18 : decode cL_caches 18 = .ok (.istore 6, 2) := by decide +kernel
theorem dL_caches_20 : decode cL_caches 20 = .ok (.aload 4, 2) := by decide +kernel
theorem dL_caches_22 : decode cL_caches 22 = .ok (.iconst 4, 1) := by decide +kernel
theorem dL_caches_23 : decode cL_caches 23 = .ok (.iload 5, 2) := by decide +kernel
theorem dL_caches_25 : decode cL_caches 25 = .ok (.iadd, 1) := by decide +kernel
theorem dL_caches_26 : decode cL_caches 26 = .ok (.iload_n 2, 1) := by decide +kernel
theorem dL_caches_27 : decode cL_caches 27 = .ok (.iconst 2, 1) := by decide +kernel
theorem dL_caches_28 : decode cL_caches 28 = .ok (.ishr, 1) := by decide +kernel
theorem dL_caches_29 : decode cL_caches 29 = .ok (.iload_n 2, 1) := by decide +kernel
theorem dL_caches_30 : decode cL_caches 30 = .ok (.bipush 13, 2) := by decide +kernel
theorem dL_caches_32 : decode cL_caches 32 = .ok (.ishr, 1) := by decide +kernel
theorem dL_caches_33 : decode cL_caches 33 = .ok (.iconst 2, 1) := by decide +kernel
theorem dL_caches_34 : decode cL_caches 34 = .ok (.invokestatic 64, 3) := by decide +kernel
theorem dL_caches_37 : decode cL_caches 37 = .ok (.ifCond .ne 8, 3) := by decide +kernel
theorem dL_caches_40 : decode cL_caches 40 = .ok (.bipush 61, 2) := by decide +kernel
theorem dL_caches_42 : decode cL_caches 42 = .ok (.goto 5, 3) := by decide +kernel
theorem dL_caches_45 : decode cL_caches 45 = .ok (.bipush 13, 2) := by decide +kernel
theorem dL_caches_47 : decode cL_caches 47 = .ok (.invokestatic 64, 3) := by decide +kernel
theorem dL_caches_50 : decode cL_caches 50 = .ok (.iastore, 1) := by decide +kernel
theorem dL_caches_51 : decode cL_caches 51 = .ok (.bipush 15, 2) := by decide +kernel
theorem dL_caches_53 : decode cL_caches 53 = .ok (.iload 5, 2) := by decide +kernel
theorem dL_caches_55 : decode cL_caches 55 = .ok (.imul, 1) := by decide +kernel
theorem dL_caches_56 : decode cL_caches 56 = .ok (.istore 7, 2) := by decide +kernel
theorem dL_caches_58 : decode cL_caches 58 = .ok (.iload 7, 2) := by decide +kernel
theorem dL_caches_60 : decode cL_caches 60 = .ok (.bipush 15, 2) := by decide +kernel
theorem dL_caches_62 : decode cL_caches 62 = .ok (.iload 5, 2) := by decide +kernel
theorem dL_caches_64 : decode cL_caches 64 = .ok (.imul, 1) := by decide +kernel
theorem dL_caches_65 : decode cL_caches 65 = .ok (.bipush 15, 2) := by decide +kernel
theorem dL_caches_67 : decode cL_caches 67 = .ok (.iadd, 1) := by decide +kernel
theorem dL_caches_68 : decode cL_caches 68 = .ok (.if_icmp .ge 43, 3) := by decide +kernel
theorem dL_caches_71 : decode cL_caches 71 = .ok (.aload_n 3, 1) := by decide +kernel
theorem dL_caches_72 : decode cL_caches 72 = .ok (.iload 7, 2) := by decide +kernel
theorem dL_caches_74 : decode cL_caches 74 = .ok (.aload_n 3, 1) := by decide +kernel
theorem dL_caches_75 : decode cL_caches 75 = .ok (.iload 7, 2) := by decide +kernel
theorem dL_caches_77 : decode cL_caches 77 = .ok (.iaload, 1) := by decide +kernel
theorem dL_caches_78 : decode cL_caches 78 = .ok (.aload 4, 2) := by decide +kernel
theorem dL_caches_80 : decode cL_caches 80 = .ok (.iconst 0, 1) := by decide +kernel
theorem dL_caches_81 : decode cL_caches 81 = .ok (.iaload, 1) := by decide +kernel
theorem dL_caches_82 : decode cL_caches 82 = .ok (.if_icmp .le 21, 3) := by decide +kernel
theorem dL_caches_85 : decode cL_caches 85 = .ok (.aload_n 3, 1) := by decide +kernel
theorem dL_caches_86 : decode cL_caches 86 = .ok (.iload 7, 2) := by decide +kernel
theorem dL_caches_88 : decode cL_caches 88 = .ok (.iaload, 1) := by decide +kernel
theorem dL_caches_89 : decode cL_caches 89 = .ok (.iload 6, 2) := by decide +kernel
theorem dL_caches_91 : decode cL_caches 91 = .ok (.isub, 1) := by decide +kernel
theorem dL_caches_92 : decode cL_caches 92 = .ok (.aload 4, 2) := by decide +kernel
theorem dL_caches_94 : decode cL_caches 94 = .ok (.iconst 4, 1) := by decide +kernel
theorem dL_caches_95 : decode cL_caches 95 = .ok (.iload 5, 2) := by decide +kernel
theorem dL_caches_97 : decode cL_caches 97 = .ok (.iadd, 1) := by decide +kernel
theorem dL_caches_98 : decode cL_caches 98 = .ok (.iaload, 1) := by decide +kernel
theorem dL_caches_99 : decode cL_caches 99 = .ok (.iadd, 1) := by decide +kernel
theorem dL_caches_100 : decode cL_caches 100 = .ok (.goto 4, 3) := by decide +kernel
theorem dL_caches_103 : decode cL_caches 103 = .ok (.iconst 0, 1) := by decide +kernel
theorem dL_caches_104 : decode cL_caches 104 = .ok (.iastore, 1) := by decide +kernel
theorem dL_caches_105 : decode cL_caches 105 = .ok (.iinc 7 1, 3) := by decide +kernel
theorem dL_caches_108 : decode cL_caches 108 = .ok (.goto (-50), 3) := by decide +kernel
theorem dL_caches_111 : decode cL_caches 111 = .ok (.aload_n 0, 1) := by decide +kernel
theorem dL_caches_112 : decode cL_caches 112 = .ok (.iload 5, 2) := by decide +kernel
theorem dL_caches_114 : decode cL_caches 114 = .ok (.aload 4, 2) := by decide +kernel
theorem dL_caches_116 : decode cL_caches 116 = .ok (.iconst 4, 1) := by decide +kernel
theorem dL_caches_117 : decode cL_caches 117 = .ok (.iload 5, 2) := by decide +kernel
theorem dL_caches_119 : decode cL_caches 119 = .ok (.iadd, 1) := by decide +kernel
theorem dL_caches_120 : decode cL_caches 120 = .ok (.iaload, 1) := by decide +kernel
theorem dL_caches_121 : decode cL_caches 121 = .ok (.invokevirtual 85, 3) := by decide +kernel
theorem dL_caches_124 : decode cL_caches 124 = .ok (.iload 6, 2) := by decide +kernel
theorem dL_caches_126 : decode cL_caches 126 = .ok (.if_icmp .ne 7, 3) := by decide +kernel
theorem dL_caches_129 : decode cL_caches 129 = .ok (.iconst 1, 1) := by decide +kernel
theorem dL_caches_130 : decode cL_caches 130 = .ok (.goto 4, 3) := by decide +kernel
theorem dL_caches_133 : decode cL_caches 133 = .ok (.iconst 0, 1) := by decide +kernel
theorem dL_caches_134 : decode cL_caches 134 = .ok (.ireturn, 1) := by decide +kernel
theorem dL_caches_135 : decode cL_caches 135 = .ok (.iload_n 2, 1) := by decide +kernel
theorem dL_caches_136 : decode cL_caches 136 = .ok (.iconst 2, 1) := by decide +kernel
theorem dL_caches_137 : decode cL_caches 137 = .ok (.ishr, 1) := by decide +kernel
theorem dL_caches_138 : decode cL_caches 138 = .ok (.iconst 5, 1) := by decide +kernel
theorem dL_caches_139 : decode cL_caches 139 = .ok (.invokestatic 64, 3) := by decide +kernel
theorem dL_caches_142 : decode cL_caches 142 = .ok (.istore 6, 2) := by decide +kernel
theorem dL_caches_144 : decode cL_caches 144 = .ok (.iconst 0, 1) := by decide +kernel
theorem dL_caches_145 : decode cL_caches 145 = .ok (.istore 7, 2) := by decide +kernel
theorem dL_caches_147 : decode cL_caches 147 = .ok (.bipush 15, 2) := by decide +kernel
theorem dL_caches_149 : decode cL_caches 149 = .ok (.iload 5, 2) := by decide +kernel
theorem dL_caches_151 : decode cL_caches 151 = .ok (.imul, 1) := by decide +kernel
theorem dL_caches_152 : decode cL_caches 152 = .ok (.iconst 3, 1) := by decide +kernel
theorem dL_caches_153 : decode cL_caches 153 = .ok (.iload 6, 2) := by decide +kernel
theorem dL_caches_155 : decode cL_caches 155 = .ok (.imul, 1) := by decide +kernel
theorem dL_caches_156 : decode cL_caches 156 = .ok (.iadd, 1) := by decide +kernel
theorem dL_caches_157 : decode cL_caches 157 = .ok (.istore 8, 2) := by decide +kernel
theorem dL_caches_159 : decode cL_caches 159 = .ok (.iload 8, 2) := by decide +kernel
theorem dL_caches_161 : decode cL_caches 161 = .ok (.bipush 15, 2) := by decide +kernel
theorem dL_caches_163 : decode cL_caches 163 = .ok (.iload 5, 2) := by decide +kernel
theorem dL_caches_165 : decode cL_caches 165 = .ok (.imul, 1) := by decide +kernel
theorem dL_caches_166 : decode cL_caches 166 = .ok (.iconst 3, 1) := by decide +kernel
theorem dL_caches_167 : decode cL_caches 167 = .ok (.iload 6, 2) := by decide +kernel
theorem dL_caches_169 : decode cL_caches 169 = .ok (.imul, 1) := by decide +kernel
theorem dL_caches_170 : decode cL_caches 170 = .ok (.iadd, 1) := by decide +kernel
theorem dL_caches_171 : decode cL_caches 171 = .ok (.iconst 3, 1) := by decide +kernel
theorem dL_caches_172 : decode cL_caches 172 = .ok (.iadd, 1) := by decide +kernel
theorem dL_caches_173 : decode cL_caches 173 = .ok (.if_icmp .ge 35, 3) := by decide +kernel
theorem dL_caches_176 : decode cL_caches 176 = .ok (.iload 7, 2) := by decide +kernel
theorem dL_caches_178 : decode cL_caches 178 = .ok (.aload_n 3, 1) := by decide +kernel
theorem dL_caches_179 : decode cL_caches 179 = .ok (.iload 8, 2) := by decide +kernel
theorem dL_caches_181 : decode cL_caches 181 = .ok (.iaload, 1) := by decide +kernel
theorem dL_caches_182 : decode cL_caches 182 = .ok (.aload 4, 2) := by decide +kernel
theorem dL_caches_184 : decode cL_caches 184 = .ok (.iconst 0, 1) := by decide +kernel
theorem dL_caches_185 : decode cL_caches 185 = .ok (.iaload, 1) := by decide +kernel
theorem dL_caches_186 : decode cL_caches 186 = .ok (.if_icmp .le 7, 3) := by decide +kernel
theorem dL_caches_189 : decode cL_caches 189 = .ok (.iconst 1, 1) := by decide +kernel
theorem dL_caches_190 : decode cL_caches 190 = .ok (.goto 4, 3) := by decide +kernel
theorem dL_caches_193 : decode cL_caches 193 = .ok (.iconst 0, 1) := by decide +kernel
theorem dL_caches_194 : decode cL_caches 194 = .ok (.iadd, 1) := by decide +kernel
theorem dL_caches_195 : decode cL_caches 195 = .ok (.istore 7, 2) := by decide +kernel
theorem dL_caches_197 : decode cL_caches 197 = .ok (.aload_n 3, 1) := by decide +kernel
theorem dL_caches_198 : decode cL_caches 198 = .ok (.iload 8, 2) := by decide +kernel
theorem dL_caches_200 : decode cL_caches 200 = .ok (.iconst 0, 1) := by decide +kernel
theorem dL_caches_201 : decode cL_caches 201 = .ok (.iastore, 1) := by decide +kernel
theorem dL_caches_202 : decode cL_caches 202 = .ok (.iinc 8 1, 3) := by decide +kernel
theorem dL_caches_205 : decode cL_caches 205 = .ok (.goto (-46), 3) := by decide +kernel
theorem dL_caches_208 : decode cL_caches 208 = .ok (.aload_n 0, 1) := by decide +kernel
theorem dL_caches_209 : decode cL_caches 209 = .ok (.iload 5, 2) := by decide +kernel
theorem dL_caches_211 : decode cL_caches 211 = .ok (.iload 6, 2) := by decide +kernel
theorem dL_caches_213 : decode cL_caches 213 = .ok (.invokevirtual 88, 3) := by decide +kernel
theorem dL_caches_216 : decode cL_caches 216 = .ok (.iload 7, 2) := by decide +kernel
theorem dL_caches_218 : decode cL_caches 218 = .ok (.if_icmp .ne 7, 3) := by decide +kernel
theorem dL_caches_221 : decode cL_caches 221 = .ok (.iconst 1, 1) := by decide +kernel
theorem dL_caches_222 : decode cL_caches 222 = .ok (.goto 4, 3) := by decide +kernel
theorem dL_caches_225 : decode cL_caches 225 = .ok (.iconst 0, 1) := by decide +kernel
theorem dL_caches_226 : decode cL_caches 226 = .ok (.ireturn, 1) := by decide +kernel
set_option maxRecDepth 20000 in
theorem ggL_law_X4_init : GoodIn wsL_law wsX4_init := goodIn_r _ [6, 7, 8, 9, 10, 11, 12, 13, 14, 15, 16, 17, 18, 19, 20, 21, 22, 23, 24, 25, 3, 26, 27, 28, 29, 30, 31, 32, 33, 34, 35, 36, 37, 38, 39, 40, 41, 42, 43, 44, 45, 46, 47, 48, 49, 50, 51, 52, 53, 54, 55, 56, 57, 58, 59, 60, 61, 62, 63, 64, 361, 362, 363, 364, 354, 355, 356, 357, 358, 359, 360, 365, 366, 367, 368, 369, 370, 371, 372, 373, 374, 375] (by decide +kernel) (by decide +kernel)
set_option maxRecDepth 20000 in
theorem gL_law_X4_init : GoodIn wsL_law (wsX4_init) := ggL_law_X4_init
set_option maxRecDepth 20000 in
theorem ggL_law_L_cell : GoodIn wsL_law wsL_cell := goodIn_r _ [68, 69, 70] (by decide +kernel) (by decide +kernel)
set_option maxRecDepth 20000 in
theorem gL_law_L_cell : GoodIn wsL_law (va_wsS RL 92 yL_cell wsL_cell) := goodIn_app (goodIn_of _ (by decide +kernel)) ggL_law_L_cell
set_option maxRecDepth 20000 in
theorem ggL_law_L_low : GoodIn wsL_law wsL_low := goodIn_r _ [73, 74] (by decide +kernel) (by decide +kernel)
set_option maxRecDepth 20000 in
theorem gL_law_L_low : GoodIn wsL_law (va_wsS RL 64 yL_low wsL_low) := goodIn_app (goodIn_of _ (by decide +kernel)) ggL_law_L_low
end
section
set_option maxRecDepth 20000 in
theorem ggL_law_L_sets_c : GoodIn wsL_law [.code yL_sets cL_sets 16 (some .boolean)] := goodIn_r _ [77] (by decide +kernel) (by decide +kernel)
set_option maxRecDepth 20000 in
theorem ggL_law_L_sets_r1 : GoodIn wsL_law wsL_sets_r1 := goodIn_r _ [71, 72, 67, 73, 74, 78, 79, 80, 2, 81, 82, 83, 13, 84, 85, 86, 87, 88, 89, 12, 90, 33, 91, 92] (by decide +kernel) (by decide +kernel)
set_option maxRecDepth 20000 in
theorem ggL_law_L_sets_r2 : GoodIn wsL_law wsL_sets_r2 := goodIn_r _ [93, 94, 95, 96, 97, 98, 99, 100, 101, 102, 103, 104, 105, 106, 107, 108, 109, 110, 111, 34, 112, 113, 114, 115] (by decide +kernel) (by decide +kernel)
set_option maxRecDepth 20000 in
theorem ggL_law_L_sets_r3 : GoodIn wsL_law wsL_sets_r3 := goodIn_r _ [116, 117, 118, 119, 120, 121, 122, 123, 124, 125, 126, 127, 17, 21, 28, 128, 129, 130, 131, 26, 132, 133, 134, 16] (by decide +kernel) (by decide +kernel)
set_option maxRecDepth 20000 in
theorem ggL_law_L_sets_r4 : GoodIn wsL_law wsL_sets_r4 := goodIn_r _ [135, 47, 136, 137, 138, 20, 139, 52, 140, 141, 142, 143, 41, 42, 43, 44, 144, 145, 146, 147, 148, 149, 150, 151] (by decide +kernel) (by decide +kernel)
set_option maxRecDepth 20000 in
theorem ggL_law_L_sets_r5 : GoodIn wsL_law wsL_sets_r5 := goodIn_r _ [152, 153, 154, 155, 156, 157, 46, 158, 159, 160, 161, 162, 163, 164, 165, 166, 167, 168, 169, 27, 170, 171, 172, 173] (by decide +kernel) (by decide +kernel)
end
section
set_option maxRecDepth 20000 in
theorem ggL_law_L_sets_r6 : GoodIn wsL_law wsL_sets_r6 := goodIn_r _ [174, 175, 176, 177, 35, 178, 179, 180, 181, 182, 183, 184, 185, 36, 186, 187, 188, 189, 190, 191, 192, 193, 194, 195] (by decide +kernel) (by decide +kernel)
set_option maxRecDepth 20000 in
theorem ggL_law_L_sets_r7 : GoodIn wsL_law wsL_sets_r7 := goodIn_r _ [196, 197, 198] (by decide +kernel) (by decide +kernel)
theorem ggL_law_L_sets_wsX40 : GoodIn wsL_law wsX40 := goodIn_sub inlX4 (by decide +kernel)
theorem ggL_law_L_sets_wsX10 : GoodIn wsL_law wsX10 := goodIn_sub inlX1 (by decide +kernel)
theorem ggL_law_L_sets_wsX30 : GoodIn wsL_law wsX30 := goodIn_sub inlX3 (by decide +kernel)
theorem ggL_law_L_sets_wsX20 : GoodIn wsL_law wsX20 := goodIn_sub inlX2 (by decide +kernel)
end
section
theorem ggL_law_L_sets_b : GoodIn wsL_law (.code yL_sets cL_sets 16 (some .boolean) :: ((wsL_sets_r1 ++ (wsL_sets_r2 ++ (wsL_sets_r3 ++ (wsL_sets_r4 ++ (wsL_sets_r5 ++ (wsL_sets_r6 ++ wsL_sets_r7)))))) ++ wsX40 ++ wsX10 ++ wsX30 ++ wsX20)) := goodIn_ca (a := []) ggL_law_L_sets_c (goodIn_app (goodIn_app (goodIn_app (goodIn_app (goodIn_app ggL_law_L_sets_r1 (goodIn_app ggL_law_L_sets_r2 (goodIn_app ggL_law_L_sets_r3 (goodIn_app ggL_law_L_sets_r4 (goodIn_app ggL_law_L_sets_r5 (goodIn_app ggL_law_L_sets_r6 (ggL_law_L_sets_r7))))))) ggL_law_L_sets_wsX40) ggL_law_L_sets_wsX10) ggL_law_L_sets_wsX30) ggL_law_L_sets_wsX20)
theorem ggL_law_L_sets : GoodIn wsL_law wsL_sets := goodIn_ca (goodIn_ca (goodIn_ca ggL_law_L_sets_b (goodIn_sub (fun _ h => List.mem_append_left _ (List.mem_append_left _ (List.mem_append_right _ h))) (by decide +kernel))) (goodIn_sub (fun _ h => List.mem_append_left _ (List.mem_append_right _ h)) (by decide +kernel))) (goodIn_sub (fun _ h => List.mem_append_right _ h) (by decide +kernel))
end
section
set_option maxRecDepth 20000 in
theorem gL_law_L_sets : GoodIn wsL_law (va_wsS RL 96 yL_sets wsL_sets) := goodIn_app (goodIn_of _ (by decide +kernel)) ggL_law_L_sets
end
section
set_option maxRecDepth 20000 in
theorem ggL_law_L_calls_c : GoodIn wsL_law [.codeWith yL_calls cL_calls 7 (some .int) [(0, 68, 69, 27), (0, 68, 74, 29)]] := goodIn_r _ [99] (by decide +kernel) (by decide +kernel)
set_option maxRecDepth 20000 in
theorem ggL_law_L_calls_r1 : GoodIn wsL_law wsL_calls_r1 := goodIn_r _ [100, 101, 102, 103, 104, 2, 105, 82, 83, 106, 107, 13, 84, 85, 86, 108, 109, 110, 12, 111, 34, 112, 113, 114] (by decide +kernel) (by decide +kernel)
set_option maxRecDepth 20000 in
theorem ggL_law_L_calls_r2 : GoodIn wsL_law wsL_calls_r2 := goodIn_r _ [115, 116, 117, 118, 119, 91, 92, 93, 120, 121, 122, 123, 94, 95, 96, 124, 125, 126, 127, 17, 21, 28, 128, 129] (by decide +kernel) (by decide +kernel)
set_option maxRecDepth 20000 in
theorem ggL_law_L_calls_r3 : GoodIn wsL_law wsL_calls_r3 := goodIn_r _ [130, 131, 26, 132, 133, 134, 16, 135, 47, 136, 137, 138, 20, 139, 52, 140, 141, 142, 143, 41, 42, 43, 44, 144] (by decide +kernel) (by decide +kernel)
set_option maxRecDepth 20000 in
theorem ggL_law_L_calls_r4 : GoodIn wsL_law wsL_calls_r4 := goodIn_r _ [145, 146, 147, 148, 149, 150, 151, 152, 153, 154, 155, 156, 157, 46, 158, 159, 160, 161, 162, 163, 164, 165, 166, 167] (by decide +kernel) (by decide +kernel)
set_option maxRecDepth 20000 in
theorem ggL_law_L_calls_r5 : GoodIn wsL_law wsL_calls_r5 := goodIn_r _ [168, 169, 27, 170, 171, 172, 173, 174, 175, 176, 177, 33, 35] (by decide +kernel) (by decide +kernel)
end
section
theorem ggL_law_L_calls_wsX40 : GoodIn wsL_law wsX40 := goodIn_sub inlX4 (by decide +kernel)
theorem ggL_law_L_calls_wsX10 : GoodIn wsL_law wsX10 := goodIn_sub inlX1 (by decide +kernel)
theorem ggL_law_L_calls_wsX30 : GoodIn wsL_law wsX30 := goodIn_sub inlX3 (by decide +kernel)
theorem ggL_law_L_calls_wsX20 : GoodIn wsL_law wsX20 := goodIn_sub inlX2 (by decide +kernel)
theorem ggL_law_L_calls_b : GoodIn wsL_law (.codeWith yL_calls cL_calls 7 (some .int) [(0, 68, 69, 27), (0, 68, 74, 29)] :: ((wsL_calls_r1 ++ (wsL_calls_r2 ++ (wsL_calls_r3 ++ (wsL_calls_r4 ++ wsL_calls_r5)))) ++ wsX40 ++ wsX10 ++ wsX30 ++ wsX20)) := goodIn_ca (a := []) ggL_law_L_calls_c (goodIn_app (goodIn_app (goodIn_app (goodIn_app (goodIn_app ggL_law_L_calls_r1 (goodIn_app ggL_law_L_calls_r2 (goodIn_app ggL_law_L_calls_r3 (goodIn_app ggL_law_L_calls_r4 (ggL_law_L_calls_r5))))) ggL_law_L_calls_wsX40) ggL_law_L_calls_wsX10) ggL_law_L_calls_wsX30) ggL_law_L_calls_wsX20)
theorem ggL_law_L_calls : GoodIn wsL_law wsL_calls := goodIn_ca (goodIn_ca (goodIn_ca ggL_law_L_calls_b (goodIn_sub (fun _ h => List.mem_append_left _ (List.mem_append_left _ (List.mem_append_right _ h))) (by decide +kernel))) (goodIn_sub (fun _ h => List.mem_append_left _ (List.mem_append_right _ h)) (by decide +kernel))) (goodIn_sub (fun _ h => List.mem_append_right _ h) (by decide +kernel))
end
section
set_option maxRecDepth 20000 in
theorem gL_law_L_calls : GoodIn wsL_law (va_wsS RL 71 yL_calls wsL_calls) := goodIn_app (goodIn_of _ (by decide +kernel)) ggL_law_L_calls
end
section
set_option maxRecDepth 20000 in
theorem ggL_law_L_decides_c : GoodIn wsL_law [.code yL_decides cL_decides 14 (some .boolean)] := goodIn_r _ [201] (by decide +kernel) (by decide +kernel)
set_option maxRecDepth 20000 in
theorem ggL_law_L_decides_r1 : GoodIn wsL_law wsL_decides_r1 := goodIn_r _ [71, 72, 67, 73, 74, 202, 203, 204, 2, 205, 82, 83, 148, 149, 17, 28, 84, 85, 86, 150, 151, 152, 16, 153] (by decide +kernel) (by decide +kernel)
set_option maxRecDepth 20000 in
theorem ggL_law_L_decides_r2 : GoodIn wsL_law wsL_decides_r2 := goodIn_r _ [47, 154, 155, 156, 157, 46, 206, 207, 208, 209, 44, 210, 211, 212, 213, 41, 214, 215, 216, 217, 25, 218, 219, 220] (by decide +kernel) (by decide +kernel)
set_option maxRecDepth 20000 in
theorem ggL_law_L_decides_r3 : GoodIn wsL_law wsL_decides_r3 := goodIn_r _ [24, 221, 59, 222, 223, 224, 225, 226, 227, 228, 229, 230, 231, 232, 13, 128, 129, 130, 131, 26, 174, 175, 176, 12] (by decide +kernel) (by decide +kernel)
set_option maxRecDepth 20000 in
theorem ggL_law_L_decides_r4 : GoodIn wsL_law wsL_decides_r4 := goodIn_r _ [177, 33, 35, 112, 113, 114, 115, 116, 117, 118, 119, 34, 91, 92, 93, 233, 234, 235, 236, 36, 237, 238, 239, 240] (by decide +kernel) (by decide +kernel)
set_option maxRecDepth 20000 in
theorem ggL_law_L_decides_r5 : GoodIn wsL_law wsL_decides_r5 := goodIn_r _ [27, 241, 242, 243, 244, 58, 60, 245, 246, 247, 248, 249, 250] (by decide +kernel) (by decide +kernel)
end
section
theorem ggL_law_L_decides_wsX40 : GoodIn wsL_law wsX40 := goodIn_sub inlX4 (by decide +kernel)
theorem ggL_law_L_decides_wsX30 : GoodIn wsL_law wsX30 := goodIn_sub inlX3 (by decide +kernel)
theorem ggL_law_L_decides_wsX00 : GoodIn wsL_law wsX00 := goodIn_sub inlX0 (by decide +kernel)
theorem ggL_law_L_decides_wsX10 : GoodIn wsL_law wsX10 := goodIn_sub inlX1 (by decide +kernel)
theorem ggL_law_L_decides_b : GoodIn wsL_law (.code yL_decides cL_decides 14 (some .boolean) :: ((wsL_decides_r1 ++ (wsL_decides_r2 ++ (wsL_decides_r3 ++ (wsL_decides_r4 ++ wsL_decides_r5)))) ++ wsX40 ++ wsX30 ++ wsX00 ++ wsX10)) := goodIn_ca (a := []) ggL_law_L_decides_c (goodIn_app (goodIn_app (goodIn_app (goodIn_app (goodIn_app ggL_law_L_decides_r1 (goodIn_app ggL_law_L_decides_r2 (goodIn_app ggL_law_L_decides_r3 (goodIn_app ggL_law_L_decides_r4 (ggL_law_L_decides_r5))))) ggL_law_L_decides_wsX40) ggL_law_L_decides_wsX30) ggL_law_L_decides_wsX00) ggL_law_L_decides_wsX10)
theorem ggL_law_L_decides : GoodIn wsL_law wsL_decides := goodIn_ca (goodIn_ca ggL_law_L_decides_b (goodIn_sub (fun _ h => List.mem_append_left _ (List.mem_append_left _ (List.mem_append_right _ h))) (by decide +kernel))) (goodIn_sub (fun _ h => List.mem_append_right _ h) (by decide +kernel))
end
section
set_option maxRecDepth 20000 in
theorem gL_law_L_decides : GoodIn wsL_law (va_wsS RL 100 yL_decides wsL_decides) := goodIn_app (goodIn_of _ (by decide +kernel)) ggL_law_L_decides
set_option maxRecDepth 20000 in
theorem ggL_law_L_serves : GoodIn wsL_law wsL_serves := goodIn_r _ [253, 248, 249, 67, 250] (by decide +kernel) (by decide +kernel)
set_option maxRecDepth 20000 in
theorem gL_law_L_serves : GoodIn wsL_law (va_wsS RL 104 yL_serves wsL_serves) := goodIn_app (goodIn_of _ (by decide +kernel)) ggL_law_L_serves
end
section
set_option maxRecDepth 20000 in
theorem ggL_law_L_caches_c : GoodIn wsL_law [.code yL_caches cL_caches 9 (some .boolean)] := goodIn_r _ [256] (by decide +kernel) (by decide +kernel)
set_option maxRecDepth 20000 in
theorem ggL_law_L_caches_r1 : GoodIn wsL_law wsL_caches_r1 := goodIn_r _ [71, 72, 67, 73, 74, 257, 258, 259, 2, 260, 82, 83, 25, 28, 84, 85, 86, 261, 262, 263, 24, 264, 58, 265] (by decide +kernel) (by decide +kernel)
set_option maxRecDepth 20000 in
theorem ggL_law_L_caches_r2 : GoodIn wsL_law wsL_caches_r2 := goodIn_r _ [266, 267, 268, 269, 270, 271, 272, 60, 59, 222, 223, 224, 273, 274, 275, 276, 277, 278, 279, 280, 281, 219, 220, 221] (by decide +kernel) (by decide +kernel)
theorem ggL_law_L_caches_wsX40 : GoodIn wsL_law wsX40 := goodIn_sub inlX4 (by decide +kernel)
theorem ggL_law_L_caches_wsX00 : GoodIn wsL_law wsX00 := goodIn_sub inlX0 (by decide +kernel)
theorem ggL_law_L_caches_b : GoodIn wsL_law (.code yL_caches cL_caches 9 (some .boolean) :: ((wsL_caches_r1 ++ wsL_caches_r2) ++ wsX40 ++ wsX00)) := goodIn_ca (a := []) ggL_law_L_caches_c (goodIn_app (goodIn_app (goodIn_app ggL_law_L_caches_r1 (ggL_law_L_caches_r2)) ggL_law_L_caches_wsX40) ggL_law_L_caches_wsX00)
end
section
theorem ggL_law_L_caches : GoodIn wsL_law wsL_caches := goodIn_ca ggL_law_L_caches_b (goodIn_sub (fun _ h => List.mem_append_left _ (List.mem_append_left _ (List.mem_append_right _ h))) (by decide +kernel))
end
section
set_option maxRecDepth 20000 in
theorem gL_law_L_caches : GoodIn wsL_law (va_wsS RL 108 yL_caches wsL_caches) := goodIn_app (goodIn_of _ (by decide +kernel)) ggL_law_L_caches
set_option maxRecDepth 20000 in
theorem ggL_law_L_sweep : GoodIn wsL_law wsL_sweep := goodIn_r _ [284, 285, 286, 67, 287] (by decide +kernel) (by decide +kernel)
set_option maxRecDepth 20000 in
theorem gL_law_L_sweep : GoodIn wsL_law (va_wsS RL 112 yL_sweep wsL_sweep) := goodIn_app (goodIn_of _ (by decide +kernel)) ggL_law_L_sweep
set_option maxRecDepth 20000 in
theorem ggL_law_X4_changeKeys : GoodIn wsL_law wsX4_changeKeys := goodIn_ca (goodIn_r _ [291, 82, 83, 21, 28, 17, 26, 292, 293, 294, 20, 295, 52, 53, 296, 297, 298, 16, 299, 47, 46, 41, 300, 301, 302, 303, 44, 42, 304, 163, 164, 165, 43, 305, 306, 307, 308, 198, 159, 160, 161, 136, 137, 138, 139, 354, 355, 356, 357, 358, 359, 360, 371, 372, 365, 366, 367, 368, 369, 370] (by decide +kernel) (by decide +kernel)) (goodIn_sub (fun _ h => List.mem_append_left _ (List.mem_append_left _ (List.mem_append_right _ h))) (by decide +kernel))
set_option maxRecDepth 20000 in
theorem gL_law_X4_changeKeys : GoodIn wsL_law (wsV RL 116 RX4 yX4_changeKeys wsX4_changeKeys) := goodIn_app (goodIn_of _ (by decide +kernel)) ggL_law_X4_changeKeys
set_option maxRecDepth 20000 in
theorem ggL_law_X4_pass : GoodIn wsL_law wsX4_pass := goodIn_ca (goodIn_r _ [312, 82, 83, 28, 25, 17, 26, 21, 313, 314, 315, 24, 316, 317, 270, 271, 272, 60, 58, 59, 222, 223, 224, 296, 297, 298, 16, 299, 47, 46, 41, 300, 301, 302, 303, 44, 42, 304, 163, 164, 165, 43, 305, 306, 307, 20, 308, 52, 53, 198, 159, 160, 161, 354, 355, 356, 357, 358, 359, 360, 373, 374, 375, 365, 366, 367, 368, 369, 370, 371, 372] (by decide +kernel) (by decide +kernel)) (goodIn_sub (fun _ h => List.mem_append_left _ (List.mem_append_left _ (List.mem_append_right _ h))) (by decide +kernel))
set_option maxRecDepth 20000 in
theorem gL_law_X4_pass : GoodIn wsL_law (wsV RL 119 RX4 yX4_pass wsX4_pass) := goodIn_app (goodIn_of _ (by decide +kernel)) ggL_law_X4_pass
end
section
set_option maxRecDepth 20000 in
theorem ggL_law_L_isSo_c : GoodIn wsL_law [.code yL_isSo cL_isSo 14 (some .boolean)] := goodIn_r _ [320] (by decide +kernel) (by decide +kernel)
set_option maxRecDepth 20000 in
theorem ggL_law_L_isSo_r1 : GoodIn wsL_law wsL_isSo_r1 := goodIn_r _ [321, 322, 323, 2, 324, 28, 325, 326, 327, 328, 82, 83, 21, 136, 137, 138, 20, 139, 52, 329, 306, 307, 308, 53] (by decide +kernel) (by decide +kernel)
set_option maxRecDepth 20000 in
theorem ggL_law_L_isSo_r2 : GoodIn wsL_law wsL_isSo_r2 := goodIn_r _ [285, 286, 67, 287, 330, 331, 332, 333, 148, 149, 17, 150, 151, 152, 16, 153, 47, 154, 155, 156, 157, 46, 334, 335] (by decide +kernel) (by decide +kernel)
set_option maxRecDepth 20000 in
theorem ggL_law_L_isSo_r3 : GoodIn wsL_law wsL_isSo_r3 := goodIn_r _ [336, 337, 13, 84, 85, 86, 338, 339, 340, 12, 341, 33, 112, 113, 114, 115, 116, 117, 118, 119, 34, 91, 92, 93] (by decide +kernel) (by decide +kernel)
set_option maxRecDepth 20000 in
theorem ggL_law_L_isSo_r4 : GoodIn wsL_law wsL_isSo_r4 := goodIn_r _ [248, 249, 250, 342, 343, 344, 345, 229, 230, 231, 232, 128, 129, 130, 131, 26, 174, 175, 176, 177, 35, 233, 234, 235] (by decide +kernel) (by decide +kernel)
set_option maxRecDepth 20000 in
theorem ggL_law_L_isSo_r5 : GoodIn wsL_law wsL_isSo_r5 := goodIn_r _ [236, 36, 237, 238, 239, 240, 27, 245, 246, 247, 346, 347, 348, 349, 350, 351, 352, 353, 25, 218, 219, 220, 24, 221] (by decide +kernel) (by decide +kernel)
end
section
set_option maxRecDepth 20000 in
theorem ggL_law_L_isSo_r6 : GoodIn wsL_law wsL_isSo_r6 := goodIn_r _ [59, 222, 223, 224, 225, 226, 227, 228] (by decide +kernel) (by decide +kernel)
theorem ggL_law_L_isSo_wsX40 : GoodIn wsL_law wsX40 := goodIn_sub inlX4 (by decide +kernel)
theorem ggL_law_L_isSo_wsX20 : GoodIn wsL_law wsX20 := goodIn_sub inlX2 (by decide +kernel)
theorem ggL_law_L_isSo_wsX30 : GoodIn wsL_law wsX30 := goodIn_sub inlX3 (by decide +kernel)
theorem ggL_law_L_isSo_wsX10 : GoodIn wsL_law wsX10 := goodIn_sub inlX1 (by decide +kernel)
theorem ggL_law_L_isSo_wsX00 : GoodIn wsL_law wsX00 := goodIn_sub inlX0 (by decide +kernel)
end
section
theorem ggL_law_L_isSo_b : GoodIn wsL_law (.code yL_isSo cL_isSo 14 (some .boolean) :: ((wsL_isSo_r1 ++ (wsL_isSo_r2 ++ (wsL_isSo_r3 ++ (wsL_isSo_r4 ++ (wsL_isSo_r5 ++ wsL_isSo_r6))))) ++ wsX40 ++ wsX20 ++ wsX30 ++ wsX10 ++ wsX00)) := goodIn_ca (a := []) ggL_law_L_isSo_c (goodIn_app (goodIn_app (goodIn_app (goodIn_app (goodIn_app (goodIn_app ggL_law_L_isSo_r1 (goodIn_app ggL_law_L_isSo_r2 (goodIn_app ggL_law_L_isSo_r3 (goodIn_app ggL_law_L_isSo_r4 (goodIn_app ggL_law_L_isSo_r5 (ggL_law_L_isSo_r6)))))) ggL_law_L_isSo_wsX40) ggL_law_L_isSo_wsX20) ggL_law_L_isSo_wsX30) ggL_law_L_isSo_wsX10) ggL_law_L_isSo_wsX00)
theorem ggL_law_L_isSo : GoodIn wsL_law wsL_isSo := goodIn_ca (goodIn_ca ggL_law_L_isSo_b (goodIn_sub (fun _ h => List.mem_append_left _ (List.mem_append_left _ (List.mem_append_right _ h))) (by decide +kernel))) (goodIn_sub (fun _ h => List.mem_append_right _ h) (by decide +kernel))
end
section
set_option maxRecDepth 20000 in
theorem gL_law_L_isSo : GoodIn wsL_law (va_wsS RL 122 yL_isSo wsL_isSo) := goodIn_app (goodIn_of _ (by decide +kernel)) ggL_law_L_isSo
theorem dL_law_0 : decode cL_law 0 = .ok (.new 11, 3) := by decide +kernel
theorem dL_law_3 : decode cL_law 3 = .ok (.dup, 1) := by decide +kernel
theorem dL_law_4 : decode cL_law 4 = .ok (.invokespecial 91, 3) := by decide +kernel
theorem dL_law_7 : decode cL_law 7 = .ok (.astore_n 1, 1) := by decide +kernel
theorem dL_law_8 : decode cL_law 8 = .ok (.bipush 6, 2) := by decide +kernel
theorem dL_law_10 : decode cL_law 10 = .ok (.newarray .int, 2) := by decide +kernel
theorem dL_law_12 : decode cL_law 12 = .ok (.astore_n 2, 1) := by decide +kernel
theorem dL_law_13 : decode cL_law 13 = .ok (.bipush 8, 2) := by decide +kernel
theorem dL_law_15 : decode cL_law 15 = .ok (.newarray .int, 2) := by decide +kernel
theorem dL_law_17 : decode cL_law 17 = .ok (.astore_n 3, 1) := by decide +kernel
theorem dL_law_18 : decode cL_law 18 = .ok (.bipush 12, 2) := by decide +kernel
theorem dL_law_20 : decode cL_law 20 = .ok (.newarray .int, 2) := by decide +kernel
theorem dL_law_22 : decode cL_law 22 = .ok (.astore 4, 2) := by decide +kernel
theorem dL_law_24 : decode cL_law 24 = .ok (.iconst 5, 1) := by decide +kernel
theorem dL_law_25 : decode cL_law 25 = .ok (.newarray .int, 2) := by decide +kernel
theorem dL_law_27 : decode cL_law 27 = .ok (.astore 5, 2) := by decide +kernel
theorem dL_law_29 : decode cL_law 29 = .ok (.bipush 15, 2) := by decide +kernel
theorem dL_law_31 : decode cL_law 31 = .ok (.newarray .int, 2) := by decide +kernel
theorem dL_law_33 : decode cL_law 33 = .ok (.astore 6, 2) := by decide +kernel
theorem dL_law_35 : decode cL_law 35 = .ok (.bipush 60, 2) := by decide +kernel
theorem dL_law_37 : decode cL_law 37 = .ok (.newarray .int, 2) := by decide +kernel
theorem dL_law_39 : decode cL_law 39 = .ok (.astore 7, 2) := by decide +kernel
theorem dL_law_41 : decode cL_law 41 = .ok (.bipush 30, 2) := by decide +kernel
theorem dL_law_43 : decode cL_law 43 = .ok (.newarray .int, 2) := by decide +kernel
theorem dL_law_45 : decode cL_law 45 = .ok (.astore 8, 2) := by decide +kernel
theorem dL_law_47 : decode cL_law 47 = .ok (.bipush 30, 2) := by decide +kernel
theorem dL_law_49 : decode cL_law 49 = .ok (.newarray .int, 2) := by decide +kernel
theorem dL_law_51 : decode cL_law 51 = .ok (.astore 9, 2) := by decide +kernel
theorem dL_law_53 : decode cL_law 53 = .ok (.aload_n 2, 1) := by decide +kernel
theorem dL_law_54 : decode cL_law 54 = .ok (.iconst 4, 1) := by decide +kernel
theorem dL_law_55 : decode cL_law 55 = .ok (.bipush 10, 2) := by decide +kernel
theorem dL_law_57 : decode cL_law 57 = .ok (.iastore, 1) := by decide +kernel
theorem dL_law_58 : decode cL_law 58 = .ok (.aload_n 2, 1) := by decide +kernel
theorem dL_law_59 : decode cL_law 59 = .ok (.iconst 5, 1) := by decide +kernel
theorem dL_law_60 : decode cL_law 60 = .ok (.bipush 10, 2) := by decide +kernel
theorem dL_law_62 : decode cL_law 62 = .ok (.iastore, 1) := by decide +kernel
theorem dL_law_63 : decode cL_law 63 = .ok (.iconst 0, 1) := by decide +kernel
theorem dL_law_64 : decode cL_law 64 = .ok (.istore 10, 2) := by decide +kernel
theorem dL_law_66 : decode cL_law 66 = .ok (.iload 10, 2) := by decide +kernel
theorem dL_law_68 : decode cL_law 68 = .ok (.bipush 110, 2) := by decide +kernel
theorem dL_law_70 : decode cL_law 70 = .ok (.if_icmp .ge 756, 3) := by decide +kernel
theorem dL_law_73 : decode cL_law 73 = .ok (.aload_n 0, 1) := by decide +kernel
theorem dL_law_74 : decode cL_law 74 = .ok (.iload 10, 2) := by decide +kernel
theorem dL_law_76 : decode cL_law 76 = .ok (.invokestatic 92, 3) := by decide +kernel
theorem dL_law_79 : decode cL_law 79 = .ok (.istore 11, 2) := by decide +kernel
theorem dL_law_81 : decode cL_law 81 = .ok (.iload 11, 2) := by decide +kernel
theorem dL_law_83 : decode cL_law 83 = .ok (.bipush 22, 2) := by decide +kernel
theorem dL_law_85 : decode cL_law 85 = .ok (.invokestatic 64, 3) := by decide +kernel
theorem dL_law_88 : decode cL_law 88 = .ok (.istore 12, 2) := by decide +kernel
theorem dL_law_90 : decode cL_law 90 = .ok (.iconst 1, 1) := by decide +kernel
theorem dL_law_91 : decode cL_law 91 = .ok (.istore 13, 2) := by decide +kernel
theorem dL_law_93 : decode cL_law 93 = .ok (.iload 12, 2) := by decide +kernel
theorem dL_law_95 : decode cL_law 95 = .ok (.bipush 8, 2) := by decide +kernel
theorem dL_law_97 : decode cL_law 97 = .ok (.if_icmp .ge 26, 3) := by decide +kernel
theorem dL_law_100 : decode cL_law 100 = .ok (.aload_n 1, 1) := by decide +kernel
theorem dL_law_101 : decode cL_law 101 = .ok (.iload 12, 2) := by decide +kernel
theorem dL_law_103 : decode cL_law 103 = .ok (.iload 11, 2) := by decide +kernel
theorem dL_law_105 : decode cL_law 105 = .ok (.iconst 5, 1) := by decide +kernel
theorem dL_law_106 : decode cL_law 106 = .ok (.ishr, 1) := by decide +kernel
theorem dL_law_107 : decode cL_law 107 = .ok (.aload_n 3, 1) := by decide +kernel
theorem dL_law_108 : decode cL_law 108 = .ok (.aload 4, 2) := by decide +kernel
theorem dL_law_110 : decode cL_law 110 = .ok (.aload 5, 2) := by decide +kernel
theorem dL_law_112 : decode cL_law 112 = .ok (.aload 7, 2) := by decide +kernel
theorem dL_law_114 : decode cL_law 114 = .ok (.aload_n 2, 1) := by decide +kernel
theorem dL_law_115 : decode cL_law 115 = .ok (.invokestatic 96, 3) := by decide +kernel
theorem dL_law_118 : decode cL_law 118 = .ok (.istore 13, 2) := by decide +kernel
theorem dL_law_120 : decode cL_law 120 = .ok (.goto 672, 3) := by decide +kernel
theorem dL_law_123 : decode cL_law 123 = .ok (.iload 12, 2) := by decide +kernel
theorem dL_law_125 : decode cL_law 125 = .ok (.bipush 10, 2) := by decide +kernel
theorem dL_law_127 : decode cL_law 127 = .ok (.if_icmp .ge 122, 3) := by decide +kernel
theorem dL_law_130 : decode cL_law 130 = .ok (.aload_n 2, 1) := by decide +kernel
theorem dL_law_131 : decode cL_law 131 = .ok (.iconst 1, 1) := by decide +kernel
theorem dL_law_132 : decode cL_law 132 = .ok (.iaload, 1) := by decide +kernel
theorem dL_law_133 : decode cL_law 133 = .ok (.bipush 12, 2) := by decide +kernel
theorem dL_law_135 : decode cL_law 135 = .ok (.if_icmp .ge 114, 3) := by decide +kernel
theorem dL_law_138 : decode cL_law 138 = .ok (.iload 11, 2) := by decide +kernel
theorem dL_law_140 : decode cL_law 140 = .ok (.iconst 5, 1) := by decide +kernel
theorem dL_law_141 : decode cL_law 141 = .ok (.ishr, 1) := by decide +kernel
theorem dL_law_142 : decode cL_law 142 = .ok (.iconst 5, 1) := by decide +kernel
theorem dL_law_143 : decode cL_law 143 = .ok (.invokestatic 64, 3) := by decide +kernel
theorem dL_law_146 : decode cL_law 146 = .ok (.istore 14, 2) := by decide +kernel
theorem dL_law_148 : decode cL_law 148 = .ok (.aload 5, 2) := by decide +kernel
theorem dL_law_150 : decode cL_law 150 = .ok (.iload 14, 2) := by decide +kernel
theorem dL_law_152 : decode cL_law 152 = .ok (.iaload, 1) := by decide +kernel
theorem dL_law_153 : decode cL_law 153 = .ok (.iconst 3, 1) := by decide +kernel
theorem dL_law_154 : decode cL_law 154 = .ok (.if_icmp .ne 8, 3) := by decide +kernel
theorem dL_law_157 : decode cL_law 157 = .ok (.bipush (-3), 2) := by decide +kernel
theorem dL_law_159 : decode cL_law 159 = .ok (.goto 6, 3) := by decide +kernel
theorem dL_law_162 : decode cL_law 162 = .ok (.aload_n 2, 1) := by decide +kernel
theorem dL_law_163 : decode cL_law 163 = .ok (.iconst 1, 1) := by decide +kernel
theorem dL_law_164 : decode cL_law 164 = .ok (.iaload, 1) := by decide +kernel
theorem dL_law_165 : decode cL_law 165 = .ok (.istore 15, 2) := by decide +kernel
theorem dL_law_167 : decode cL_law 167 = .ok (.iload 15, 2) := by decide +kernel
theorem dL_law_169 : decode cL_law 169 = .ok (.ifCond .lt 55, 3) := by decide +kernel
theorem dL_law_172 : decode cL_law 172 = .ok (.aload 7, 2) := by decide +kernel
theorem dL_law_174 : decode cL_law 174 = .ok (.iconst 5, 1) := by decide +kernel
theorem dL_law_175 : decode cL_law 175 = .ok (.iload 15, 2) := by decide +kernel
theorem dL_law_177 : decode cL_law 177 = .ok (.imul, 1) := by decide +kernel
theorem dL_law_178 : decode cL_law 178 = .ok (.iload 14, 2) := by decide +kernel
theorem dL_law_180 : decode cL_law 180 = .ok (.iastore, 1) := by decide +kernel
theorem dL_law_181 : decode cL_law 181 = .ok (.aload 7, 2) := by decide +kernel
theorem dL_law_183 : decode cL_law 183 = .ok (.iconst 5, 1) := by decide +kernel
theorem dL_law_184 : decode cL_law 184 = .ok (.iload 15, 2) := by decide +kernel
theorem dL_law_186 : decode cL_law 186 = .ok (.imul, 1) := by decide +kernel
theorem dL_law_187 : decode cL_law 187 = .ok (.iconst 1, 1) := by decide +kernel
theorem dL_law_188 : decode cL_law 188 = .ok (.iadd, 1) := by decide +kernel
theorem dL_law_189 : decode cL_law 189 = .ok (.aload_n 2, 1) := by decide +kernel
theorem dL_law_190 : decode cL_law 190 = .ok (.iconst 2, 1) := by decide +kernel
theorem dL_law_191 : decode cL_law 191 = .ok (.iaload, 1) := by decide +kernel
theorem dL_law_192 : decode cL_law 192 = .ok (.iastore, 1) := by decide +kernel
theorem dL_law_193 : decode cL_law 193 = .ok (.aload 7, 2) := by decide +kernel
theorem dL_law_195 : decode cL_law 195 = .ok (.iconst 5, 1) := by decide +kernel
theorem dL_law_196 : decode cL_law 196 = .ok (.iload 15, 2) := by decide +kernel
theorem dL_law_198 : decode cL_law 198 = .ok (.imul, 1) := by decide +kernel
theorem dL_law_199 : decode cL_law 199 = .ok (.iconst 2, 1) := by decide +kernel
theorem dL_law_200 : decode cL_law 200 = .ok (.iadd, 1) := by decide +kernel
theorem dL_law_201 : decode cL_law 201 = .ok (.aload_n 2, 1) := by decide +kernel
theorem dL_law_202 : decode cL_law 202 = .ok (.iconst 0, 1) := by decide +kernel
theorem dL_law_203 : decode cL_law 203 = .ok (.iaload, 1) := by decide +kernel
theorem dL_law_204 : decode cL_law 204 = .ok (.iastore, 1) := by decide +kernel
theorem dL_law_205 : decode cL_law 205 = .ok (.aload 7, 2) := by decide +kernel
theorem dL_law_207 : decode cL_law 207 = .ok (.iconst 5, 1) := by decide +kernel
theorem dL_law_208 : decode cL_law 208 = .ok (.iload 15, 2) := by decide +kernel
theorem dL_law_210 : decode cL_law 210 = .ok (.imul, 1) := by decide +kernel
theorem dL_law_211 : decode cL_law 211 = .ok (.iconst 3, 1) := by decide +kernel
theorem dL_law_212 : decode cL_law 212 = .ok (.iadd, 1) := by decide +kernel
theorem dL_law_213 : decode cL_law 213 = .ok (.aload_n 2, 1) := by decide +kernel
theorem dL_law_214 : decode cL_law 214 = .ok (.iconst 0, 1) := by decide +kernel
theorem dL_law_215 : decode cL_law 215 = .ok (.iaload, 1) := by decide +kernel
theorem dL_law_216 : decode cL_law 216 = .ok (.iastore, 1) := by decide +kernel
theorem dL_law_217 : decode cL_law 217 = .ok (.aload_n 2, 1) := by decide +kernel
theorem dL_law_218 : decode cL_law 218 = .ok (.iconst 1, 1) := by decide +kernel
theorem dL_law_219 : decode cL_law 219 = .ok (.dup2, 1) := by decide +kernel
theorem dL_law_220 : decode cL_law 220 = .ok (.iaload, 1) := by decide +kernel
theorem dL_law_221 : decode cL_law 221 = .ok (.iconst 1, 1) := by decide +kernel
theorem dL_law_222 : decode cL_law 222 = .ok (.iadd, 1) := by decide +kernel
theorem dL_law_223 : decode cL_law 223 = .ok (.iastore, 1) := by decide +kernel
theorem dL_law_224 : decode cL_law 224 = .ok (.aload_n 1, 1) := by decide +kernel
theorem dL_law_225 : decode cL_law 225 = .ok (.iconst 1, 1) := by decide +kernel
theorem dL_law_226 : decode cL_law 226 = .ok (.iload 14, 2) := by decide +kernel
theorem dL_law_228 : decode cL_law 228 = .ok (.iconst 0, 1) := by decide +kernel
theorem dL_law_229 : decode cL_law 229 = .ok (.iconst 0, 1) := by decide +kernel
theorem dL_law_230 : decode cL_law 230 = .ok (.iconst 0, 1) := by decide +kernel
theorem dL_law_231 : decode cL_law 231 = .ok (.invokestatic 71, 3) := by decide +kernel
theorem dL_law_234 : decode cL_law 234 = .ok (.iload 15, 2) := by decide +kernel
theorem dL_law_236 : decode cL_law 236 = .ok (.if_icmp .ne 7, 3) := by decide +kernel
theorem dL_law_239 : decode cL_law 239 = .ok (.iconst 1, 1) := by decide +kernel
theorem dL_law_240 : decode cL_law 240 = .ok (.goto 4, 3) := by decide +kernel
theorem dL_law_243 : decode cL_law 243 = .ok (.iconst 0, 1) := by decide +kernel
theorem dL_law_244 : decode cL_law 244 = .ok (.istore 13, 2) := by decide +kernel
theorem dL_law_246 : decode cL_law 246 = .ok (.goto 546, 3) := by decide +kernel
theorem dL_law_249 : decode cL_law 249 = .ok (.iload 12, 2) := by decide +kernel
theorem dL_law_251 : decode cL_law 251 = .ok (.bipush 14, 2) := by decide +kernel
theorem dL_law_253 : decode cL_law 253 = .ok (.if_icmp .ge 36, 3) := by decide +kernel
theorem dL_law_256 : decode cL_law 256 = .ok (.aload_n 2, 1) := by decide +kernel
theorem dL_law_257 : decode cL_law 257 = .ok (.iconst 1, 1) := by decide +kernel
theorem dL_law_258 : decode cL_law 258 = .ok (.iaload, 1) := by decide +kernel
theorem dL_law_259 : decode cL_law 259 = .ok (.ifCond .le 30, 3) := by decide +kernel
theorem dL_law_262 : decode cL_law 262 = .ok (.aload_n 1, 1) := by decide +kernel
theorem dL_law_263 : decode cL_law 263 = .ok (.iload 11, 2) := by decide +kernel
theorem dL_law_265 : decode cL_law 265 = .ok (.iconst 5, 1) := by decide +kernel
theorem dL_law_266 : decode cL_law 266 = .ok (.ishr, 1) := by decide +kernel
theorem dL_law_267 : decode cL_law 267 = .ok (.aload_n 3, 1) := by decide +kernel
theorem dL_law_268 : decode cL_law 268 = .ok (.aload 4, 2) := by decide +kernel
theorem dL_law_270 : decode cL_law 270 = .ok (.aload 5, 2) := by decide +kernel
theorem dL_law_272 : decode cL_law 272 = .ok (.aload 6, 2) := by decide +kernel
theorem dL_law_274 : decode cL_law 274 = .ok (.aload 7, 2) := by decide +kernel
theorem dL_law_276 : decode cL_law 276 = .ok (.aload 8, 2) := by decide +kernel
theorem dL_law_278 : decode cL_law 278 = .ok (.aload 9, 2) := by decide +kernel
theorem dL_law_280 : decode cL_law 280 = .ok (.aload_n 2, 1) := by decide +kernel
theorem dL_law_281 : decode cL_law 281 = .ok (.invokestatic 100, 3) := by decide +kernel
theorem dL_law_284 : decode cL_law 284 = .ok (.istore 13, 2) := by decide +kernel
theorem dL_law_286 : decode cL_law 286 = .ok (.goto 506, 3) := by decide +kernel
theorem dL_law_289 : decode cL_law 289 = .ok (.iload 12, 2) := by decide +kernel
theorem dL_law_291 : decode cL_law 291 = .ok (.bipush 14, 2) := by decide +kernel
theorem dL_law_293 : decode cL_law 293 = .ok (.if_icmp .ne 89, 3) := by decide +kernel
theorem dL_law_296 : decode cL_law 296 = .ok (.aload_n 2, 1) := by decide +kernel
theorem dL_law_297 : decode cL_law 297 = .ok (.iconst 1, 1) := by decide +kernel
theorem dL_law_298 : decode cL_law 298 = .ok (.iaload, 1) := by decide +kernel
theorem dL_law_299 : decode cL_law 299 = .ok (.ifCond .le 83, 3) := by decide +kernel
theorem dL_law_302 : decode cL_law 302 = .ok (.iload 11, 2) := by decide +kernel
theorem dL_law_304 : decode cL_law 304 = .ok (.iconst 5, 1) := by decide +kernel
theorem dL_law_305 : decode cL_law 305 = .ok (.ishr, 1) := by decide +kernel
theorem dL_law_306 : decode cL_law 306 = .ok (.aload_n 2, 1) := by decide +kernel
theorem dL_law_307 : decode cL_law 307 = .ok (.iconst 1, 1) := by decide +kernel
theorem dL_law_308 : decode cL_law 308 = .ok (.iaload, 1) := by decide +kernel
theorem dL_law_309 : decode cL_law 309 = .ok (.invokestatic 64, 3) := by decide +kernel
theorem dL_law_312 : decode cL_law 312 = .ok (.istore 14, 2) := by decide +kernel
theorem dL_law_314 : decode cL_law 314 = .ok (.aload 7, 2) := by decide +kernel
theorem dL_law_316 : decode cL_law 316 = .ok (.iconst 5, 1) := by decide +kernel
theorem dL_law_317 : decode cL_law 317 = .ok (.iload 14, 2) := by decide +kernel
theorem dL_law_319 : decode cL_law 319 = .ok (.imul, 1) := by decide +kernel
theorem dL_law_320 : decode cL_law 320 = .ok (.iconst 4, 1) := by decide +kernel
theorem dL_law_321 : decode cL_law 321 = .ok (.iadd, 1) := by decide +kernel
theorem dL_law_322 : decode cL_law 322 = .ok (.iaload, 1) := by decide +kernel
theorem dL_law_323 : decode cL_law 323 = .ok (.iconst 1, 1) := by decide +kernel
theorem dL_law_324 : decode cL_law 324 = .ok (.if_icmp .ne 8, 3) := by decide +kernel
theorem dL_law_327 : decode cL_law 327 = .ok (.bipush (-3), 2) := by decide +kernel
theorem dL_law_329 : decode cL_law 329 = .ok (.goto 16, 3) := by decide +kernel
theorem dL_law_332 : decode cL_law 332 = .ok (.aload_n 2, 1) := by decide +kernel
theorem dL_law_333 : decode cL_law 333 = .ok (.iconst 0, 1) := by decide +kernel
theorem dL_law_334 : decode cL_law 334 = .ok (.iaload, 1) := by decide +kernel
theorem dL_law_335 : decode cL_law 335 = .ok (.aload 7, 2) := by decide +kernel
theorem dL_law_337 : decode cL_law 337 = .ok (.iconst 5, 1) := by decide +kernel
theorem dL_law_338 : decode cL_law 338 = .ok (.iload 14, 2) := by decide +kernel
theorem dL_law_340 : decode cL_law 340 = .ok (.imul, 1) := by decide +kernel
theorem dL_law_341 : decode cL_law 341 = .ok (.iconst 2, 1) := by decide +kernel
theorem dL_law_342 : decode cL_law 342 = .ok (.iadd, 1) := by decide +kernel
theorem dL_law_343 : decode cL_law 343 = .ok (.iaload, 1) := by decide +kernel
theorem dL_law_344 : decode cL_law 344 = .ok (.isub, 1) := by decide +kernel
theorem dL_law_345 : decode cL_law 345 = .ok (.istore 15, 2) := by decide +kernel
theorem dL_law_347 : decode cL_law 347 = .ok (.aload 7, 2) := by decide +kernel
theorem dL_law_349 : decode cL_law 349 = .ok (.iconst 5, 1) := by decide +kernel
theorem dL_law_350 : decode cL_law 350 = .ok (.iload 14, 2) := by decide +kernel
theorem dL_law_352 : decode cL_law 352 = .ok (.imul, 1) := by decide +kernel
theorem dL_law_353 : decode cL_law 353 = .ok (.iconst 4, 1) := by decide +kernel
theorem dL_law_354 : decode cL_law 354 = .ok (.iadd, 1) := by decide +kernel
theorem dL_law_355 : decode cL_law 355 = .ok (.iconst 1, 1) := by decide +kernel
theorem dL_law_356 : decode cL_law 356 = .ok (.iastore, 1) := by decide +kernel
theorem dL_law_357 : decode cL_law 357 = .ok (.aload_n 1, 1) := by decide +kernel
theorem dL_law_358 : decode cL_law 358 = .ok (.iconst 2, 1) := by decide +kernel
theorem dL_law_359 : decode cL_law 359 = .ok (.iload 14, 2) := by decide +kernel
theorem dL_law_361 : decode cL_law 361 = .ok (.iconst 0, 1) := by decide +kernel
theorem dL_law_362 : decode cL_law 362 = .ok (.iconst 0, 1) := by decide +kernel
theorem dL_law_363 : decode cL_law 363 = .ok (.iconst 0, 1) := by decide +kernel
theorem dL_law_364 : decode cL_law 364 = .ok (.invokestatic 71, 3) := by decide +kernel
theorem dL_law_367 : decode cL_law 367 = .ok (.iload 15, 2) := by decide +kernel
theorem dL_law_369 : decode cL_law 369 = .ok (.if_icmp .ne 7, 3) := by decide +kernel
theorem dL_law_372 : decode cL_law 372 = .ok (.iconst 1, 1) := by decide +kernel
theorem dL_law_373 : decode cL_law 373 = .ok (.goto 4, 3) := by decide +kernel
theorem dL_law_376 : decode cL_law 376 = .ok (.iconst 0, 1) := by decide +kernel
theorem dL_law_377 : decode cL_law 377 = .ok (.istore 13, 2) := by decide +kernel
theorem dL_law_379 : decode cL_law 379 = .ok (.goto 413, 3) := by decide +kernel
theorem dL_law_382 : decode cL_law 382 = .ok (.iload 12, 2) := by decide +kernel
theorem dL_law_384 : decode cL_law 384 = .ok (.bipush 15, 2) := by decide +kernel
theorem dL_law_386 : decode cL_law 386 = .ok (.if_icmp .ne 202, 3) := by decide +kernel
theorem dL_law_389 : decode cL_law 389 = .ok (.iload 11, 2) := by decide +kernel
theorem dL_law_391 : decode cL_law 391 = .ok (.iconst 5, 1) := by decide +kernel
theorem dL_law_392 : decode cL_law 392 = .ok (.ishr, 1) := by decide +kernel
theorem dL_law_393 : decode cL_law 393 = .ok (.iconst 5, 1) := by decide +kernel
theorem dL_law_394 : decode cL_law 394 = .ok (.invokestatic 64, 3) := by decide +kernel
theorem dL_law_397 : decode cL_law 397 = .ok (.istore 14, 2) := by decide +kernel
theorem dL_law_399 : decode cL_law 399 = .ok (.iload 11, 2) := by decide +kernel
theorem dL_law_401 : decode cL_law 401 = .ok (.bipush 8, 2) := by decide +kernel
theorem dL_law_403 : decode cL_law 403 = .ok (.ishr, 1) := by decide +kernel
theorem dL_law_404 : decode cL_law 404 = .ok (.iconst 3, 1) := by decide +kernel
theorem dL_law_405 : decode cL_law 405 = .ok (.invokestatic 64, 3) := by decide +kernel
theorem dL_law_408 : decode cL_law 408 = .ok (.istore 15, 2) := by decide +kernel
theorem dL_law_410 : decode cL_law 410 = .ok (.iload 11, 2) := by decide +kernel
theorem dL_law_412 : decode cL_law 412 = .ok (.bipush 10, 2) := by decide +kernel
theorem dL_law_414 : decode cL_law 414 = .ok (.ishr, 1) := by decide +kernel
theorem dL_law_415 : decode cL_law 415 = .ok (.iconst 5, 1) := by decide +kernel
theorem dL_law_416 : decode cL_law 416 = .ok (.invokestatic 64, 3) := by decide +kernel
theorem dL_law_419 : decode cL_law 419 = .ok (.istore 16, 2) := by decide +kernel
theorem dL_law_421 : decode cL_law 421 = .ok (.iload 11, 2) := by decide +kernel
theorem dL_law_423 : decode cL_law 423 = .ok (.bipush 13, 2) := by decide +kernel
theorem dL_law_425 : decode cL_law 425 = .ok (.ishr, 1) := by decide +kernel
theorem dL_law_426 : decode cL_law 426 = .ok (.iconst 5, 1) := by decide +kernel
theorem dL_law_427 : decode cL_law 427 = .ok (.invokestatic 64, 3) := by decide +kernel
theorem dL_law_430 : decode cL_law 430 = .ok (.istore 17, 2) := by decide +kernel
theorem dL_law_432 : decode cL_law 432 = .ok (.iload 14, 2) := by decide +kernel
theorem dL_law_434 : decode cL_law 434 = .ok (.iload 16, 2) := by decide +kernel
theorem dL_law_436 : decode cL_law 436 = .ok (.if_icmp .eq 21, 3) := by decide +kernel
theorem dL_law_439 : decode cL_law 439 = .ok (.iload 14, 2) := by decide +kernel
theorem dL_law_441 : decode cL_law 441 = .ok (.iload 17, 2) := by decide +kernel
theorem dL_law_443 : decode cL_law 443 = .ok (.if_icmp .eq 14, 3) := by decide +kernel
theorem dL_law_446 : decode cL_law 446 = .ok (.iload 16, 2) := by decide +kernel
theorem dL_law_448 : decode cL_law 448 = .ok (.iload 17, 2) := by decide +kernel
theorem dL_law_450 : decode cL_law 450 = .ok (.if_icmp .eq 7, 3) := by decide +kernel
theorem dL_law_453 : decode cL_law 453 = .ok (.iconst 1, 1) := by decide +kernel
theorem dL_law_454 : decode cL_law 454 = .ok (.goto 4, 3) := by decide +kernel
theorem dL_law_457 : decode cL_law 457 = .ok (.iconst 0, 1) := by decide +kernel
theorem dL_law_458 : decode cL_law 458 = .ok (.istore 18, 2) := by decide +kernel
theorem dL_law_460 : decode cL_law 460 = .ok (.iload 18, 2) := by decide +kernel
theorem dL_law_462 : decode cL_law 462 = .ok (.ifCond .eq 37, 3) := by decide +kernel
theorem dL_law_465 : decode cL_law 465 = .ok (.iload 16, 2) := by decide +kernel
theorem dL_law_467 : decode cL_law 467 = .ok (.iload 15, 2) := by decide +kernel
theorem dL_law_469 : decode cL_law 469 = .ok (.aload_n 3, 1) := by decide +kernel
theorem dL_law_470 : decode cL_law 470 = .ok (.aload 4, 2) := by decide +kernel
theorem dL_law_472 : decode cL_law 472 = .ok (.aload 5, 2) := by decide +kernel
theorem dL_law_474 : decode cL_law 474 = .ok (.invokestatic 104, 3) := by decide +kernel
theorem dL_law_477 : decode cL_law 477 = .ok (.ifCond .eq 22, 3) := by decide +kernel
theorem dL_law_480 : decode cL_law 480 = .ok (.iload 17, 2) := by decide +kernel
theorem dL_law_482 : decode cL_law 482 = .ok (.iload 15, 2) := by decide +kernel
theorem dL_law_484 : decode cL_law 484 = .ok (.aload_n 3, 1) := by decide +kernel
theorem dL_law_485 : decode cL_law 485 = .ok (.aload 4, 2) := by decide +kernel
theorem dL_law_487 : decode cL_law 487 = .ok (.aload 5, 2) := by decide +kernel
theorem dL_law_489 : decode cL_law 489 = .ok (.invokestatic 104, 3) := by decide +kernel
theorem dL_law_492 : decode cL_law 492 = .ok (.ifCond .eq 7, 3) := by decide +kernel
theorem dL_law_495 : decode cL_law 495 = .ok (.iconst 1, 1) := by decide +kernel
theorem dL_law_496 : decode cL_law 496 = .ok (.goto 4, 3) := by decide +kernel
theorem dL_law_499 : decode cL_law 499 = .ok (.iconst 0, 1) := by decide +kernel
theorem dL_law_500 : decode cL_law 500 = .ok (.istore 19, 2) := by decide +kernel
theorem dL_law_502 : decode cL_law 502 = .ok (.aload 6, 2) := by decide +kernel
theorem dL_law_504 : decode cL_law 504 = .ok (.iconst 3, 1) := by decide +kernel
theorem dL_law_505 : decode cL_law 505 = .ok (.iload 14, 2) := by decide +kernel
theorem dL_law_507 : decode cL_law 507 = .ok (.imul, 1) := by decide +kernel
theorem dL_law_508 : decode cL_law 508 = .ok (.iload 15, 2) := by decide +kernel
theorem dL_law_510 : decode cL_law 510 = .ok (.iadd, 1) := by decide +kernel
theorem dL_law_511 : decode cL_law 511 = .ok (.iload 19, 2) := by decide +kernel
theorem dL_law_513 : decode cL_law 513 = .ok (.ifCond .eq 12, 3) := by decide +kernel
theorem dL_law_516 : decode cL_law 516 = .ok (.aload_n 2, 1) := by decide +kernel
theorem dL_law_517 : decode cL_law 517 = .ok (.iconst 0, 1) := by decide +kernel
theorem dL_law_518 : decode cL_law 518 = .ok (.iaload, 1) := by decide +kernel
theorem dL_law_519 : decode cL_law 519 = .ok (.bipush 60, 2) := by decide +kernel
theorem dL_law_521 : decode cL_law 521 = .ok (.iadd, 1) := by decide +kernel
theorem dL_law_522 : decode cL_law 522 = .ok (.goto 13, 3) := by decide +kernel
theorem dL_law_525 : decode cL_law 525 = .ok (.aload 6, 2) := by decide +kernel
theorem dL_law_527 : decode cL_law 527 = .ok (.iconst 3, 1) := by decide +kernel
theorem dL_law_528 : decode cL_law 528 = .ok (.iload 14, 2) := by decide +kernel
theorem dL_law_530 : decode cL_law 530 = .ok (.imul, 1) := by decide +kernel
theorem dL_law_531 : decode cL_law 531 = .ok (.iload 15, 2) := by decide +kernel
theorem dL_law_533 : decode cL_law 533 = .ok (.iadd, 1) := by decide +kernel
theorem dL_law_534 : decode cL_law 534 = .ok (.iaload, 1) := by decide +kernel
theorem dL_law_535 : decode cL_law 535 = .ok (.iastore, 1) := by decide +kernel
theorem dL_law_536 : decode cL_law 536 = .ok (.aload_n 1, 1) := by decide +kernel
theorem dL_law_537 : decode cL_law 537 = .ok (.iconst 3, 1) := by decide +kernel
theorem dL_law_538 : decode cL_law 538 = .ok (.iload 14, 2) := by decide +kernel
theorem dL_law_540 : decode cL_law 540 = .ok (.iload 15, 2) := by decide +kernel
theorem dL_law_542 : decode cL_law 542 = .ok (.iload 16, 2) := by decide +kernel
theorem dL_law_544 : decode cL_law 544 = .ok (.iload 17, 2) := by decide +kernel
theorem dL_law_546 : decode cL_law 546 = .ok (.invokestatic 71, 3) := by decide +kernel
theorem dL_law_549 : decode cL_law 549 = .ok (.iload 19, 2) := by decide +kernel
theorem dL_law_551 : decode cL_law 551 = .ok (.ifCond .eq 12, 3) := by decide +kernel
theorem dL_law_554 : decode cL_law 554 = .ok (.aload_n 2, 1) := by decide +kernel
theorem dL_law_555 : decode cL_law 555 = .ok (.iconst 0, 1) := by decide +kernel
theorem dL_law_556 : decode cL_law 556 = .ok (.iaload, 1) := by decide +kernel
theorem dL_law_557 : decode cL_law 557 = .ok (.bipush 60, 2) := by decide +kernel
theorem dL_law_559 : decode cL_law 559 = .ok (.iadd, 1) := by decide +kernel
theorem dL_law_560 : decode cL_law 560 = .ok (.goto 15, 3) := by decide +kernel
theorem dL_law_563 : decode cL_law 563 = .ok (.iload 18, 2) := by decide +kernel
theorem dL_law_565 : decode cL_law 565 = .ok (.ifCond .eq 8, 3) := by decide +kernel
theorem dL_law_568 : decode cL_law 568 = .ok (.bipush (-3), 2) := by decide +kernel
theorem dL_law_570 : decode cL_law 570 = .ok (.goto 5, 3) := by decide +kernel
theorem dL_law_573 : decode cL_law 573 = .ok (.bipush (-2), 2) := by decide +kernel
theorem dL_law_575 : decode cL_law 575 = .ok (.if_icmp .ne 7, 3) := by decide +kernel
theorem dL_law_578 : decode cL_law 578 = .ok (.iconst 1, 1) := by decide +kernel
theorem dL_law_579 : decode cL_law 579 = .ok (.goto 4, 3) := by decide +kernel
theorem dL_law_582 : decode cL_law 582 = .ok (.iconst 0, 1) := by decide +kernel
theorem dL_law_583 : decode cL_law 583 = .ok (.istore 13, 2) := by decide +kernel
theorem dL_law_585 : decode cL_law 585 = .ok (.goto 207, 3) := by decide +kernel
theorem dL_law_588 : decode cL_law 588 = .ok (.iload 12, 2) := by decide +kernel
theorem dL_law_590 : decode cL_law 590 = .ok (.bipush 18, 2) := by decide +kernel
theorem dL_law_592 : decode cL_law 592 = .ok (.if_icmp .ge 36, 3) := by decide +kernel
theorem dL_law_595 : decode cL_law 595 = .ok (.aload_n 1, 1) := by decide +kernel
theorem dL_law_596 : decode cL_law 596 = .ok (.iload 12, 2) := by decide +kernel
theorem dL_law_598 : decode cL_law 598 = .ok (.bipush 16, 2) := by decide +kernel
theorem dL_law_600 : decode cL_law 600 = .ok (.isub, 1) := by decide +kernel
theorem dL_law_601 : decode cL_law 601 = .ok (.ifCond .ge 7, 3) := by decide +kernel
theorem dL_law_604 : decode cL_law 604 = .ok (.iconst 0, 1) := by decide +kernel
theorem dL_law_605 : decode cL_law 605 = .ok (.goto 8, 3) := by decide +kernel
theorem dL_law_608 : decode cL_law 608 = .ok (.iload 12, 2) := by decide +kernel
theorem dL_law_610 : decode cL_law 610 = .ok (.bipush 16, 2) := by decide +kernel
theorem dL_law_612 : decode cL_law 612 = .ok (.isub, 1) := by decide +kernel
theorem dL_law_613 : decode cL_law 613 = .ok (.iload 11, 2) := by decide +kernel
theorem dL_law_615 : decode cL_law 615 = .ok (.iconst 5, 1) := by decide +kernel
theorem dL_law_616 : decode cL_law 616 = .ok (.ishr, 1) := by decide +kernel
theorem dL_law_617 : decode cL_law 617 = .ok (.aload 8, 2) := by decide +kernel
theorem dL_law_619 : decode cL_law 619 = .ok (.aload_n 2, 1) := by decide +kernel
theorem dL_law_620 : decode cL_law 620 = .ok (.invokestatic 108, 3) := by decide +kernel
theorem dL_law_623 : decode cL_law 623 = .ok (.istore 13, 2) := by decide +kernel
theorem dL_law_625 : decode cL_law 625 = .ok (.goto 167, 3) := by decide +kernel
theorem dL_law_628 : decode cL_law 628 = .ok (.iload 12, 2) := by decide +kernel
theorem dL_law_630 : decode cL_law 630 = .ok (.bipush 18, 2) := by decide +kernel
theorem dL_law_632 : decode cL_law 632 = .ok (.if_icmp .ne 97, 3) := by decide +kernel
theorem dL_law_635 : decode cL_law 635 = .ok (.iload 11, 2) := by decide +kernel
theorem dL_law_637 : decode cL_law 637 = .ok (.bipush 9, 2) := by decide +kernel
theorem dL_law_639 : decode cL_law 639 = .ok (.ishr, 1) := by decide +kernel
theorem dL_law_640 : decode cL_law 640 = .ok (.iconst 3, 1) := by decide +kernel
theorem dL_law_641 : decode cL_law 641 = .ok (.invokestatic 64, 3) := by decide +kernel
theorem dL_law_644 : decode cL_law 644 = .ok (.ifCond .ne 85, 3) := by decide +kernel
theorem dL_law_647 : decode cL_law 647 = .ok (.iload 11, 2) := by decide +kernel
theorem dL_law_649 : decode cL_law 649 = .ok (.iconst 5, 1) := by decide +kernel
theorem dL_law_650 : decode cL_law 650 = .ok (.ishr, 1) := by decide +kernel
theorem dL_law_651 : decode cL_law 651 = .ok (.iload 11, 2) := by decide +kernel
theorem dL_law_653 : decode cL_law 653 = .ok (.bipush 13, 2) := by decide +kernel
theorem dL_law_655 : decode cL_law 655 = .ok (.ishr, 1) := by decide +kernel
theorem dL_law_656 : decode cL_law 656 = .ok (.iconst 2, 1) := by decide +kernel
theorem dL_law_657 : decode cL_law 657 = .ok (.invokestatic 64, 3) := by decide +kernel
theorem dL_law_660 : decode cL_law 660 = .ok (.ifCond .ne 8, 3) := by decide +kernel
theorem dL_law_663 : decode cL_law 663 = .ok (.bipush 40, 2) := by decide +kernel
theorem dL_law_665 : decode cL_law 665 = .ok (.goto 6, 3) := by decide +kernel
theorem dL_law_668 : decode cL_law 668 = .ok (.sipush 301, 3) := by decide +kernel
theorem dL_law_671 : decode cL_law 671 = .ok (.invokestatic 64, 3) := by decide +kernel
theorem dL_law_674 : decode cL_law 674 = .ok (.istore 14, 2) := by decide +kernel
theorem dL_law_676 : decode cL_law 676 = .ok (.aload_n 2, 1) := by decide +kernel
theorem dL_law_677 : decode cL_law 677 = .ok (.iconst 2, 1) := by decide +kernel
theorem dL_law_678 : decode cL_law 678 = .ok (.dup2, 1) := by decide +kernel
theorem dL_law_679 : decode cL_law 679 = .ok (.iaload, 1) := by decide +kernel
theorem dL_law_680 : decode cL_law 680 = .ok (.iconst 1, 1) := by decide +kernel
theorem dL_law_681 : decode cL_law 681 = .ok (.iadd, 1) := by decide +kernel
theorem dL_law_682 : decode cL_law 682 = .ok (.iastore, 1) := by decide +kernel
theorem dL_law_683 : decode cL_law 683 = .ok (.aload_n 2, 1) := by decide +kernel
theorem dL_law_684 : decode cL_law 684 = .ok (.iconst 3, 1) := by decide +kernel
theorem dL_law_685 : decode cL_law 685 = .ok (.aload_n 2, 1) := by decide +kernel
theorem dL_law_686 : decode cL_law 686 = .ok (.iconst 0, 1) := by decide +kernel
theorem dL_law_687 : decode cL_law 687 = .ok (.iaload, 1) := by decide +kernel
theorem dL_law_688 : decode cL_law 688 = .ok (.iload 14, 2) := by decide +kernel
theorem dL_law_690 : decode cL_law 690 = .ok (.iadd, 1) := by decide +kernel
theorem dL_law_691 : decode cL_law 691 = .ok (.iastore, 1) := by decide +kernel
theorem dL_law_692 : decode cL_law 692 = .ok (.aload 7, 2) := by decide +kernel
theorem dL_law_694 : decode cL_law 694 = .ok (.aload 5, 2) := by decide +kernel
theorem dL_law_696 : decode cL_law 696 = .ok (.aload_n 2, 1) := by decide +kernel
theorem dL_law_697 : decode cL_law 697 = .ok (.invokestatic 112, 3) := by decide +kernel
theorem dL_law_700 : decode cL_law 700 = .ok (.istore 15, 2) := by decide +kernel
theorem dL_law_702 : decode cL_law 702 = .ok (.iload 15, 2) := by decide +kernel
theorem dL_law_704 : decode cL_law 704 = .ok (.ifCond .lt 19, 3) := by decide +kernel
theorem dL_law_707 : decode cL_law 707 = .ok (.aload_n 1, 1) := by decide +kernel
theorem dL_law_708 : decode cL_law 708 = .ok (.iload 14, 2) := by decide +kernel
theorem dL_law_710 : decode cL_law 710 = .ok (.invokevirtual 116, 3) := by decide +kernel
theorem dL_law_713 : decode cL_law 713 = .ok (.aload_n 2, 1) := by decide +kernel
theorem dL_law_714 : decode cL_law 714 = .ok (.iconst 2, 1) := by decide +kernel
theorem dL_law_715 : decode cL_law 715 = .ok (.iaload, 1) := by decide +kernel
theorem dL_law_716 : decode cL_law 716 = .ok (.if_icmp .ne 7, 3) := by decide +kernel
theorem dL_law_719 : decode cL_law 719 = .ok (.iconst 1, 1) := by decide +kernel
theorem dL_law_720 : decode cL_law 720 = .ok (.goto 4, 3) := by decide +kernel
theorem dL_law_723 : decode cL_law 723 = .ok (.iconst 0, 1) := by decide +kernel
theorem dL_law_724 : decode cL_law 724 = .ok (.istore 13, 2) := by decide +kernel
theorem dL_law_726 : decode cL_law 726 = .ok (.goto 66, 3) := by decide +kernel
theorem dL_law_729 : decode cL_law 729 = .ok (.iconst 1, 1) := by decide +kernel
theorem dL_law_730 : decode cL_law 730 = .ok (.iload 11, 2) := by decide +kernel
theorem dL_law_732 : decode cL_law 732 = .ok (.iconst 5, 1) := by decide +kernel
theorem dL_law_733 : decode cL_law 733 = .ok (.ishr, 1) := by decide +kernel
theorem dL_law_734 : decode cL_law 734 = .ok (.iload 11, 2) := by decide +kernel
theorem dL_law_736 : decode cL_law 736 = .ok (.bipush 14, 2) := by decide +kernel
theorem dL_law_738 : decode cL_law 738 = .ok (.ishr, 1) := by decide +kernel
theorem dL_law_739 : decode cL_law 739 = .ok (.iconst 5, 1) := by decide +kernel
theorem dL_law_740 : decode cL_law 740 = .ok (.invokestatic 64, 3) := by decide +kernel
theorem dL_law_743 : decode cL_law 743 = .ok (.ifCond .ne 9, 3) := by decide +kernel
theorem dL_law_746 : decode cL_law 746 = .ok (.sipush 300, 3) := by decide +kernel
theorem dL_law_749 : decode cL_law 749 = .ok (.goto 5, 3) := by decide +kernel
theorem dL_law_752 : decode cL_law 752 = .ok (.bipush 12, 2) := by decide +kernel
theorem dL_law_754 : decode cL_law 754 = .ok (.invokestatic 64, 3) := by decide +kernel
theorem dL_law_757 : decode cL_law 757 = .ok (.iadd, 1) := by decide +kernel
theorem dL_law_758 : decode cL_law 758 = .ok (.istore 14, 2) := by decide +kernel
theorem dL_law_760 : decode cL_law 760 = .ok (.aload_n 2, 1) := by decide +kernel
theorem dL_law_761 : decode cL_law 761 = .ok (.iconst 0, 1) := by decide +kernel
theorem dL_law_762 : decode cL_law 762 = .ok (.dup2, 1) := by decide +kernel
theorem dL_law_763 : decode cL_law 763 = .ok (.iaload, 1) := by decide +kernel
theorem dL_law_764 : decode cL_law 764 = .ok (.iload 14, 2) := by decide +kernel
theorem dL_law_766 : decode cL_law 766 = .ok (.iadd, 1) := by decide +kernel
theorem dL_law_767 : decode cL_law 767 = .ok (.iastore, 1) := by decide +kernel
theorem dL_law_768 : decode cL_law 768 = .ok (.aload_n 1, 1) := by decide +kernel
theorem dL_law_769 : decode cL_law 769 = .ok (.iload 14, 2) := by decide +kernel
theorem dL_law_771 : decode cL_law 771 = .ok (.invokevirtual 119, 3) := by decide +kernel
theorem dL_law_774 : decode cL_law 774 = .ok (.aload 7, 2) := by decide +kernel
theorem dL_law_776 : decode cL_law 776 = .ok (.aload 5, 2) := by decide +kernel
theorem dL_law_778 : decode cL_law 778 = .ok (.aload_n 2, 1) := by decide +kernel
theorem dL_law_779 : decode cL_law 779 = .ok (.invokestatic 112, 3) := by decide +kernel
theorem dL_law_782 : decode cL_law 782 = .ok (.if_icmp .ne 7, 3) := by decide +kernel
theorem dL_law_785 : decode cL_law 785 = .ok (.iconst 1, 1) := by decide +kernel
theorem dL_law_786 : decode cL_law 786 = .ok (.goto 4, 3) := by decide +kernel
theorem dL_law_789 : decode cL_law 789 = .ok (.iconst 0, 1) := by decide +kernel
theorem dL_law_790 : decode cL_law 790 = .ok (.istore 13, 2) := by decide +kernel
theorem dL_law_792 : decode cL_law 792 = .ok (.iload 13, 2) := by decide +kernel
theorem dL_law_794 : decode cL_law 794 = .ok (.ifCond .eq 24, 3) := by decide +kernel
theorem dL_law_797 : decode cL_law 797 = .ok (.aload_n 1, 1) := by decide +kernel
theorem dL_law_798 : decode cL_law 798 = .ok (.aload_n 3, 1) := by decide +kernel
theorem dL_law_799 : decode cL_law 799 = .ok (.aload 4, 2) := by decide +kernel
theorem dL_law_801 : decode cL_law 801 = .ok (.aload 5, 2) := by decide +kernel
theorem dL_law_803 : decode cL_law 803 = .ok (.aload 6, 2) := by decide +kernel
theorem dL_law_805 : decode cL_law 805 = .ok (.aload 7, 2) := by decide +kernel
theorem dL_law_807 : decode cL_law 807 = .ok (.aload 8, 2) := by decide +kernel
theorem dL_law_809 : decode cL_law 809 = .ok (.aload 9, 2) := by decide +kernel
theorem dL_law_811 : decode cL_law 811 = .ok (.aload_n 2, 1) := by decide +kernel
theorem dL_law_812 : decode cL_law 812 = .ok (.invokestatic 122, 3) := by decide +kernel
theorem dL_law_815 : decode cL_law 815 = .ok (.ifCond .ne 5, 3) := by decide +kernel
theorem dL_law_818 : decode cL_law 818 = .ok (.iconst 0, 1) := by decide +kernel
theorem dL_law_819 : decode cL_law 819 = .ok (.ireturn, 1) := by decide +kernel
theorem dL_law_820 : decode cL_law 820 = .ok (.iinc 10 1, 3) := by decide +kernel
theorem dL_law_823 : decode cL_law 823 = .ok (.goto (-757), 3) := by decide +kernel
theorem dL_law_826 : decode cL_law 826 = .ok (.iconst 1, 1) := by decide +kernel
theorem dL_law_827 : decode cL_law 827 = .ok (.ireturn, 1) := by decide +kernel
abbrev vwCl : List vw_C := [(RX0, TX0, 3), (RX1, TX1, 4), (RX2, TX2, 2), (RX3, TX3, 6), (RX4, TX4, 7)]
end
section
/-! ===== base: booleans as ints, the pictures of the class and of the reference, short rows ===== -/
def bi (b : Bool) : Int32 := if b = true then 1 else 0
theorem bi_t : bi true = 1 := rfl
theorem bi_f : bi false = 0 := rfl
theorem bi_eq0 {b : Bool} (h : bi b = 0) : b = false := by
  cases b
  · rfl
  · exact absurd h (by decide)
theorem bi_ne0 {b : Bool} (h : ¬ bi b = 0) : b = true := by
  cases b
  · exact absurd rfl h
  · rfl
theorem bi_nar (b : Bool) : narrow .boolean (.int (bi b)) = .int (bi b) := by cases b <;> rfl
theorem bi_vnar (b : Bool) : vp_nar .boolean (bi b) = bi b := by cases b <;> rfl
theorem nd_t {P : Prop} [Decidable P] (h : (!decide P) = true) : ¬ P := by simpa using h
theorem nd_f {P : Prop} [Decidable P] (h : (!decide P) = false) : P := by simpa using h
abbrev tyl (cI cZ : ClassId) : List (ClassId × FieldType) := [(cI, .int), (cZ, .boolean)]
/-- the cells of a SignOnHouse: S the int rows, O the row 'over', V the numbers (minute, count, signing, endOfBefore) -/
def hW (cI cZ : ClassId) (X : Nat → Nat) (S : Nat → Nat → Int32) (O : Nat → Bool) (V : Nat → Int32) : va_W :=
  [(X 0, .inr (4, [.ref (X 1), .ref (X 2), .ref (X 3), .ref (X 4), .ref (X 5), .ref (X 6), .int (V 0)])),
   (X 1, .inr (1, [.ref (X 7), .ref (X 8), .ref (X 9), .ref (X 10)])),
   (X 2, .inr (3, [.ref (X 11), .ref (X 12), .ref (X 13), .ref (X 14), .ref (X 15), .int (V 1)])),
   (X 3, .inr (2, [.int (V 2), .int (V 3)])),
   (X 4, .inr (0, [.ref (X 16), .ref (X 17), .ref (X 18)])),
   (X 5, .inl (cI, 10, .inl (S 5))), (X 6, .inl (cI, 60, .inl (S 6))),
   (X 7, .inl (cI, 10, .inl (S 7))), (X 8, .inl (cI, 8, .inl (S 8))), (X 9, .inl (cI, 6, .inl (S 9))), (X 10, .inl (cI, 6, .inl (S 10))),
   (X 11, .inl (cI, 30, .inl (S 11))), (X 12, .inl (cI, 30, .inl (S 12))), (X 13, .inl (cI, 30, .inl (S 13))), (X 14, .inl (cI, 30, .inl (S 14))), (X 15, .inl (cZ, 30, .inl (fun j => bi (O j)))),
   (X 16, .inl (cI, 4, .inl (S 16))), (X 17, .inl (cI, 240, .inl (S 17))), (X 18, .inl (cI, 240, .inl (S 18)))]
/-- the cells of a SignOnHouseModel: T the int rows, P the row 'over', U the numbers (thrown, now, sessions, key, taken) -/
def mW (cI cZ : ClassId) (X : Nat → Nat) (S : Nat → Nat → Int32) (O : Nat → Bool) (V : Nat → Int32) : va_W :=
  [(X 0, .inr (5, [.int (V 0), .int (V 1), .ref (X 1), .ref (X 2), .ref (X 3), .ref (X 4), .ref (X 5), .int (V 2), .ref (X 6), .ref (X 7), .ref (X 8), .ref (X 9), .ref (X 10), .int (V 3), .int (V 4), .ref (X 11), .ref (X 12)])),
   (X 1, .inl (cI, 8, .inl (S 1))), (X 2, .inl (cI, 8, .inl (S 2))), (X 3, .inl (cI, 48, .inl (S 3))), (X 4, .inl (cI, 10, .inl (S 4))), (X 5, .inl (cI, 60, .inl (S 5))),
   (X 6, .inl (cI, 30, .inl (S 6))), (X 7, .inl (cI, 30, .inl (S 7))), (X 8, .inl (cI, 30, .inl (S 8))), (X 9, .inl (cI, 30, .inl (S 9))), (X 10, .inl (cZ, 30, .inl (fun j => bi (O j)))),
   (X 11, .inl (cI, 4, .inl (S 11))), (X 12, .inl (cI, 240, .inl (S 12)))]
/-- contracts: numbers alone; a world that is read; a world that is written -/
abbrev zP (av : List Value) : Array Value → State → Prop := fun v _ => v = av.toArray
abbrev zR (D : va_G) (tys : List (ClassId × FieldType)) (ws : va_W) (av : List Value) : Array Value → State → Prop := va_Pc av (fun U => va_P D vwCl ws U.heap ∧ va_K D vwCl tys U)
abbrev zW (D : va_G) (tys : List (ClassId × FieldType)) (ws : va_W) (sz : Nat) (av : List Value) : Array Value → State → Prop := va_Pc av (fun U => U.heap.size = sz ∧ va_P D vwCl ws U.heap ∧ va_K D vwCl tys U ∧ va_D (fun _ => True) ws)
abbrev zB (D : va_G) (tys : List (ClassId × FieldType)) (ws' : va_W) (A : Nat → Prop) (t : State) : Prop := va_P D vwCl ws' t.heap ∧ va_K D vwCl tys t ∧ va_D A ws'
abbrev zQi (D : va_G) (tys : List (ClassId × FieldType)) (ws' : va_W) (r : Int32) (A : Nat → Prop) : Array Value → State → Outcome → State → Prop := va_Qi (fun x (_ : Unit) => x = r) (fun _ t => zB D tys ws' A t) A
abbrev zQv (D : va_G) (tys : List (ClassId × FieldType)) (ws' : va_W) (A : Nat → Prop) : Array Value → State → Outcome → State → Prop := va_Qv (fun (_ : Unit) => True) (fun _ t => zB D tys ws' A t) A
theorem zP_pre {s : State} {H : Heap} {av : List Value} : PreS s H (zP av) av := ⟨fun _ _ _ _ q => q, fun _ _ _ => rfl⟩
theorem zR_blind {D : va_G} {tys : List (ClassId × FieldType)} {ws : va_W} {av : List Value} : FrameBlind (zR D tys ws av) := fun a U g mk q => ⟨q.1, q.2.1, va_K.moved (u := U) (U := U.calling g mk a) (Vm.Alike.refl U.vm) q.2.2⟩
theorem zW_blind {D : va_G} {tys : List (ClassId × FieldType)} {ws : va_W} {sz : Nat} {av : List Value} : FrameBlind (zW D tys ws sz av) := fun a U g mk q => ⟨q.1, q.2.1, q.2.2.1, va_K.moved (u := U) (U := U.calling g mk a) (Vm.Alike.refl U.vm) q.2.2.2.1, q.2.2.2.2⟩
theorem zR_preV {s : State} {H : Heap} {D : va_G} {tys : List (ClassId × FieldType)} {ws : va_W} {As : List Value} {a : Nat} (q0 ci : Nat) {q : vw_C} {fs : List Value} (hK : va_K D vwCl tys s) (hP : va_P D vwCl ws H) (hc : vwCl[ci]? = some q) (he : ws[q0]? = some (a, .inr (ci, fs))) : PreV s H q.1 a (zR D tys ws (.ref a :: As)) As :=
  ⟨zR_blind, va_recv hK hP hc he, fun U hU hW => ⟨rfl, by rw [hU]; exact hP, va_K.moved hW.alike hK⟩⟩
theorem zW_preV {s : State} {H : Heap} {D : va_G} {tys : List (ClassId × FieldType)} {ws : va_W} {A : Nat → Prop} {As : List Value} {a : Nat} (q0 ci : Nat) {q : vw_C} {fs : List Value} (hK : va_K D vwCl tys s) (hP : va_P D vwCl ws H) (hD : va_D A ws) (hc : vwCl[ci]? = some q) (he : ws[q0]? = some (a, .inr (ci, fs))) : PreV s H q.1 a (zW D tys ws H.size (.ref a :: As)) As :=
  ⟨zW_blind, va_recv hK hP hc he, fun U hU hW => ⟨rfl, by rw [hU], by rw [hU]; exact hP, va_K.moved hW.alike hK, hD.weaken (fun _ _ _ _ => trivial)⟩⟩
section ZR
variable {p : Program} {l : Launch} {e : Env} {R : Room} {s : State} {m : MethodId} {args : Array Value} {below : List Frame} {meth : Method} {c : Code} {H : Heap} {locs : List Loc} {cells slots : Nat} {Q : State → Prop} {cc : ByteArray} {pc : Nat} {ls : Array Slot} {rest st0 : List Value} {D : va_G} {cl : List vw_C} {ws ws' : va_W} {tys : List (ClassId × FieldType)} {A : Nat → Prop} {H0 : Heap} {a : Nat} {av : Array Value} {cA : ClassId} {n : Nat}
theorem z_top {x : Int32} (y : Int32) (h : x = y) (k : W p l e R s m args below meth c H locs cells slots Q (F0 m pc ls (.int y :: rest))) : W p l e R s m args below meth c H locs cells slots Q (F0 m pc ls (.int x :: rest)) := h ▸ k
theorem z_top2 {v x : Int32} (y : Int32) (h : x = y) (k : W p l e R s m args below meth c H locs cells slots Q (F0 m pc ls (.int v :: .int y :: rest))) : W p l e R s m args below meth c H locs cells slots Q (F0 m pc ls (.int v :: .int x :: rest)) := h ▸ k
theorem z_if_eq {b : Bool} {off : Int} {tgt : Nat} (hx : p.tables.exec = Jvm.exec) (hb : c.code = cc) (hdg : decode cc pc = .ok (.ifCond .eq off, 3)) (ht : (pc : Int) + off = (tgt : Int)) (kt : b = false → W p l e R s m args below meth c H locs cells slots Q (F0 m tgt ls rest)) (kf : b = true → W p l e R s m args below meth c H locs cells slots Q (F0 m (pc + 3) ls rest)) : W p l e R s m args below meth c H locs cells slots Q (F0 m pc ls (.int (bi b) :: rest)) :=
  lv_if_eq hx hb hdg ht (fun q => kt (bi_eq0 q)) (fun q => kf (bi_ne0 q))
theorem z_if_ne {b : Bool} {off : Int} {tgt : Nat} (hx : p.tables.exec = Jvm.exec) (hb : c.code = cc) (hdg : decode cc pc = .ok (.ifCond .ne off, 3)) (ht : (pc : Int) + off = (tgt : Int)) (kt : b = true → W p l e R s m args below meth c H locs cells slots Q (F0 m tgt ls rest)) (kf : b = false → W p l e R s m args below meth c H locs cells slots Q (F0 m (pc + 3) ls rest)) : W p l e R s m args below meth c H locs cells slots Q (F0 m pc ls (.int (bi b) :: rest)) :=
  lv_if_ne hx hb hdg ht (fun q => kt (bi_ne0 q)) (fun q => kf (bi_eq0 q))
theorem z_ge_t {x y : Int32} {off : Int} {tgt : Nat} (h : y ≤ x) (hx : p.tables.exec = Jvm.exec) (hb : c.code = cc) (hdg : decode cc pc = .ok (.if_icmp .ge off, 3)) (ht : (pc : Int) + off = (tgt : Int)) (kt : W p l e R s m args below meth c H locs cells slots Q (F0 m tgt ls rest)) : W p l e R s m args below meth c H locs cells slots Q (F0 m pc ls (.int y :: .int x :: rest)) :=
  lv_icmp_ge hx hb hdg ht (fun _ => kt) (fun q => absurd h q)
theorem z_ge_f {x y : Int32} {off : Int} {tgt : Nat} (h : ¬ y ≤ x) (hx : p.tables.exec = Jvm.exec) (hb : c.code = cc) (hdg : decode cc pc = .ok (.if_icmp .ge off, 3)) (ht : (pc : Int) + off = (tgt : Int)) (kf : W p l e R s m args below meth c H locs cells slots Q (F0 m (pc + 3) ls rest)) : W p l e R s m args below meth c H locs cells slots Q (F0 m pc ls (.int y :: .int x :: rest)) :=
  lv_icmp_ge hx hb hdg ht (fun q => absurd q h) (fun _ => kf)
theorem z_iald {j : Nat} {f : Nat → Int32} (hx : p.tables.exec = Jvm.exec) (hb : c.code = cc) (hK : va_K D cl tys s) (hP : va_P D cl ws H) (q0 t0 : Nat) (ha : ws[q0]? = some (a, .inl (cA, n, .inl f))) (ht : tys[t0]? = some (cA, .int)) (hj : j < n) (hn : n < 2 ^ 31) (hdg : decode cc pc = .ok (.iaload, 1)) (kk : W p l e R s m args below meth c H locs cells slots Q (F0 m (pc + 1) ls (.int (f j) :: rest))) : W p l e R s m args below meth c H locs cells slots Q (F0 m pc ls (.int (nI j) :: .ref a :: rest)) :=
  va_iald hx hb hK hP q0 t0 ha ht (vp_in_nI hj hn) hdg (by rw [nI_clamp (by omega)]; exact kk)
theorem z_zald {j : Nat} {g : Nat → Bool} (hx : p.tables.exec = Jvm.exec) (hb : c.code = cc) (hK : va_K D cl tys s) (hP : va_P D cl ws H) (q0 t0 : Nat) (ha : ws[q0]? = some (a, .inl (cA, n, .inl (fun i => bi (g i))))) (ht : tys[t0]? = some (cA, .boolean)) (hj : j < n) (hn : n < 2 ^ 31) (hdg : decode cc pc = .ok (.baload, 1)) (kk : W p l e R s m args below meth c H locs cells slots Q (F0 m (pc + 1) ls (.int (bi (g j)) :: rest))) : W p l e R s m args below meth c H locs cells slots Q (F0 m pc ls (.int (nI j) :: .ref a :: rest)) :=
  va_zald hx hb hK hP q0 t0 ha ht (vp_in_nI hj hn) hdg (by rw [nI_clamp (by omega)]; exact kk)
theorem z_iast {j : Nat} {x : Int32} {f : Nat → Int32} (hx : p.tables.exec = Jvm.exec) (hb : c.code = cc) (hK : va_K D cl tys s) (hP : va_P D cl ws H) (hD : va_D A ws) (hS : va_S A H0 H locs) (q0 t0 : Nat) (ha : ws[q0]? = some (a, .inl (cA, n, .inl f))) (ht : tys[t0]? = some (cA, .int)) (hj : j < n) (hn : n < 2 ^ 31) (hdg : decode cc pc = .ok (.iastore, 1)) (kk : ∀ (H1 : Heap) (locs1 : List Loc), va_P D cl (ws.set q0 (a, .inl (cA, n, .inl (upd f j x)))) H1 → va_D A (ws.set q0 (a, .inl (cA, n, .inl (upd f j x)))) → va_S A H0 H1 locs1 → W p l e R s m args below meth c H1 locs1 cells slots Q (F0 m (pc + 1) ls rest)) : W p l e R s m args below meth c H locs cells slots Q (F0 m pc ls (.int x :: .int (nI j) :: .ref a :: rest)) :=
  va_iast hx hb hK hP hD hS q0 t0 ha ht (vp_in_nI hj hn) hdg (fun H1 locs1 h1 h2 h3 => kk H1 locs1 (by rw [nI_clamp (by omega)] at h1; exact h1) (by rw [nI_clamp (by omega)] at h2; exact h2) h3)
theorem z_updb (g : Nat → Bool) (j : Nat) (b : Bool) : upd (fun i => bi (g i)) j (bi b) = fun i => bi (va_up g j b i) := by
  funext i
  by_cases h : i = j <;> simp [upd, va_up, h]
theorem z_zast {j : Nat} {b : Bool} {g : Nat → Bool} (hx : p.tables.exec = Jvm.exec) (hb : c.code = cc) (hK : va_K D cl tys s) (hP : va_P D cl ws H) (hD : va_D A ws) (hS : va_S A H0 H locs) (q0 t0 : Nat) (ha : ws[q0]? = some (a, .inl (cA, n, .inl (fun i => bi (g i))))) (ht : tys[t0]? = some (cA, .boolean)) (hj : j < n) (hn : n < 2 ^ 31) (hdg : decode cc pc = .ok (.bastore, 1)) (kk : ∀ (H1 : Heap) (locs1 : List Loc), va_P D cl (ws.set q0 (a, .inl (cA, n, .inl (fun i => bi (va_up g j b i))))) H1 → va_D A (ws.set q0 (a, .inl (cA, n, .inl (fun i => bi (va_up g j b i))))) → va_S A H0 H1 locs1 → W p l e R s m args below meth c H1 locs1 cells slots Q (F0 m (pc + 1) ls rest)) : W p l e R s m args below meth c H locs cells slots Q (F0 m pc ls (.int (bi b) :: .int (nI j) :: .ref a :: rest)) :=
  va_zast hx hb hK hP hD hS q0 t0 ha ht (vp_in_nI hj hn) hdg (fun H1 locs1 h1 h2 h3 => kk H1 locs1 (by rw [nI_clamp (by omega), bi_vnar, z_updb] at h1; exact h1) (by rw [nI_clamp (by omega), bi_vnar, z_updb] at h2; exact h2) h3)
theorem z_callR {r : Int32} (hr : CallRun p l e R s m args below meth c H locs cells slots 0 0 (F0 m pc ls st0) rest (QcRead r av) (fun _ => False)) (kk : W p l e R s m args below meth c H locs cells slots Q (F0 m (pc + 3) ls (.int r :: rest))) : W p l e R s m args below meth c H locs cells slots Q (F0 m pc ls st0) := W.callR hr kk
theorem z_callWi {r : Int32} {mc ms : Nat} (hr : va_Run p l e R s m args below meth c H locs cells slots mc ms (F0 m pc ls st0) rest (zQi D tys ws' r (va_A ws H.size) av) (va_A ws H.size)) (hS : va_S A H0 H locs) (hF : ∀ q, va_A ws H.size q → A q) (kk : ∀ (H1 : Heap) (locs1 : List Loc), va_P D vwCl ws' H1 → va_D A ws' → va_S A H0 H1 locs1 → W p l e R s m args below meth c H1 locs1 (cells + mc) (slots + ms) Q (F0 m (pc + 3) ls (.int r :: rest))) : W p l e R s m args below meth c H locs cells slots Q (F0 m pc ls st0) :=
  va_calli hr hS (fun q _ h => hF q h) hF (fun r' u t H1 locs1 ht _ hw hB _ _ hS1 => by
    subst hw
    obtain ⟨hP1, -, hD1⟩ := hB
    rw [ht] at hP1
    exact kk H1 locs1 hP1 (hD1.weaken (fun _ q _ h => hF q.1 h)) hS1)
theorem z_callWv {mc ms : Nat} (hr : va_Run p l e R s m args below meth c H locs cells slots mc ms (F0 m pc ls st0) rest (zQv D tys ws' (va_A ws H.size) av) (va_A ws H.size)) (hS : va_S A H0 H locs) (hF : ∀ q, va_A ws H.size q → A q) (kk : ∀ (H1 : Heap) (locs1 : List Loc), va_P D vwCl ws' H1 → va_D A ws' → va_S A H0 H1 locs1 → W p l e R s m args below meth c H1 locs1 (cells + mc) (slots + ms) Q (F0 m (pc + 3) ls rest)) : W p l e R s m args below meth c H locs cells slots Q (F0 m pc ls st0) :=
  va_callv hr hS (fun q _ h => hF q h) hF (fun u t H1 locs1 ht _ hw hB _ _ hS1 => by
    obtain ⟨hP1, -, hD1⟩ := hB
    rw [ht] at hP1
    exact kk H1 locs1 hP1 (hD1.weaken (fun _ q _ h => hF q.1 h)) hS1)
theorem z_free (hD : va_D A ws) (hS : va_S A H0 H locs) (hA : ∀ q, H0.size ≤ q → A q) : ∀ q, va_A ws H.size q → A q := by
  intro q h
  rcases h with ⟨k, e, h⟩ | h
  · exact hD.2 k _ h
  · exact hA q (Nat.le_trans hS.1 h)
theorem z_ret {v r : Int32} (hx : p.tables.exec = Jvm.exec) (hb : c.code = cc) (hr : meth.sig.returnType = some .int) (hlocks : meth.locks = false) (h : v = r) (hdg : decode cc pc = .ok (.ireturn, 1)) : W p l e R s m args below meth c s.heap [] 0 0 (MQ below (QcRead r) args s 0 0 (fun _ => False)) (F0 m pc ls [.int v]) := by
  subst h
  exact W.iret hx hb hr (fun t ht _ => ⟨rfl, ht⟩) (fun _ hq => nomatch hq) hdg hlocks
theorem z_zret {v : Int32} {b : Bool} (hx : p.tables.exec = Jvm.exec) (hb : c.code = cc) (hr : meth.sig.returnType = some .boolean) (hlocks : meth.locks = false) (h : v = bi b) (hdg : decode cc pc = .ok (.ireturn, 1)) : W p l e R s m args below meth c s.heap [] 0 0 (MQ below (QcRead (bi b)) args s 0 0 (fun _ => False)) (F0 m pc ls [.int v]) := by
  subst h
  exact W.zret hx hb hr (bi_nar b) (fun t ht _ => ⟨rfl, ht⟩) (fun _ hq => nomatch hq) hdg hlocks
theorem z_wret {v r : Int32} (hx : p.tables.exec = Jvm.exec) (hb : c.code = cc) (hr : meth.sig.returnType = some .int) (hlocks : meth.locks = false) (hP : va_P D vwCl ws' H) (hK : va_K D vwCl tys s) (hD : va_D A ws') (hS : va_S A s.heap H locs) (h : v = r) (hdg : decode cc pc = .ok (.ireturn, 1)) : W p l e R s m args below meth c H locs cells slots (MQ below (zQi D tys ws' r A) args s cells slots A) (F0 m pc ls [.int v]) := by
  subst h
  exact W.iret hx hb hr (fun t ht hW => ⟨⟨_, (), rfl, rfl, by rw [ht]; exact hP, va_K.moved hW.alike hK, hD⟩, hS.F ht⟩) hS.2.2 hdg hlocks
theorem z_wzret {v : Int32} {b : Bool} (hx : p.tables.exec = Jvm.exec) (hb : c.code = cc) (hr : meth.sig.returnType = some .boolean) (hlocks : meth.locks = false) (hP : va_P D vwCl ws' H) (hK : va_K D vwCl tys s) (hD : va_D A ws') (hS : va_S A s.heap H locs) (h : v = bi b) (hdg : decode cc pc = .ok (.ireturn, 1)) : W p l e R s m args below meth c H locs cells slots (MQ below (zQi D tys ws' (bi b) A) args s cells slots A) (F0 m pc ls [.int v]) := by
  subst h
  exact W.zret hx hb hr (bi_nar b) (fun t ht hW => ⟨⟨_, (), rfl, rfl, by rw [ht]; exact hP, va_K.moved hW.alike hK, hD⟩, hS.F ht⟩) hS.2.2 hdg hlocks
theorem z_wvret (hx : p.tables.exec = Jvm.exec) (hb : c.code = cc) (hr : meth.sig.returnType = none) (hlocks : meth.locks = false) (hP : va_P D vwCl ws' H) (hK : va_K D vwCl tys s) (hD : va_D A ws') (hS : va_S A s.heap H locs) (hdg : decode cc pc = .ok (.return_, 1)) : W p l e R s m args below meth c H locs cells slots (MQ below (zQv D tys ws' A) args s cells slots A) (F0 m pc ls []) :=
  W.vret hx hb hr (fun t ht hW => ⟨⟨(), rfl, trivial, by rw [ht]; exact hP, va_K.moved hW.alike hK, hD⟩, hS.F ht⟩) hS.2.2 hdg hlocks
/-- a loop that only reads: k from 0 to N, what the locals hold at its head -/
theorem z_loop {nL N : Nat} {Lc : Nat → List (Nat × Value)} {ls0 : Array Slot} (h0 : lv_has ls0 nL (Lc 0))
    (hexit : ∀ ls : Array Slot, lv_has ls nL (Lc N) → W p l e R s m args below meth c H locs cells slots Q (F0 m pc ls []))
    (hstep : ∀ (k : Nat) (ls : Array Slot), k < N → lv_has ls nL (Lc k) → (∀ ls' : Array Slot, lv_has ls' nL (Lc (k + 1)) → W p l e R s m args below meth c H locs cells slots Q (F0 m pc ls' [])) → W p l e R s m args below meth c H locs cells slots Q (F0 m pc ls [])) :
    W p l e R s m args below meth c H locs cells slots Q (F0 m pc ls0 []) := by
  have g : ∀ (n k : Nat), k + n = N → ∀ ls : Array Slot, lv_has ls nL (Lc k) → W p l e R s m args below meth c H locs cells slots Q (F0 m pc ls []) := by
    intro n
    induction n with
    | zero => intro k hk ls hl; obtain rfl : k = N := by omega
              exact hexit ls hl
    | succ n ih => intro k hk ls hl; exact hstep k ls (by omega) hl (fun ls' hl' => ih (k + 1) (by omega) ls' hl')
  exact g N 0 (by omega) ls0 h0
/-- a loop that writes: Wd the world at its head -/
theorem z_loopW {nL N : Nat} {Lc : Nat → List (Nat × Value)} {Wd : Nat → va_W} {ls0 : Array Slot} (h0 : lv_has ls0 nL (Lc 0)) (hP : va_P D cl (Wd 0) H) (hD : va_D A (Wd 0)) (hS : va_S A H0 H locs)
    (hexit : ∀ (H : Heap) (locs : List Loc) (ls : Array Slot), va_P D cl (Wd N) H → va_D A (Wd N) → va_S A H0 H locs → lv_has ls nL (Lc N) → W p l e R s m args below meth c H locs cells slots Q (F0 m pc ls []))
    (hstep : ∀ (k : Nat) (H : Heap) (locs : List Loc) (ls : Array Slot), k < N → va_P D cl (Wd k) H → va_D A (Wd k) → va_S A H0 H locs → lv_has ls nL (Lc k) → (∀ (H : Heap) (locs : List Loc) (ls' : Array Slot), va_P D cl (Wd (k + 1)) H → va_D A (Wd (k + 1)) → va_S A H0 H locs → lv_has ls' nL (Lc (k + 1)) → W p l e R s m args below meth c H locs cells slots Q (F0 m pc ls' [])) → W p l e R s m args below meth c H locs cells slots Q (F0 m pc ls [])) :
    W p l e R s m args below meth c H locs cells slots Q (F0 m pc ls0 []) := by
  have g : ∀ (n k : Nat), k + n = N → ∀ (H : Heap) (locs : List Loc) (ls : Array Slot), va_P D cl (Wd k) H → va_D A (Wd k) → va_S A H0 H locs → lv_has ls nL (Lc k) → W p l e R s m args below meth c H locs cells slots Q (F0 m pc ls []) := by
    intro n
    induction n with
    | zero => intro k hk H locs ls h1 h2 h3 hl; obtain rfl : k = N := by omega
              exact hexit H locs ls h1 h2 h3 hl
    | succ n ih => intro k hk H locs ls h1 h2 h3 hl; exact hstep k H locs ls (by omega) h1 h2 h3 hl (fun H locs ls' h1 h2 h3 hl' => ih (k + 1) (by omega) H locs ls' h1 h2 h3 hl')
  exact g N 0 (by omega) H locs ls0 hP hD hS h0
end ZR
section ZSEL
variable {p : Program} {l : Launch} {e : Env} {R : Room} {s : State} {m : MethodId} {args : Array Value} {below : List Frame} {meth : Method} {c : Code} {H : Heap} {locs : List Loc} {cells slots : Nat} {Q : State → Prop} {cc : ByteArray} {pc : Nat} {ls : Array Slot} {rest : List Value}
theorem z_sel_icmp_eq {x y : Int32} (hx : p.tables.exec = Jvm.exec) (hb : c.code = cc) (d1 : decode cc pc = .ok (.if_icmp .eq 7, 3)) (d2 : decode cc (pc + 3) = .ok (.iconst 1, 1)) (d3 : decode cc (pc + 4) = .ok (.goto 4, 3)) (d4 : decode cc (pc + 7) = .ok (.iconst 0, 1)) (k : W p l e R s m args below meth c H locs cells slots Q (F0 m (pc + 8) ls (.int (bi (!decide (x = y))) :: rest))) : W p l e R s m args below meth c H locs cells slots Q (F0 m pc ls (.int y :: .int x :: rest)) :=
  lv_icmp_eq (tgt := pc + 7) hx hb d1 (by omega) (fun q => (lv_iconst (v := 0) hx hb d4 rfl (by rw [decide_eq_true q] at k; exact k))) (fun q => lv_iconst (v := 1) hx hb d2 rfl (lv_goto (tgt := pc + 8) hx hb d3 (by omega) (by rw [decide_eq_false q] at k; exact k)))
theorem z_sel_icmp_ne {x y : Int32} (hx : p.tables.exec = Jvm.exec) (hb : c.code = cc) (d1 : decode cc pc = .ok (.if_icmp .ne 7, 3)) (d2 : decode cc (pc + 3) = .ok (.iconst 1, 1)) (d3 : decode cc (pc + 4) = .ok (.goto 4, 3)) (d4 : decode cc (pc + 7) = .ok (.iconst 0, 1)) (k : W p l e R s m args below meth c H locs cells slots Q (F0 m (pc + 8) ls (.int (bi (decide (x = y))) :: rest))) : W p l e R s m args below meth c H locs cells slots Q (F0 m pc ls (.int y :: .int x :: rest)) :=
  lv_icmp_ne (tgt := pc + 7) hx hb d1 (by omega) (fun q => (lv_iconst (v := 0) hx hb d4 rfl (by rw [decide_eq_false q] at k; exact k))) (fun q => lv_iconst (v := 1) hx hb d2 rfl (lv_goto (tgt := pc + 8) hx hb d3 (by omega) (by rw [decide_eq_true q] at k; exact k)))
theorem z_sel_icmp_lt {x y : Int32} (hx : p.tables.exec = Jvm.exec) (hb : c.code = cc) (d1 : decode cc pc = .ok (.if_icmp .lt 7, 3)) (d2 : decode cc (pc + 3) = .ok (.iconst 1, 1)) (d3 : decode cc (pc + 4) = .ok (.goto 4, 3)) (d4 : decode cc (pc + 7) = .ok (.iconst 0, 1)) (k : W p l e R s m args below meth c H locs cells slots Q (F0 m (pc + 8) ls (.int (bi (!decide (x < y))) :: rest))) : W p l e R s m args below meth c H locs cells slots Q (F0 m pc ls (.int y :: .int x :: rest)) :=
  lv_icmp_lt (tgt := pc + 7) hx hb d1 (by omega) (fun q => (lv_iconst (v := 0) hx hb d4 rfl (by rw [decide_eq_true q] at k; exact k))) (fun q => lv_iconst (v := 1) hx hb d2 rfl (lv_goto (tgt := pc + 8) hx hb d3 (by omega) (by rw [decide_eq_false q] at k; exact k)))
theorem z_sel_icmp_ge {x y : Int32} (hx : p.tables.exec = Jvm.exec) (hb : c.code = cc) (d1 : decode cc pc = .ok (.if_icmp .ge 7, 3)) (d2 : decode cc (pc + 3) = .ok (.iconst 1, 1)) (d3 : decode cc (pc + 4) = .ok (.goto 4, 3)) (d4 : decode cc (pc + 7) = .ok (.iconst 0, 1)) (k : W p l e R s m args below meth c H locs cells slots Q (F0 m (pc + 8) ls (.int (bi (!decide (y ≤ x))) :: rest))) : W p l e R s m args below meth c H locs cells slots Q (F0 m pc ls (.int y :: .int x :: rest)) :=
  lv_icmp_ge (tgt := pc + 7) hx hb d1 (by omega) (fun q => (lv_iconst (v := 0) hx hb d4 rfl (by rw [decide_eq_true q] at k; exact k))) (fun q => lv_iconst (v := 1) hx hb d2 rfl (lv_goto (tgt := pc + 8) hx hb d3 (by omega) (by rw [decide_eq_false q] at k; exact k)))
theorem z_sel_icmp_gt {x y : Int32} (hx : p.tables.exec = Jvm.exec) (hb : c.code = cc) (d1 : decode cc pc = .ok (.if_icmp .gt 7, 3)) (d2 : decode cc (pc + 3) = .ok (.iconst 1, 1)) (d3 : decode cc (pc + 4) = .ok (.goto 4, 3)) (d4 : decode cc (pc + 7) = .ok (.iconst 0, 1)) (k : W p l e R s m args below meth c H locs cells slots Q (F0 m (pc + 8) ls (.int (bi (!decide (y < x))) :: rest))) : W p l e R s m args below meth c H locs cells slots Q (F0 m pc ls (.int y :: .int x :: rest)) :=
  lv_icmp_gt (tgt := pc + 7) hx hb d1 (by omega) (fun q => (lv_iconst (v := 0) hx hb d4 rfl (by rw [decide_eq_true q] at k; exact k))) (fun q => lv_iconst (v := 1) hx hb d2 rfl (lv_goto (tgt := pc + 8) hx hb d3 (by omega) (by rw [decide_eq_false q] at k; exact k)))
theorem z_sel_icmp_le {x y : Int32} (hx : p.tables.exec = Jvm.exec) (hb : c.code = cc) (d1 : decode cc pc = .ok (.if_icmp .le 7, 3)) (d2 : decode cc (pc + 3) = .ok (.iconst 1, 1)) (d3 : decode cc (pc + 4) = .ok (.goto 4, 3)) (d4 : decode cc (pc + 7) = .ok (.iconst 0, 1)) (k : W p l e R s m args below meth c H locs cells slots Q (F0 m (pc + 8) ls (.int (bi (!decide (x ≤ y))) :: rest))) : W p l e R s m args below meth c H locs cells slots Q (F0 m pc ls (.int y :: .int x :: rest)) :=
  lv_icmp_le (tgt := pc + 7) hx hb d1 (by omega) (fun q => (lv_iconst (v := 0) hx hb d4 rfl (by rw [decide_eq_true q] at k; exact k))) (fun q => lv_iconst (v := 1) hx hb d2 rfl (lv_goto (tgt := pc + 8) hx hb d3 (by omega) (by rw [decide_eq_false q] at k; exact k)))
theorem z_sel_if_eq {x : Int32} (hx : p.tables.exec = Jvm.exec) (hb : c.code = cc) (d1 : decode cc pc = .ok (.ifCond .eq 7, 3)) (d2 : decode cc (pc + 3) = .ok (.iconst 1, 1)) (d3 : decode cc (pc + 4) = .ok (.goto 4, 3)) (d4 : decode cc (pc + 7) = .ok (.iconst 0, 1)) (k : W p l e R s m args below meth c H locs cells slots Q (F0 m (pc + 8) ls (.int (bi (!decide (x = 0))) :: rest))) : W p l e R s m args below meth c H locs cells slots Q (F0 m pc ls (.int x :: rest)) :=
  lv_if_eq (tgt := pc + 7) hx hb d1 (by omega) (fun q => (lv_iconst (v := 0) hx hb d4 rfl (by rw [decide_eq_true q] at k; exact k))) (fun q => lv_iconst (v := 1) hx hb d2 rfl (lv_goto (tgt := pc + 8) hx hb d3 (by omega) (by rw [decide_eq_false q] at k; exact k)))
theorem z_sel_if_ne {x : Int32} (hx : p.tables.exec = Jvm.exec) (hb : c.code = cc) (d1 : decode cc pc = .ok (.ifCond .ne 7, 3)) (d2 : decode cc (pc + 3) = .ok (.iconst 1, 1)) (d3 : decode cc (pc + 4) = .ok (.goto 4, 3)) (d4 : decode cc (pc + 7) = .ok (.iconst 0, 1)) (k : W p l e R s m args below meth c H locs cells slots Q (F0 m (pc + 8) ls (.int (bi (decide (x = 0))) :: rest))) : W p l e R s m args below meth c H locs cells slots Q (F0 m pc ls (.int x :: rest)) :=
  lv_if_ne (tgt := pc + 7) hx hb d1 (by omega) (fun q => (lv_iconst (v := 0) hx hb d4 rfl (by rw [decide_eq_false q] at k; exact k))) (fun q => lv_iconst (v := 1) hx hb d2 rfl (lv_goto (tgt := pc + 8) hx hb d3 (by omega) (by rw [decide_eq_true q] at k; exact k)))
theorem z_sel_if_lt {x : Int32} (hx : p.tables.exec = Jvm.exec) (hb : c.code = cc) (d1 : decode cc pc = .ok (.ifCond .lt 7, 3)) (d2 : decode cc (pc + 3) = .ok (.iconst 1, 1)) (d3 : decode cc (pc + 4) = .ok (.goto 4, 3)) (d4 : decode cc (pc + 7) = .ok (.iconst 0, 1)) (k : W p l e R s m args below meth c H locs cells slots Q (F0 m (pc + 8) ls (.int (bi (!decide (x < 0))) :: rest))) : W p l e R s m args below meth c H locs cells slots Q (F0 m pc ls (.int x :: rest)) :=
  lv_if_lt (tgt := pc + 7) hx hb d1 (by omega) (fun q => (lv_iconst (v := 0) hx hb d4 rfl (by rw [decide_eq_true q] at k; exact k))) (fun q => lv_iconst (v := 1) hx hb d2 rfl (lv_goto (tgt := pc + 8) hx hb d3 (by omega) (by rw [decide_eq_false q] at k; exact k)))
theorem z_sel_if_ge {x : Int32} (hx : p.tables.exec = Jvm.exec) (hb : c.code = cc) (d1 : decode cc pc = .ok (.ifCond .ge 7, 3)) (d2 : decode cc (pc + 3) = .ok (.iconst 1, 1)) (d3 : decode cc (pc + 4) = .ok (.goto 4, 3)) (d4 : decode cc (pc + 7) = .ok (.iconst 0, 1)) (k : W p l e R s m args below meth c H locs cells slots Q (F0 m (pc + 8) ls (.int (bi (!decide (0 ≤ x))) :: rest))) : W p l e R s m args below meth c H locs cells slots Q (F0 m pc ls (.int x :: rest)) :=
  lv_if_ge (tgt := pc + 7) hx hb d1 (by omega) (fun q => (lv_iconst (v := 0) hx hb d4 rfl (by rw [decide_eq_true q] at k; exact k))) (fun q => lv_iconst (v := 1) hx hb d2 rfl (lv_goto (tgt := pc + 8) hx hb d3 (by omega) (by rw [decide_eq_false q] at k; exact k)))
theorem z_sel_if_gt {x : Int32} (hx : p.tables.exec = Jvm.exec) (hb : c.code = cc) (d1 : decode cc pc = .ok (.ifCond .gt 7, 3)) (d2 : decode cc (pc + 3) = .ok (.iconst 1, 1)) (d3 : decode cc (pc + 4) = .ok (.goto 4, 3)) (d4 : decode cc (pc + 7) = .ok (.iconst 0, 1)) (k : W p l e R s m args below meth c H locs cells slots Q (F0 m (pc + 8) ls (.int (bi (!decide (0 < x))) :: rest))) : W p l e R s m args below meth c H locs cells slots Q (F0 m pc ls (.int x :: rest)) :=
  lv_if_gt (tgt := pc + 7) hx hb d1 (by omega) (fun q => (lv_iconst (v := 0) hx hb d4 rfl (by rw [decide_eq_true q] at k; exact k))) (fun q => lv_iconst (v := 1) hx hb d2 rfl (lv_goto (tgt := pc + 8) hx hb d3 (by omega) (by rw [decide_eq_false q] at k; exact k)))
theorem z_sel_if_le {x : Int32} (hx : p.tables.exec = Jvm.exec) (hb : c.code = cc) (d1 : decode cc pc = .ok (.ifCond .le 7, 3)) (d2 : decode cc (pc + 3) = .ok (.iconst 1, 1)) (d3 : decode cc (pc + 4) = .ok (.goto 4, 3)) (d4 : decode cc (pc + 7) = .ok (.iconst 0, 1)) (k : W p l e R s m args below meth c H locs cells slots Q (F0 m (pc + 8) ls (.int (bi (!decide (x ≤ 0))) :: rest))) : W p l e R s m args below meth c H locs cells slots Q (F0 m pc ls (.int x :: rest)) :=
  lv_if_le (tgt := pc + 7) hx hb d1 (by omega) (fun q => (lv_iconst (v := 0) hx hb d4 rfl (by rw [decide_eq_true q] at k; exact k))) (fun q => lv_iconst (v := 1) hx hb d2 rfl (lv_goto (tgt := pc + 8) hx hb d3 (by omega) (by rw [decide_eq_false q] at k; exact k)))
end ZSEL
end
section
/-! ===== what the class's methods work out, in numbers ===== -/
def hasB (x g : Int32) : Bool := decide (x >>> (g &&& 31) &&& 1 = 1)
def c_changed (x g : Int32) (b : Bool) : Int32 := if b = true then x ||| (1 <<< (g &&& 31)) else x &&& ((1 <<< (g &&& 31)) ^^^ (-1))
def c_oneA (S : Nat → Nat → Int32) (x : Int32) : Nat → Int32
  | 0 => x
  | k + 1 => if hasB x (nI k) = true then c_oneA S x k ||| S 8 k else c_oneA S x k
def c_allA (S : Nat → Nat → Int32) (x : Int32) : Nat → Int32
  | 0 => x
  | 1 => x
  | k + 2 => c_oneA S (c_allA S x (k + 1)) 8
def c_any (S : Nat → Nat → Int32) (w pi ri : Nat) : Bool := !decide (c_allA S (S 7 pi) 8 &&& S w ri = 0)
def c_roleOf (S : Nat → Nat → Int32) (gi ri : Nat) : Int32 := if hasB (S 9 ri) (nI gi) = true then 1 else if hasB (S 10 ri) (nI gi) = true then 2 else 0
def c_takes (V : Nat → Int32) (k t : Int32) : Bool := decide (k = V 2) || (decide (k = V 2 - 1) && !decide (V 3 ≤ t))
def c_has (V : Nat → Int32) (x : Int32) : Bool := !decide (x < 0) && !decide (V 1 ≤ x)
def c_isDue (S : Nat → Nat → Int32) (V : Nat → Int32) (si : Nat) (t r : Int32) : Bool := decide (30 ≤ t - S 14 si) || (decide (240 - 60 * r ≤ t - S 13 si) || !c_takes V (S 12 si) t)
def c_eaO (S : Nat → Nat → Int32) (O : Nat → Bool) (x : Int32) : Nat → (Nat → Bool)
  | 0 => O
  | k + 1 => if c_eaO S O x k k = true then c_eaO S O x k else if S 11 k = x then va_up (c_eaO S O x k) k true else c_eaO S O x k
def c_eaN (S : Nat → Nat → Int32) (O : Nat → Bool) (x : Int32) : Nat → Int32
  | 0 => 0
  | k + 1 => if c_eaO S O x k k = true then c_eaN S O x k else if S 11 k = x then c_eaN S O x k + 1 else c_eaN S O x k
def c_edO (S : Nat → Nat → Int32) (O : Nat → Bool) (V : Nat → Int32) (t : Int32) : Nat → (Nat → Bool)
  | 0 => O
  | k + 1 => if c_edO S O V t k k = true then c_edO S O V t k else if c_isDue S V k t (S 5 (S 11 k).toNatClampNeg) = true then va_up (c_edO S O V t k) k true else c_edO S O V t k
def c_edN (S : Nat → Nat → Int32) (O : Nat → Bool) (V : Nat → Int32) (t : Int32) : Nat → Int32
  | 0 => 0
  | k + 1 => if c_edO S O V t k k = true then c_edN S O V t k else if c_isDue S V k t (S 5 (S 11 k).toNatClampNeg) = true then c_edN S O V t k + 1 else c_edN S O V t k
def c_keep (S : Nat → Nat → Int32) (ai pi ri : Nat) (x t : Int32) : Nat → Nat → Int32 := if S 16 ai = 0 then S else va_up (va_up S 17 (upd (S 17) (ai * 60 + pi * 6 + ri) x)) 18 (upd (S 18) (ai * 60 + pi * 6 + ri) t)
def c_daS (S : Nat → Nat → Int32) (ai pi : Nat) : Nat → (Nat → Nat → Int32)
  | 0 => S
  | k + 1 => if c_daS S ai pi k 17 (ai * 60 + pi * 6 + k) = -1 then c_daS S ai pi k else va_up (c_daS S ai pi k) 17 (upd (c_daS S ai pi k 17) (ai * 60 + pi * 6 + k) (-1))
def c_daN (S : Nat → Nat → Int32) (ai pi : Nat) : Nat → Int32
  | 0 => 0
  | k + 1 => if c_daS S ai pi k 17 (ai * 60 + pi * 6 + k) = -1 then c_daN S ai pi k else c_daN S ai pi k + 1
def c_ddS (S : Nat → Nat → Int32) (ai : Nat) (t : Int32) : Nat → (Nat → Nat → Int32)
  | 0 => S
  | k + 1 => if t - c_ddS S ai t k 18 (ai * 60 + k) < c_ddS S ai t k 16 ai then c_ddS S ai t k else va_up (c_ddS S ai t k) 17 (upd (c_ddS S ai t k 17) (ai * 60 + k) (-1))
def c_doS (S : Nat → Nat → Int32) (t : Int32) : Nat → (Nat → Nat → Int32)
  | 0 => S
  | k + 1 => c_ddS (c_doS S t k) k t 60
def c_out (x n : Int32) : Bool := decide (x < 0) || !decide (x < n)
def c_serves (S : Nat → Nat → Int32) (pi ri : Nat) : Bool := !decide (S 5 pi = 3) && c_any S 9 pi ri
def c_lets (S : Nat → Nat → Int32) (V : Nat → Int32) (pi ri : Nat) : Bool := !decide (S 5 pi = 3) && ((c_any S 9 pi ri && !c_any S 10 pi ri) || !decide (S 6 (pi * 6 + ri) ≤ V 0))
def c_house (S : Nat → Nat → Int32) (V : Nat → Int32) (pi ri : Nat) : Int32 := if c_lets S V pi ri = true then 0 else 1
def c_appR (S : Nat → Nat → Int32) (V : Nat → Int32) (ai pi ri : Nat) : Int32 := if S 17 (ai * 60 + pi * 6 + ri) = -1 then c_house S V pi ri else S 17 (ai * 60 + pi * 6 + ri)
def c_appS (S : Nat → Nat → Int32) (V : Nat → Int32) (ai pi ri : Nat) : Nat → Nat → Int32 := if S 17 (ai * 60 + pi * 6 + ri) = -1 then c_keep S ai pi ri (c_house S V pi ri) (V 0) else S
def c_stale1 (S : Nat → Nat → Int32) (V : Nat → Int32) (ai pi ri : Nat) : Bool := !decide (S 17 (ai * 60 + pi * 6 + ri) = -1) && !decide (S 17 (ai * 60 + pi * 6 + ri) = c_house S V pi ri)
abbrev ix (x : Int32) : Nat := x.toNatClampNeg
theorem ix_of {x : Int32} {j : Nat} (h : x = nI j) (hj : j < 2 ^ 31) : ix x = j := by rw [h]; exact nI_clamp hj
end
section
set_option maxHeartbeats 4000000 in
set_option maxRecDepth 100000 in
theorem kX1_contains (l : Launch) (x0 : Int32) (x1 : Int32) : Met l yX1_contains wsX1_contains ({ frames := 0, cells := 0, slots := 0, locals := 0 } : Room) (zP [.int x0, .int x1]) (QcRead (bi (hasB x0 x1))) 0 0 (fun _ => False) := by
  refine Met.ofW (cc := cX1_contains) (maxL := 2) (ret := (some .boolean)) (by decide) rfl ?_
  intro p e s m args below meth c s₁ B hml hv
  obtain rfl := hv
  have hx := B.exec
  have hb := B.bytes
  have hr := B.returns
  have hts := atoms_spec (ws := wsX1_contains) B.pre
  have hown : s.vm.findClass RX1 = some m.cls := findClass_of_methodNamed B.named
  have hlocks := B.notSynchronized
  have hl := lv_entry ([.int x0, .int x1]) (n := 2) (Nat.le_of_ble_eq_true rfl)
  rw [lg_entry_eq]
  generalize (lg_sl ([.int x0, .int x1]) ++ List.replicate (2 - (lg_sl ([.int x0, .int x1])).length) Slot.unset).toArray = ls at hl ⊢
  have hl : lv_has ls 2 [(0, .int x0), (1, .int x1)] := hl
  refine lv_iload_n hx hb dX1_contains_0 rfl (lv_at hl 0 rfl) ?_
  refine lv_iload_n hx hb dX1_contains_1 rfl (lv_at hl 1 rfl) ?_
  refine lv_ishr hx hb dX1_contains_2 ?_
  refine lv_iconst (v := 1) hx hb dX1_contains_3 rfl ?_
  refine lv_iand hx hb dX1_contains_4 ?_
  refine lv_iconst (v := 1) hx hb dX1_contains_5 rfl ?_
  refine z_sel_icmp_ne hx hb dX1_contains_6 dX1_contains_9 dX1_contains_10 dX1_contains_13 ?_
  exact z_zret hx hb hr hlocks (by rfl) dX1_contains_14

set_option maxHeartbeats 4000000 in
set_option maxRecDepth 100000 in
theorem kX1_changed (l : Launch) (x0 : Int32) (x1 : Int32) (b0 : Bool) : Met l yX1_changed wsX1_changed ({ frames := 0, cells := 0, slots := 0, locals := 0 } : Room) (zP [.int x0, .int x1, .int (bi b0)]) (QcRead (c_changed x0 x1 b0)) 0 0 (fun _ => False) := by
  refine Met.ofW (cc := cX1_changed) (maxL := 3) (ret := (some .int)) (by decide) rfl ?_
  intro p e s m args below meth c s₁ B hml hv
  obtain rfl := hv
  have hx := B.exec
  have hb := B.bytes
  have hr := B.returns
  have hts := atoms_spec (ws := wsX1_changed) B.pre
  have hown : s.vm.findClass RX1 = some m.cls := findClass_of_methodNamed B.named
  have hlocks := B.notSynchronized
  have hl := lv_entry ([.int x0, .int x1, .int (bi b0)]) (n := 3) (Nat.le_of_ble_eq_true rfl)
  rw [lg_entry_eq]
  generalize (lg_sl ([.int x0, .int x1, .int (bi b0)]) ++ List.replicate (3 - (lg_sl ([.int x0, .int x1, .int (bi b0)])).length) Slot.unset).toArray = ls at hl ⊢
  have hl : lv_has ls 3 [(0, .int x0), (1, .int x1), (2, .int (bi b0))] := hl
  refine lv_iload_n hx hb dX1_changed_0 rfl (lv_at hl 2 rfl) ?_
  refine z_if_eq (tgt := 12) hx hb dX1_changed_1 (by decide) (fun c_1 => ?_) (fun c_1 => ?_)
  · refine lv_iload_n hx hb dX1_changed_12 rfl (lv_at hl 0 rfl) ?_
    refine lv_iconst (v := 1) hx hb dX1_changed_13 rfl ?_
    refine lv_iload_n hx hb dX1_changed_14 rfl (lv_at hl 1 rfl) ?_
    refine lv_ishl hx hb dX1_changed_15 ?_
    refine lv_iconst (v := (-1)) hx hb dX1_changed_16 rfl ?_
    refine lv_ixor hx hb dX1_changed_17 ?_
    refine lv_iand hx hb dX1_changed_18 ?_
    exact z_ret hx hb hr hlocks (by simp [c_changed, bi, c_1]) dX1_changed_19
  · refine lv_iload_n hx hb dX1_changed_4 rfl (lv_at hl 0 rfl) ?_
    refine lv_iconst (v := 1) hx hb dX1_changed_5 rfl ?_
    refine lv_iload_n hx hb dX1_changed_6 rfl (lv_at hl 1 rfl) ?_
    refine lv_ishl hx hb dX1_changed_7 ?_
    refine lv_ior hx hb dX1_changed_8 ?_
    refine lv_goto (tgt := 19) hx hb dX1_changed_9 (by decide) ?_
    exact z_ret hx hb hr hlocks (by simp [c_changed, bi, c_1]) dX1_changed_19

set_option maxHeartbeats 4000000 in
set_option maxRecDepth 100000 in
theorem kX1_oneLinkFurther (l : Launch) (D : va_G) (cI cZ : ClassId) (X : Nat → Nat) (S : Nat → Nat → Int32) (O : Nat → Bool) (V : Nat → Int32) (x0 : Int32) : Met l yX1_oneLinkFurther wsX1_oneLinkFurther ({ frames := 1, cells := 0, slots := 0, locals := 21 } : Room) (zR D (tyl cI cZ) (hW cI cZ X S O V) [.ref (X 1), .int x0]) (QcRead (c_oneA S x0 8)) 0 0 (fun _ => False) := by
  refine Met.ofW (cc := cX1_oneLinkFurther) (maxL := 4) (ret := (some .int)) (by decide) rfl ?_
  intro p e s m args below meth c s₁ B hml hv
  obtain ⟨rfl, hP, hK⟩ := hv
  have hx := B.exec
  have hb := B.bytes
  have hr := B.returns
  have hts := atoms_spec (ws := wsX1_oneLinkFurther) B.pre
  have hown : s.vm.findClass RX1 = some m.cls := findClass_of_methodNamed B.named
  have hlocks := B.notSynchronized
  have i1 : ∀ w ∈ u_ws RX1 TX1 4, w ∈ wsX1_oneLinkFurther := by decide +kernel
  have fl_15 := hts (.fieldLink RX1 15 "SignOnHouse$Groups" "homesOfGroup" "[I") (by decide +kernel)
  have hl := lv_entry ([.ref (X 1), .int x0]) (n := 4) (Nat.le_of_ble_eq_true rfl)
  rw [lg_entry_eq]
  generalize (lg_sl ([.ref (X 1), .int x0]) ++ List.replicate (4 - (lg_sl ([.ref (X 1), .int x0])).length) Slot.unset).toArray = ls at hl ⊢
  have hl : lv_has ls 4 [(0, .ref (X 1)), (1, .int x0)] := hl
  refine lv_iload_n hx hb dX1_oneLinkFurther_0 rfl (lv_at hl 1 rfl) ?_
  refine lv_istore_n (lv' := [(2, .int x0), (0, .ref (X 1)), (1, .int x0)]) hx hb dX1_oneLinkFurther_1 rfl hl (by decide) rfl (fun ls hl => ?_)
  refine lv_iconst (v := nI 0) hx hb dX1_oneLinkFurther_2 rfl ?_
  refine lv_istore_n (lv' := [(3, .int (nI 0)), (2, .int x0), (0, .ref (X 1)), (1, .int x0)]) hx hb dX1_oneLinkFurther_3 rfl hl (by decide) rfl (fun ls hl => ?_)
  refine z_loop (N := 8) (nL := 4) (Lc := (fun k => [(3, .int (nI k)), (2, .int (c_oneA S x0 k)), (0, .ref (X 1)), (1, .int x0)])) (lv_sub hl [0, 1, 2, 3] rfl) (fun ls hl => ?_) (fun k ls hk hl ih => ?_)
  · have hl : lv_has ls 4 [(3, .int (nI 8)), (2, .int (c_oneA S x0 8)), (0, .ref (X 1)), (1, .int x0)] := hl
    refine lv_iload_n hx hb dX1_oneLinkFurther_4 rfl (lv_at hl 0 rfl) ?_
    refine lv_bipush (v := nI 8) hx hb dX1_oneLinkFurther_5 (by decide) ?_
    refine z_ge_t (tgt := 33) (nI_le (by omega) (by omega)) hx hb dX1_oneLinkFurther_7 (by decide) ?_
    refine lv_iload_n hx hb dX1_oneLinkFurther_33 rfl (lv_at hl 1 rfl) ?_
    exact z_ret hx hb hr hlocks rfl dX1_oneLinkFurther_34
  · have hl : lv_has ls 4 [(3, .int (nI k)), (2, .int (c_oneA S x0 k)), (0, .ref (X 1)), (1, .int x0)] := hl
    have ih_4 := ih
    refine lv_iload_n hx hb dX1_oneLinkFurther_4 rfl (lv_at hl 0 rfl) ?_
    refine lv_bipush (v := nI 8) hx hb dX1_oneLinkFurther_5 (by decide) ?_
    refine z_ge_f (tgt := 33) (nI_ge (by omega) (by omega)) hx hb dX1_oneLinkFurther_7 (by decide) ?_
    refine lv_iload_n hx hb dX1_oneLinkFurther_10 rfl (lv_at hl 3 rfl) ?_
    refine lv_iload_n hx hb dX1_oneLinkFurther_11 rfl (lv_at hl 0 rfl) ?_
    refine z_callR (W.runS (As := [.int x0, .int (nI k)]) (rest := []) ⟨hx, hb, hml, hown, hts⟩ (kX1_contains l x0 (nI k)) (va_cwS 2 hts gX1_oneLinkFurther_X1_contains rfl rfl rfl (by decide +kernel) ⟨Nat.le_of_ble_eq_true rfl, Nat.le_of_ble_eq_true rfl⟩) zP_pre rfl rfl hl.1 rfl (lv_room (Nat.le_of_ble_eq_true rfl)) dX1_oneLinkFurther_12 ⟨Nat.zero_le _, Nat.zero_le _⟩) ?_
    refine z_if_eq (tgt := 27) hx hb dX1_oneLinkFurther_15 (by decide) (fun c_15 => ?_) (fun c_15 => ?_)
    · refine lv_iinc (v := nI (k + 1)) (lv' := [(3, .int (nI (k + 1))), (2, .int (c_oneA S x0 k)), (0, .ref (X 1)), (1, .int x0)]) hx hb dX1_oneLinkFurther_27 hl (k := 0) rfl (nI_1 _) (by decide) rfl (fun ls hl => ?_)
      refine lv_goto (tgt := 4) hx hb dX1_oneLinkFurther_30 (by decide) ?_
      have e2 : (c_oneA S x0 (k + 1)) = (c_oneA S x0 k) := by simp [c_oneA, bi, c_15]
      exact ih_4 ls (by show lv_has ls 4 [(3, .int (nI (k + 1))), (2, .int (c_oneA S x0 (k + 1))), (0, .ref (X 1)), (1, .int x0)]; rw [e2]; exact lv_sub hl [0, 1, 2, 3] rfl)
    · refine lv_iload_n hx hb dX1_oneLinkFurther_18 rfl (lv_at hl 1 rfl) ?_
      refine lv_aload_n hx hb dX1_oneLinkFurther_19 rfl (lv_at hl 2 rfl) ?_
      refine va_get (D := D) (ci := 1) (v := .ref (X 8)) (C := RX1) (T := TX1) (N := 4) hx hb hts i1 hown hK hP 1 rfl rfl 1 (by decide) fl_15 (fun _ h9 => h9) rfl dX1_oneLinkFurther_20 ?_
      refine lv_iload_n hx hb dX1_oneLinkFurther_23 rfl (lv_at hl 0 rfl) ?_
      refine z_iald (D := D) (j := k) (f := S 8) hx hb hK hP 8 0 rfl rfl (by omega) (by decide) dX1_oneLinkFurther_24 ?_
      refine lv_ior hx hb dX1_oneLinkFurther_25 ?_
      refine lv_istore_n (lv' := [(2, .int ((c_oneA S x0 k) ||| (S 8 k))), (3, .int (nI k)), (0, .ref (X 1)), (1, .int x0)]) hx hb dX1_oneLinkFurther_26 rfl hl (by decide) rfl (fun ls hl => ?_)
      refine lv_iinc (v := nI (k + 1)) (lv' := [(3, .int (nI (k + 1))), (2, .int ((c_oneA S x0 k) ||| (S 8 k))), (0, .ref (X 1)), (1, .int x0)]) hx hb dX1_oneLinkFurther_27 hl (k := 1) rfl (nI_1 _) (by decide) rfl (fun ls hl => ?_)
      refine lv_goto (tgt := 4) hx hb dX1_oneLinkFurther_30 (by decide) ?_
      have e2 : (c_oneA S x0 (k + 1)) = ((c_oneA S x0 k) ||| (S 8 k)) := by simp [c_oneA, bi, c_15]
      exact ih_4 ls (by show lv_has ls 4 [(3, .int (nI (k + 1))), (2, .int (c_oneA S x0 (k + 1))), (0, .ref (X 1)), (1, .int x0)]; rw [e2]; exact lv_sub hl [0, 1, 2, 3] rfl)

set_option maxHeartbeats 4000000 in
set_option maxRecDepth 100000 in
theorem kX1_allAround (l : Launch) (D : va_G) (cI cZ : ClassId) (X : Nat → Nat) (S : Nat → Nat → Int32) (O : Nat → Bool) (V : Nat → Int32) (x0 : Int32) : Met l yX1_allAround wsX1_allAround ({ frames := 2, cells := 0, slots := 0, locals := 44 } : Room) (zR D (tyl cI cZ) (hW cI cZ X S O V) [.ref (X 1), .int x0]) (QcRead (c_allA S x0 8)) 0 0 (fun _ => False) := by
  refine Met.ofW (cc := cX1_allAround) (maxL := 4) (ret := (some .int)) (by decide) rfl ?_
  intro p e s m args below meth c s₁ B hml hv
  obtain ⟨rfl, hP, hK⟩ := hv
  have hx := B.exec
  have hb := B.bytes
  have hr := B.returns
  have hts := atoms_spec (ws := wsX1_allAround) B.pre
  have hown : s.vm.findClass RX1 = some m.cls := findClass_of_methodNamed B.named
  have hlocks := B.notSynchronized
  have hl := lv_entry ([.ref (X 1), .int x0]) (n := 4) (Nat.le_of_ble_eq_true rfl)
  rw [lg_entry_eq]
  generalize (lg_sl ([.ref (X 1), .int x0]) ++ List.replicate (4 - (lg_sl ([.ref (X 1), .int x0])).length) Slot.unset).toArray = ls at hl ⊢
  have hl : lv_has ls 4 [(0, .ref (X 1)), (1, .int x0)] := hl
  refine lv_iload_n hx hb dX1_allAround_0 rfl (lv_at hl 1 rfl) ?_
  refine lv_istore_n (lv' := [(2, .int x0), (0, .ref (X 1)), (1, .int x0)]) hx hb dX1_allAround_1 rfl hl (by decide) rfl (fun ls hl => ?_)
  refine lv_iconst (v := nI 1) hx hb dX1_allAround_2 rfl ?_
  refine lv_istore_n (lv' := [(3, .int (nI 1)), (2, .int x0), (0, .ref (X 1)), (1, .int x0)]) hx hb dX1_allAround_3 rfl hl (by decide) rfl (fun ls hl => ?_)
  refine z_loop (N := 7) (nL := 4) (Lc := (fun k => [(3, .int (nI (k + 1))), (2, .int (c_allA S x0 (k + 1))), (0, .ref (X 1)), (1, .int x0)])) (lv_sub hl [0, 1, 2, 3] rfl) (fun ls hl => ?_) (fun k ls hk hl ih => ?_)
  · have hl : lv_has ls 4 [(3, .int (nI 8)), (2, .int (c_allA S x0 8)), (0, .ref (X 1)), (1, .int x0)] := hl
    refine lv_iload_n hx hb dX1_allAround_4 rfl (lv_at hl 0 rfl) ?_
    refine lv_bipush (v := nI 8) hx hb dX1_allAround_5 (by decide) ?_
    refine z_ge_t (tgt := 22) (nI_le (by omega) (by omega)) hx hb dX1_allAround_7 (by decide) ?_
    refine lv_iload_n hx hb dX1_allAround_22 rfl (lv_at hl 1 rfl) ?_
    exact z_ret hx hb hr hlocks rfl dX1_allAround_23
  · have hl : lv_has ls 4 [(3, .int (nI (k + 1))), (2, .int (c_allA S x0 (k + 1))), (0, .ref (X 1)), (1, .int x0)] := hl
    have ih_4 := ih
    refine lv_iload_n hx hb dX1_allAround_4 rfl (lv_at hl 0 rfl) ?_
    refine lv_bipush (v := nI 8) hx hb dX1_allAround_5 (by decide) ?_
    refine z_ge_f (tgt := 22) (nI_ge (by omega) (by omega)) hx hb dX1_allAround_7 (by decide) ?_
    refine lv_aload_n hx hb dX1_allAround_10 rfl (lv_at hl 2 rfl) ?_
    refine lv_iload_n hx hb dX1_allAround_11 rfl (lv_at hl 1 rfl) ?_
    refine z_callR (W.runV (As := [.int (c_allA S x0 (k + 1))]) (rest := []) ⟨hx, hb, hml, hown, hts⟩ (kX1_oneLinkFurther l D cI cZ X S O V (c_allA S x0 (k + 1))) (cwV 1 hts gX1_allAround_X1_oneLinkFurther rfl rfl rfl (by decide +kernel) ⟨Nat.le_of_ble_eq_true rfl, Nat.le_of_ble_eq_true rfl⟩) (zR_preV 1 1 hK hP rfl rfl) rfl rfl hl.1 rfl (lv_room (Nat.le_of_ble_eq_true rfl)) dX1_allAround_12 ⟨Nat.zero_le _, Nat.zero_le _⟩) ?_
    refine lv_istore_n (lv' := [(2, .int (c_oneA S (c_allA S x0 (k + 1)) 8)), (3, .int (nI (k + 1))), (0, .ref (X 1)), (1, .int x0)]) hx hb dX1_allAround_15 rfl hl (by decide) rfl (fun ls hl => ?_)
    refine lv_iinc (v := nI (k + 1 + 1)) (lv' := [(3, .int (nI (k + 1 + 1))), (2, .int (c_oneA S (c_allA S x0 (k + 1)) 8)), (0, .ref (X 1)), (1, .int x0)]) hx hb dX1_allAround_16 hl (k := 1) rfl (nI_1 _) (by decide) rfl (fun ls hl => ?_)
    refine lv_goto (tgt := 4) hx hb dX1_allAround_19 (by decide) ?_
    have e2 : (c_allA S x0 (k + 1 + 1)) = (c_oneA S (c_allA S x0 (k + 1)) 8) := by rfl
    exact ih_4 ls (by show lv_has ls 4 [(3, .int (nI (k + 1 + 1))), (2, .int (c_allA S x0 (k + 1 + 1))), (0, .ref (X 1)), (1, .int x0)]; rw [e2]; exact lv_sub hl [0, 1, 2, 3] rfl)

set_option maxHeartbeats 4000000 in
set_option maxRecDepth 100000 in
theorem kX1_hasPerson (l : Launch) (D : va_G) (cI cZ : ClassId) (X : Nat → Nat) (S : Nat → Nat → Int32) (O : Nat → Bool) (V : Nat → Int32) (gi : Nat) (pi : Nat) (hgi : gi < 8) (hpi : pi < 10) : Met l yX1_hasPerson wsX1_hasPerson ({ frames := 3, cells := 0, slots := 0, locals := 67 } : Room) (zR D (tyl cI cZ) (hW cI cZ X S O V) [.ref (X 1), .int (nI gi), .int (nI pi)]) (QcRead (bi (hasB (c_allA S (S 7 pi) 8) (nI gi)))) 0 0 (fun _ => False) := by
  refine Met.ofW (cc := cX1_hasPerson) (maxL := 3) (ret := (some .boolean)) (by decide) rfl ?_
  intro p e s m args below meth c s₁ B hml hv
  obtain ⟨rfl, hP, hK⟩ := hv
  have hx := B.exec
  have hb := B.bytes
  have hr := B.returns
  have hts := atoms_spec (ws := wsX1_hasPerson) B.pre
  have hown : s.vm.findClass RX1 = some m.cls := findClass_of_methodNamed B.named
  have hlocks := B.notSynchronized
  have i1 : ∀ w ∈ u_ws RX1 TX1 4, w ∈ wsX1_hasPerson := by decide +kernel
  have fl_9 := hts (.fieldLink RX1 9 "SignOnHouse$Groups" "homesOfPerson" "[I") (by decide +kernel)
  have hl := lv_entry ([.ref (X 1), .int (nI gi), .int (nI pi)]) (n := 3) (Nat.le_of_ble_eq_true rfl)
  rw [lg_entry_eq]
  generalize (lg_sl ([.ref (X 1), .int (nI gi), .int (nI pi)]) ++ List.replicate (3 - (lg_sl ([.ref (X 1), .int (nI gi), .int (nI pi)])).length) Slot.unset).toArray = ls at hl ⊢
  have hl : lv_has ls 3 [(0, .ref (X 1)), (1, .int (nI gi)), (2, .int (nI pi))] := hl
  refine lv_aload_n hx hb dX1_hasPerson_0 rfl (lv_at hl 0 rfl) ?_
  refine lv_aload_n hx hb dX1_hasPerson_1 rfl (lv_at hl 0 rfl) ?_
  refine va_get (D := D) (ci := 1) (v := .ref (X 7)) (C := RX1) (T := TX1) (N := 4) hx hb hts i1 hown hK hP 1 rfl rfl 0 (by decide) fl_9 (fun _ h9 => h9) rfl dX1_hasPerson_2 ?_
  refine lv_iload_n hx hb dX1_hasPerson_5 rfl (lv_at hl 2 rfl) ?_
  refine z_iald (D := D) (j := pi) (f := S 7) hx hb hK hP 7 0 rfl rfl (by omega) (by decide) dX1_hasPerson_6 ?_
  refine z_callR (W.runV (As := [.int (S 7 pi)]) (rest := []) ⟨hx, hb, hml, hown, hts⟩ (kX1_allAround l D cI cZ X S O V (S 7 pi)) (cwV 1 hts gX1_hasPerson_X1_allAround rfl rfl rfl (by decide +kernel) ⟨Nat.le_of_ble_eq_true rfl, Nat.le_of_ble_eq_true rfl⟩) (zR_preV 1 1 hK hP rfl rfl) rfl rfl hl.1 rfl (lv_room (Nat.le_of_ble_eq_true rfl)) dX1_hasPerson_7 ⟨Nat.zero_le _, Nat.zero_le _⟩) ?_
  refine lv_iload_n hx hb dX1_hasPerson_10 rfl (lv_at hl 1 rfl) ?_
  refine z_callR (W.runS (As := [.int (c_allA S (S 7 pi) 8), .int (nI gi)]) (rest := []) ⟨hx, hb, hml, hown, hts⟩ (kX1_contains l (c_allA S (S 7 pi) 8) (nI gi)) (va_cwS 2 hts gX1_hasPerson_X1_contains rfl rfl rfl (by decide +kernel) ⟨Nat.le_of_ble_eq_true rfl, Nat.le_of_ble_eq_true rfl⟩) zP_pre rfl rfl hl.1 rfl (lv_room (Nat.le_of_ble_eq_true rfl)) dX1_hasPerson_11 ⟨Nat.zero_le _, Nat.zero_le _⟩) ?_
  exact z_zret hx hb hr hlocks rfl dX1_hasPerson_14

set_option maxHeartbeats 4000000 in
set_option maxRecDepth 100000 in
theorem kX1_isAround (l : Launch) (D : va_G) (cI cZ : ClassId) (X : Nat → Nat) (S : Nat → Nat → Int32) (O : Nat → Bool) (V : Nat → Int32) (oi : Nat) (gi : Nat) (hoi : oi < 8) (hgi : gi < 8) : Met l yX1_isAround wsX1_isAround ({ frames := 3, cells := 0, slots := 0, locals := 67 } : Room) (zR D (tyl cI cZ) (hW cI cZ X S O V) [.ref (X 1), .int (nI oi), .int (nI gi)]) (QcRead (bi (hasB (c_allA S (S 8 gi) 8) (nI oi)))) 0 0 (fun _ => False) := by
  refine Met.ofW (cc := cX1_isAround) (maxL := 3) (ret := (some .boolean)) (by decide) rfl ?_
  intro p e s m args below meth c s₁ B hml hv
  obtain ⟨rfl, hP, hK⟩ := hv
  have hx := B.exec
  have hb := B.bytes
  have hr := B.returns
  have hts := atoms_spec (ws := wsX1_isAround) B.pre
  have hown : s.vm.findClass RX1 = some m.cls := findClass_of_methodNamed B.named
  have hlocks := B.notSynchronized
  have i1 : ∀ w ∈ u_ws RX1 TX1 4, w ∈ wsX1_isAround := by decide +kernel
  have fl_15 := hts (.fieldLink RX1 15 "SignOnHouse$Groups" "homesOfGroup" "[I") (by decide +kernel)
  have hl := lv_entry ([.ref (X 1), .int (nI oi), .int (nI gi)]) (n := 3) (Nat.le_of_ble_eq_true rfl)
  rw [lg_entry_eq]
  generalize (lg_sl ([.ref (X 1), .int (nI oi), .int (nI gi)]) ++ List.replicate (3 - (lg_sl ([.ref (X 1), .int (nI oi), .int (nI gi)])).length) Slot.unset).toArray = ls at hl ⊢
  have hl : lv_has ls 3 [(0, .ref (X 1)), (1, .int (nI oi)), (2, .int (nI gi))] := hl
  refine lv_aload_n hx hb dX1_isAround_0 rfl (lv_at hl 0 rfl) ?_
  refine lv_aload_n hx hb dX1_isAround_1 rfl (lv_at hl 0 rfl) ?_
  refine va_get (D := D) (ci := 1) (v := .ref (X 8)) (C := RX1) (T := TX1) (N := 4) hx hb hts i1 hown hK hP 1 rfl rfl 1 (by decide) fl_15 (fun _ h9 => h9) rfl dX1_isAround_2 ?_
  refine lv_iload_n hx hb dX1_isAround_5 rfl (lv_at hl 2 rfl) ?_
  refine z_iald (D := D) (j := gi) (f := S 8) hx hb hK hP 8 0 rfl rfl (by omega) (by decide) dX1_isAround_6 ?_
  refine z_callR (W.runV (As := [.int (S 8 gi)]) (rest := []) ⟨hx, hb, hml, hown, hts⟩ (kX1_allAround l D cI cZ X S O V (S 8 gi)) (cwV 1 hts gX1_isAround_X1_allAround rfl rfl rfl (by decide +kernel) ⟨Nat.le_of_ble_eq_true rfl, Nat.le_of_ble_eq_true rfl⟩) (zR_preV 1 1 hK hP rfl rfl) rfl rfl hl.1 rfl (lv_room (Nat.le_of_ble_eq_true rfl)) dX1_isAround_7 ⟨Nat.zero_le _, Nat.zero_le _⟩) ?_
  refine lv_iload_n hx hb dX1_isAround_10 rfl (lv_at hl 1 rfl) ?_
  refine z_callR (W.runS (As := [.int (c_allA S (S 8 gi) 8), .int (nI oi)]) (rest := []) ⟨hx, hb, hml, hown, hts⟩ (kX1_contains l (c_allA S (S 8 gi) 8) (nI oi)) (va_cwS 2 hts gX1_isAround_X1_contains rfl rfl rfl (by decide +kernel) ⟨Nat.le_of_ble_eq_true rfl, Nat.le_of_ble_eq_true rfl⟩) zP_pre rfl rfl hl.1 rfl (lv_room (Nat.le_of_ble_eq_true rfl)) dX1_isAround_11 ⟨Nat.zero_le _, Nat.zero_le _⟩) ?_
  exact z_zret hx hb hr hlocks rfl dX1_isAround_14

set_option maxHeartbeats 4000000 in
set_option maxRecDepth 100000 in
theorem kX1_anyGrants (l : Launch) (D : va_G) (cI cZ : ClassId) (X : Nat → Nat) (S : Nat → Nat → Int32) (O : Nat → Bool) (V : Nat → Int32) (pi : Nat) (ri : Nat) (hpi : pi < 10) (hri : ri < 6) : Met l yX1_anyGrants wsX1_anyGrants ({ frames := 3, cells := 0, slots := 0, locals := 67 } : Room) (zR D (tyl cI cZ) (hW cI cZ X S O V) [.ref (X 1), .int (nI pi), .int (nI ri)]) (QcRead (bi (c_any S 9 pi ri))) 0 0 (fun _ => False) := by
  refine Met.ofW (cc := cX1_anyGrants) (maxL := 3) (ret := (some .boolean)) (by decide) rfl ?_
  intro p e s m args below meth c s₁ B hml hv
  obtain ⟨rfl, hP, hK⟩ := hv
  have hx := B.exec
  have hb := B.bytes
  have hr := B.returns
  have hts := atoms_spec (ws := wsX1_anyGrants) B.pre
  have hown : s.vm.findClass RX1 = some m.cls := findClass_of_methodNamed B.named
  have hlocks := B.notSynchronized
  have i1 : ∀ w ∈ u_ws RX1 TX1 4, w ∈ wsX1_anyGrants := by decide +kernel
  have fl_9 := hts (.fieldLink RX1 9 "SignOnHouse$Groups" "homesOfPerson" "[I") (by decide +kernel)
  have fl_18 := hts (.fieldLink RX1 18 "SignOnHouse$Groups" "grantedOfRole" "[I") (by decide +kernel)
  have hl := lv_entry ([.ref (X 1), .int (nI pi), .int (nI ri)]) (n := 3) (Nat.le_of_ble_eq_true rfl)
  rw [lg_entry_eq]
  generalize (lg_sl ([.ref (X 1), .int (nI pi), .int (nI ri)]) ++ List.replicate (3 - (lg_sl ([.ref (X 1), .int (nI pi), .int (nI ri)])).length) Slot.unset).toArray = ls at hl ⊢
  have hl : lv_has ls 3 [(0, .ref (X 1)), (1, .int (nI pi)), (2, .int (nI ri))] := hl
  refine lv_aload_n hx hb dX1_anyGrants_0 rfl (lv_at hl 0 rfl) ?_
  refine lv_aload_n hx hb dX1_anyGrants_1 rfl (lv_at hl 0 rfl) ?_
  refine va_get (D := D) (ci := 1) (v := .ref (X 7)) (C := RX1) (T := TX1) (N := 4) hx hb hts i1 hown hK hP 1 rfl rfl 0 (by decide) fl_9 (fun _ h9 => h9) rfl dX1_anyGrants_2 ?_
  refine lv_iload_n hx hb dX1_anyGrants_5 rfl (lv_at hl 1 rfl) ?_
  refine z_iald (D := D) (j := pi) (f := S 7) hx hb hK hP 7 0 rfl rfl (by omega) (by decide) dX1_anyGrants_6 ?_
  refine z_callR (W.runV (As := [.int (S 7 pi)]) (rest := []) ⟨hx, hb, hml, hown, hts⟩ (kX1_allAround l D cI cZ X S O V (S 7 pi)) (cwV 1 hts gX1_anyGrants_X1_allAround rfl rfl rfl (by decide +kernel) ⟨Nat.le_of_ble_eq_true rfl, Nat.le_of_ble_eq_true rfl⟩) (zR_preV 1 1 hK hP rfl rfl) rfl rfl hl.1 rfl (lv_room (Nat.le_of_ble_eq_true rfl)) dX1_anyGrants_7 ⟨Nat.zero_le _, Nat.zero_le _⟩) ?_
  refine lv_aload_n hx hb dX1_anyGrants_10 rfl (lv_at hl 0 rfl) ?_
  refine va_get (D := D) (ci := 1) (v := .ref (X 9)) (C := RX1) (T := TX1) (N := 4) hx hb hts i1 hown hK hP 1 rfl rfl 2 (by decide) fl_18 (fun _ h9 => h9) rfl dX1_anyGrants_11 ?_
  refine lv_iload_n hx hb dX1_anyGrants_14 rfl (lv_at hl 2 rfl) ?_
  refine z_iald (D := D) (j := ri) (f := S 9) hx hb hK hP 9 0 rfl rfl (by omega) (by decide) dX1_anyGrants_15 ?_
  refine lv_iand hx hb dX1_anyGrants_16 ?_
  refine z_sel_if_eq hx hb dX1_anyGrants_17 dX1_anyGrants_20 dX1_anyGrants_21 dX1_anyGrants_24 ?_
  exact z_zret hx hb hr hlocks (by rfl) dX1_anyGrants_25

set_option maxHeartbeats 4000000 in
set_option maxRecDepth 100000 in
theorem kX1_anyDenies (l : Launch) (D : va_G) (cI cZ : ClassId) (X : Nat → Nat) (S : Nat → Nat → Int32) (O : Nat → Bool) (V : Nat → Int32) (pi : Nat) (ri : Nat) (hpi : pi < 10) (hri : ri < 6) : Met l yX1_anyDenies wsX1_anyDenies ({ frames := 3, cells := 0, slots := 0, locals := 67 } : Room) (zR D (tyl cI cZ) (hW cI cZ X S O V) [.ref (X 1), .int (nI pi), .int (nI ri)]) (QcRead (bi (c_any S 10 pi ri))) 0 0 (fun _ => False) := by
  refine Met.ofW (cc := cX1_anyDenies) (maxL := 3) (ret := (some .boolean)) (by decide) rfl ?_
  intro p e s m args below meth c s₁ B hml hv
  obtain ⟨rfl, hP, hK⟩ := hv
  have hx := B.exec
  have hb := B.bytes
  have hr := B.returns
  have hts := atoms_spec (ws := wsX1_anyDenies) B.pre
  have hown : s.vm.findClass RX1 = some m.cls := findClass_of_methodNamed B.named
  have hlocks := B.notSynchronized
  have i1 : ∀ w ∈ u_ws RX1 TX1 4, w ∈ wsX1_anyDenies := by decide +kernel
  have fl_9 := hts (.fieldLink RX1 9 "SignOnHouse$Groups" "homesOfPerson" "[I") (by decide +kernel)
  have fl_21 := hts (.fieldLink RX1 21 "SignOnHouse$Groups" "deniedOfRole" "[I") (by decide +kernel)
  have hl := lv_entry ([.ref (X 1), .int (nI pi), .int (nI ri)]) (n := 3) (Nat.le_of_ble_eq_true rfl)
  rw [lg_entry_eq]
  generalize (lg_sl ([.ref (X 1), .int (nI pi), .int (nI ri)]) ++ List.replicate (3 - (lg_sl ([.ref (X 1), .int (nI pi), .int (nI ri)])).length) Slot.unset).toArray = ls at hl ⊢
  have hl : lv_has ls 3 [(0, .ref (X 1)), (1, .int (nI pi)), (2, .int (nI ri))] := hl
  refine lv_aload_n hx hb dX1_anyDenies_0 rfl (lv_at hl 0 rfl) ?_
  refine lv_aload_n hx hb dX1_anyDenies_1 rfl (lv_at hl 0 rfl) ?_
  refine va_get (D := D) (ci := 1) (v := .ref (X 7)) (C := RX1) (T := TX1) (N := 4) hx hb hts i1 hown hK hP 1 rfl rfl 0 (by decide) fl_9 (fun _ h9 => h9) rfl dX1_anyDenies_2 ?_
  refine lv_iload_n hx hb dX1_anyDenies_5 rfl (lv_at hl 1 rfl) ?_
  refine z_iald (D := D) (j := pi) (f := S 7) hx hb hK hP 7 0 rfl rfl (by omega) (by decide) dX1_anyDenies_6 ?_
  refine z_callR (W.runV (As := [.int (S 7 pi)]) (rest := []) ⟨hx, hb, hml, hown, hts⟩ (kX1_allAround l D cI cZ X S O V (S 7 pi)) (cwV 1 hts gX1_anyDenies_X1_allAround rfl rfl rfl (by decide +kernel) ⟨Nat.le_of_ble_eq_true rfl, Nat.le_of_ble_eq_true rfl⟩) (zR_preV 1 1 hK hP rfl rfl) rfl rfl hl.1 rfl (lv_room (Nat.le_of_ble_eq_true rfl)) dX1_anyDenies_7 ⟨Nat.zero_le _, Nat.zero_le _⟩) ?_
  refine lv_aload_n hx hb dX1_anyDenies_10 rfl (lv_at hl 0 rfl) ?_
  refine va_get (D := D) (ci := 1) (v := .ref (X 10)) (C := RX1) (T := TX1) (N := 4) hx hb hts i1 hown hK hP 1 rfl rfl 3 (by decide) fl_21 (fun _ h9 => h9) rfl dX1_anyDenies_11 ?_
  refine lv_iload_n hx hb dX1_anyDenies_14 rfl (lv_at hl 2 rfl) ?_
  refine z_iald (D := D) (j := ri) (f := S 10) hx hb hK hP 10 0 rfl rfl (by omega) (by decide) dX1_anyDenies_15 ?_
  refine lv_iand hx hb dX1_anyDenies_16 ?_
  refine z_sel_if_eq hx hb dX1_anyDenies_17 dX1_anyDenies_20 dX1_anyDenies_21 dX1_anyDenies_24 ?_
  exact z_zret hx hb hr hlocks (by rfl) dX1_anyDenies_25

set_option maxHeartbeats 4000000 in
set_option maxRecDepth 100000 in
theorem kX1_roleOf (l : Launch) (D : va_G) (cI cZ : ClassId) (X : Nat → Nat) (S : Nat → Nat → Int32) (O : Nat → Bool) (V : Nat → Int32) (gi : Nat) (ri : Nat) (hgi : gi < 8) (hri : ri < 6) : Met l yX1_roleOf wsX1_roleOf ({ frames := 1, cells := 0, slots := 0, locals := 21 } : Room) (zR D (tyl cI cZ) (hW cI cZ X S O V) [.ref (X 1), .int (nI gi), .int (nI ri)]) (QcRead (c_roleOf S gi ri)) 0 0 (fun _ => False) := by
  refine Met.ofW (cc := cX1_roleOf) (maxL := 3) (ret := (some .int)) (by decide) rfl ?_
  intro p e s m args below meth c s₁ B hml hv
  obtain ⟨rfl, hP, hK⟩ := hv
  have hx := B.exec
  have hb := B.bytes
  have hr := B.returns
  have hts := atoms_spec (ws := wsX1_roleOf) B.pre
  have hown : s.vm.findClass RX1 = some m.cls := findClass_of_methodNamed B.named
  have hlocks := B.notSynchronized
  have i1 : ∀ w ∈ u_ws RX1 TX1 4, w ∈ wsX1_roleOf := by decide +kernel
  have fl_18 := hts (.fieldLink RX1 18 "SignOnHouse$Groups" "grantedOfRole" "[I") (by decide +kernel)
  have fl_21 := hts (.fieldLink RX1 21 "SignOnHouse$Groups" "deniedOfRole" "[I") (by decide +kernel)
  have hl := lv_entry ([.ref (X 1), .int (nI gi), .int (nI ri)]) (n := 3) (Nat.le_of_ble_eq_true rfl)
  rw [lg_entry_eq]
  generalize (lg_sl ([.ref (X 1), .int (nI gi), .int (nI ri)]) ++ List.replicate (3 - (lg_sl ([.ref (X 1), .int (nI gi), .int (nI ri)])).length) Slot.unset).toArray = ls at hl ⊢
  have hl : lv_has ls 3 [(0, .ref (X 1)), (1, .int (nI gi)), (2, .int (nI ri))] := hl
  refine lv_aload_n hx hb dX1_roleOf_0 rfl (lv_at hl 0 rfl) ?_
  refine va_get (D := D) (ci := 1) (v := .ref (X 9)) (C := RX1) (T := TX1) (N := 4) hx hb hts i1 hown hK hP 1 rfl rfl 2 (by decide) fl_18 (fun _ h9 => h9) rfl dX1_roleOf_1 ?_
  refine lv_iload_n hx hb dX1_roleOf_4 rfl (lv_at hl 2 rfl) ?_
  refine z_iald (D := D) (j := ri) (f := S 9) hx hb hK hP 9 0 rfl rfl (by omega) (by decide) dX1_roleOf_5 ?_
  refine lv_iload_n hx hb dX1_roleOf_6 rfl (lv_at hl 1 rfl) ?_
  refine z_callR (W.runS (As := [.int (S 9 ri), .int (nI gi)]) (rest := []) ⟨hx, hb, hml, hown, hts⟩ (kX1_contains l (S 9 ri) (nI gi)) (va_cwS 2 hts gX1_roleOf_X1_contains rfl rfl rfl (by decide +kernel) ⟨Nat.le_of_ble_eq_true rfl, Nat.le_of_ble_eq_true rfl⟩) zP_pre rfl rfl hl.1 rfl (lv_room (Nat.le_of_ble_eq_true rfl)) dX1_roleOf_7 ⟨Nat.zero_le _, Nat.zero_le _⟩) ?_
  refine z_if_eq (tgt := 15) hx hb dX1_roleOf_10 (by decide) (fun c_10 => ?_) (fun c_10 => ?_)
  · refine lv_aload_n hx hb dX1_roleOf_15 rfl (lv_at hl 0 rfl) ?_
    refine va_get (D := D) (ci := 1) (v := .ref (X 10)) (C := RX1) (T := TX1) (N := 4) hx hb hts i1 hown hK hP 1 rfl rfl 3 (by decide) fl_21 (fun _ h9 => h9) rfl dX1_roleOf_16 ?_
    refine lv_iload_n hx hb dX1_roleOf_19 rfl (lv_at hl 2 rfl) ?_
    refine z_iald (D := D) (j := ri) (f := S 10) hx hb hK hP 10 0 rfl rfl (by omega) (by decide) dX1_roleOf_20 ?_
    refine lv_iload_n hx hb dX1_roleOf_21 rfl (lv_at hl 1 rfl) ?_
    refine z_callR (W.runS (As := [.int (S 10 ri), .int (nI gi)]) (rest := []) ⟨hx, hb, hml, hown, hts⟩ (kX1_contains l (S 10 ri) (nI gi)) (va_cwS 2 hts gX1_roleOf_X1_contains rfl rfl rfl (by decide +kernel) ⟨Nat.le_of_ble_eq_true rfl, Nat.le_of_ble_eq_true rfl⟩) zP_pre rfl rfl hl.1 rfl (lv_room (Nat.le_of_ble_eq_true rfl)) dX1_roleOf_22 ⟨Nat.zero_le _, Nat.zero_le _⟩) ?_
    refine z_if_eq (tgt := 32) hx hb dX1_roleOf_25 (by decide) (fun c_25 => ?_) (fun c_25 => ?_)
    · refine lv_iconst (v := 0) hx hb dX1_roleOf_32 rfl ?_
      exact z_ret hx hb hr hlocks (by simp [c_roleOf, bi, c_10, c_25]) dX1_roleOf_33
    · refine lv_iconst (v := 2) hx hb dX1_roleOf_28 rfl ?_
      refine lv_goto (tgt := 33) hx hb dX1_roleOf_29 (by decide) ?_
      exact z_ret hx hb hr hlocks (by simp [c_roleOf, bi, c_10, c_25]) dX1_roleOf_33
  · refine lv_iconst (v := 1) hx hb dX1_roleOf_13 rfl ?_
    exact z_ret hx hb hr hlocks (by simp [c_roleOf, bi, c_10]) dX1_roleOf_14

set_option maxHeartbeats 4000000 in
set_option maxRecDepth 100000 in
theorem kX1_placePerson (l : Launch) (D : va_G) (cI cZ : ClassId) (X : Nat → Nat) (S : Nat → Nat → Int32) (O : Nat → Bool) (V : Nat → Int32) (sz : Nat) (gi : Nat) (pi : Nat) (b0 : Bool) (hgi : gi < 8) (hpi : pi < 10) : Met l yX1_placePerson wsX1_placePerson ({ frames := 1, cells := 0, slots := 0, locals := 22 } : Room) (zW D (tyl cI cZ) (hW cI cZ X S O V) sz [.ref (X 1), .int (nI gi), .int (nI pi), .int (bi b0)]) (zQi D (tyl cI cZ) (hW cI cZ X (va_up S 7 (upd (S 7) pi (c_changed (S 7 pi) (nI gi) b0))) O V) (bi (hasB (S 7 pi) (nI gi))) (va_A (hW cI cZ X S O V) sz)) 0 0 (va_A (hW cI cZ X S O V) sz) := by
  refine Met.ofW (cc := cX1_placePerson) (maxL := 5) (ret := (some .boolean)) (by decide) rfl ?_
  intro p e s m args below meth c s₁ B hml hv
  obtain ⟨rfl, hsz, hP, hK, hD0⟩ := hv
  have hx := B.exec
  have hb := B.bytes
  have hr := B.returns
  have hts := atoms_spec (ws := wsX1_placePerson) B.pre
  have hown : s.vm.findClass RX1 = some m.cls := findClass_of_methodNamed B.named
  have hlocks := B.notSynchronized
  subst hsz
  have hD := hD0.self (sz := s.heap.size)
  generalize hAe : va_A (hW cI cZ X S O V) s.heap.size = A at hD ⊢
  have hA : ∀ q : Nat, s.heap.size ≤ q → A q := fun q h => by rw [← hAe]; exact Or.inr h
  have hS : va_S A s.heap s.heap [] := va_S.rf
  have i1 : ∀ w ∈ u_ws RX1 TX1 4, w ∈ wsX1_placePerson := by decide +kernel
  have fl_9 := hts (.fieldLink RX1 9 "SignOnHouse$Groups" "homesOfPerson" "[I") (by decide +kernel)
  have hl := lv_entry ([.ref (X 1), .int (nI gi), .int (nI pi), .int (bi b0)]) (n := 5) (Nat.le_of_ble_eq_true rfl)
  rw [lg_entry_eq]
  generalize (lg_sl ([.ref (X 1), .int (nI gi), .int (nI pi), .int (bi b0)]) ++ List.replicate (5 - (lg_sl ([.ref (X 1), .int (nI gi), .int (nI pi), .int (bi b0)])).length) Slot.unset).toArray = ls at hl ⊢
  have hl : lv_has ls 5 [(0, .ref (X 1)), (1, .int (nI gi)), (2, .int (nI pi)), (3, .int (bi b0))] := hl
  refine lv_aload_n hx hb dX1_placePerson_0 rfl (lv_at hl 0 rfl) ?_
  refine va_get (D := D) (ci := 1) (v := .ref (X 7)) (C := RX1) (T := TX1) (N := 4) hx hb hts i1 hown hK hP 1 rfl rfl 0 (by decide) fl_9 (fun _ h9 => h9) rfl dX1_placePerson_1 ?_
  refine lv_iload_n hx hb dX1_placePerson_4 rfl (lv_at hl 2 rfl) ?_
  refine z_iald (D := D) (j := pi) (f := S 7) hx hb hK hP 7 0 rfl rfl (by omega) (by decide) dX1_placePerson_5 ?_
  refine lv_iload_n hx hb dX1_placePerson_6 rfl (lv_at hl 1 rfl) ?_
  refine z_callR (W.runS (As := [.int (S 7 pi), .int (nI gi)]) (rest := []) ⟨hx, hb, hml, hown, hts⟩ (kX1_contains l (S 7 pi) (nI gi)) (va_cwS 2 hts gX1_placePerson_X1_contains rfl rfl rfl (by decide +kernel) ⟨Nat.le_of_ble_eq_true rfl, Nat.le_of_ble_eq_true rfl⟩) zP_pre rfl rfl hl.1 rfl (lv_room (Nat.le_of_ble_eq_true rfl)) dX1_placePerson_7 ⟨Nat.zero_le _, Nat.zero_le _⟩) ?_
  refine lv_istore (lv' := [(4, .int (bi (hasB (S 7 pi) (nI gi)))), (0, .ref (X 1)), (1, .int (nI gi)), (2, .int (nI pi)), (3, .int (bi b0))]) hx hb dX1_placePerson_10 hl (by decide) rfl (fun ls hl => ?_)
  refine lv_aload_n hx hb dX1_placePerson_12 rfl (lv_at hl 1 rfl) ?_
  refine va_get (D := D) (ci := 1) (v := .ref (X 7)) (C := RX1) (T := TX1) (N := 4) hx hb hts i1 hown hK hP 1 rfl rfl 0 (by decide) fl_9 (fun _ h9 => h9) rfl dX1_placePerson_13 ?_
  refine lv_iload_n hx hb dX1_placePerson_16 rfl (lv_at hl 3 rfl) ?_
  refine lv_aload_n hx hb dX1_placePerson_17 rfl (lv_at hl 1 rfl) ?_
  refine va_get (D := D) (ci := 1) (v := .ref (X 7)) (C := RX1) (T := TX1) (N := 4) hx hb hts i1 hown hK hP 1 rfl rfl 0 (by decide) fl_9 (fun _ h9 => h9) rfl dX1_placePerson_18 ?_
  refine lv_iload_n hx hb dX1_placePerson_21 rfl (lv_at hl 3 rfl) ?_
  refine z_iald (D := D) (j := pi) (f := S 7) hx hb hK hP 7 0 rfl rfl (by omega) (by decide) dX1_placePerson_22 ?_
  refine lv_iload_n hx hb dX1_placePerson_23 rfl (lv_at hl 2 rfl) ?_
  refine lv_iload_n hx hb dX1_placePerson_24 rfl (lv_at hl 4 rfl) ?_
  refine z_callR (W.runS (As := [.int (S 7 pi), .int (nI gi), .int (bi b0)]) (rest := [.int (nI pi), .ref (X 7)]) ⟨hx, hb, hml, hown, hts⟩ (kX1_changed l (S 7 pi) (nI gi) b0) (va_cwS 3 hts gX1_placePerson_X1_changed rfl rfl rfl (by decide +kernel) ⟨Nat.le_of_ble_eq_true rfl, Nat.le_of_ble_eq_true rfl⟩) zP_pre rfl rfl hl.1 rfl (lv_room (Nat.le_of_ble_eq_true rfl)) dX1_placePerson_25 ⟨Nat.zero_le _, Nat.zero_le _⟩) ?_
  refine z_iast (D := D) (j := pi) (f := S 7) hx hb hK hP hD hS 7 0 rfl rfl (by omega) (by decide) dX1_placePerson_28 (fun H locs hP hD hS => ?_)
  have hP : va_P D vwCl (hW cI cZ X (va_up S 7 (upd (S 7) pi (c_changed (S 7 pi) (nI gi) b0))) O V) H := hP
  have hD : va_D A (hW cI cZ X (va_up S 7 (upd (S 7) pi (c_changed (S 7 pi) (nI gi) b0))) O V) := hD
  refine lv_iload hx hb dX1_placePerson_29 (lv_at hl 0 rfl) ?_
  exact z_wzret hx hb hr hlocks hP hK hD hS rfl dX1_placePerson_31

set_option maxHeartbeats 4000000 in
set_option maxRecDepth 100000 in
theorem kX1_placeGroup (l : Launch) (D : va_G) (cI cZ : ClassId) (X : Nat → Nat) (S : Nat → Nat → Int32) (O : Nat → Bool) (V : Nat → Int32) (sz : Nat) (gi : Nat) (ii : Nat) (b0 : Bool) (hgi : gi < 8) (hii : ii < 8) : Met l yX1_placeGroup wsX1_placeGroup ({ frames := 1, cells := 0, slots := 0, locals := 22 } : Room) (zW D (tyl cI cZ) (hW cI cZ X S O V) sz [.ref (X 1), .int (nI gi), .int (nI ii), .int (bi b0)]) (zQi D (tyl cI cZ) (hW cI cZ X (va_up S 8 (upd (S 8) ii (c_changed (S 8 ii) (nI gi) b0))) O V) (bi (hasB (S 8 ii) (nI gi))) (va_A (hW cI cZ X S O V) sz)) 0 0 (va_A (hW cI cZ X S O V) sz) := by
  refine Met.ofW (cc := cX1_placeGroup) (maxL := 5) (ret := (some .boolean)) (by decide) rfl ?_
  intro p e s m args below meth c s₁ B hml hv
  obtain ⟨rfl, hsz, hP, hK, hD0⟩ := hv
  have hx := B.exec
  have hb := B.bytes
  have hr := B.returns
  have hts := atoms_spec (ws := wsX1_placeGroup) B.pre
  have hown : s.vm.findClass RX1 = some m.cls := findClass_of_methodNamed B.named
  have hlocks := B.notSynchronized
  subst hsz
  have hD := hD0.self (sz := s.heap.size)
  generalize hAe : va_A (hW cI cZ X S O V) s.heap.size = A at hD ⊢
  have hA : ∀ q : Nat, s.heap.size ≤ q → A q := fun q h => by rw [← hAe]; exact Or.inr h
  have hS : va_S A s.heap s.heap [] := va_S.rf
  have i1 : ∀ w ∈ u_ws RX1 TX1 4, w ∈ wsX1_placeGroup := by decide +kernel
  have fl_15 := hts (.fieldLink RX1 15 "SignOnHouse$Groups" "homesOfGroup" "[I") (by decide +kernel)
  have hl := lv_entry ([.ref (X 1), .int (nI gi), .int (nI ii), .int (bi b0)]) (n := 5) (Nat.le_of_ble_eq_true rfl)
  rw [lg_entry_eq]
  generalize (lg_sl ([.ref (X 1), .int (nI gi), .int (nI ii), .int (bi b0)]) ++ List.replicate (5 - (lg_sl ([.ref (X 1), .int (nI gi), .int (nI ii), .int (bi b0)])).length) Slot.unset).toArray = ls at hl ⊢
  have hl : lv_has ls 5 [(0, .ref (X 1)), (1, .int (nI gi)), (2, .int (nI ii)), (3, .int (bi b0))] := hl
  refine lv_aload_n hx hb dX1_placeGroup_0 rfl (lv_at hl 0 rfl) ?_
  refine va_get (D := D) (ci := 1) (v := .ref (X 8)) (C := RX1) (T := TX1) (N := 4) hx hb hts i1 hown hK hP 1 rfl rfl 1 (by decide) fl_15 (fun _ h9 => h9) rfl dX1_placeGroup_1 ?_
  refine lv_iload_n hx hb dX1_placeGroup_4 rfl (lv_at hl 2 rfl) ?_
  refine z_iald (D := D) (j := ii) (f := S 8) hx hb hK hP 8 0 rfl rfl (by omega) (by decide) dX1_placeGroup_5 ?_
  refine lv_iload_n hx hb dX1_placeGroup_6 rfl (lv_at hl 1 rfl) ?_
  refine z_callR (W.runS (As := [.int (S 8 ii), .int (nI gi)]) (rest := []) ⟨hx, hb, hml, hown, hts⟩ (kX1_contains l (S 8 ii) (nI gi)) (va_cwS 2 hts gX1_placeGroup_X1_contains rfl rfl rfl (by decide +kernel) ⟨Nat.le_of_ble_eq_true rfl, Nat.le_of_ble_eq_true rfl⟩) zP_pre rfl rfl hl.1 rfl (lv_room (Nat.le_of_ble_eq_true rfl)) dX1_placeGroup_7 ⟨Nat.zero_le _, Nat.zero_le _⟩) ?_
  refine lv_istore (lv' := [(4, .int (bi (hasB (S 8 ii) (nI gi)))), (0, .ref (X 1)), (1, .int (nI gi)), (2, .int (nI ii)), (3, .int (bi b0))]) hx hb dX1_placeGroup_10 hl (by decide) rfl (fun ls hl => ?_)
  refine lv_aload_n hx hb dX1_placeGroup_12 rfl (lv_at hl 1 rfl) ?_
  refine va_get (D := D) (ci := 1) (v := .ref (X 8)) (C := RX1) (T := TX1) (N := 4) hx hb hts i1 hown hK hP 1 rfl rfl 1 (by decide) fl_15 (fun _ h9 => h9) rfl dX1_placeGroup_13 ?_
  refine lv_iload_n hx hb dX1_placeGroup_16 rfl (lv_at hl 3 rfl) ?_
  refine lv_aload_n hx hb dX1_placeGroup_17 rfl (lv_at hl 1 rfl) ?_
  refine va_get (D := D) (ci := 1) (v := .ref (X 8)) (C := RX1) (T := TX1) (N := 4) hx hb hts i1 hown hK hP 1 rfl rfl 1 (by decide) fl_15 (fun _ h9 => h9) rfl dX1_placeGroup_18 ?_
  refine lv_iload_n hx hb dX1_placeGroup_21 rfl (lv_at hl 3 rfl) ?_
  refine z_iald (D := D) (j := ii) (f := S 8) hx hb hK hP 8 0 rfl rfl (by omega) (by decide) dX1_placeGroup_22 ?_
  refine lv_iload_n hx hb dX1_placeGroup_23 rfl (lv_at hl 2 rfl) ?_
  refine lv_iload_n hx hb dX1_placeGroup_24 rfl (lv_at hl 4 rfl) ?_
  refine z_callR (W.runS (As := [.int (S 8 ii), .int (nI gi), .int (bi b0)]) (rest := [.int (nI ii), .ref (X 8)]) ⟨hx, hb, hml, hown, hts⟩ (kX1_changed l (S 8 ii) (nI gi) b0) (va_cwS 3 hts gX1_placeGroup_X1_changed rfl rfl rfl (by decide +kernel) ⟨Nat.le_of_ble_eq_true rfl, Nat.le_of_ble_eq_true rfl⟩) zP_pre rfl rfl hl.1 rfl (lv_room (Nat.le_of_ble_eq_true rfl)) dX1_placeGroup_25 ⟨Nat.zero_le _, Nat.zero_le _⟩) ?_
  refine z_iast (D := D) (j := ii) (f := S 8) hx hb hK hP hD hS 8 0 rfl rfl (by omega) (by decide) dX1_placeGroup_28 (fun H locs hP hD hS => ?_)
  have hP : va_P D vwCl (hW cI cZ X (va_up S 8 (upd (S 8) ii (c_changed (S 8 ii) (nI gi) b0))) O V) H := hP
  have hD : va_D A (hW cI cZ X (va_up S 8 (upd (S 8) ii (c_changed (S 8 ii) (nI gi) b0))) O V) := hD
  refine lv_iload hx hb dX1_placeGroup_29 (lv_at hl 0 rfl) ?_
  exact z_wzret hx hb hr hlocks hP hK hD hS rfl dX1_placeGroup_31

set_option maxHeartbeats 4000000 in
set_option maxRecDepth 100000 in
theorem kX1_giveRole (l : Launch) (D : va_G) (cI cZ : ClassId) (X : Nat → Nat) (S : Nat → Nat → Int32) (O : Nat → Bool) (V : Nat → Int32) (sz : Nat) (gi : Nat) (ri : Nat) (x0 : Int32) (hgi : gi < 8) (hri : ri < 6) : Met l yX1_giveRole wsX1_giveRole ({ frames := 2, cells := 0, slots := 0, locals := 43 } : Room) (zW D (tyl cI cZ) (hW cI cZ X S O V) sz [.ref (X 1), .int (nI gi), .int (nI ri), .int x0]) (zQi D (tyl cI cZ) (hW cI cZ X (va_up (va_up S 9 (upd (S 9) ri (c_changed (S 9 ri) (nI gi) (decide (x0 = 1))))) 10 (upd (S 10) ri (c_changed (S 10 ri) (nI gi) (decide (x0 = 2))))) O V) (c_roleOf S gi ri) (va_A (hW cI cZ X S O V) sz)) 0 0 (va_A (hW cI cZ X S O V) sz) := by
  refine Met.ofW (cc := cX1_giveRole) (maxL := 5) (ret := (some .int)) (by decide) rfl ?_
  intro p e s m args below meth c s₁ B hml hv
  obtain ⟨rfl, hsz, hP, hK, hD0⟩ := hv
  have hx := B.exec
  have hb := B.bytes
  have hr := B.returns
  have hts := atoms_spec (ws := wsX1_giveRole) B.pre
  have hown : s.vm.findClass RX1 = some m.cls := findClass_of_methodNamed B.named
  have hlocks := B.notSynchronized
  subst hsz
  have hD := hD0.self (sz := s.heap.size)
  generalize hAe : va_A (hW cI cZ X S O V) s.heap.size = A at hD ⊢
  have hA : ∀ q : Nat, s.heap.size ≤ q → A q := fun q h => by rw [← hAe]; exact Or.inr h
  have hS : va_S A s.heap s.heap [] := va_S.rf
  have i1 : ∀ w ∈ u_ws RX1 TX1 4, w ∈ wsX1_giveRole := by decide +kernel
  have fl_18 := hts (.fieldLink RX1 18 "SignOnHouse$Groups" "grantedOfRole" "[I") (by decide +kernel)
  have fl_21 := hts (.fieldLink RX1 21 "SignOnHouse$Groups" "deniedOfRole" "[I") (by decide +kernel)
  have hl := lv_entry ([.ref (X 1), .int (nI gi), .int (nI ri), .int x0]) (n := 5) (Nat.le_of_ble_eq_true rfl)
  rw [lg_entry_eq]
  generalize (lg_sl ([.ref (X 1), .int (nI gi), .int (nI ri), .int x0]) ++ List.replicate (5 - (lg_sl ([.ref (X 1), .int (nI gi), .int (nI ri), .int x0])).length) Slot.unset).toArray = ls at hl ⊢
  have hl : lv_has ls 5 [(0, .ref (X 1)), (1, .int (nI gi)), (2, .int (nI ri)), (3, .int x0)] := hl
  refine lv_aload_n hx hb dX1_giveRole_0 rfl (lv_at hl 0 rfl) ?_
  refine lv_iload_n hx hb dX1_giveRole_1 rfl (lv_at hl 1 rfl) ?_
  refine lv_iload_n hx hb dX1_giveRole_2 rfl (lv_at hl 2 rfl) ?_
  refine z_callR (W.runV (As := [.int (nI gi), .int (nI ri)]) (rest := []) ⟨hx, hb, hml, hown, hts⟩ (kX1_roleOf l D cI cZ X S O V gi ri (by omega) (by omega)) (cwV 2 hts gX1_giveRole_X1_roleOf rfl rfl rfl (by decide +kernel) ⟨Nat.le_of_ble_eq_true rfl, Nat.le_of_ble_eq_true rfl⟩) (zR_preV 1 1 hK hP rfl rfl) rfl rfl hl.1 rfl (lv_room (Nat.le_of_ble_eq_true rfl)) dX1_giveRole_3 ⟨Nat.zero_le _, Nat.zero_le _⟩) ?_
  refine lv_istore (lv' := [(4, .int (c_roleOf S gi ri)), (0, .ref (X 1)), (1, .int (nI gi)), (2, .int (nI ri)), (3, .int x0)]) hx hb dX1_giveRole_6 hl (by decide) rfl (fun ls hl => ?_)
  refine lv_aload_n hx hb dX1_giveRole_8 rfl (lv_at hl 1 rfl) ?_
  refine va_get (D := D) (ci := 1) (v := .ref (X 9)) (C := RX1) (T := TX1) (N := 4) hx hb hts i1 hown hK hP 1 rfl rfl 2 (by decide) fl_18 (fun _ h9 => h9) rfl dX1_giveRole_9 ?_
  refine lv_iload_n hx hb dX1_giveRole_12 rfl (lv_at hl 3 rfl) ?_
  refine lv_aload_n hx hb dX1_giveRole_13 rfl (lv_at hl 1 rfl) ?_
  refine va_get (D := D) (ci := 1) (v := .ref (X 9)) (C := RX1) (T := TX1) (N := 4) hx hb hts i1 hown hK hP 1 rfl rfl 2 (by decide) fl_18 (fun _ h9 => h9) rfl dX1_giveRole_14 ?_
  refine lv_iload_n hx hb dX1_giveRole_17 rfl (lv_at hl 3 rfl) ?_
  refine z_iald (D := D) (j := ri) (f := S 9) hx hb hK hP 9 0 rfl rfl (by omega) (by decide) dX1_giveRole_18 ?_
  refine lv_iload_n hx hb dX1_giveRole_19 rfl (lv_at hl 2 rfl) ?_
  refine lv_iload_n hx hb dX1_giveRole_20 rfl (lv_at hl 4 rfl) ?_
  refine lv_iconst (v := 1) hx hb dX1_giveRole_21 rfl ?_
  refine z_sel_icmp_ne hx hb dX1_giveRole_22 dX1_giveRole_25 dX1_giveRole_26 dX1_giveRole_29 ?_
  refine z_callR (W.runS (As := [.int (S 9 ri), .int (nI gi), .int (bi (decide (x0 = 1)))]) (rest := [.int (nI ri), .ref (X 9)]) ⟨hx, hb, hml, hown, hts⟩ (kX1_changed l (S 9 ri) (nI gi) (decide (x0 = 1))) (va_cwS 3 hts gX1_giveRole_X1_changed rfl rfl rfl (by decide +kernel) ⟨Nat.le_of_ble_eq_true rfl, Nat.le_of_ble_eq_true rfl⟩) zP_pre rfl rfl hl.1 rfl (lv_room (Nat.le_of_ble_eq_true rfl)) dX1_giveRole_30 ⟨Nat.zero_le _, Nat.zero_le _⟩) ?_
  refine z_iast (D := D) (j := ri) (f := S 9) hx hb hK hP hD hS 9 0 rfl rfl (by omega) (by decide) dX1_giveRole_33 (fun H locs hP hD hS => ?_)
  have hP : va_P D vwCl (hW cI cZ X (va_up S 9 (upd (S 9) ri (c_changed (S 9 ri) (nI gi) (decide (x0 = 1))))) O V) H := hP
  have hD : va_D A (hW cI cZ X (va_up S 9 (upd (S 9) ri (c_changed (S 9 ri) (nI gi) (decide (x0 = 1))))) O V) := hD
  refine lv_aload_n hx hb dX1_giveRole_34 rfl (lv_at hl 1 rfl) ?_
  refine va_get (D := D) (ci := 1) (v := .ref (X 10)) (C := RX1) (T := TX1) (N := 4) hx hb hts i1 hown hK hP 1 rfl rfl 3 (by decide) fl_21 (fun _ h9 => h9) rfl dX1_giveRole_35 ?_
  refine lv_iload_n hx hb dX1_giveRole_38 rfl (lv_at hl 3 rfl) ?_
  refine lv_aload_n hx hb dX1_giveRole_39 rfl (lv_at hl 1 rfl) ?_
  refine va_get (D := D) (ci := 1) (v := .ref (X 10)) (C := RX1) (T := TX1) (N := 4) hx hb hts i1 hown hK hP 1 rfl rfl 3 (by decide) fl_21 (fun _ h9 => h9) rfl dX1_giveRole_40 ?_
  refine lv_iload_n hx hb dX1_giveRole_43 rfl (lv_at hl 3 rfl) ?_
  refine z_iald (D := D) (j := ri) (f := S 10) hx hb hK hP 10 0 rfl rfl (by omega) (by decide) dX1_giveRole_44 ?_
  refine lv_iload_n hx hb dX1_giveRole_45 rfl (lv_at hl 2 rfl) ?_
  refine lv_iload_n hx hb dX1_giveRole_46 rfl (lv_at hl 4 rfl) ?_
  refine lv_iconst (v := 2) hx hb dX1_giveRole_47 rfl ?_
  refine z_sel_icmp_ne hx hb dX1_giveRole_48 dX1_giveRole_51 dX1_giveRole_52 dX1_giveRole_55 ?_
  refine z_callR (W.runS (As := [.int (S 10 ri), .int (nI gi), .int (bi (decide (x0 = 2)))]) (rest := [.int (nI ri), .ref (X 10)]) ⟨hx, hb, hml, hown, hts⟩ (kX1_changed l (S 10 ri) (nI gi) (decide (x0 = 2))) (va_cwS 3 hts gX1_giveRole_X1_changed rfl rfl rfl (by decide +kernel) ⟨Nat.le_of_ble_eq_true rfl, Nat.le_of_ble_eq_true rfl⟩) zP_pre rfl rfl hl.1 rfl (lv_room (Nat.le_of_ble_eq_true rfl)) dX1_giveRole_56 ⟨Nat.zero_le _, Nat.zero_le _⟩) ?_
  refine z_iast (D := D) (j := ri) (f := S 10) hx hb hK hP hD hS 10 0 rfl rfl (by omega) (by decide) dX1_giveRole_59 (fun H locs hP hD hS => ?_)
  have hP : va_P D vwCl (hW cI cZ X (va_up (va_up S 9 (upd (S 9) ri (c_changed (S 9 ri) (nI gi) (decide (x0 = 1))))) 10 (upd (S 10) ri (c_changed (S 10 ri) (nI gi) (decide (x0 = 2))))) O V) H := hP
  have hD : va_D A (hW cI cZ X (va_up (va_up S 9 (upd (S 9) ri (c_changed (S 9 ri) (nI gi) (decide (x0 = 1))))) 10 (upd (S 10) ri (c_changed (S 10 ri) (nI gi) (decide (x0 = 2))))) O V) := hD
  refine lv_iload hx hb dX1_giveRole_60 (lv_at hl 0 rfl) ?_
  exact z_wret hx hb hr hlocks hP hK hD hS rfl dX1_giveRole_62
end
section
set_option maxHeartbeats 4000000 in
set_option maxRecDepth 100000 in
theorem kX2_signing (l : Launch) (D : va_G) (cI cZ : ClassId) (X : Nat → Nat) (S : Nat → Nat → Int32) (O : Nat → Bool) (V : Nat → Int32)  : Met l yX2_signing wsX2_signing ({ frames := 0, cells := 0, slots := 0, locals := 0 } : Room) (zR D (tyl cI cZ) (hW cI cZ X S O V) [.ref (X 3)]) (QcRead (V 2)) 0 0 (fun _ => False) := by
  refine Met.ofW (cc := cX2_signing) (maxL := 1) (ret := (some .int)) (by decide) rfl ?_
  intro p e s m args below meth c s₁ B hml hv
  obtain ⟨rfl, hP, hK⟩ := hv
  have hx := B.exec
  have hb := B.bytes
  have hr := B.returns
  have hts := atoms_spec (ws := wsX2_signing) B.pre
  have hown : s.vm.findClass RX2 = some m.cls := findClass_of_methodNamed B.named
  have hlocks := B.notSynchronized
  have i2 : ∀ w ∈ u_ws RX2 TX2 2, w ∈ wsX2_signing := by decide +kernel
  have fl_7 := hts (.fieldLink RX2 7 "SignOnHouse$Keys" "signing" "I") (by decide +kernel)
  have hl := lv_entry ([.ref (X 3)]) (n := 1) (Nat.le_of_ble_eq_true rfl)
  rw [lg_entry_eq]
  generalize (lg_sl ([.ref (X 3)]) ++ List.replicate (1 - (lg_sl ([.ref (X 3)])).length) Slot.unset).toArray = ls at hl ⊢
  have hl : lv_has ls 1 [(0, .ref (X 3))] := hl
  refine lv_aload_n hx hb dX2_signing_0 rfl (lv_at hl 0 rfl) ?_
  refine va_get (D := D) (ci := 2) (v := .int (V 2)) (C := RX2) (T := TX2) (N := 2) hx hb hts i2 hown hK hP 3 rfl rfl 0 (by decide) fl_7 (fun _ h9 => h9) rfl dX2_signing_1 ?_
  exact z_ret hx hb hr hlocks rfl dX2_signing_4

set_option maxHeartbeats 4000000 in
set_option maxRecDepth 100000 in
theorem kX2_signWithNext (l : Launch) (D : va_G) (cI cZ : ClassId) (X : Nat → Nat) (S : Nat → Nat → Int32) (O : Nat → Bool) (V : Nat → Int32) (sz : Nat) (x0 : Int32) : Met l yX2_signWithNext wsX2_signWithNext ({ frames := 0, cells := 0, slots := 0, locals := 0 } : Room) (zW D (tyl cI cZ) (hW cI cZ X S O V) sz [.ref (X 3), .int x0]) (zQv D (tyl cI cZ) (hW cI cZ X S O (va_up (va_up V 2 (V 2 + 1)) 3 x0)) (va_A (hW cI cZ X S O V) sz)) 0 0 (va_A (hW cI cZ X S O V) sz) := by
  refine Met.ofW (cc := cX2_signWithNext) (maxL := 2) (ret := none) (by decide) rfl ?_
  intro p e s m args below meth c s₁ B hml hv
  obtain ⟨rfl, hsz, hP, hK, hD0⟩ := hv
  have hx := B.exec
  have hb := B.bytes
  have hr := B.returns
  have hts := atoms_spec (ws := wsX2_signWithNext) B.pre
  have hown : s.vm.findClass RX2 = some m.cls := findClass_of_methodNamed B.named
  have hlocks := B.notSynchronized
  subst hsz
  have hD := hD0.self (sz := s.heap.size)
  generalize hAe : va_A (hW cI cZ X S O V) s.heap.size = A at hD ⊢
  have hA : ∀ q : Nat, s.heap.size ≤ q → A q := fun q h => by rw [← hAe]; exact Or.inr h
  have hS : va_S A s.heap s.heap [] := va_S.rf
  have i2 : ∀ w ∈ u_ws RX2 TX2 2, w ∈ wsX2_signWithNext := by decide +kernel
  have fl_7 := hts (.fieldLink RX2 7 "SignOnHouse$Keys" "signing" "I") (by decide +kernel)
  have fl_13 := hts (.fieldLink RX2 13 "SignOnHouse$Keys" "endOfBefore" "I") (by decide +kernel)
  have hl := lv_entry ([.ref (X 3), .int x0]) (n := 2) (Nat.le_of_ble_eq_true rfl)
  rw [lg_entry_eq]
  generalize (lg_sl ([.ref (X 3), .int x0]) ++ List.replicate (2 - (lg_sl ([.ref (X 3), .int x0])).length) Slot.unset).toArray = ls at hl ⊢
  have hl : lv_has ls 2 [(0, .ref (X 3)), (1, .int x0)] := hl
  refine lv_aload_n hx hb dX2_signWithNext_0 rfl (lv_at hl 0 rfl) ?_
  refine lv_dup hx hb dX2_signWithNext_1 rfl ?_
  refine va_get (D := D) (ci := 2) (v := .int (V 2)) (C := RX2) (T := TX2) (N := 2) hx hb hts i2 hown hK hP 3 rfl rfl 0 (by decide) fl_7 (fun _ h9 => h9) rfl dX2_signWithNext_2 ?_
  refine lv_iconst (v := 1) hx hb dX2_signWithNext_5 rfl ?_
  refine lv_iadd hx hb dX2_signWithNext_6 ?_
  refine va_put (D := D) (ci := 2) (v := .int ((V 2) + 1)) (ty := .int) (C := RX2) (T := TX2) (N := 2) hx hb hts i2 tyX2 tyX2_ok nmX2 hown hK hP hD hS 3 rfl rfl 0 (by decide) fl_7 (fun _ h9 => h9) rfl (by decide +kernel) rfl rfl (Nat.le_of_ble_eq_true rfl) dX2_signWithNext_7 (fun H locs hP hD hS => ?_)
  have hP : va_P D vwCl (hW cI cZ X S O (va_up V 2 ((V 2) + 1))) H := hP
  have hD : va_D A (hW cI cZ X S O (va_up V 2 ((V 2) + 1))) := hD
  refine lv_aload_n hx hb dX2_signWithNext_10 rfl (lv_at hl 0 rfl) ?_
  refine lv_iload_n hx hb dX2_signWithNext_11 rfl (lv_at hl 1 rfl) ?_
  refine va_put (D := D) (ci := 2) (v := .int x0) (ty := .int) (C := RX2) (T := TX2) (N := 2) hx hb hts i2 tyX2 tyX2_ok nmX2 hown hK hP hD hS 3 rfl rfl 1 (by decide) fl_13 (fun _ h9 => h9) rfl (by decide +kernel) rfl rfl (Nat.le_of_ble_eq_true rfl) dX2_signWithNext_12 (fun H locs hP hD hS => ?_)
  have hP : va_P D vwCl (hW cI cZ X S O (va_up (va_up V 2 ((V 2) + 1)) 3 x0)) H := hP
  have hD : va_D A (hW cI cZ X S O (va_up (va_up V 2 ((V 2) + 1)) 3 x0)) := hD
  have eV : (va_up (va_up V 2 (V 2 + 1)) 3 x0) = (va_up (va_up V 2 ((V 2) + 1)) 3 x0) := by rfl
  exact z_wvret hx hb hr hlocks (by rw [eV]; exact hP) hK (by rw [eV]; exact hD) hS dX2_signWithNext_15

set_option maxHeartbeats 4000000 in
set_option maxRecDepth 100000 in
theorem kX2_takes (l : Launch) (D : va_G) (cI cZ : ClassId) (X : Nat → Nat) (S : Nat → Nat → Int32) (O : Nat → Bool) (V : Nat → Int32) (x0 : Int32) (x1 : Int32) : Met l yX2_takes wsX2_takes ({ frames := 0, cells := 0, slots := 0, locals := 0 } : Room) (zR D (tyl cI cZ) (hW cI cZ X S O V) [.ref (X 3), .int x0, .int x1]) (QcRead (bi (c_takes V x0 x1))) 0 0 (fun _ => False) := by
  refine Met.ofW (cc := cX2_takes) (maxL := 3) (ret := (some .boolean)) (by decide) rfl ?_
  intro p e s m args below meth c s₁ B hml hv
  obtain ⟨rfl, hP, hK⟩ := hv
  have hx := B.exec
  have hb := B.bytes
  have hr := B.returns
  have hts := atoms_spec (ws := wsX2_takes) B.pre
  have hown : s.vm.findClass RX2 = some m.cls := findClass_of_methodNamed B.named
  have hlocks := B.notSynchronized
  have i2 : ∀ w ∈ u_ws RX2 TX2 2, w ∈ wsX2_takes := by decide +kernel
  have fl_7 := hts (.fieldLink RX2 7 "SignOnHouse$Keys" "signing" "I") (by decide +kernel)
  have fl_13 := hts (.fieldLink RX2 13 "SignOnHouse$Keys" "endOfBefore" "I") (by decide +kernel)
  have hl := lv_entry ([.ref (X 3), .int x0, .int x1]) (n := 3) (Nat.le_of_ble_eq_true rfl)
  rw [lg_entry_eq]
  generalize (lg_sl ([.ref (X 3), .int x0, .int x1]) ++ List.replicate (3 - (lg_sl ([.ref (X 3), .int x0, .int x1])).length) Slot.unset).toArray = ls at hl ⊢
  have hl : lv_has ls 3 [(0, .ref (X 3)), (1, .int x0), (2, .int x1)] := hl
  refine lv_iload_n hx hb dX2_takes_0 rfl (lv_at hl 1 rfl) ?_
  refine lv_aload_n hx hb dX2_takes_1 rfl (lv_at hl 0 rfl) ?_
  refine va_get (D := D) (ci := 2) (v := .int (V 2)) (C := RX2) (T := TX2) (N := 2) hx hb hts i2 hown hK hP 3 rfl rfl 0 (by decide) fl_7 (fun _ h9 => h9) rfl dX2_takes_2 ?_
  refine lv_icmp_eq (tgt := 26) hx hb dX2_takes_5 (by decide) (fun c_5 => ?_) (fun c_5 => ?_)
  · refine lv_iconst (v := 1) hx hb dX2_takes_26 rfl ?_
    refine lv_goto (tgt := 31) hx hb dX2_takes_27 (by decide) ?_
    exact z_zret hx hb hr hlocks (by simp [c_takes, bi, (eq_true c_5)]) dX2_takes_31
  · refine lv_iload_n hx hb dX2_takes_8 rfl (lv_at hl 1 rfl) ?_
    refine lv_aload_n hx hb dX2_takes_9 rfl (lv_at hl 0 rfl) ?_
    refine va_get (D := D) (ci := 2) (v := .int (V 2)) (C := RX2) (T := TX2) (N := 2) hx hb hts i2 hown hK hP 3 rfl rfl 0 (by decide) fl_7 (fun _ h9 => h9) rfl dX2_takes_10 ?_
    refine lv_iconst (v := 1) hx hb dX2_takes_13 rfl ?_
    refine lv_isub hx hb dX2_takes_14 ?_
    refine lv_icmp_ne (tgt := 30) hx hb dX2_takes_15 (by decide) (fun c_15 => ?_) (fun c_15 => ?_)
    · refine lv_iconst (v := 0) hx hb dX2_takes_30 rfl ?_
      exact z_zret hx hb hr hlocks (by simp [c_takes, bi, c_5, c_15]) dX2_takes_31
    · refine lv_iload_n hx hb dX2_takes_18 rfl (lv_at hl 2 rfl) ?_
      refine lv_aload_n hx hb dX2_takes_19 rfl (lv_at hl 0 rfl) ?_
      refine va_get (D := D) (ci := 2) (v := .int (V 3)) (C := RX2) (T := TX2) (N := 2) hx hb hts i2 hown hK hP 3 rfl rfl 1 (by decide) fl_13 (fun _ h9 => h9) rfl dX2_takes_20 ?_
      refine z_sel_icmp_ge hx hb dX2_takes_23 dX2_takes_26 dX2_takes_27 dX2_takes_30 ?_
      exact z_zret hx hb hr hlocks (by simp [c_takes, bi, c_5, (eq_true c_15)]) dX2_takes_31

set_option maxHeartbeats 4000000 in
set_option maxRecDepth 100000 in
theorem kX3_areAllOpened (l : Launch) (D : va_G) (cI cZ : ClassId) (X : Nat → Nat) (S : Nat → Nat → Int32) (O : Nat → Bool) (V : Nat → Int32)  : Met l yX3_areAllOpened wsX3_areAllOpened ({ frames := 0, cells := 0, slots := 0, locals := 0 } : Room) (zR D (tyl cI cZ) (hW cI cZ X S O V) [.ref (X 2)]) (QcRead (bi (!decide (V 1 < 30)))) 0 0 (fun _ => False) := by
  refine Met.ofW (cc := cX3_areAllOpened) (maxL := 1) (ret := (some .boolean)) (by decide) rfl ?_
  intro p e s m args below meth c s₁ B hml hv
  obtain ⟨rfl, hP, hK⟩ := hv
  have hx := B.exec
  have hb := B.bytes
  have hr := B.returns
  have hts := atoms_spec (ws := wsX3_areAllOpened) B.pre
  have hown : s.vm.findClass RX3 = some m.cls := findClass_of_methodNamed B.named
  have hlocks := B.notSynchronized
  have i3 : ∀ w ∈ u_ws RX3 TX3 6, w ∈ wsX3_areAllOpened := by decide +kernel
  have fl_26 := hts (.fieldLink RX3 26 "SignOnHouse$Sessions" "count" "I") (by decide +kernel)
  have hl := lv_entry ([.ref (X 2)]) (n := 1) (Nat.le_of_ble_eq_true rfl)
  rw [lg_entry_eq]
  generalize (lg_sl ([.ref (X 2)]) ++ List.replicate (1 - (lg_sl ([.ref (X 2)])).length) Slot.unset).toArray = ls at hl ⊢
  have hl : lv_has ls 1 [(0, .ref (X 2))] := hl
  refine lv_aload_n hx hb dX3_areAllOpened_0 rfl (lv_at hl 0 rfl) ?_
  refine va_get (D := D) (ci := 3) (v := .int (V 1)) (C := RX3) (T := TX3) (N := 6) hx hb hts i3 hown hK hP 2 rfl rfl 5 (by decide) fl_26 (fun _ h9 => h9) rfl dX3_areAllOpened_1 ?_
  refine lv_bipush (v := 30) hx hb dX3_areAllOpened_4 (by decide) ?_
  refine z_sel_icmp_lt hx hb dX3_areAllOpened_6 dX3_areAllOpened_9 dX3_areAllOpened_10 dX3_areAllOpened_13 ?_
  exact z_zret hx hb hr hlocks rfl dX3_areAllOpened_14

set_option maxHeartbeats 4000000 in
set_option maxRecDepth 100000 in
theorem kX3_has (l : Launch) (D : va_G) (cI cZ : ClassId) (X : Nat → Nat) (S : Nat → Nat → Int32) (O : Nat → Bool) (V : Nat → Int32) (x0 : Int32) : Met l yX3_has wsX3_has ({ frames := 0, cells := 0, slots := 0, locals := 0 } : Room) (zR D (tyl cI cZ) (hW cI cZ X S O V) [.ref (X 2), .int x0]) (QcRead (bi (c_has V x0))) 0 0 (fun _ => False) := by
  refine Met.ofW (cc := cX3_has) (maxL := 2) (ret := (some .boolean)) (by decide) rfl ?_
  intro p e s m args below meth c s₁ B hml hv
  obtain ⟨rfl, hP, hK⟩ := hv
  have hx := B.exec
  have hb := B.bytes
  have hr := B.returns
  have hts := atoms_spec (ws := wsX3_has) B.pre
  have hown : s.vm.findClass RX3 = some m.cls := findClass_of_methodNamed B.named
  have hlocks := B.notSynchronized
  have i3 : ∀ w ∈ u_ws RX3 TX3 6, w ∈ wsX3_has := by decide +kernel
  have fl_26 := hts (.fieldLink RX3 26 "SignOnHouse$Sessions" "count" "I") (by decide +kernel)
  have hl := lv_entry ([.ref (X 2), .int x0]) (n := 2) (Nat.le_of_ble_eq_true rfl)
  rw [lg_entry_eq]
  generalize (lg_sl ([.ref (X 2), .int x0]) ++ List.replicate (2 - (lg_sl ([.ref (X 2), .int x0])).length) Slot.unset).toArray = ls at hl ⊢
  have hl : lv_has ls 2 [(0, .ref (X 2)), (1, .int x0)] := hl
  refine lv_iload_n hx hb dX3_has_0 rfl (lv_at hl 1 rfl) ?_
  refine lv_if_lt (tgt := 16) hx hb dX3_has_1 (by decide) (fun c_1 => ?_) (fun c_1 => ?_)
  · refine lv_iconst (v := 0) hx hb dX3_has_16 rfl ?_
    exact z_zret hx hb hr hlocks (by simp [c_has, bi, c_1]) dX3_has_17
  · refine lv_iload_n hx hb dX3_has_4 rfl (lv_at hl 1 rfl) ?_
    refine lv_aload_n hx hb dX3_has_5 rfl (lv_at hl 0 rfl) ?_
    refine va_get (D := D) (ci := 3) (v := .int (V 1)) (C := RX3) (T := TX3) (N := 6) hx hb hts i3 hown hK hP 2 rfl rfl 5 (by decide) fl_26 (fun _ h9 => h9) rfl dX3_has_6 ?_
    refine z_sel_icmp_ge hx hb dX3_has_9 dX3_has_12 dX3_has_13 dX3_has_16 ?_
    exact z_zret hx hb hr hlocks (by simp [c_has, bi, c_1]) dX3_has_17

set_option maxHeartbeats 4000000 in
set_option maxRecDepth 100000 in
theorem kX3_add (l : Launch) (D : va_G) (cI cZ : ClassId) (X : Nat → Nat) (S : Nat → Nat → Int32) (O : Nat → Bool) (V : Nat → Int32) (sz : Nat) (x0 : Int32) (x1 : Int32) (x2 : Int32) (n0 : Nat) (hn0 : n0 < 30) (hct : V 1 = nI n0) : Met l yX3_add wsX3_add ({ frames := 0, cells := 0, slots := 0, locals := 0 } : Room) (zW D (tyl cI cZ) (hW cI cZ X S O V) sz [.ref (X 2), .int x0, .int x1, .int x2]) (zQi D (tyl cI cZ) (hW cI cZ X (va_up (va_up (va_up (va_up S 11 (upd (S 11) n0 x0)) 12 (upd (S 12) n0 x1)) 13 (upd (S 13) n0 x2)) 14 (upd (S 14) n0 x2)) O (va_up V 1 (V 1 + 1))) (nI n0) (va_A (hW cI cZ X S O V) sz)) 0 0 (va_A (hW cI cZ X S O V) sz) := by
  refine Met.ofW (cc := cX3_add) (maxL := 5) (ret := (some .int)) (by decide) rfl ?_
  intro p e s m args below meth c s₁ B hml hv
  obtain ⟨rfl, hsz, hP, hK, hD0⟩ := hv
  have hx := B.exec
  have hb := B.bytes
  have hr := B.returns
  have hts := atoms_spec (ws := wsX3_add) B.pre
  have hown : s.vm.findClass RX3 = some m.cls := findClass_of_methodNamed B.named
  have hlocks := B.notSynchronized
  subst hsz
  have hD := hD0.self (sz := s.heap.size)
  generalize hAe : va_A (hW cI cZ X S O V) s.heap.size = A at hD ⊢
  have hA : ∀ q : Nat, s.heap.size ≤ q → A q := fun q h => by rw [← hAe]; exact Or.inr h
  have hS : va_S A s.heap s.heap [] := va_S.rf
  have i3 : ∀ w ∈ u_ws RX3 TX3 6, w ∈ wsX3_add := by decide +kernel
  have fl_9 := hts (.fieldLink RX3 9 "SignOnHouse$Sessions" "people" "[I") (by decide +kernel)
  have fl_13 := hts (.fieldLink RX3 13 "SignOnHouse$Sessions" "signedWith" "[I") (by decide +kernel)
  have fl_16 := hts (.fieldLink RX3 16 "SignOnHouse$Sessions" "openedAt" "[I") (by decide +kernel)
  have fl_19 := hts (.fieldLink RX3 19 "SignOnHouse$Sessions" "usedAt" "[I") (by decide +kernel)
  have fl_26 := hts (.fieldLink RX3 26 "SignOnHouse$Sessions" "count" "I") (by decide +kernel)
  have hl := lv_entry ([.ref (X 2), .int x0, .int x1, .int x2]) (n := 5) (Nat.le_of_ble_eq_true rfl)
  rw [lg_entry_eq]
  generalize (lg_sl ([.ref (X 2), .int x0, .int x1, .int x2]) ++ List.replicate (5 - (lg_sl ([.ref (X 2), .int x0, .int x1, .int x2])).length) Slot.unset).toArray = ls at hl ⊢
  have hl : lv_has ls 5 [(0, .ref (X 2)), (1, .int x0), (2, .int x1), (3, .int x2)] := hl
  refine lv_aload_n hx hb dX3_add_0 rfl (lv_at hl 0 rfl) ?_
  refine va_get (D := D) (ci := 3) (v := .int (V 1)) (C := RX3) (T := TX3) (N := 6) hx hb hts i3 hown hK hP 2 rfl rfl 5 (by decide) fl_26 (fun _ h9 => h9) rfl dX3_add_1 ?_
  refine z_top (nI n0) hct ?_
  refine lv_istore (lv' := [(4, .int (nI n0)), (0, .ref (X 2)), (1, .int x0), (2, .int x1), (3, .int x2)]) hx hb dX3_add_4 hl (by decide) rfl (fun ls hl => ?_)
  refine lv_aload_n hx hb dX3_add_6 rfl (lv_at hl 1 rfl) ?_
  refine va_get (D := D) (ci := 3) (v := .ref (X 11)) (C := RX3) (T := TX3) (N := 6) hx hb hts i3 hown hK hP 2 rfl rfl 0 (by decide) fl_9 (fun _ h9 => h9) rfl dX3_add_7 ?_
  refine lv_iload hx hb dX3_add_10 (lv_at hl 0 rfl) ?_
  refine lv_iload_n hx hb dX3_add_12 rfl (lv_at hl 2 rfl) ?_
  refine z_iast (D := D) (j := n0) (f := S 11) hx hb hK hP hD hS 11 0 rfl rfl (by omega) (by decide) dX3_add_13 (fun H locs hP hD hS => ?_)
  have hP : va_P D vwCl (hW cI cZ X (va_up S 11 (upd (S 11) n0 x0)) O V) H := hP
  have hD : va_D A (hW cI cZ X (va_up S 11 (upd (S 11) n0 x0)) O V) := hD
  refine lv_aload_n hx hb dX3_add_14 rfl (lv_at hl 1 rfl) ?_
  refine va_get (D := D) (ci := 3) (v := .ref (X 12)) (C := RX3) (T := TX3) (N := 6) hx hb hts i3 hown hK hP 2 rfl rfl 1 (by decide) fl_13 (fun _ h9 => h9) rfl dX3_add_15 ?_
  refine lv_iload hx hb dX3_add_18 (lv_at hl 0 rfl) ?_
  refine lv_iload_n hx hb dX3_add_20 rfl (lv_at hl 3 rfl) ?_
  refine z_iast (D := D) (j := n0) (f := S 12) hx hb hK hP hD hS 12 0 rfl rfl (by omega) (by decide) dX3_add_21 (fun H locs hP hD hS => ?_)
  have hP : va_P D vwCl (hW cI cZ X (va_up (va_up S 11 (upd (S 11) n0 x0)) 12 (upd (S 12) n0 x1)) O V) H := hP
  have hD : va_D A (hW cI cZ X (va_up (va_up S 11 (upd (S 11) n0 x0)) 12 (upd (S 12) n0 x1)) O V) := hD
  refine lv_aload_n hx hb dX3_add_22 rfl (lv_at hl 1 rfl) ?_
  refine va_get (D := D) (ci := 3) (v := .ref (X 13)) (C := RX3) (T := TX3) (N := 6) hx hb hts i3 hown hK hP 2 rfl rfl 2 (by decide) fl_16 (fun _ h9 => h9) rfl dX3_add_23 ?_
  refine lv_iload hx hb dX3_add_26 (lv_at hl 0 rfl) ?_
  refine lv_iload_n hx hb dX3_add_28 rfl (lv_at hl 4 rfl) ?_
  refine z_iast (D := D) (j := n0) (f := S 13) hx hb hK hP hD hS 13 0 rfl rfl (by omega) (by decide) dX3_add_29 (fun H locs hP hD hS => ?_)
  have hP : va_P D vwCl (hW cI cZ X (va_up (va_up (va_up S 11 (upd (S 11) n0 x0)) 12 (upd (S 12) n0 x1)) 13 (upd (S 13) n0 x2)) O V) H := hP
  have hD : va_D A (hW cI cZ X (va_up (va_up (va_up S 11 (upd (S 11) n0 x0)) 12 (upd (S 12) n0 x1)) 13 (upd (S 13) n0 x2)) O V) := hD
  refine lv_aload_n hx hb dX3_add_30 rfl (lv_at hl 1 rfl) ?_
  refine va_get (D := D) (ci := 3) (v := .ref (X 14)) (C := RX3) (T := TX3) (N := 6) hx hb hts i3 hown hK hP 2 rfl rfl 3 (by decide) fl_19 (fun _ h9 => h9) rfl dX3_add_31 ?_
  refine lv_iload hx hb dX3_add_34 (lv_at hl 0 rfl) ?_
  refine lv_iload_n hx hb dX3_add_36 rfl (lv_at hl 4 rfl) ?_
  refine z_iast (D := D) (j := n0) (f := S 14) hx hb hK hP hD hS 14 0 rfl rfl (by omega) (by decide) dX3_add_37 (fun H locs hP hD hS => ?_)
  have hP : va_P D vwCl (hW cI cZ X (va_up (va_up (va_up (va_up S 11 (upd (S 11) n0 x0)) 12 (upd (S 12) n0 x1)) 13 (upd (S 13) n0 x2)) 14 (upd (S 14) n0 x2)) O V) H := hP
  have hD : va_D A (hW cI cZ X (va_up (va_up (va_up (va_up S 11 (upd (S 11) n0 x0)) 12 (upd (S 12) n0 x1)) 13 (upd (S 13) n0 x2)) 14 (upd (S 14) n0 x2)) O V) := hD
  refine lv_aload_n hx hb dX3_add_38 rfl (lv_at hl 1 rfl) ?_
  refine lv_dup hx hb dX3_add_39 rfl ?_
  refine va_get (D := D) (ci := 3) (v := .int (V 1)) (C := RX3) (T := TX3) (N := 6) hx hb hts i3 hown hK hP 2 rfl rfl 5 (by decide) fl_26 (fun _ h9 => h9) rfl dX3_add_40 ?_
  refine lv_iconst (v := 1) hx hb dX3_add_43 rfl ?_
  refine lv_iadd hx hb dX3_add_44 ?_
  refine va_put (D := D) (ci := 3) (v := .int ((V 1) + 1)) (ty := .int) (C := RX3) (T := TX3) (N := 6) hx hb hts i3 tyX3 tyX3_ok nmX3 hown hK hP hD hS 2 rfl rfl 5 (by decide) fl_26 (fun _ h9 => h9) rfl (by decide +kernel) rfl rfl (Nat.le_of_ble_eq_true rfl) dX3_add_45 (fun H locs hP hD hS => ?_)
  have hP : va_P D vwCl (hW cI cZ X (va_up (va_up (va_up (va_up S 11 (upd (S 11) n0 x0)) 12 (upd (S 12) n0 x1)) 13 (upd (S 13) n0 x2)) 14 (upd (S 14) n0 x2)) O (va_up V 1 ((V 1) + 1))) H := hP
  have hD : va_D A (hW cI cZ X (va_up (va_up (va_up (va_up S 11 (upd (S 11) n0 x0)) 12 (upd (S 12) n0 x1)) 13 (upd (S 13) n0 x2)) 14 (upd (S 14) n0 x2)) O (va_up V 1 ((V 1) + 1))) := hD
  refine lv_iload hx hb dX3_add_48 (lv_at hl 0 rfl) ?_
  have eV : (va_up V 1 (V 1 + 1)) = (va_up V 1 ((V 1) + 1)) := by rfl
  exact z_wret hx hb hr hlocks (by rw [eV]; exact hP) hK (by rw [eV]; exact hD) hS rfl dX3_add_50

set_option maxHeartbeats 4000000 in
set_option maxRecDepth 100000 in
theorem kX3_isOver (l : Launch) (D : va_G) (cI cZ : ClassId) (X : Nat → Nat) (S : Nat → Nat → Int32) (O : Nat → Bool) (V : Nat → Int32) (si : Nat) (hsi : si < 30) : Met l yX3_isOver wsX3_isOver ({ frames := 0, cells := 0, slots := 0, locals := 0 } : Room) (zR D (tyl cI cZ) (hW cI cZ X S O V) [.ref (X 2), .int (nI si)]) (QcRead (bi (O si))) 0 0 (fun _ => False) := by
  refine Met.ofW (cc := cX3_isOver) (maxL := 2) (ret := (some .boolean)) (by decide) rfl ?_
  intro p e s m args below meth c s₁ B hml hv
  obtain ⟨rfl, hP, hK⟩ := hv
  have hx := B.exec
  have hb := B.bytes
  have hr := B.returns
  have hts := atoms_spec (ws := wsX3_isOver) B.pre
  have hown : s.vm.findClass RX3 = some m.cls := findClass_of_methodNamed B.named
  have hlocks := B.notSynchronized
  have i3 : ∀ w ∈ u_ws RX3 TX3 6, w ∈ wsX3_isOver := by decide +kernel
  have fl_22 := hts (.fieldLink RX3 22 "SignOnHouse$Sessions" "over" "[Z") (by decide +kernel)
  have hl := lv_entry ([.ref (X 2), .int (nI si)]) (n := 2) (Nat.le_of_ble_eq_true rfl)
  rw [lg_entry_eq]
  generalize (lg_sl ([.ref (X 2), .int (nI si)]) ++ List.replicate (2 - (lg_sl ([.ref (X 2), .int (nI si)])).length) Slot.unset).toArray = ls at hl ⊢
  have hl : lv_has ls 2 [(0, .ref (X 2)), (1, .int (nI si))] := hl
  refine lv_aload_n hx hb dX3_isOver_0 rfl (lv_at hl 0 rfl) ?_
  refine va_get (D := D) (ci := 3) (v := .ref (X 15)) (C := RX3) (T := TX3) (N := 6) hx hb hts i3 hown hK hP 2 rfl rfl 4 (by decide) fl_22 (fun _ h9 => h9) rfl dX3_isOver_1 ?_
  refine lv_iload_n hx hb dX3_isOver_4 rfl (lv_at hl 1 rfl) ?_
  refine z_zald (D := D) (j := si) (g := O) hx hb hK hP 15 1 rfl rfl (by omega) (by decide) dX3_isOver_5 ?_
  exact z_zret hx hb hr hlocks rfl dX3_isOver_6

set_option maxHeartbeats 4000000 in
set_option maxRecDepth 100000 in
theorem kX3_end (l : Launch) (D : va_G) (cI cZ : ClassId) (X : Nat → Nat) (S : Nat → Nat → Int32) (O : Nat → Bool) (V : Nat → Int32) (sz : Nat) (si : Nat) (hsi : si < 30) : Met l yX3_end wsX3_end ({ frames := 0, cells := 0, slots := 0, locals := 0 } : Room) (zW D (tyl cI cZ) (hW cI cZ X S O V) sz [.ref (X 2), .int (nI si)]) (zQv D (tyl cI cZ) (hW cI cZ X S (va_up O si true) V) (va_A (hW cI cZ X S O V) sz)) 0 0 (va_A (hW cI cZ X S O V) sz) := by
  refine Met.ofW (cc := cX3_end) (maxL := 2) (ret := none) (by decide) rfl ?_
  intro p e s m args below meth c s₁ B hml hv
  obtain ⟨rfl, hsz, hP, hK, hD0⟩ := hv
  have hx := B.exec
  have hb := B.bytes
  have hr := B.returns
  have hts := atoms_spec (ws := wsX3_end) B.pre
  have hown : s.vm.findClass RX3 = some m.cls := findClass_of_methodNamed B.named
  have hlocks := B.notSynchronized
  subst hsz
  have hD := hD0.self (sz := s.heap.size)
  generalize hAe : va_A (hW cI cZ X S O V) s.heap.size = A at hD ⊢
  have hA : ∀ q : Nat, s.heap.size ≤ q → A q := fun q h => by rw [← hAe]; exact Or.inr h
  have hS : va_S A s.heap s.heap [] := va_S.rf
  have i3 : ∀ w ∈ u_ws RX3 TX3 6, w ∈ wsX3_end := by decide +kernel
  have fl_22 := hts (.fieldLink RX3 22 "SignOnHouse$Sessions" "over" "[Z") (by decide +kernel)
  have hl := lv_entry ([.ref (X 2), .int (nI si)]) (n := 2) (Nat.le_of_ble_eq_true rfl)
  rw [lg_entry_eq]
  generalize (lg_sl ([.ref (X 2), .int (nI si)]) ++ List.replicate (2 - (lg_sl ([.ref (X 2), .int (nI si)])).length) Slot.unset).toArray = ls at hl ⊢
  have hl : lv_has ls 2 [(0, .ref (X 2)), (1, .int (nI si))] := hl
  refine lv_aload_n hx hb dX3_end_0 rfl (lv_at hl 0 rfl) ?_
  refine va_get (D := D) (ci := 3) (v := .ref (X 15)) (C := RX3) (T := TX3) (N := 6) hx hb hts i3 hown hK hP 2 rfl rfl 4 (by decide) fl_22 (fun _ h9 => h9) rfl dX3_end_1 ?_
  refine lv_iload_n hx hb dX3_end_4 rfl (lv_at hl 1 rfl) ?_
  refine lv_iconst (v := 1) hx hb dX3_end_5 rfl ?_
  refine z_zast (D := D) (j := si) (b := true) (g := O) hx hb hK hP hD hS 15 1 rfl rfl (by omega) (by decide) dX3_end_6 (fun H locs hP hD hS => ?_)
  have hP : va_P D vwCl (hW cI cZ X S (va_up O si true) V) H := hP
  have hD : va_D A (hW cI cZ X S (va_up O si true) V) := hD
  exact z_wvret hx hb hr hlocks hP hK hD hS dX3_end_7

set_option maxHeartbeats 4000000 in
set_option maxRecDepth 100000 in
theorem kX3_use (l : Launch) (D : va_G) (cI cZ : ClassId) (X : Nat → Nat) (S : Nat → Nat → Int32) (O : Nat → Bool) (V : Nat → Int32) (sz : Nat) (si : Nat) (x0 : Int32) (hsi : si < 30) : Met l yX3_use wsX3_use ({ frames := 0, cells := 0, slots := 0, locals := 0 } : Room) (zW D (tyl cI cZ) (hW cI cZ X S O V) sz [.ref (X 2), .int (nI si), .int x0]) (zQv D (tyl cI cZ) (hW cI cZ X (va_up S 14 (upd (S 14) si x0)) O V) (va_A (hW cI cZ X S O V) sz)) 0 0 (va_A (hW cI cZ X S O V) sz) := by
  refine Met.ofW (cc := cX3_use) (maxL := 3) (ret := none) (by decide) rfl ?_
  intro p e s m args below meth c s₁ B hml hv
  obtain ⟨rfl, hsz, hP, hK, hD0⟩ := hv
  have hx := B.exec
  have hb := B.bytes
  have hr := B.returns
  have hts := atoms_spec (ws := wsX3_use) B.pre
  have hown : s.vm.findClass RX3 = some m.cls := findClass_of_methodNamed B.named
  have hlocks := B.notSynchronized
  subst hsz
  have hD := hD0.self (sz := s.heap.size)
  generalize hAe : va_A (hW cI cZ X S O V) s.heap.size = A at hD ⊢
  have hA : ∀ q : Nat, s.heap.size ≤ q → A q := fun q h => by rw [← hAe]; exact Or.inr h
  have hS : va_S A s.heap s.heap [] := va_S.rf
  have i3 : ∀ w ∈ u_ws RX3 TX3 6, w ∈ wsX3_use := by decide +kernel
  have fl_19 := hts (.fieldLink RX3 19 "SignOnHouse$Sessions" "usedAt" "[I") (by decide +kernel)
  have hl := lv_entry ([.ref (X 2), .int (nI si), .int x0]) (n := 3) (Nat.le_of_ble_eq_true rfl)
  rw [lg_entry_eq]
  generalize (lg_sl ([.ref (X 2), .int (nI si), .int x0]) ++ List.replicate (3 - (lg_sl ([.ref (X 2), .int (nI si), .int x0])).length) Slot.unset).toArray = ls at hl ⊢
  have hl : lv_has ls 3 [(0, .ref (X 2)), (1, .int (nI si)), (2, .int x0)] := hl
  refine lv_aload_n hx hb dX3_use_0 rfl (lv_at hl 0 rfl) ?_
  refine va_get (D := D) (ci := 3) (v := .ref (X 14)) (C := RX3) (T := TX3) (N := 6) hx hb hts i3 hown hK hP 2 rfl rfl 3 (by decide) fl_19 (fun _ h9 => h9) rfl dX3_use_1 ?_
  refine lv_iload_n hx hb dX3_use_4 rfl (lv_at hl 1 rfl) ?_
  refine lv_iload_n hx hb dX3_use_5 rfl (lv_at hl 2 rfl) ?_
  refine z_iast (D := D) (j := si) (f := S 14) hx hb hK hP hD hS 14 0 rfl rfl (by omega) (by decide) dX3_use_6 (fun H locs hP hD hS => ?_)
  have hP : va_P D vwCl (hW cI cZ X (va_up S 14 (upd (S 14) si x0)) O V) H := hP
  have hD : va_D A (hW cI cZ X (va_up S 14 (upd (S 14) si x0)) O V) := hD
  exact z_wvret hx hb hr hlocks hP hK hD hS dX3_use_7

set_option maxHeartbeats 4000000 in
set_option maxRecDepth 100000 in
theorem kX3_personOf (l : Launch) (D : va_G) (cI cZ : ClassId) (X : Nat → Nat) (S : Nat → Nat → Int32) (O : Nat → Bool) (V : Nat → Int32) (si : Nat) (hsi : si < 30) : Met l yX3_personOf wsX3_personOf ({ frames := 0, cells := 0, slots := 0, locals := 0 } : Room) (zR D (tyl cI cZ) (hW cI cZ X S O V) [.ref (X 2), .int (nI si)]) (QcRead (S 11 si)) 0 0 (fun _ => False) := by
  refine Met.ofW (cc := cX3_personOf) (maxL := 2) (ret := (some .int)) (by decide) rfl ?_
  intro p e s m args below meth c s₁ B hml hv
  obtain ⟨rfl, hP, hK⟩ := hv
  have hx := B.exec
  have hb := B.bytes
  have hr := B.returns
  have hts := atoms_spec (ws := wsX3_personOf) B.pre
  have hown : s.vm.findClass RX3 = some m.cls := findClass_of_methodNamed B.named
  have hlocks := B.notSynchronized
  have i3 : ∀ w ∈ u_ws RX3 TX3 6, w ∈ wsX3_personOf := by decide +kernel
  have fl_9 := hts (.fieldLink RX3 9 "SignOnHouse$Sessions" "people" "[I") (by decide +kernel)
  have hl := lv_entry ([.ref (X 2), .int (nI si)]) (n := 2) (Nat.le_of_ble_eq_true rfl)
  rw [lg_entry_eq]
  generalize (lg_sl ([.ref (X 2), .int (nI si)]) ++ List.replicate (2 - (lg_sl ([.ref (X 2), .int (nI si)])).length) Slot.unset).toArray = ls at hl ⊢
  have hl : lv_has ls 2 [(0, .ref (X 2)), (1, .int (nI si))] := hl
  refine lv_aload_n hx hb dX3_personOf_0 rfl (lv_at hl 0 rfl) ?_
  refine va_get (D := D) (ci := 3) (v := .ref (X 11)) (C := RX3) (T := TX3) (N := 6) hx hb hts i3 hown hK hP 2 rfl rfl 0 (by decide) fl_9 (fun _ h9 => h9) rfl dX3_personOf_1 ?_
  refine lv_iload_n hx hb dX3_personOf_4 rfl (lv_at hl 1 rfl) ?_
  refine z_iald (D := D) (j := si) (f := S 11) hx hb hK hP 11 0 rfl rfl (by omega) (by decide) dX3_personOf_5 ?_
  exact z_ret hx hb hr hlocks rfl dX3_personOf_6

set_option maxHeartbeats 4000000 in
set_option maxRecDepth 100000 in
theorem kX3_age (l : Launch) (D : va_G) (cI cZ : ClassId) (X : Nat → Nat) (S : Nat → Nat → Int32) (O : Nat → Bool) (V : Nat → Int32) (si : Nat) (x0 : Int32) (hsi : si < 30) : Met l yX3_age wsX3_age ({ frames := 0, cells := 0, slots := 0, locals := 0 } : Room) (zR D (tyl cI cZ) (hW cI cZ X S O V) [.ref (X 2), .int (nI si), .int x0]) (QcRead (x0 - S 13 si)) 0 0 (fun _ => False) := by
  refine Met.ofW (cc := cX3_age) (maxL := 3) (ret := (some .int)) (by decide) rfl ?_
  intro p e s m args below meth c s₁ B hml hv
  obtain ⟨rfl, hP, hK⟩ := hv
  have hx := B.exec
  have hb := B.bytes
  have hr := B.returns
  have hts := atoms_spec (ws := wsX3_age) B.pre
  have hown : s.vm.findClass RX3 = some m.cls := findClass_of_methodNamed B.named
  have hlocks := B.notSynchronized
  have i3 : ∀ w ∈ u_ws RX3 TX3 6, w ∈ wsX3_age := by decide +kernel
  have fl_16 := hts (.fieldLink RX3 16 "SignOnHouse$Sessions" "openedAt" "[I") (by decide +kernel)
  have hl := lv_entry ([.ref (X 2), .int (nI si), .int x0]) (n := 3) (Nat.le_of_ble_eq_true rfl)
  rw [lg_entry_eq]
  generalize (lg_sl ([.ref (X 2), .int (nI si), .int x0]) ++ List.replicate (3 - (lg_sl ([.ref (X 2), .int (nI si), .int x0])).length) Slot.unset).toArray = ls at hl ⊢
  have hl : lv_has ls 3 [(0, .ref (X 2)), (1, .int (nI si)), (2, .int x0)] := hl
  refine lv_iload_n hx hb dX3_age_0 rfl (lv_at hl 2 rfl) ?_
  refine lv_aload_n hx hb dX3_age_1 rfl (lv_at hl 0 rfl) ?_
  refine va_get (D := D) (ci := 3) (v := .ref (X 13)) (C := RX3) (T := TX3) (N := 6) hx hb hts i3 hown hK hP 2 rfl rfl 2 (by decide) fl_16 (fun _ h9 => h9) rfl dX3_age_2 ?_
  refine lv_iload_n hx hb dX3_age_5 rfl (lv_at hl 1 rfl) ?_
  refine z_iald (D := D) (j := si) (f := S 13) hx hb hK hP 13 0 rfl rfl (by omega) (by decide) dX3_age_6 ?_
  refine lv_isub hx hb dX3_age_7 ?_
  exact z_ret hx hb hr hlocks (by rfl) dX3_age_8

set_option maxHeartbeats 4000000 in
set_option maxRecDepth 100000 in
theorem kX3_isDue (l : Launch) (D : va_G) (cI cZ : ClassId) (X : Nat → Nat) (S : Nat → Nat → Int32) (O : Nat → Bool) (V : Nat → Int32) (si : Nat) (x0 : Int32) (x1 : Int32) (hsi : si < 30) : Met l yX3_isDue wsX3_isDue ({ frames := 1, cells := 0, slots := 0, locals := 22 } : Room) (zR D (tyl cI cZ) (hW cI cZ X S O V) [.ref (X 2), .int (nI si), .int x0, .int x1, .ref (X 3)]) (QcRead (bi (c_isDue S V si x0 x1))) 0 0 (fun _ => False) := by
  refine Met.ofW (cc := cX3_isDue) (maxL := 5) (ret := (some .boolean)) (by decide) rfl ?_
  intro p e s m args below meth c s₁ B hml hv
  obtain ⟨rfl, hP, hK⟩ := hv
  have hx := B.exec
  have hb := B.bytes
  have hr := B.returns
  have hts := atoms_spec (ws := wsX3_isDue) B.pre
  have hown : s.vm.findClass RX3 = some m.cls := findClass_of_methodNamed B.named
  have hlocks := B.notSynchronized
  have i3 : ∀ w ∈ u_ws RX3 TX3 6, w ∈ wsX3_isDue := by decide +kernel
  have fl_13 := hts (.fieldLink RX3 13 "SignOnHouse$Sessions" "signedWith" "[I") (by decide +kernel)
  have fl_19 := hts (.fieldLink RX3 19 "SignOnHouse$Sessions" "usedAt" "[I") (by decide +kernel)
  have hl := lv_entry ([.ref (X 2), .int (nI si), .int x0, .int x1, .ref (X 3)]) (n := 5) (Nat.le_of_ble_eq_true rfl)
  rw [lg_entry_eq]
  generalize (lg_sl ([.ref (X 2), .int (nI si), .int x0, .int x1, .ref (X 3)]) ++ List.replicate (5 - (lg_sl ([.ref (X 2), .int (nI si), .int x0, .int x1, .ref (X 3)])).length) Slot.unset).toArray = ls at hl ⊢
  have hl : lv_has ls 5 [(0, .ref (X 2)), (1, .int (nI si)), (2, .int x0), (3, .int x1), (4, .ref (X 3))] := hl
  refine lv_iload_n hx hb dX3_isDue_0 rfl (lv_at hl 2 rfl) ?_
  refine lv_aload_n hx hb dX3_isDue_1 rfl (lv_at hl 0 rfl) ?_
  refine va_get (D := D) (ci := 3) (v := .ref (X 14)) (C := RX3) (T := TX3) (N := 6) hx hb hts i3 hown hK hP 2 rfl rfl 3 (by decide) fl_19 (fun _ h9 => h9) rfl dX3_isDue_2 ?_
  refine lv_iload_n hx hb dX3_isDue_5 rfl (lv_at hl 1 rfl) ?_
  refine z_iald (D := D) (j := si) (f := S 14) hx hb hK hP 14 0 rfl rfl (by omega) (by decide) dX3_isDue_6 ?_
  refine lv_isub hx hb dX3_isDue_7 ?_
  refine lv_bipush (v := 30) hx hb dX3_isDue_8 (by decide) ?_
  refine lv_icmp_ge (tgt := 45) hx hb dX3_isDue_10 (by decide) (fun c_10 => ?_) (fun c_10 => ?_)
  · refine lv_iconst (v := 1) hx hb dX3_isDue_45 rfl ?_
    refine lv_goto (tgt := 50) hx hb dX3_isDue_46 (by decide) ?_
    exact z_zret hx hb hr hlocks (by simp [c_isDue, bi, c_10]) dX3_isDue_50
  · refine lv_aload_n hx hb dX3_isDue_13 rfl (lv_at hl 0 rfl) ?_
    refine lv_iload_n hx hb dX3_isDue_14 rfl (lv_at hl 1 rfl) ?_
    refine lv_iload_n hx hb dX3_isDue_15 rfl (lv_at hl 2 rfl) ?_
    refine z_callR (W.runV (As := [.int (nI si), .int x0]) (rest := []) ⟨hx, hb, hml, hown, hts⟩ (kX3_age l D cI cZ X S O V si x0 (by omega)) (cwV 2 hts gX3_isDue_X3_age rfl rfl rfl (by decide +kernel) ⟨Nat.le_of_ble_eq_true rfl, Nat.le_of_ble_eq_true rfl⟩) (zR_preV 2 3 hK hP rfl rfl) rfl rfl hl.1 rfl (lv_room (Nat.le_of_ble_eq_true rfl)) dX3_isDue_16 ⟨Nat.zero_le _, Nat.zero_le _⟩) ?_
    refine lv_sipush (v := 240) hx hb dX3_isDue_19 (by decide) ?_
    refine lv_bipush (v := 60) hx hb dX3_isDue_22 (by decide) ?_
    refine lv_iload_n hx hb dX3_isDue_24 rfl (lv_at hl 3 rfl) ?_
    refine lv_imul hx hb dX3_isDue_25 ?_
    refine lv_isub hx hb dX3_isDue_26 ?_
    refine lv_icmp_ge (tgt := 45) hx hb dX3_isDue_27 (by decide) (fun c_27 => ?_) (fun c_27 => ?_)
    · refine lv_iconst (v := 1) hx hb dX3_isDue_45 rfl ?_
      refine lv_goto (tgt := 50) hx hb dX3_isDue_46 (by decide) ?_
      exact z_zret hx hb hr hlocks (by simp [c_isDue, bi, c_10, c_27]) dX3_isDue_50
    · refine lv_aload hx hb dX3_isDue_30 (lv_at hl 4 rfl) ?_
      refine lv_aload_n hx hb dX3_isDue_32 rfl (lv_at hl 0 rfl) ?_
      refine va_get (D := D) (ci := 3) (v := .ref (X 12)) (C := RX3) (T := TX3) (N := 6) hx hb hts i3 hown hK hP 2 rfl rfl 1 (by decide) fl_13 (fun _ h9 => h9) rfl dX3_isDue_33 ?_
      refine lv_iload_n hx hb dX3_isDue_36 rfl (lv_at hl 1 rfl) ?_
      refine z_iald (D := D) (j := si) (f := S 12) hx hb hK hP 12 0 rfl rfl (by omega) (by decide) dX3_isDue_37 ?_
      refine lv_iload_n hx hb dX3_isDue_38 rfl (lv_at hl 2 rfl) ?_
      refine z_callR (W.runV (As := [.int (S 12 si), .int x0]) (rest := []) ⟨hx, hb, hml, hown, hts⟩ (kX2_takes l D cI cZ X S O V (S 12 si) x0) (cwV 2 hts gX3_isDue_X2_takes rfl rfl rfl (by decide +kernel) ⟨Nat.le_of_ble_eq_true rfl, Nat.le_of_ble_eq_true rfl⟩) (zR_preV 3 2 hK hP rfl rfl) rfl rfl hl.1 rfl (lv_room (Nat.le_of_ble_eq_true rfl)) dX3_isDue_39 ⟨Nat.zero_le _, Nat.zero_le _⟩) ?_
      refine z_if_ne (tgt := 49) hx hb dX3_isDue_42 (by decide) (fun c_42 => ?_) (fun c_42 => ?_)
      · refine lv_iconst (v := 0) hx hb dX3_isDue_49 rfl ?_
        exact z_zret hx hb hr hlocks (by simp [c_isDue, bi, c_10, c_27, c_42]) dX3_isDue_50
      · refine lv_iconst (v := 1) hx hb dX3_isDue_45 rfl ?_
        refine lv_goto (tgt := 50) hx hb dX3_isDue_46 (by decide) ?_
        exact z_zret hx hb hr hlocks (by simp [c_isDue, bi, c_10, c_27, c_42]) dX3_isDue_50

set_option maxHeartbeats 4000000 in
set_option maxRecDepth 100000 in
theorem kX3_endAllOf (l : Launch) (D : va_G) (cI cZ : ClassId) (X : Nat → Nat) (S : Nat → Nat → Int32) (O : Nat → Bool) (V : Nat → Int32) (sz : Nat) (x0 : Int32) (n0 : Nat) (hn0 : n0 ≤ 30) (hct : V 1 = nI n0) : Met l yX3_endAllOf wsX3_endAllOf ({ frames := 1, cells := 0, slots := 0, locals := 21 } : Room) (zW D (tyl cI cZ) (hW cI cZ X S O V) sz [.ref (X 2), .int x0]) (zQi D (tyl cI cZ) (hW cI cZ X S (c_eaO S O x0 n0) V) (c_eaN S O x0 n0) (va_A (hW cI cZ X S O V) sz)) 0 0 (va_A (hW cI cZ X S O V) sz) := by
  refine Met.ofW (cc := cX3_endAllOf) (maxL := 4) (ret := (some .int)) (by decide) rfl ?_
  intro p e s m args below meth c s₁ B hml hv
  obtain ⟨rfl, hsz, hP, hK, hD0⟩ := hv
  have hx := B.exec
  have hb := B.bytes
  have hr := B.returns
  have hts := atoms_spec (ws := wsX3_endAllOf) B.pre
  have hown : s.vm.findClass RX3 = some m.cls := findClass_of_methodNamed B.named
  have hlocks := B.notSynchronized
  subst hsz
  have hD := hD0.self (sz := s.heap.size)
  generalize hAe : va_A (hW cI cZ X S O V) s.heap.size = A at hD ⊢
  have hA : ∀ q : Nat, s.heap.size ≤ q → A q := fun q h => by rw [← hAe]; exact Or.inr h
  have hS : va_S A s.heap s.heap [] := va_S.rf
  have i3 : ∀ w ∈ u_ws RX3 TX3 6, w ∈ wsX3_endAllOf := by decide +kernel
  have fl_9 := hts (.fieldLink RX3 9 "SignOnHouse$Sessions" "people" "[I") (by decide +kernel)
  have fl_22 := hts (.fieldLink RX3 22 "SignOnHouse$Sessions" "over" "[Z") (by decide +kernel)
  have fl_26 := hts (.fieldLink RX3 26 "SignOnHouse$Sessions" "count" "I") (by decide +kernel)
  have hl := lv_entry ([.ref (X 2), .int x0]) (n := 4) (Nat.le_of_ble_eq_true rfl)
  rw [lg_entry_eq]
  generalize (lg_sl ([.ref (X 2), .int x0]) ++ List.replicate (4 - (lg_sl ([.ref (X 2), .int x0])).length) Slot.unset).toArray = ls at hl ⊢
  have hl : lv_has ls 4 [(0, .ref (X 2)), (1, .int x0)] := hl
  refine lv_iconst (v := 0) hx hb dX3_endAllOf_0 rfl ?_
  refine lv_istore_n (lv' := [(2, .int 0), (0, .ref (X 2)), (1, .int x0)]) hx hb dX3_endAllOf_1 rfl hl (by decide) rfl (fun ls hl => ?_)
  refine lv_iconst (v := nI 0) hx hb dX3_endAllOf_2 rfl ?_
  refine lv_istore_n (lv' := [(3, .int (nI 0)), (2, .int 0), (0, .ref (X 2)), (1, .int x0)]) hx hb dX3_endAllOf_3 rfl hl (by decide) rfl (fun ls hl => ?_)
  refine z_loopW (N := n0) (nL := 4) (Lc := (fun k => [(3, .int (nI k)), (2, .int (c_eaN S O x0 k)), (0, .ref (X 2)), (1, .int x0)])) (Wd := fun k => hW cI cZ X S (c_eaO S O x0 k) V) (lv_sub hl [0, 1, 2, 3] rfl) hP hD hS (fun H locs ls hP hD hS hl => ?_) (fun k H locs ls hk hP hD hS hl ih => ?_)
  · have hP : va_P D vwCl (hW cI cZ X S (c_eaO S O x0 n0) V) H := hP
    have hD : va_D A (hW cI cZ X S (c_eaO S O x0 n0) V) := hD
    have hl : lv_has ls 4 [(3, .int (nI n0)), (2, .int (c_eaN S O x0 n0)), (0, .ref (X 2)), (1, .int x0)] := hl
    refine lv_iload_n hx hb dX3_endAllOf_4 rfl (lv_at hl 0 rfl) ?_
    refine lv_aload_n hx hb dX3_endAllOf_5 rfl (lv_at hl 2 rfl) ?_
    refine va_get (D := D) (ci := 3) (v := .int (V 1)) (C := RX3) (T := TX3) (N := 6) hx hb hts i3 hown hK hP 2 rfl rfl 5 (by decide) fl_26 (fun _ h9 => h9) rfl dX3_endAllOf_6 ?_
    refine z_top (nI n0) hct ?_
    refine z_ge_t (tgt := 45) (nI_le (by omega) (by omega)) hx hb dX3_endAllOf_9 (by decide) ?_
    refine lv_iload_n hx hb dX3_endAllOf_45 rfl (lv_at hl 1 rfl) ?_
    exact z_wret hx hb hr hlocks hP hK hD hS rfl dX3_endAllOf_46
  · have hP : va_P D vwCl (hW cI cZ X S (c_eaO S O x0 k) V) H := hP
    have hD : va_D A (hW cI cZ X S (c_eaO S O x0 k) V) := hD
    have hl : lv_has ls 4 [(3, .int (nI k)), (2, .int (c_eaN S O x0 k)), (0, .ref (X 2)), (1, .int x0)] := hl
    have ih_4 := ih
    refine lv_iload_n hx hb dX3_endAllOf_4 rfl (lv_at hl 0 rfl) ?_
    refine lv_aload_n hx hb dX3_endAllOf_5 rfl (lv_at hl 2 rfl) ?_
    refine va_get (D := D) (ci := 3) (v := .int (V 1)) (C := RX3) (T := TX3) (N := 6) hx hb hts i3 hown hK hP 2 rfl rfl 5 (by decide) fl_26 (fun _ h9 => h9) rfl dX3_endAllOf_6 ?_
    refine z_top (nI n0) hct ?_
    refine z_ge_f (tgt := 45) (nI_ge (by omega) (by omega)) hx hb dX3_endAllOf_9 (by decide) ?_
    refine lv_aload_n hx hb dX3_endAllOf_12 rfl (lv_at hl 2 rfl) ?_
    refine va_get (D := D) (ci := 3) (v := .ref (X 15)) (C := RX3) (T := TX3) (N := 6) hx hb hts i3 hown hK hP 2 rfl rfl 4 (by decide) fl_22 (fun _ h9 => h9) rfl dX3_endAllOf_13 ?_
    refine lv_iload_n hx hb dX3_endAllOf_16 rfl (lv_at hl 0 rfl) ?_
    refine z_zald (D := D) (j := k) (g := c_eaO S O x0 k) hx hb hK hP 15 1 rfl rfl (by omega) (by decide) dX3_endAllOf_17 ?_
    refine z_if_ne (tgt := 39) hx hb dX3_endAllOf_18 (by decide) (fun c_18 => ?_) (fun c_18 => ?_)
    · refine lv_iinc (v := nI (k + 1)) (lv' := [(3, .int (nI (k + 1))), (2, .int (c_eaN S O x0 k)), (0, .ref (X 2)), (1, .int x0)]) hx hb dX3_endAllOf_39 hl (k := 0) rfl (nI_1 _) (by decide) rfl (fun ls hl => ?_)
      refine lv_goto (tgt := 4) hx hb dX3_endAllOf_42 (by decide) ?_
      have e2 : (c_eaN S O x0 (k + 1)) = (c_eaN S O x0 k) := by simp [c_eaN, c_eaO, bi, c_18]
      have eO : (c_eaO S O x0 (k + 1)) = (c_eaO S O x0 k) := by simp [c_eaN, c_eaO, bi, c_18]
      exact ih_4 H locs ls (by show va_P D vwCl (hW cI cZ X S (c_eaO S O x0 (k + 1)) V) H; rw [eO]; exact hP) (by show va_D A (hW cI cZ X S (c_eaO S O x0 (k + 1)) V); rw [eO]; exact hD) hS (by show lv_has ls 4 [(3, .int (nI (k + 1))), (2, .int (c_eaN S O x0 (k + 1))), (0, .ref (X 2)), (1, .int x0)]; rw [e2]; exact lv_sub hl [0, 1, 2, 3] rfl)
    · refine lv_aload_n hx hb dX3_endAllOf_21 rfl (lv_at hl 2 rfl) ?_
      refine va_get (D := D) (ci := 3) (v := .ref (X 11)) (C := RX3) (T := TX3) (N := 6) hx hb hts i3 hown hK hP 2 rfl rfl 0 (by decide) fl_9 (fun _ h9 => h9) rfl dX3_endAllOf_22 ?_
      refine lv_iload_n hx hb dX3_endAllOf_25 rfl (lv_at hl 0 rfl) ?_
      refine z_iald (D := D) (j := k) (f := S 11) hx hb hK hP 11 0 rfl rfl (by omega) (by decide) dX3_endAllOf_26 ?_
      refine lv_iload_n hx hb dX3_endAllOf_27 rfl (lv_at hl 3 rfl) ?_
      refine lv_icmp_ne (tgt := 39) hx hb dX3_endAllOf_28 (by decide) (fun c_28 => ?_) (fun c_28 => ?_)
      · refine lv_iinc (v := nI (k + 1)) (lv' := [(3, .int (nI (k + 1))), (2, .int (c_eaN S O x0 k)), (0, .ref (X 2)), (1, .int x0)]) hx hb dX3_endAllOf_39 hl (k := 0) rfl (nI_1 _) (by decide) rfl (fun ls hl => ?_)
        refine lv_goto (tgt := 4) hx hb dX3_endAllOf_42 (by decide) ?_
        have e2 : (c_eaN S O x0 (k + 1)) = (c_eaN S O x0 k) := by simp [c_eaN, c_eaO, bi, c_18, c_28]
        have eO : (c_eaO S O x0 (k + 1)) = (c_eaO S O x0 k) := by simp [c_eaN, c_eaO, bi, c_18, c_28]
        exact ih_4 H locs ls (by show va_P D vwCl (hW cI cZ X S (c_eaO S O x0 (k + 1)) V) H; rw [eO]; exact hP) (by show va_D A (hW cI cZ X S (c_eaO S O x0 (k + 1)) V); rw [eO]; exact hD) hS (by show lv_has ls 4 [(3, .int (nI (k + 1))), (2, .int (c_eaN S O x0 (k + 1))), (0, .ref (X 2)), (1, .int x0)]; rw [e2]; exact lv_sub hl [0, 1, 2, 3] rfl)
      · refine lv_aload_n hx hb dX3_endAllOf_31 rfl (lv_at hl 2 rfl) ?_
        refine lv_iload_n hx hb dX3_endAllOf_32 rfl (lv_at hl 0 rfl) ?_
        have hF := z_free hD hS hA
        refine z_callWv (va_runV (As := [.int (nI k)]) (rest := []) ⟨hx, hb, hml, hown, hts⟩ (kX3_end l D cI cZ X S (c_eaO S O x0 k) V _ k (by omega)) (cwV 1 hts gX3_endAllOf_X3_end rfl rfl rfl (by decide +kernel) ⟨Nat.le_of_ble_eq_true rfl, Nat.le_of_ble_eq_true rfl⟩) (zW_preV 2 3 hK hP hD rfl rfl) rfl rfl hl.1 rfl (lv_room (Nat.le_of_ble_eq_true rfl)) dX3_endAllOf_33 ⟨Nat.zero_le _, Nat.zero_le _⟩) hS hF (fun H locs hP hD hS => ?_)
        refine lv_iinc (v := c_eaN S O x0 k + 1) (lv' := [(2, .int (c_eaN S O x0 k + 1)), (3, .int (nI k)), (0, .ref (X 2)), (1, .int x0)]) hx hb dX3_endAllOf_36 hl (k := 1) rfl rfl (by decide) rfl (fun ls hl => ?_)
        refine lv_iinc (v := nI (k + 1)) (lv' := [(3, .int (nI (k + 1))), (2, .int (c_eaN S O x0 k + 1)), (0, .ref (X 2)), (1, .int x0)]) hx hb dX3_endAllOf_39 hl (k := 1) rfl (nI_1 _) (by decide) rfl (fun ls hl => ?_)
        refine lv_goto (tgt := 4) hx hb dX3_endAllOf_42 (by decide) ?_
        have e2 : (c_eaN S O x0 (k + 1)) = (c_eaN S O x0 k + 1) := by simp [c_eaN, c_eaO, bi, c_18, (eq_true c_28)]
        have eO : (c_eaO S O x0 (k + 1)) = (va_up (c_eaO S O x0 k) k true) := by simp [c_eaN, c_eaO, bi, c_18, (eq_true c_28)]
        exact ih_4 H locs ls (by show va_P D vwCl (hW cI cZ X S (c_eaO S O x0 (k + 1)) V) H; rw [eO]; exact hP) (by show va_D A (hW cI cZ X S (c_eaO S O x0 (k + 1)) V); rw [eO]; exact hD) hS (by show lv_has ls 4 [(3, .int (nI (k + 1))), (2, .int (c_eaN S O x0 (k + 1))), (0, .ref (X 2)), (1, .int x0)]; rw [e2]; exact lv_sub hl [0, 1, 2, 3] rfl)

set_option maxHeartbeats 4000000 in
set_option maxRecDepth 100000 in
theorem kX3_endDue (l : Launch) (D : va_G) (cI cZ : ClassId) (X : Nat → Nat) (S : Nat → Nat → Int32) (O : Nat → Bool) (V : Nat → Int32) (sz : Nat) (x0 : Int32) (n0 : Nat) (hn0 : n0 ≤ 30) (hct : V 1 = nI n0) (hpe : ∀ j : Nat, j < n0 → vp_in (S 11 j) 10) : Met l yX3_endDue wsX3_endDue ({ frames := 2, cells := 0, slots := 0, locals := 46 } : Room) (zW D (tyl cI cZ) (hW cI cZ X S O V) sz [.ref (X 2), .int x0, .ref (X 5), .ref (X 3)]) (zQi D (tyl cI cZ) (hW cI cZ X S (c_edO S O V x0 n0) V) (c_edN S O V x0 n0) (va_A (hW cI cZ X S O V) sz)) 0 0 (va_A (hW cI cZ X S O V) sz) := by
  refine Met.ofW (cc := cX3_endDue) (maxL := 6) (ret := (some .int)) (by decide) rfl ?_
  intro p e s m args below meth c s₁ B hml hv
  obtain ⟨rfl, hsz, hP, hK, hD0⟩ := hv
  have hx := B.exec
  have hb := B.bytes
  have hr := B.returns
  have hts := atoms_spec (ws := wsX3_endDue) B.pre
  have hown : s.vm.findClass RX3 = some m.cls := findClass_of_methodNamed B.named
  have hlocks := B.notSynchronized
  subst hsz
  have hD := hD0.self (sz := s.heap.size)
  generalize hAe : va_A (hW cI cZ X S O V) s.heap.size = A at hD ⊢
  have hA : ∀ q : Nat, s.heap.size ≤ q → A q := fun q h => by rw [← hAe]; exact Or.inr h
  have hS : va_S A s.heap s.heap [] := va_S.rf
  have i3 : ∀ w ∈ u_ws RX3 TX3 6, w ∈ wsX3_endDue := by decide +kernel
  have fl_9 := hts (.fieldLink RX3 9 "SignOnHouse$Sessions" "people" "[I") (by decide +kernel)
  have fl_22 := hts (.fieldLink RX3 22 "SignOnHouse$Sessions" "over" "[Z") (by decide +kernel)
  have fl_26 := hts (.fieldLink RX3 26 "SignOnHouse$Sessions" "count" "I") (by decide +kernel)
  have hl := lv_entry ([.ref (X 2), .int x0, .ref (X 5), .ref (X 3)]) (n := 6) (Nat.le_of_ble_eq_true rfl)
  rw [lg_entry_eq]
  generalize (lg_sl ([.ref (X 2), .int x0, .ref (X 5), .ref (X 3)]) ++ List.replicate (6 - (lg_sl ([.ref (X 2), .int x0, .ref (X 5), .ref (X 3)])).length) Slot.unset).toArray = ls at hl ⊢
  have hl : lv_has ls 6 [(0, .ref (X 2)), (1, .int x0), (2, .ref (X 5)), (3, .ref (X 3))] := hl
  refine lv_iconst (v := 0) hx hb dX3_endDue_0 rfl ?_
  refine lv_istore (lv' := [(4, .int 0), (0, .ref (X 2)), (1, .int x0), (2, .ref (X 5)), (3, .ref (X 3))]) hx hb dX3_endDue_1 hl (by decide) rfl (fun ls hl => ?_)
  refine lv_iconst (v := nI 0) hx hb dX3_endDue_3 rfl ?_
  refine lv_istore (lv' := [(5, .int (nI 0)), (4, .int 0), (0, .ref (X 2)), (1, .int x0), (2, .ref (X 5)), (3, .ref (X 3))]) hx hb dX3_endDue_4 hl (by decide) rfl (fun ls hl => ?_)
  refine z_loopW (N := n0) (nL := 6) (Lc := (fun k => [(5, .int (nI k)), (4, .int (c_edN S O V x0 k)), (0, .ref (X 2)), (1, .int x0), (2, .ref (X 5)), (3, .ref (X 3))])) (Wd := fun k => hW cI cZ X S (c_edO S O V x0 k) V) (lv_sub hl [0, 1, 2, 3, 4, 5] rfl) hP hD hS (fun H locs ls hP hD hS hl => ?_) (fun k H locs ls hk hP hD hS hl ih => ?_)
  · have hP : va_P D vwCl (hW cI cZ X S (c_edO S O V x0 n0) V) H := hP
    have hD : va_D A (hW cI cZ X S (c_edO S O V x0 n0) V) := hD
    have hl : lv_has ls 6 [(5, .int (nI n0)), (4, .int (c_edN S O V x0 n0)), (0, .ref (X 2)), (1, .int x0), (2, .ref (X 5)), (3, .ref (X 3))] := hl
    refine lv_iload hx hb dX3_endDue_6 (lv_at hl 0 rfl) ?_
    refine lv_aload_n hx hb dX3_endDue_8 rfl (lv_at hl 2 rfl) ?_
    refine va_get (D := D) (ci := 3) (v := .int (V 1)) (C := RX3) (T := TX3) (N := 6) hx hb hts i3 hown hK hP 2 rfl rfl 5 (by decide) fl_26 (fun _ h9 => h9) rfl dX3_endDue_9 ?_
    refine z_top (nI n0) hct ?_
    refine z_ge_t (tgt := 60) (nI_le (by omega) (by omega)) hx hb dX3_endDue_12 (by decide) ?_
    refine lv_iload hx hb dX3_endDue_60 (lv_at hl 1 rfl) ?_
    exact z_wret hx hb hr hlocks hP hK hD hS rfl dX3_endDue_62
  · have hP : va_P D vwCl (hW cI cZ X S (c_edO S O V x0 k) V) H := hP
    have hD : va_D A (hW cI cZ X S (c_edO S O V x0 k) V) := hD
    have hl : lv_has ls 6 [(5, .int (nI k)), (4, .int (c_edN S O V x0 k)), (0, .ref (X 2)), (1, .int x0), (2, .ref (X 5)), (3, .ref (X 3))] := hl
    have ih_6 := ih
    refine lv_iload hx hb dX3_endDue_6 (lv_at hl 0 rfl) ?_
    refine lv_aload_n hx hb dX3_endDue_8 rfl (lv_at hl 2 rfl) ?_
    refine va_get (D := D) (ci := 3) (v := .int (V 1)) (C := RX3) (T := TX3) (N := 6) hx hb hts i3 hown hK hP 2 rfl rfl 5 (by decide) fl_26 (fun _ h9 => h9) rfl dX3_endDue_9 ?_
    refine z_top (nI n0) hct ?_
    refine z_ge_f (tgt := 60) (nI_ge (by omega) (by omega)) hx hb dX3_endDue_12 (by decide) ?_
    refine lv_aload_n hx hb dX3_endDue_15 rfl (lv_at hl 2 rfl) ?_
    refine va_get (D := D) (ci := 3) (v := .ref (X 15)) (C := RX3) (T := TX3) (N := 6) hx hb hts i3 hown hK hP 2 rfl rfl 4 (by decide) fl_22 (fun _ h9 => h9) rfl dX3_endDue_16 ?_
    refine lv_iload hx hb dX3_endDue_19 (lv_at hl 0 rfl) ?_
    refine z_zald (D := D) (j := k) (g := c_edO S O V x0 k) hx hb hK hP 15 1 rfl rfl (by omega) (by decide) dX3_endDue_21 ?_
    refine z_if_ne (tgt := 54) hx hb dX3_endDue_22 (by decide) (fun c_22 => ?_) (fun c_22 => ?_)
    · refine lv_iinc (v := nI (k + 1)) (lv' := [(5, .int (nI (k + 1))), (4, .int (c_edN S O V x0 k)), (0, .ref (X 2)), (1, .int x0), (2, .ref (X 5)), (3, .ref (X 3))]) hx hb dX3_endDue_54 hl (k := 0) rfl (nI_1 _) (by decide) rfl (fun ls hl => ?_)
      refine lv_goto (tgt := 6) hx hb dX3_endDue_57 (by decide) ?_
      have e4 : (c_edN S O V x0 (k + 1)) = (c_edN S O V x0 k) := by simp [c_edN, c_edO, bi, c_22]
      have eO : (c_edO S O V x0 (k + 1)) = (c_edO S O V x0 k) := by simp [c_edN, c_edO, bi, c_22]
      exact ih_6 H locs ls (by show va_P D vwCl (hW cI cZ X S (c_edO S O V x0 (k + 1)) V) H; rw [eO]; exact hP) (by show va_D A (hW cI cZ X S (c_edO S O V x0 (k + 1)) V); rw [eO]; exact hD) hS (by show lv_has ls 6 [(5, .int (nI (k + 1))), (4, .int (c_edN S O V x0 (k + 1))), (0, .ref (X 2)), (1, .int x0), (2, .ref (X 5)), (3, .ref (X 3))]; rw [e4]; exact lv_sub hl [0, 1, 2, 3, 4, 5] rfl)
    · refine lv_aload_n hx hb dX3_endDue_25 rfl (lv_at hl 2 rfl) ?_
      refine lv_iload hx hb dX3_endDue_26 (lv_at hl 0 rfl) ?_
      refine lv_iload_n hx hb dX3_endDue_28 rfl (lv_at hl 3 rfl) ?_
      refine lv_aload_n hx hb dX3_endDue_29 rfl (lv_at hl 4 rfl) ?_
      refine lv_aload_n hx hb dX3_endDue_30 rfl (lv_at hl 2 rfl) ?_
      refine va_get (D := D) (ci := 3) (v := .ref (X 11)) (C := RX3) (T := TX3) (N := 6) hx hb hts i3 hown hK hP 2 rfl rfl 0 (by decide) fl_9 (fun _ h9 => h9) rfl dX3_endDue_31 ?_
      refine lv_iload hx hb dX3_endDue_34 (lv_at hl 0 rfl) ?_
      refine z_iald (D := D) (j := k) (f := S 11) hx hb hK hP 11 0 rfl rfl (by omega) (by decide) dX3_endDue_36 ?_
      refine va_iald (D := D) (f := S 5) hx hb hK hP 5 0 rfl rfl (hpe k hk) dX3_endDue_37 ?_
      refine lv_aload_n hx hb dX3_endDue_38 rfl (lv_at hl 5 rfl) ?_
      refine z_callR (W.runV (As := [.int (nI k), .int x0, .int (S 5 (S 11 k).toNatClampNeg), .ref (X 3)]) (rest := []) ⟨hx, hb, hml, hown, hts⟩ (kX3_isDue l D cI cZ X S (c_edO S O V x0 k) V k x0 (S 5 (S 11 k).toNatClampNeg) (by omega)) (cwV 4 hts gX3_endDue_X3_isDue rfl rfl rfl (by decide +kernel) ⟨Nat.le_of_ble_eq_true rfl, Nat.le_of_ble_eq_true rfl⟩) (zR_preV 2 3 hK hP rfl rfl) rfl rfl hl.1 rfl (lv_room (Nat.le_of_ble_eq_true rfl)) dX3_endDue_39 ⟨Nat.zero_le _, Nat.zero_le _⟩) ?_
      refine z_if_eq (tgt := 54) hx hb dX3_endDue_42 (by decide) (fun c_42 => ?_) (fun c_42 => ?_)
      · refine lv_iinc (v := nI (k + 1)) (lv' := [(5, .int (nI (k + 1))), (4, .int (c_edN S O V x0 k)), (0, .ref (X 2)), (1, .int x0), (2, .ref (X 5)), (3, .ref (X 3))]) hx hb dX3_endDue_54 hl (k := 0) rfl (nI_1 _) (by decide) rfl (fun ls hl => ?_)
        refine lv_goto (tgt := 6) hx hb dX3_endDue_57 (by decide) ?_
        have e4 : (c_edN S O V x0 (k + 1)) = (c_edN S O V x0 k) := by simp [c_edN, c_edO, bi, c_22, c_42]
        have eO : (c_edO S O V x0 (k + 1)) = (c_edO S O V x0 k) := by simp [c_edN, c_edO, bi, c_22, c_42]
        exact ih_6 H locs ls (by show va_P D vwCl (hW cI cZ X S (c_edO S O V x0 (k + 1)) V) H; rw [eO]; exact hP) (by show va_D A (hW cI cZ X S (c_edO S O V x0 (k + 1)) V); rw [eO]; exact hD) hS (by show lv_has ls 6 [(5, .int (nI (k + 1))), (4, .int (c_edN S O V x0 (k + 1))), (0, .ref (X 2)), (1, .int x0), (2, .ref (X 5)), (3, .ref (X 3))]; rw [e4]; exact lv_sub hl [0, 1, 2, 3, 4, 5] rfl)
      · refine lv_aload_n hx hb dX3_endDue_45 rfl (lv_at hl 2 rfl) ?_
        refine lv_iload hx hb dX3_endDue_46 (lv_at hl 0 rfl) ?_
        have hF := z_free hD hS hA
        refine z_callWv (va_runV (As := [.int (nI k)]) (rest := []) ⟨hx, hb, hml, hown, hts⟩ (kX3_end l D cI cZ X S (c_edO S O V x0 k) V _ k (by omega)) (cwV 1 hts gX3_endDue_X3_end rfl rfl rfl (by decide +kernel) ⟨Nat.le_of_ble_eq_true rfl, Nat.le_of_ble_eq_true rfl⟩) (zW_preV 2 3 hK hP hD rfl rfl) rfl rfl hl.1 rfl (lv_room (Nat.le_of_ble_eq_true rfl)) dX3_endDue_48 ⟨Nat.zero_le _, Nat.zero_le _⟩) hS hF (fun H locs hP hD hS => ?_)
        refine lv_iinc (v := c_edN S O V x0 k + 1) (lv' := [(4, .int (c_edN S O V x0 k + 1)), (5, .int (nI k)), (0, .ref (X 2)), (1, .int x0), (2, .ref (X 5)), (3, .ref (X 3))]) hx hb dX3_endDue_51 hl (k := 1) rfl rfl (by decide) rfl (fun ls hl => ?_)
        refine lv_iinc (v := nI (k + 1)) (lv' := [(5, .int (nI (k + 1))), (4, .int (c_edN S O V x0 k + 1)), (0, .ref (X 2)), (1, .int x0), (2, .ref (X 5)), (3, .ref (X 3))]) hx hb dX3_endDue_54 hl (k := 1) rfl (nI_1 _) (by decide) rfl (fun ls hl => ?_)
        refine lv_goto (tgt := 6) hx hb dX3_endDue_57 (by decide) ?_
        have e4 : (c_edN S O V x0 (k + 1)) = (c_edN S O V x0 k + 1) := by simp [c_edN, c_edO, bi, c_22, c_42]
        have eO : (c_edO S O V x0 (k + 1)) = (va_up (c_edO S O V x0 k) k true) := by simp [c_edN, c_edO, bi, c_22, c_42]
        exact ih_6 H locs ls (by show va_P D vwCl (hW cI cZ X S (c_edO S O V x0 (k + 1)) V) H; rw [eO]; exact hP) (by show va_D A (hW cI cZ X S (c_edO S O V x0 (k + 1)) V); rw [eO]; exact hD) hS (by show lv_has ls 6 [(5, .int (nI (k + 1))), (4, .int (c_edN S O V x0 (k + 1))), (0, .ref (X 2)), (1, .int x0), (2, .ref (X 5)), (3, .ref (X 3))]; rw [e4]; exact lv_sub hl [0, 1, 2, 3, 4, 5] rfl)
end
section
set_option maxHeartbeats 4000000 in
set_option maxRecDepth 100000 in
theorem kX0_cacheOf (l : Launch) (D : va_G) (cI cZ : ClassId) (X : Nat → Nat) (S : Nat → Nat → Int32) (O : Nat → Bool) (V : Nat → Int32) (ai : Nat) (hai : ai < 4) : Met l yX0_cacheOf wsX0_cacheOf ({ frames := 0, cells := 0, slots := 0, locals := 0 } : Room) (zR D (tyl cI cZ) (hW cI cZ X S O V) [.ref (X 4), .int (nI ai)]) (QcRead (S 16 ai)) 0 0 (fun _ => False) := by
  refine Met.ofW (cc := cX0_cacheOf) (maxL := 2) (ret := (some .int)) (by decide) rfl ?_
  intro p e s m args below meth c s₁ B hml hv
  obtain ⟨rfl, hP, hK⟩ := hv
  have hx := B.exec
  have hb := B.bytes
  have hr := B.returns
  have hts := atoms_spec (ws := wsX0_cacheOf) B.pre
  have hown : s.vm.findClass RX0 = some m.cls := findClass_of_methodNamed B.named
  have hlocks := B.notSynchronized
  have i0 : ∀ w ∈ u_ws RX0 TX0 3, w ∈ wsX0_cacheOf := by decide +kernel
  have fl_9 := hts (.fieldLink RX0 9 "SignOnHouse$Decisions" "caches" "[I") (by decide +kernel)
  have hl := lv_entry ([.ref (X 4), .int (nI ai)]) (n := 2) (Nat.le_of_ble_eq_true rfl)
  rw [lg_entry_eq]
  generalize (lg_sl ([.ref (X 4), .int (nI ai)]) ++ List.replicate (2 - (lg_sl ([.ref (X 4), .int (nI ai)])).length) Slot.unset).toArray = ls at hl ⊢
  have hl : lv_has ls 2 [(0, .ref (X 4)), (1, .int (nI ai))] := hl
  refine lv_aload_n hx hb dX0_cacheOf_0 rfl (lv_at hl 0 rfl) ?_
  refine va_get (D := D) (ci := 0) (v := .ref (X 16)) (C := RX0) (T := TX0) (N := 3) hx hb hts i0 hown hK hP 4 rfl rfl 0 (by decide) fl_9 (fun _ h9 => h9) rfl dX0_cacheOf_1 ?_
  refine lv_iload_n hx hb dX0_cacheOf_4 rfl (lv_at hl 1 rfl) ?_
  refine z_iald (D := D) (j := ai) (f := S 16) hx hb hK hP 16 0 rfl rfl (by omega) (by decide) dX0_cacheOf_5 ?_
  exact z_ret hx hb hr hlocks rfl dX0_cacheOf_6

set_option maxHeartbeats 4000000 in
set_option maxRecDepth 100000 in
theorem kX0_allowCache (l : Launch) (D : va_G) (cI cZ : ClassId) (X : Nat → Nat) (S : Nat → Nat → Int32) (O : Nat → Bool) (V : Nat → Int32) (sz : Nat) (ai : Nat) (x0 : Int32) (hai : ai < 4) : Met l yX0_allowCache wsX0_allowCache ({ frames := 0, cells := 0, slots := 0, locals := 0 } : Room) (zW D (tyl cI cZ) (hW cI cZ X S O V) sz [.ref (X 4), .int (nI ai), .int x0]) (zQv D (tyl cI cZ) (hW cI cZ X (va_up S 16 (upd (S 16) ai x0)) O V) (va_A (hW cI cZ X S O V) sz)) 0 0 (va_A (hW cI cZ X S O V) sz) := by
  refine Met.ofW (cc := cX0_allowCache) (maxL := 3) (ret := none) (by decide) rfl ?_
  intro p e s m args below meth c s₁ B hml hv
  obtain ⟨rfl, hsz, hP, hK, hD0⟩ := hv
  have hx := B.exec
  have hb := B.bytes
  have hr := B.returns
  have hts := atoms_spec (ws := wsX0_allowCache) B.pre
  have hown : s.vm.findClass RX0 = some m.cls := findClass_of_methodNamed B.named
  have hlocks := B.notSynchronized
  subst hsz
  have hD := hD0.self (sz := s.heap.size)
  generalize hAe : va_A (hW cI cZ X S O V) s.heap.size = A at hD ⊢
  have hA : ∀ q : Nat, s.heap.size ≤ q → A q := fun q h => by rw [← hAe]; exact Or.inr h
  have hS : va_S A s.heap s.heap [] := va_S.rf
  have i0 : ∀ w ∈ u_ws RX0 TX0 3, w ∈ wsX0_allowCache := by decide +kernel
  have fl_9 := hts (.fieldLink RX0 9 "SignOnHouse$Decisions" "caches" "[I") (by decide +kernel)
  have hl := lv_entry ([.ref (X 4), .int (nI ai), .int x0]) (n := 3) (Nat.le_of_ble_eq_true rfl)
  rw [lg_entry_eq]
  generalize (lg_sl ([.ref (X 4), .int (nI ai), .int x0]) ++ List.replicate (3 - (lg_sl ([.ref (X 4), .int (nI ai), .int x0])).length) Slot.unset).toArray = ls at hl ⊢
  have hl : lv_has ls 3 [(0, .ref (X 4)), (1, .int (nI ai)), (2, .int x0)] := hl
  refine lv_aload_n hx hb dX0_allowCache_0 rfl (lv_at hl 0 rfl) ?_
  refine va_get (D := D) (ci := 0) (v := .ref (X 16)) (C := RX0) (T := TX0) (N := 3) hx hb hts i0 hown hK hP 4 rfl rfl 0 (by decide) fl_9 (fun _ h9 => h9) rfl dX0_allowCache_1 ?_
  refine lv_iload_n hx hb dX0_allowCache_4 rfl (lv_at hl 1 rfl) ?_
  refine lv_iload_n hx hb dX0_allowCache_5 rfl (lv_at hl 2 rfl) ?_
  refine z_iast (D := D) (j := ai) (f := S 16) hx hb hK hP hD hS 16 0 rfl rfl (by omega) (by decide) dX0_allowCache_6 (fun H locs hP hD hS => ?_)
  have hP : va_P D vwCl (hW cI cZ X (va_up S 16 (upd (S 16) ai x0)) O V) H := hP
  have hD : va_D A (hW cI cZ X (va_up S 16 (upd (S 16) ai x0)) O V) := hD
  exact z_wvret hx hb hr hlocks hP hK hD hS dX0_allowCache_7

set_option maxHeartbeats 4000000 in
set_option maxRecDepth 100000 in
theorem kX0_place (l : Launch) (ai : Nat) (pi : Nat) (ri : Nat) : Met l yX0_place wsX0_place ({ frames := 0, cells := 0, slots := 0, locals := 0 } : Room) (zP [.int (nI ai), .int (nI pi), .int (nI ri)]) (QcRead (nI (ai * 60 + pi * 6 + ri))) 0 0 (fun _ => False) := by
  refine Met.ofW (cc := cX0_place) (maxL := 3) (ret := (some .int)) (by decide) rfl ?_
  intro p e s m args below meth c s₁ B hml hv
  obtain rfl := hv
  have hx := B.exec
  have hb := B.bytes
  have hr := B.returns
  have hts := atoms_spec (ws := wsX0_place) B.pre
  have hown : s.vm.findClass RX0 = some m.cls := findClass_of_methodNamed B.named
  have hlocks := B.notSynchronized
  have hl := lv_entry ([.int (nI ai), .int (nI pi), .int (nI ri)]) (n := 3) (Nat.le_of_ble_eq_true rfl)
  rw [lg_entry_eq]
  generalize (lg_sl ([.int (nI ai), .int (nI pi), .int (nI ri)]) ++ List.replicate (3 - (lg_sl ([.int (nI ai), .int (nI pi), .int (nI ri)])).length) Slot.unset).toArray = ls at hl ⊢
  have hl : lv_has ls 3 [(0, .int (nI ai)), (1, .int (nI pi)), (2, .int (nI ri))] := hl
  refine lv_iload_n hx hb dX0_place_0 rfl (lv_at hl 0 rfl) ?_
  refine lv_bipush (v := 60) hx hb dX0_place_1 (by decide) ?_
  refine lv_imul hx hb dX0_place_3 ?_
  refine lv_iload_n hx hb dX0_place_4 rfl (lv_at hl 1 rfl) ?_
  refine lv_bipush (v := 6) hx hb dX0_place_5 (by decide) ?_
  refine lv_imul hx hb dX0_place_7 ?_
  refine lv_iadd hx hb dX0_place_8 ?_
  refine lv_iload_n hx hb dX0_place_9 rfl (lv_at hl 2 rfl) ?_
  refine lv_iadd hx hb dX0_place_10 ?_
  exact z_ret hx hb hr hlocks (by simp only [show (60 : Int32) = nI 60 from rfl, show (6 : Int32) = nI 6 from rfl, pk_mul, nI_add]) dX0_place_11

set_option maxHeartbeats 4000000 in
set_option maxRecDepth 100000 in
theorem kX0_areKept (l : Launch) (D : va_G) (cI cZ : ClassId) (X : Nat → Nat) (S : Nat → Nat → Int32) (O : Nat → Bool) (V : Nat → Int32) (ai : Nat) (pi : Nat) (ri : Nat) (hai : ai < 4) (hpi : pi < 10) (hri : ri < 6) : Met l yX0_areKept wsX0_areKept ({ frames := 1, cells := 0, slots := 0, locals := 22 } : Room) (zR D (tyl cI cZ) (hW cI cZ X S O V) [.ref (X 4), .int (nI ai), .int (nI pi), .int (nI ri)]) (QcRead (bi (!decide (S 17 (ai * 60 + pi * 6 + ri) = (-1))))) 0 0 (fun _ => False) := by
  refine Met.ofW (cc := cX0_areKept) (maxL := 4) (ret := (some .boolean)) (by decide) rfl ?_
  intro p e s m args below meth c s₁ B hml hv
  obtain ⟨rfl, hP, hK⟩ := hv
  have hx := B.exec
  have hb := B.bytes
  have hr := B.returns
  have hts := atoms_spec (ws := wsX0_areKept) B.pre
  have hown : s.vm.findClass RX0 = some m.cls := findClass_of_methodNamed B.named
  have hlocks := B.notSynchronized
  have i0 : ∀ w ∈ u_ws RX0 TX0 3, w ∈ wsX0_areKept := by decide +kernel
  have fl_15 := hts (.fieldLink RX0 15 "SignOnHouse$Decisions" "answers" "[I") (by decide +kernel)
  have hl := lv_entry ([.ref (X 4), .int (nI ai), .int (nI pi), .int (nI ri)]) (n := 4) (Nat.le_of_ble_eq_true rfl)
  rw [lg_entry_eq]
  generalize (lg_sl ([.ref (X 4), .int (nI ai), .int (nI pi), .int (nI ri)]) ++ List.replicate (4 - (lg_sl ([.ref (X 4), .int (nI ai), .int (nI pi), .int (nI ri)])).length) Slot.unset).toArray = ls at hl ⊢
  have hl : lv_has ls 4 [(0, .ref (X 4)), (1, .int (nI ai)), (2, .int (nI pi)), (3, .int (nI ri))] := hl
  refine lv_aload_n hx hb dX0_areKept_0 rfl (lv_at hl 0 rfl) ?_
  refine va_get (D := D) (ci := 0) (v := .ref (X 17)) (C := RX0) (T := TX0) (N := 3) hx hb hts i0 hown hK hP 4 rfl rfl 1 (by decide) fl_15 (fun _ h9 => h9) rfl dX0_areKept_1 ?_
  refine lv_iload_n hx hb dX0_areKept_4 rfl (lv_at hl 1 rfl) ?_
  refine lv_iload_n hx hb dX0_areKept_5 rfl (lv_at hl 2 rfl) ?_
  refine lv_iload_n hx hb dX0_areKept_6 rfl (lv_at hl 3 rfl) ?_
  refine z_callR (W.runS (As := [.int (nI ai), .int (nI pi), .int (nI ri)]) (rest := [.ref (X 17)]) ⟨hx, hb, hml, hown, hts⟩ (kX0_place l ai pi ri) (va_cwS 3 hts gX0_areKept_X0_place rfl rfl rfl (by decide +kernel) ⟨Nat.le_of_ble_eq_true rfl, Nat.le_of_ble_eq_true rfl⟩) zP_pre rfl rfl hl.1 rfl (lv_room (Nat.le_of_ble_eq_true rfl)) dX0_areKept_7 ⟨Nat.zero_le _, Nat.zero_le _⟩) ?_
  refine z_iald (D := D) (j := (ai * 60 + pi * 6 + ri)) (f := S 17) hx hb hK hP 17 0 rfl rfl (by omega) (by decide) dX0_areKept_10 ?_
  refine lv_iconst (v := (-1)) hx hb dX0_areKept_11 rfl ?_
  refine z_sel_icmp_eq hx hb dX0_areKept_12 dX0_areKept_15 dX0_areKept_16 dX0_areKept_19 ?_
  exact z_zret hx hb hr hlocks rfl dX0_areKept_20

set_option maxHeartbeats 4000000 in
set_option maxRecDepth 100000 in
theorem kX0_answer (l : Launch) (D : va_G) (cI cZ : ClassId) (X : Nat → Nat) (S : Nat → Nat → Int32) (O : Nat → Bool) (V : Nat → Int32) (ai : Nat) (pi : Nat) (ri : Nat) (hai : ai < 4) (hpi : pi < 10) (hri : ri < 6) : Met l yX0_answer wsX0_answer ({ frames := 1, cells := 0, slots := 0, locals := 22 } : Room) (zR D (tyl cI cZ) (hW cI cZ X S O V) [.ref (X 4), .int (nI ai), .int (nI pi), .int (nI ri)]) (QcRead (S 17 (ai * 60 + pi * 6 + ri))) 0 0 (fun _ => False) := by
  refine Met.ofW (cc := cX0_answer) (maxL := 4) (ret := (some .int)) (by decide) rfl ?_
  intro p e s m args below meth c s₁ B hml hv
  obtain ⟨rfl, hP, hK⟩ := hv
  have hx := B.exec
  have hb := B.bytes
  have hr := B.returns
  have hts := atoms_spec (ws := wsX0_answer) B.pre
  have hown : s.vm.findClass RX0 = some m.cls := findClass_of_methodNamed B.named
  have hlocks := B.notSynchronized
  have i0 : ∀ w ∈ u_ws RX0 TX0 3, w ∈ wsX0_answer := by decide +kernel
  have fl_15 := hts (.fieldLink RX0 15 "SignOnHouse$Decisions" "answers" "[I") (by decide +kernel)
  have hl := lv_entry ([.ref (X 4), .int (nI ai), .int (nI pi), .int (nI ri)]) (n := 4) (Nat.le_of_ble_eq_true rfl)
  rw [lg_entry_eq]
  generalize (lg_sl ([.ref (X 4), .int (nI ai), .int (nI pi), .int (nI ri)]) ++ List.replicate (4 - (lg_sl ([.ref (X 4), .int (nI ai), .int (nI pi), .int (nI ri)])).length) Slot.unset).toArray = ls at hl ⊢
  have hl : lv_has ls 4 [(0, .ref (X 4)), (1, .int (nI ai)), (2, .int (nI pi)), (3, .int (nI ri))] := hl
  refine lv_aload_n hx hb dX0_answer_0 rfl (lv_at hl 0 rfl) ?_
  refine va_get (D := D) (ci := 0) (v := .ref (X 17)) (C := RX0) (T := TX0) (N := 3) hx hb hts i0 hown hK hP 4 rfl rfl 1 (by decide) fl_15 (fun _ h9 => h9) rfl dX0_answer_1 ?_
  refine lv_iload_n hx hb dX0_answer_4 rfl (lv_at hl 1 rfl) ?_
  refine lv_iload_n hx hb dX0_answer_5 rfl (lv_at hl 2 rfl) ?_
  refine lv_iload_n hx hb dX0_answer_6 rfl (lv_at hl 3 rfl) ?_
  refine z_callR (W.runS (As := [.int (nI ai), .int (nI pi), .int (nI ri)]) (rest := [.ref (X 17)]) ⟨hx, hb, hml, hown, hts⟩ (kX0_place l ai pi ri) (va_cwS 3 hts gX0_answer_X0_place rfl rfl rfl (by decide +kernel) ⟨Nat.le_of_ble_eq_true rfl, Nat.le_of_ble_eq_true rfl⟩) zP_pre rfl rfl hl.1 rfl (lv_room (Nat.le_of_ble_eq_true rfl)) dX0_answer_7 ⟨Nat.zero_le _, Nat.zero_le _⟩) ?_
  refine z_iald (D := D) (j := (ai * 60 + pi * 6 + ri)) (f := S 17) hx hb hK hP 17 0 rfl rfl (by omega) (by decide) dX0_answer_10 ?_
  exact z_ret hx hb hr hlocks rfl dX0_answer_11

set_option maxHeartbeats 4000000 in
set_option maxRecDepth 100000 in
theorem kX0_keep (l : Launch) (D : va_G) (cI cZ : ClassId) (X : Nat → Nat) (S : Nat → Nat → Int32) (O : Nat → Bool) (V : Nat → Int32) (sz : Nat) (ai : Nat) (pi : Nat) (ri : Nat) (x0 : Int32) (x1 : Int32) (hai : ai < 4) (hpi : pi < 10) (hri : ri < 6) : Met l yX0_keep wsX0_keep ({ frames := 1, cells := 0, slots := 0, locals := 22 } : Room) (zW D (tyl cI cZ) (hW cI cZ X S O V) sz [.ref (X 4), .int (nI ai), .int (nI pi), .int (nI ri), .int x0, .int x1]) (zQv D (tyl cI cZ) (hW cI cZ X (c_keep S ai pi ri x0 x1) O V) (va_A (hW cI cZ X S O V) sz)) 0 0 (va_A (hW cI cZ X S O V) sz) := by
  refine Met.ofW (cc := cX0_keep) (maxL := 6) (ret := none) (by decide) rfl ?_
  intro p e s m args below meth c s₁ B hml hv
  obtain ⟨rfl, hsz, hP, hK, hD0⟩ := hv
  have hx := B.exec
  have hb := B.bytes
  have hr := B.returns
  have hts := atoms_spec (ws := wsX0_keep) B.pre
  have hown : s.vm.findClass RX0 = some m.cls := findClass_of_methodNamed B.named
  have hlocks := B.notSynchronized
  subst hsz
  have hD := hD0.self (sz := s.heap.size)
  generalize hAe : va_A (hW cI cZ X S O V) s.heap.size = A at hD ⊢
  have hA : ∀ q : Nat, s.heap.size ≤ q → A q := fun q h => by rw [← hAe]; exact Or.inr h
  have hS : va_S A s.heap s.heap [] := va_S.rf
  have i0 : ∀ w ∈ u_ws RX0 TX0 3, w ∈ wsX0_keep := by decide +kernel
  have fl_9 := hts (.fieldLink RX0 9 "SignOnHouse$Decisions" "caches" "[I") (by decide +kernel)
  have fl_15 := hts (.fieldLink RX0 15 "SignOnHouse$Decisions" "answers" "[I") (by decide +kernel)
  have fl_18 := hts (.fieldLink RX0 18 "SignOnHouse$Decisions" "keptSince" "[I") (by decide +kernel)
  have hl := lv_entry ([.ref (X 4), .int (nI ai), .int (nI pi), .int (nI ri), .int x0, .int x1]) (n := 6) (Nat.le_of_ble_eq_true rfl)
  rw [lg_entry_eq]
  generalize (lg_sl ([.ref (X 4), .int (nI ai), .int (nI pi), .int (nI ri), .int x0, .int x1]) ++ List.replicate (6 - (lg_sl ([.ref (X 4), .int (nI ai), .int (nI pi), .int (nI ri), .int x0, .int x1])).length) Slot.unset).toArray = ls at hl ⊢
  have hl : lv_has ls 6 [(0, .ref (X 4)), (1, .int (nI ai)), (2, .int (nI pi)), (3, .int (nI ri)), (4, .int x0), (5, .int x1)] := hl
  refine lv_aload_n hx hb dX0_keep_0 rfl (lv_at hl 0 rfl) ?_
  refine va_get (D := D) (ci := 0) (v := .ref (X 16)) (C := RX0) (T := TX0) (N := 3) hx hb hts i0 hown hK hP 4 rfl rfl 0 (by decide) fl_9 (fun _ h9 => h9) rfl dX0_keep_1 ?_
  refine lv_iload_n hx hb dX0_keep_4 rfl (lv_at hl 1 rfl) ?_
  refine z_iald (D := D) (j := ai) (f := S 16) hx hb hK hP 16 0 rfl rfl (by omega) (by decide) dX0_keep_5 ?_
  refine lv_if_ne (tgt := 10) hx hb dX0_keep_6 (by decide) (fun c_6 => ?_) (fun c_6 => ?_)
  · refine lv_aload_n hx hb dX0_keep_10 rfl (lv_at hl 0 rfl) ?_
    refine va_get (D := D) (ci := 0) (v := .ref (X 17)) (C := RX0) (T := TX0) (N := 3) hx hb hts i0 hown hK hP 4 rfl rfl 1 (by decide) fl_15 (fun _ h9 => h9) rfl dX0_keep_11 ?_
    refine lv_iload_n hx hb dX0_keep_14 rfl (lv_at hl 1 rfl) ?_
    refine lv_iload_n hx hb dX0_keep_15 rfl (lv_at hl 2 rfl) ?_
    refine lv_iload_n hx hb dX0_keep_16 rfl (lv_at hl 3 rfl) ?_
    refine z_callR (W.runS (As := [.int (nI ai), .int (nI pi), .int (nI ri)]) (rest := [.ref (X 17)]) ⟨hx, hb, hml, hown, hts⟩ (kX0_place l ai pi ri) (va_cwS 3 hts gX0_keep_X0_place rfl rfl rfl (by decide +kernel) ⟨Nat.le_of_ble_eq_true rfl, Nat.le_of_ble_eq_true rfl⟩) zP_pre rfl rfl hl.1 rfl (lv_room (Nat.le_of_ble_eq_true rfl)) dX0_keep_17 ⟨Nat.zero_le _, Nat.zero_le _⟩) ?_
    refine lv_iload hx hb dX0_keep_20 (lv_at hl 4 rfl) ?_
    refine z_iast (D := D) (j := (ai * 60 + pi * 6 + ri)) (f := S 17) hx hb hK hP hD hS 17 0 rfl rfl (by omega) (by decide) dX0_keep_22 (fun H locs hP hD hS => ?_)
    have hP : va_P D vwCl (hW cI cZ X (va_up S 17 (upd (S 17) (ai * 60 + pi * 6 + ri) x0)) O V) H := hP
    have hD : va_D A (hW cI cZ X (va_up S 17 (upd (S 17) (ai * 60 + pi * 6 + ri) x0)) O V) := hD
    refine lv_aload_n hx hb dX0_keep_23 rfl (lv_at hl 0 rfl) ?_
    refine va_get (D := D) (ci := 0) (v := .ref (X 18)) (C := RX0) (T := TX0) (N := 3) hx hb hts i0 hown hK hP 4 rfl rfl 2 (by decide) fl_18 (fun _ h9 => h9) rfl dX0_keep_24 ?_
    refine lv_iload_n hx hb dX0_keep_27 rfl (lv_at hl 1 rfl) ?_
    refine lv_iload_n hx hb dX0_keep_28 rfl (lv_at hl 2 rfl) ?_
    refine lv_iload_n hx hb dX0_keep_29 rfl (lv_at hl 3 rfl) ?_
    refine z_callR (W.runS (As := [.int (nI ai), .int (nI pi), .int (nI ri)]) (rest := [.ref (X 18)]) ⟨hx, hb, hml, hown, hts⟩ (kX0_place l ai pi ri) (va_cwS 3 hts gX0_keep_X0_place rfl rfl rfl (by decide +kernel) ⟨Nat.le_of_ble_eq_true rfl, Nat.le_of_ble_eq_true rfl⟩) zP_pre rfl rfl hl.1 rfl (lv_room (Nat.le_of_ble_eq_true rfl)) dX0_keep_30 ⟨Nat.zero_le _, Nat.zero_le _⟩) ?_
    refine lv_iload hx hb dX0_keep_33 (lv_at hl 5 rfl) ?_
    refine z_iast (D := D) (j := (ai * 60 + pi * 6 + ri)) (f := S 18) hx hb hK hP hD hS 18 0 rfl rfl (by omega) (by decide) dX0_keep_35 (fun H locs hP hD hS => ?_)
    have hP : va_P D vwCl (hW cI cZ X (va_up (va_up S 17 (upd (S 17) (ai * 60 + pi * 6 + ri) x0)) 18 (upd (S 18) (ai * 60 + pi * 6 + ri) x1)) O V) H := hP
    have hD : va_D A (hW cI cZ X (va_up (va_up S 17 (upd (S 17) (ai * 60 + pi * 6 + ri) x0)) 18 (upd (S 18) (ai * 60 + pi * 6 + ri) x1)) O V) := hD
    have eS : (c_keep S ai pi ri x0 x1) = (va_up (va_up S 17 (upd (S 17) (ai * 60 + pi * 6 + ri) x0)) 18 (upd (S 18) (ai * 60 + pi * 6 + ri) x1)) := by simp [c_keep, bi, c_6]
    exact z_wvret hx hb hr hlocks (by rw [eS]; exact hP) hK (by rw [eS]; exact hD) hS dX0_keep_36
  · have eS : (c_keep S ai pi ri x0 x1) = S := by simp [c_keep, bi, (eq_true c_6)]
    exact z_wvret hx hb hr hlocks (by rw [eS]; exact hP) hK (by rw [eS]; exact hD) hS dX0_keep_9

set_option maxHeartbeats 4000000 in
set_option maxRecDepth 100000 in
theorem kX0_dropAllOf (l : Launch) (D : va_G) (cI cZ : ClassId) (X : Nat → Nat) (S : Nat → Nat → Int32) (O : Nat → Bool) (V : Nat → Int32) (sz : Nat) (ai : Nat) (pi : Nat) (hai : ai < 4) (hpi : pi < 10) : Met l yX0_dropAllOf wsX0_dropAllOf ({ frames := 2, cells := 0, slots := 0, locals := 45 } : Room) (zW D (tyl cI cZ) (hW cI cZ X S O V) sz [.ref (X 4), .int (nI ai), .int (nI pi)]) (zQi D (tyl cI cZ) (hW cI cZ X (c_daS S ai pi 6) O V) (c_daN S ai pi 6) (va_A (hW cI cZ X S O V) sz)) 0 0 (va_A (hW cI cZ X S O V) sz) := by
  refine Met.ofW (cc := cX0_dropAllOf) (maxL := 5) (ret := (some .int)) (by decide) rfl ?_
  intro p e s m args below meth c s₁ B hml hv
  obtain ⟨rfl, hsz, hP, hK, hD0⟩ := hv
  have hx := B.exec
  have hb := B.bytes
  have hr := B.returns
  have hts := atoms_spec (ws := wsX0_dropAllOf) B.pre
  have hown : s.vm.findClass RX0 = some m.cls := findClass_of_methodNamed B.named
  have hlocks := B.notSynchronized
  subst hsz
  have hD := hD0.self (sz := s.heap.size)
  generalize hAe : va_A (hW cI cZ X S O V) s.heap.size = A at hD ⊢
  have hA : ∀ q : Nat, s.heap.size ≤ q → A q := fun q h => by rw [← hAe]; exact Or.inr h
  have hS : va_S A s.heap s.heap [] := va_S.rf
  have i0 : ∀ w ∈ u_ws RX0 TX0 3, w ∈ wsX0_dropAllOf := by decide +kernel
  have fl_15 := hts (.fieldLink RX0 15 "SignOnHouse$Decisions" "answers" "[I") (by decide +kernel)
  have hl := lv_entry ([.ref (X 4), .int (nI ai), .int (nI pi)]) (n := 5) (Nat.le_of_ble_eq_true rfl)
  rw [lg_entry_eq]
  generalize (lg_sl ([.ref (X 4), .int (nI ai), .int (nI pi)]) ++ List.replicate (5 - (lg_sl ([.ref (X 4), .int (nI ai), .int (nI pi)])).length) Slot.unset).toArray = ls at hl ⊢
  have hl : lv_has ls 5 [(0, .ref (X 4)), (1, .int (nI ai)), (2, .int (nI pi))] := hl
  refine lv_iconst (v := 0) hx hb dX0_dropAllOf_0 rfl ?_
  refine lv_istore_n (lv' := [(3, .int 0), (0, .ref (X 4)), (1, .int (nI ai)), (2, .int (nI pi))]) hx hb dX0_dropAllOf_1 rfl hl (by decide) rfl (fun ls hl => ?_)
  refine lv_iconst (v := nI 0) hx hb dX0_dropAllOf_2 rfl ?_
  refine lv_istore (lv' := [(4, .int (nI 0)), (3, .int 0), (0, .ref (X 4)), (1, .int (nI ai)), (2, .int (nI pi))]) hx hb dX0_dropAllOf_3 hl (by decide) rfl (fun ls hl => ?_)
  refine z_loopW (N := 6) (nL := 5) (Lc := (fun k => [(4, .int (nI k)), (3, .int (c_daN S ai pi k)), (0, .ref (X 4)), (1, .int (nI ai)), (2, .int (nI pi))])) (Wd := fun k => hW cI cZ X (c_daS S ai pi k) O V) (lv_sub hl [0, 1, 2, 3, 4] rfl) hP hD hS (fun H locs ls hP hD hS hl => ?_) (fun k H locs ls hk hP hD hS hl ih => ?_)
  · have hP : va_P D vwCl (hW cI cZ X (c_daS S ai pi 6) O V) H := hP
    have hD : va_D A (hW cI cZ X (c_daS S ai pi 6) O V) := hD
    have hl : lv_has ls 5 [(4, .int (nI 6)), (3, .int (c_daN S ai pi 6)), (0, .ref (X 4)), (1, .int (nI ai)), (2, .int (nI pi))] := hl
    refine lv_iload hx hb dX0_dropAllOf_5 (lv_at hl 0 rfl) ?_
    refine lv_bipush (v := nI 6) hx hb dX0_dropAllOf_7 (by decide) ?_
    refine z_ge_t (tgt := 45) (nI_le (by omega) (by omega)) hx hb dX0_dropAllOf_9 (by decide) ?_
    refine lv_iload_n hx hb dX0_dropAllOf_45 rfl (lv_at hl 1 rfl) ?_
    exact z_wret hx hb hr hlocks hP hK hD hS rfl dX0_dropAllOf_46
  · have hP : va_P D vwCl (hW cI cZ X (c_daS S ai pi k) O V) H := hP
    have hD : va_D A (hW cI cZ X (c_daS S ai pi k) O V) := hD
    have hl : lv_has ls 5 [(4, .int (nI k)), (3, .int (c_daN S ai pi k)), (0, .ref (X 4)), (1, .int (nI ai)), (2, .int (nI pi))] := hl
    have ih_5 := ih
    refine lv_iload hx hb dX0_dropAllOf_5 (lv_at hl 0 rfl) ?_
    refine lv_bipush (v := nI 6) hx hb dX0_dropAllOf_7 (by decide) ?_
    refine z_ge_f (tgt := 45) (nI_ge (by omega) (by omega)) hx hb dX0_dropAllOf_9 (by decide) ?_
    refine lv_aload_n hx hb dX0_dropAllOf_12 rfl (lv_at hl 2 rfl) ?_
    refine lv_iload_n hx hb dX0_dropAllOf_13 rfl (lv_at hl 3 rfl) ?_
    refine lv_iload_n hx hb dX0_dropAllOf_14 rfl (lv_at hl 4 rfl) ?_
    refine lv_iload hx hb dX0_dropAllOf_15 (lv_at hl 0 rfl) ?_
    refine z_callR (W.runV (As := [.int (nI ai), .int (nI pi), .int (nI k)]) (rest := []) ⟨hx, hb, hml, hown, hts⟩ (kX0_areKept l D cI cZ X (c_daS S ai pi k) O V ai pi k (by omega) (by omega) (by omega)) (cwV 3 hts gX0_dropAllOf_X0_areKept rfl rfl rfl (by decide +kernel) ⟨Nat.le_of_ble_eq_true rfl, Nat.le_of_ble_eq_true rfl⟩) (zR_preV 4 0 hK hP rfl rfl) rfl rfl hl.1 rfl (lv_room (Nat.le_of_ble_eq_true rfl)) dX0_dropAllOf_17 ⟨Nat.zero_le _, Nat.zero_le _⟩) ?_
    refine z_if_eq (tgt := 39) hx hb dX0_dropAllOf_20 (by decide) (fun c_20 => ?_) (fun c_20 => ?_)
    · refine lv_iinc (v := nI (k + 1)) (lv' := [(4, .int (nI (k + 1))), (3, .int (c_daN S ai pi k)), (0, .ref (X 4)), (1, .int (nI ai)), (2, .int (nI pi))]) hx hb dX0_dropAllOf_39 hl (k := 0) rfl (nI_1 _) (by decide) rfl (fun ls hl => ?_)
      refine lv_goto (tgt := 5) hx hb dX0_dropAllOf_42 (by decide) ?_
      have e3 : (c_daN S ai pi (k + 1)) = (c_daN S ai pi k) := by simp [c_daN, c_daS, bi, (eq_true (nd_f c_20))]
      have eS : (c_daS S ai pi (k + 1)) = (c_daS S ai pi k) := by simp [c_daN, c_daS, bi, (eq_true (nd_f c_20))]
      exact ih_5 H locs ls (by show va_P D vwCl (hW cI cZ X (c_daS S ai pi (k + 1)) O V) H; rw [eS]; exact hP) (by show va_D A (hW cI cZ X (c_daS S ai pi (k + 1)) O V); rw [eS]; exact hD) hS (by show lv_has ls 5 [(4, .int (nI (k + 1))), (3, .int (c_daN S ai pi (k + 1))), (0, .ref (X 4)), (1, .int (nI ai)), (2, .int (nI pi))]; rw [e3]; exact lv_sub hl [0, 1, 2, 3, 4] rfl)
    · refine lv_aload_n hx hb dX0_dropAllOf_23 rfl (lv_at hl 2 rfl) ?_
      refine va_get (D := D) (ci := 0) (v := .ref (X 17)) (C := RX0) (T := TX0) (N := 3) hx hb hts i0 hown hK hP 4 rfl rfl 1 (by decide) fl_15 (fun _ h9 => h9) rfl dX0_dropAllOf_24 ?_
      refine lv_iload_n hx hb dX0_dropAllOf_27 rfl (lv_at hl 3 rfl) ?_
      refine lv_iload_n hx hb dX0_dropAllOf_28 rfl (lv_at hl 4 rfl) ?_
      refine lv_iload hx hb dX0_dropAllOf_29 (lv_at hl 0 rfl) ?_
      refine z_callR (W.runS (As := [.int (nI ai), .int (nI pi), .int (nI k)]) (rest := [.ref (X 17)]) ⟨hx, hb, hml, hown, hts⟩ (kX0_place l ai pi k) (va_cwS 3 hts gX0_dropAllOf_X0_place rfl rfl rfl (by decide +kernel) ⟨Nat.le_of_ble_eq_true rfl, Nat.le_of_ble_eq_true rfl⟩) zP_pre rfl rfl hl.1 rfl (lv_room (Nat.le_of_ble_eq_true rfl)) dX0_dropAllOf_31 ⟨Nat.zero_le _, Nat.zero_le _⟩) ?_
      refine lv_iconst (v := (-1)) hx hb dX0_dropAllOf_34 rfl ?_
      refine z_iast (D := D) (j := (ai * 60 + pi * 6 + k)) (f := (c_daS S ai pi k) 17) hx hb hK hP hD hS 17 0 rfl rfl (by omega) (by decide) dX0_dropAllOf_35 (fun H locs hP hD hS => ?_)
      have hP : va_P D vwCl (hW cI cZ X (va_up (c_daS S ai pi k) 17 (upd ((c_daS S ai pi k) 17) (ai * 60 + pi * 6 + k) (-1))) O V) H := hP
      have hD : va_D A (hW cI cZ X (va_up (c_daS S ai pi k) 17 (upd ((c_daS S ai pi k) 17) (ai * 60 + pi * 6 + k) (-1))) O V) := hD
      refine lv_iinc (v := c_daN S ai pi k + 1) (lv' := [(3, .int (c_daN S ai pi k + 1)), (4, .int (nI k)), (0, .ref (X 4)), (1, .int (nI ai)), (2, .int (nI pi))]) hx hb dX0_dropAllOf_36 hl (k := 1) rfl rfl (by decide) rfl (fun ls hl => ?_)
      refine lv_iinc (v := nI (k + 1)) (lv' := [(4, .int (nI (k + 1))), (3, .int (c_daN S ai pi k + 1)), (0, .ref (X 4)), (1, .int (nI ai)), (2, .int (nI pi))]) hx hb dX0_dropAllOf_39 hl (k := 1) rfl (nI_1 _) (by decide) rfl (fun ls hl => ?_)
      refine lv_goto (tgt := 5) hx hb dX0_dropAllOf_42 (by decide) ?_
      have e3 : (c_daN S ai pi (k + 1)) = (c_daN S ai pi k + 1) := by simp [c_daN, c_daS, bi, (nd_t c_20)]
      have eS : (c_daS S ai pi (k + 1)) = (va_up (c_daS S ai pi k) 17 (upd ((c_daS S ai pi k) 17) (ai * 60 + pi * 6 + k) (-1))) := by simp [c_daN, c_daS, bi, (nd_t c_20)]
      exact ih_5 H locs ls (by show va_P D vwCl (hW cI cZ X (c_daS S ai pi (k + 1)) O V) H; rw [eS]; exact hP) (by show va_D A (hW cI cZ X (c_daS S ai pi (k + 1)) O V); rw [eS]; exact hD) hS (by show lv_has ls 5 [(4, .int (nI (k + 1))), (3, .int (c_daN S ai pi (k + 1))), (0, .ref (X 4)), (1, .int (nI ai)), (2, .int (nI pi))]; rw [e3]; exact lv_sub hl [0, 1, 2, 3, 4] rfl)

set_option maxHeartbeats 4000000 in
set_option maxRecDepth 100000 in
theorem kX0_dropDue (l : Launch) (D : va_G) (cI cZ : ClassId) (X : Nat → Nat) (S : Nat → Nat → Int32) (O : Nat → Bool) (V : Nat → Int32) (sz : Nat) (ai : Nat) (x0 : Int32) (hai : ai < 4) : Met l yX0_dropDue wsX0_dropDue ({ frames := 1, cells := 0, slots := 0, locals := 22 } : Room) (zW D (tyl cI cZ) (hW cI cZ X S O V) sz [.ref (X 4), .int (nI ai), .int x0]) (zQv D (tyl cI cZ) (hW cI cZ X (c_ddS S ai x0 60) O V) (va_A (hW cI cZ X S O V) sz)) 0 0 (va_A (hW cI cZ X S O V) sz) := by
  refine Met.ofW (cc := cX0_dropDue) (maxL := 5) (ret := none) (by decide) rfl ?_
  intro p e s m args below meth c s₁ B hml hv
  obtain ⟨rfl, hsz, hP, hK, hD0⟩ := hv
  have hx := B.exec
  have hb := B.bytes
  have hr := B.returns
  have hts := atoms_spec (ws := wsX0_dropDue) B.pre
  have hown : s.vm.findClass RX0 = some m.cls := findClass_of_methodNamed B.named
  have hlocks := B.notSynchronized
  subst hsz
  have hD := hD0.self (sz := s.heap.size)
  generalize hAe : va_A (hW cI cZ X S O V) s.heap.size = A at hD ⊢
  have hA : ∀ q : Nat, s.heap.size ≤ q → A q := fun q h => by rw [← hAe]; exact Or.inr h
  have hS : va_S A s.heap s.heap [] := va_S.rf
  have i0 : ∀ w ∈ u_ws RX0 TX0 3, w ∈ wsX0_dropDue := by decide +kernel
  have fl_9 := hts (.fieldLink RX0 9 "SignOnHouse$Decisions" "caches" "[I") (by decide +kernel)
  have fl_15 := hts (.fieldLink RX0 15 "SignOnHouse$Decisions" "answers" "[I") (by decide +kernel)
  have fl_18 := hts (.fieldLink RX0 18 "SignOnHouse$Decisions" "keptSince" "[I") (by decide +kernel)
  have hl := lv_entry ([.ref (X 4), .int (nI ai), .int x0]) (n := 5) (Nat.le_of_ble_eq_true rfl)
  rw [lg_entry_eq]
  generalize (lg_sl ([.ref (X 4), .int (nI ai), .int x0]) ++ List.replicate (5 - (lg_sl ([.ref (X 4), .int (nI ai), .int x0])).length) Slot.unset).toArray = ls at hl ⊢
  have hl : lv_has ls 5 [(0, .ref (X 4)), (1, .int (nI ai)), (2, .int x0)] := hl
  refine lv_iload_n hx hb dX0_dropDue_0 rfl (lv_at hl 1 rfl) ?_
  refine lv_iconst (v := nI 0) hx hb dX0_dropDue_1 rfl ?_
  refine lv_iconst (v := nI 0) hx hb dX0_dropDue_2 rfl ?_
  refine z_callR (W.runS (As := [.int (nI ai), .int (nI 0), .int (nI 0)]) (rest := []) ⟨hx, hb, hml, hown, hts⟩ (kX0_place l ai 0 0) (va_cwS 3 hts gX0_dropDue_X0_place rfl rfl rfl (by decide +kernel) ⟨Nat.le_of_ble_eq_true rfl, Nat.le_of_ble_eq_true rfl⟩) zP_pre rfl rfl hl.1 rfl (lv_room (Nat.le_of_ble_eq_true rfl)) dX0_dropDue_3 ⟨Nat.zero_le _, Nat.zero_le _⟩) ?_
  refine z_top (nI (ai * 60)) (by rw [show ai * 60 + 0 * 6 + 0 = ai * 60 by omega]) ?_
  refine lv_istore_n (lv' := [(3, .int (nI (ai * 60))), (0, .ref (X 4)), (1, .int (nI ai)), (2, .int x0)]) hx hb dX0_dropDue_6 rfl hl (by decide) rfl (fun ls hl => ?_)
  refine lv_iload_n hx hb dX0_dropDue_7 rfl (lv_at hl 0 rfl) ?_
  refine lv_istore (lv' := [(4, .int (nI (ai * 60))), (3, .int (nI (ai * 60))), (0, .ref (X 4)), (1, .int (nI ai)), (2, .int x0)]) hx hb dX0_dropDue_8 hl (by decide) rfl (fun ls hl => ?_)
  refine z_loopW (N := 60) (nL := 5) (Lc := (fun k => [(4, .int (nI (ai * 60 + k))), (3, .int (nI (ai * 60))), (0, .ref (X 4)), (1, .int (nI ai)), (2, .int x0)])) (Wd := fun k => hW cI cZ X (c_ddS S ai x0 k) O V) (lv_sub hl [0, 1, 2, 3, 4] rfl) hP hD hS (fun H locs ls hP hD hS hl => ?_) (fun k H locs ls hk hP hD hS hl ih => ?_)
  · have hP : va_P D vwCl (hW cI cZ X (c_ddS S ai x0 60) O V) H := hP
    have hD : va_D A (hW cI cZ X (c_ddS S ai x0 60) O V) := hD
    have hl : lv_has ls 5 [(4, .int (nI (ai * 60 + 60))), (3, .int (nI (ai * 60))), (0, .ref (X 4)), (1, .int (nI ai)), (2, .int x0)] := hl
    refine lv_iload hx hb dX0_dropDue_10 (lv_at hl 0 rfl) ?_
    refine lv_iload_n hx hb dX0_dropDue_12 rfl (lv_at hl 1 rfl) ?_
    refine lv_bipush (v := 60) hx hb dX0_dropDue_13 (by decide) ?_
    refine lv_iadd hx hb dX0_dropDue_15 ?_
    refine z_top (nI (ai * 60 + 60)) (by rw [show (60 : Int32) = nI 60 from rfl, nI_add]) ?_
    refine z_ge_t (tgt := 51) (nI_le (by omega) (by omega)) hx hb dX0_dropDue_16 (by decide) ?_
    exact z_wvret hx hb hr hlocks hP hK hD hS dX0_dropDue_51
  · have hP : va_P D vwCl (hW cI cZ X (c_ddS S ai x0 k) O V) H := hP
    have hD : va_D A (hW cI cZ X (c_ddS S ai x0 k) O V) := hD
    have hl : lv_has ls 5 [(4, .int (nI (ai * 60 + k))), (3, .int (nI (ai * 60))), (0, .ref (X 4)), (1, .int (nI ai)), (2, .int x0)] := hl
    have ih_10 := ih
    refine lv_iload hx hb dX0_dropDue_10 (lv_at hl 0 rfl) ?_
    refine lv_iload_n hx hb dX0_dropDue_12 rfl (lv_at hl 1 rfl) ?_
    refine lv_bipush (v := 60) hx hb dX0_dropDue_13 (by decide) ?_
    refine lv_iadd hx hb dX0_dropDue_15 ?_
    refine z_top (nI (ai * 60 + 60)) (by rw [show (60 : Int32) = nI 60 from rfl, nI_add]) ?_
    refine z_ge_f (tgt := 51) (nI_ge (by omega) (by omega)) hx hb dX0_dropDue_16 (by decide) ?_
    refine lv_iload_n hx hb dX0_dropDue_19 rfl (lv_at hl 4 rfl) ?_
    refine lv_aload_n hx hb dX0_dropDue_20 rfl (lv_at hl 2 rfl) ?_
    refine va_get (D := D) (ci := 0) (v := .ref (X 18)) (C := RX0) (T := TX0) (N := 3) hx hb hts i0 hown hK hP 4 rfl rfl 2 (by decide) fl_18 (fun _ h9 => h9) rfl dX0_dropDue_21 ?_
    refine lv_iload hx hb dX0_dropDue_24 (lv_at hl 0 rfl) ?_
    refine z_iald (D := D) (j := ai * 60 + k) (f := (c_ddS S ai x0 k) 18) hx hb hK hP 18 0 rfl rfl (by omega) (by decide) dX0_dropDue_26 ?_
    refine lv_isub hx hb dX0_dropDue_27 ?_
    refine lv_aload_n hx hb dX0_dropDue_28 rfl (lv_at hl 2 rfl) ?_
    refine va_get (D := D) (ci := 0) (v := .ref (X 16)) (C := RX0) (T := TX0) (N := 3) hx hb hts i0 hown hK hP 4 rfl rfl 0 (by decide) fl_9 (fun _ h9 => h9) rfl dX0_dropDue_29 ?_
    refine lv_iload_n hx hb dX0_dropDue_32 rfl (lv_at hl 3 rfl) ?_
    refine z_iald (D := D) (j := ai) (f := (c_ddS S ai x0 k) 16) hx hb hK hP 16 0 rfl rfl (by omega) (by decide) dX0_dropDue_33 ?_
    refine lv_icmp_lt (tgt := 45) hx hb dX0_dropDue_34 (by decide) (fun c_34 => ?_) (fun c_34 => ?_)
    · refine lv_iinc (v := nI (ai * 60 + k + 1)) (lv' := [(4, .int (nI (ai * 60 + k + 1))), (3, .int (nI (ai * 60))), (0, .ref (X 4)), (1, .int (nI ai)), (2, .int x0)]) hx hb dX0_dropDue_45 hl (k := 0) rfl (nI_1 _) (by decide) rfl (fun ls hl => ?_)
      refine lv_goto (tgt := 10) hx hb dX0_dropDue_48 (by decide) ?_
      have eS : (c_ddS S ai x0 (k + 1)) = (c_ddS S ai x0 k) := by simp [c_ddS, bi, c_34]
      exact ih_10 H locs ls (by show va_P D vwCl (hW cI cZ X (c_ddS S ai x0 (k + 1)) O V) H; rw [eS]; exact hP) (by show va_D A (hW cI cZ X (c_ddS S ai x0 (k + 1)) O V); rw [eS]; exact hD) hS (by show lv_has ls 5 [(4, .int (nI (ai * 60 + (k + 1)))), (3, .int (nI (ai * 60))), (0, .ref (X 4)), (1, .int (nI ai)), (2, .int x0)]; exact lv_sub hl [0, 1, 2, 3, 4] rfl)
    · refine lv_aload_n hx hb dX0_dropDue_37 rfl (lv_at hl 2 rfl) ?_
      refine va_get (D := D) (ci := 0) (v := .ref (X 17)) (C := RX0) (T := TX0) (N := 3) hx hb hts i0 hown hK hP 4 rfl rfl 1 (by decide) fl_15 (fun _ h9 => h9) rfl dX0_dropDue_38 ?_
      refine lv_iload hx hb dX0_dropDue_41 (lv_at hl 0 rfl) ?_
      refine lv_iconst (v := (-1)) hx hb dX0_dropDue_43 rfl ?_
      refine z_iast (D := D) (j := ai * 60 + k) (f := (c_ddS S ai x0 k) 17) hx hb hK hP hD hS 17 0 rfl rfl (by omega) (by decide) dX0_dropDue_44 (fun H locs hP hD hS => ?_)
      have hP : va_P D vwCl (hW cI cZ X (va_up (c_ddS S ai x0 k) 17 (upd ((c_ddS S ai x0 k) 17) (ai * 60 + k) (-1))) O V) H := hP
      have hD : va_D A (hW cI cZ X (va_up (c_ddS S ai x0 k) 17 (upd ((c_ddS S ai x0 k) 17) (ai * 60 + k) (-1))) O V) := hD
      refine lv_iinc (v := nI (ai * 60 + k + 1)) (lv' := [(4, .int (nI (ai * 60 + k + 1))), (3, .int (nI (ai * 60))), (0, .ref (X 4)), (1, .int (nI ai)), (2, .int x0)]) hx hb dX0_dropDue_45 hl (k := 0) rfl (nI_1 _) (by decide) rfl (fun ls hl => ?_)
      refine lv_goto (tgt := 10) hx hb dX0_dropDue_48 (by decide) ?_
      have eS : (c_ddS S ai x0 (k + 1)) = (va_up (c_ddS S ai x0 k) 17 (upd ((c_ddS S ai x0 k) 17) (ai * 60 + k) (-1))) := by simp [c_ddS, bi, c_34]
      exact ih_10 H locs ls (by show va_P D vwCl (hW cI cZ X (c_ddS S ai x0 (k + 1)) O V) H; rw [eS]; exact hP) (by show va_D A (hW cI cZ X (c_ddS S ai x0 (k + 1)) O V); rw [eS]; exact hD) hS (by show lv_has ls 5 [(4, .int (nI (ai * 60 + (k + 1)))), (3, .int (nI (ai * 60))), (0, .ref (X 4)), (1, .int (nI ai)), (2, .int x0)]; exact lv_sub hl [0, 1, 2, 3, 4] rfl)

set_option maxHeartbeats 4000000 in
set_option maxRecDepth 100000 in
theorem kX0_dropDueOfAll (l : Launch) (D : va_G) (cI cZ : ClassId) (X : Nat → Nat) (S : Nat → Nat → Int32) (O : Nat → Bool) (V : Nat → Int32) (sz : Nat) (x0 : Int32) : Met l yX0_dropDueOfAll wsX0_dropDueOfAll ({ frames := 2, cells := 0, slots := 0, locals := 46 } : Room) (zW D (tyl cI cZ) (hW cI cZ X S O V) sz [.ref (X 4), .int x0]) (zQv D (tyl cI cZ) (hW cI cZ X (c_doS S x0 4) O V) (va_A (hW cI cZ X S O V) sz)) 0 0 (va_A (hW cI cZ X S O V) sz) := by
  refine Met.ofW (cc := cX0_dropDueOfAll) (maxL := 3) (ret := none) (by decide) rfl ?_
  intro p e s m args below meth c s₁ B hml hv
  obtain ⟨rfl, hsz, hP, hK, hD0⟩ := hv
  have hx := B.exec
  have hb := B.bytes
  have hr := B.returns
  have hts := atoms_spec (ws := wsX0_dropDueOfAll) B.pre
  have hown : s.vm.findClass RX0 = some m.cls := findClass_of_methodNamed B.named
  have hlocks := B.notSynchronized
  subst hsz
  have hD := hD0.self (sz := s.heap.size)
  generalize hAe : va_A (hW cI cZ X S O V) s.heap.size = A at hD ⊢
  have hA : ∀ q : Nat, s.heap.size ≤ q → A q := fun q h => by rw [← hAe]; exact Or.inr h
  have hS : va_S A s.heap s.heap [] := va_S.rf
  have hl := lv_entry ([.ref (X 4), .int x0]) (n := 3) (Nat.le_of_ble_eq_true rfl)
  rw [lg_entry_eq]
  generalize (lg_sl ([.ref (X 4), .int x0]) ++ List.replicate (3 - (lg_sl ([.ref (X 4), .int x0])).length) Slot.unset).toArray = ls at hl ⊢
  have hl : lv_has ls 3 [(0, .ref (X 4)), (1, .int x0)] := hl
  refine lv_iconst (v := nI 0) hx hb dX0_dropDueOfAll_0 rfl ?_
  refine lv_istore_n (lv' := [(2, .int (nI 0)), (0, .ref (X 4)), (1, .int x0)]) hx hb dX0_dropDueOfAll_1 rfl hl (by decide) rfl (fun ls hl => ?_)
  refine z_loopW (N := 4) (nL := 3) (Lc := (fun k => [(2, .int (nI k)), (0, .ref (X 4)), (1, .int x0)])) (Wd := fun k => hW cI cZ X (c_doS S x0 k) O V) (lv_sub hl [0, 1, 2] rfl) hP hD hS (fun H locs ls hP hD hS hl => ?_) (fun k H locs ls hk hP hD hS hl ih => ?_)
  · have hP : va_P D vwCl (hW cI cZ X (c_doS S x0 4) O V) H := hP
    have hD : va_D A (hW cI cZ X (c_doS S x0 4) O V) := hD
    have hl : lv_has ls 3 [(2, .int (nI 4)), (0, .ref (X 4)), (1, .int x0)] := hl
    refine lv_iload_n hx hb dX0_dropDueOfAll_2 rfl (lv_at hl 0 rfl) ?_
    refine lv_iconst (v := nI 4) hx hb dX0_dropDueOfAll_3 rfl ?_
    refine z_ge_t (tgt := 19) (nI_le (by omega) (by omega)) hx hb dX0_dropDueOfAll_4 (by decide) ?_
    exact z_wvret hx hb hr hlocks hP hK hD hS dX0_dropDueOfAll_19
  · have hP : va_P D vwCl (hW cI cZ X (c_doS S x0 k) O V) H := hP
    have hD : va_D A (hW cI cZ X (c_doS S x0 k) O V) := hD
    have hl : lv_has ls 3 [(2, .int (nI k)), (0, .ref (X 4)), (1, .int x0)] := hl
    have ih_2 := ih
    refine lv_iload_n hx hb dX0_dropDueOfAll_2 rfl (lv_at hl 0 rfl) ?_
    refine lv_iconst (v := nI 4) hx hb dX0_dropDueOfAll_3 rfl ?_
    refine z_ge_f (tgt := 19) (nI_ge (by omega) (by omega)) hx hb dX0_dropDueOfAll_4 (by decide) ?_
    refine lv_aload_n hx hb dX0_dropDueOfAll_7 rfl (lv_at hl 1 rfl) ?_
    refine lv_iload_n hx hb dX0_dropDueOfAll_8 rfl (lv_at hl 0 rfl) ?_
    refine lv_iload_n hx hb dX0_dropDueOfAll_9 rfl (lv_at hl 2 rfl) ?_
    have hF := z_free hD hS hA
    refine z_callWv (va_runV (As := [.int (nI k), .int x0]) (rest := []) ⟨hx, hb, hml, hown, hts⟩ (kX0_dropDue l D cI cZ X (c_doS S x0 k) O V _ k x0 (by omega)) (cwV 2 hts gX0_dropDueOfAll_X0_dropDue rfl rfl rfl (by decide +kernel) ⟨Nat.le_of_ble_eq_true rfl, Nat.le_of_ble_eq_true rfl⟩) (zW_preV 4 0 hK hP hD rfl rfl) rfl rfl hl.1 rfl (lv_room (Nat.le_of_ble_eq_true rfl)) dX0_dropDueOfAll_10 ⟨Nat.zero_le _, Nat.zero_le _⟩) hS hF (fun H locs hP hD hS => ?_)
    refine lv_iinc (v := nI (k + 1)) (lv' := [(2, .int (nI (k + 1))), (0, .ref (X 4)), (1, .int x0)]) hx hb dX0_dropDueOfAll_13 hl (k := 0) rfl (nI_1 _) (by decide) rfl (fun ls hl => ?_)
    refine lv_goto (tgt := 2) hx hb dX0_dropDueOfAll_16 (by decide) ?_
    have eS : (c_doS S x0 (k + 1)) = (c_ddS (c_doS S x0 k) k x0 60) := by rfl
    exact ih_2 H locs ls (by show va_P D vwCl (hW cI cZ X (c_doS S x0 (k + 1)) O V) H; rw [eS]; exact hP) (by show va_D A (hW cI cZ X (c_doS S x0 (k + 1)) O V); rw [eS]; exact hD) hS (by show lv_has ls 3 [(2, .int (nI (k + 1))), (0, .ref (X 4)), (1, .int x0)]; exact lv_sub hl [0, 1, 2] rfl)
end
section
set_option maxHeartbeats 4000000 in
set_option maxRecDepth 100000 in
theorem kX4_isOutside (l : Launch) (x0 : Int32) (x1 : Int32) : Met l yX4_isOutside wsX4_isOutside ({ frames := 0, cells := 0, slots := 0, locals := 0 } : Room) (zP [.int x0, .int x1]) (QcRead (bi (c_out x0 x1))) 0 0 (fun _ => False) := by
  refine Met.ofW (cc := cX4_isOutside) (maxL := 2) (ret := (some .boolean)) (by decide) rfl ?_
  intro p e s m args below meth c s₁ B hml hv
  obtain rfl := hv
  have hx := B.exec
  have hb := B.bytes
  have hr := B.returns
  have hts := atoms_spec (ws := wsX4_isOutside) B.pre
  have hown : s.vm.findClass RX4 = some m.cls := findClass_of_methodNamed B.named
  have hlocks := B.notSynchronized
  have hl := lv_entry ([.int x0, .int x1]) (n := 2) (Nat.le_of_ble_eq_true rfl)
  rw [lg_entry_eq]
  generalize (lg_sl ([.int x0, .int x1]) ++ List.replicate (2 - (lg_sl ([.int x0, .int x1])).length) Slot.unset).toArray = ls at hl ⊢
  have hl : lv_has ls 2 [(0, .int x0), (1, .int x1)] := hl
  refine lv_iload_n hx hb dX4_isOutside_0 rfl (lv_at hl 0 rfl) ?_
  refine lv_if_lt (tgt := 9) hx hb dX4_isOutside_1 (by decide) (fun c_1 => ?_) (fun c_1 => ?_)
  · refine lv_iconst (v := 1) hx hb dX4_isOutside_9 rfl ?_
    refine lv_goto (tgt := 14) hx hb dX4_isOutside_10 (by decide) ?_
    exact z_zret hx hb hr hlocks (by simp [c_out, bi, c_1]) dX4_isOutside_14
  · refine lv_iload_n hx hb dX4_isOutside_4 rfl (lv_at hl 0 rfl) ?_
    refine lv_iload_n hx hb dX4_isOutside_5 rfl (lv_at hl 1 rfl) ?_
    refine z_sel_icmp_lt hx hb dX4_isOutside_6 dX4_isOutside_9 dX4_isOutside_10 dX4_isOutside_13 ?_
    exact z_zret hx hb hr hlocks (by simp [c_out, bi, c_1]) dX4_isOutside_14

set_option maxHeartbeats 4000000 in
set_option maxRecDepth 100000 in
theorem kX4_isBarred (l : Launch) (D : va_G) (cI cZ : ClassId) (X : Nat → Nat) (S : Nat → Nat → Int32) (O : Nat → Bool) (V : Nat → Int32) (pi : Nat) (hpi : pi < 10) : Met l yX4_isBarred wsX4_isBarred ({ frames := 0, cells := 0, slots := 0, locals := 0 } : Room) (zR D (tyl cI cZ) (hW cI cZ X S O V) [.ref (X 0), .int (nI pi)]) (QcRead (bi (decide (S 5 pi = 3)))) 0 0 (fun _ => False) := by
  refine Met.ofW (cc := cX4_isBarred) (maxL := 2) (ret := (some .boolean)) (by decide) rfl ?_
  intro p e s m args below meth c s₁ B hml hv
  obtain ⟨rfl, hP, hK⟩ := hv
  have hx := B.exec
  have hb := B.bytes
  have hr := B.returns
  have hts := atoms_spec (ws := wsX4_isBarred) B.pre
  have hown : s.vm.findClass RX4 = some m.cls := findClass_of_methodNamed B.named
  have hlocks := B.notSynchronized
  have i4 : ∀ w ∈ u_ws RX4 TX4 7, w ∈ wsX4_isBarred := by decide +kernel
  have fl_37 := hts (.fieldLink RX4 37 "SignOnHouse" "risks" "[I") (by decide +kernel)
  have hl := lv_entry ([.ref (X 0), .int (nI pi)]) (n := 2) (Nat.le_of_ble_eq_true rfl)
  rw [lg_entry_eq]
  generalize (lg_sl ([.ref (X 0), .int (nI pi)]) ++ List.replicate (2 - (lg_sl ([.ref (X 0), .int (nI pi)])).length) Slot.unset).toArray = ls at hl ⊢
  have hl : lv_has ls 2 [(0, .ref (X 0)), (1, .int (nI pi))] := hl
  refine lv_aload_n hx hb dX4_isBarred_0 rfl (lv_at hl 0 rfl) ?_
  refine va_get (D := D) (ci := 4) (v := .ref (X 5)) (C := RX4) (T := TX4) (N := 7) hx hb hts i4 hown hK hP 0 rfl rfl 4 (by decide) fl_37 (fun _ h9 => h9) rfl dX4_isBarred_1 ?_
  refine lv_iload_n hx hb dX4_isBarred_4 rfl (lv_at hl 1 rfl) ?_
  refine z_iald (D := D) (j := pi) (f := S 5) hx hb hK hP 5 0 rfl rfl (by omega) (by decide) dX4_isBarred_5 ?_
  refine lv_iconst (v := 3) hx hb dX4_isBarred_6 rfl ?_
  refine z_sel_icmp_ne hx hb dX4_isBarred_7 dX4_isBarred_10 dX4_isBarred_11 dX4_isBarred_14 ?_
  exact z_zret hx hb hr hlocks rfl dX4_isBarred_15

set_option maxHeartbeats 4000000 in
set_option maxRecDepth 100000 in
theorem kX4_holdsGlass (l : Launch) (D : va_G) (cI cZ : ClassId) (X : Nat → Nat) (S : Nat → Nat → Int32) (O : Nat → Bool) (V : Nat → Int32) (pi : Nat) (ri : Nat) (hpi : pi < 10) (hri : ri < 6) : Met l yX4_holdsGlass wsX4_holdsGlass ({ frames := 0, cells := 0, slots := 0, locals := 0 } : Room) (zR D (tyl cI cZ) (hW cI cZ X S O V) [.ref (X 0), .int (nI pi), .int (nI ri)]) (QcRead (bi (!decide (S 6 (pi * 6 + ri) ≤ V 0)))) 0 0 (fun _ => False) := by
  refine Met.ofW (cc := cX4_holdsGlass) (maxL := 3) (ret := (some .boolean)) (by decide) rfl ?_
  intro p e s m args below meth c s₁ B hml hv
  obtain ⟨rfl, hP, hK⟩ := hv
  have hx := B.exec
  have hb := B.bytes
  have hr := B.returns
  have hts := atoms_spec (ws := wsX4_holdsGlass) B.pre
  have hown : s.vm.findClass RX4 = some m.cls := findClass_of_methodNamed B.named
  have hlocks := B.notSynchronized
  have i4 : ∀ w ∈ u_ws RX4 TX4 7, w ∈ wsX4_holdsGlass := by decide +kernel
  have fl_41 := hts (.fieldLink RX4 41 "SignOnHouse" "glassEnds" "[I") (by decide +kernel)
  have fl_44 := hts (.fieldLink RX4 44 "SignOnHouse" "minute" "I") (by decide +kernel)
  have hl := lv_entry ([.ref (X 0), .int (nI pi), .int (nI ri)]) (n := 3) (Nat.le_of_ble_eq_true rfl)
  rw [lg_entry_eq]
  generalize (lg_sl ([.ref (X 0), .int (nI pi), .int (nI ri)]) ++ List.replicate (3 - (lg_sl ([.ref (X 0), .int (nI pi), .int (nI ri)])).length) Slot.unset).toArray = ls at hl ⊢
  have hl : lv_has ls 3 [(0, .ref (X 0)), (1, .int (nI pi)), (2, .int (nI ri))] := hl
  refine lv_aload_n hx hb dX4_holdsGlass_0 rfl (lv_at hl 0 rfl) ?_
  refine va_get (D := D) (ci := 4) (v := .int (V 0)) (C := RX4) (T := TX4) (N := 7) hx hb hts i4 hown hK hP 0 rfl rfl 6 (by decide) fl_44 (fun _ h9 => h9) rfl dX4_holdsGlass_1 ?_
  refine lv_aload_n hx hb dX4_holdsGlass_4 rfl (lv_at hl 0 rfl) ?_
  refine va_get (D := D) (ci := 4) (v := .ref (X 6)) (C := RX4) (T := TX4) (N := 7) hx hb hts i4 hown hK hP 0 rfl rfl 5 (by decide) fl_41 (fun _ h9 => h9) rfl dX4_holdsGlass_5 ?_
  refine lv_iload_n hx hb dX4_holdsGlass_8 rfl (lv_at hl 1 rfl) ?_
  refine lv_bipush (v := 6) hx hb dX4_holdsGlass_9 (by decide) ?_
  refine lv_imul hx hb dX4_holdsGlass_11 ?_
  refine lv_iload_n hx hb dX4_holdsGlass_12 rfl (lv_at hl 2 rfl) ?_
  refine lv_iadd hx hb dX4_holdsGlass_13 ?_
  refine z_top (nI (pi * 6 + ri)) (by simp only [show (6 : Int32) = nI 6 from rfl, pk_mul, nI_add]) ?_
  refine z_iald (D := D) (j := pi * 6 + ri) (f := S 6) hx hb hK hP 6 0 rfl rfl (by omega) (by decide) dX4_holdsGlass_14 ?_
  refine z_sel_icmp_ge hx hb dX4_holdsGlass_15 dX4_holdsGlass_18 dX4_holdsGlass_19 dX4_holdsGlass_22 ?_
  exact z_zret hx hb hr hlocks rfl dX4_holdsGlass_23

set_option maxHeartbeats 4000000 in
set_option maxRecDepth 100000 in
theorem kX4_servesAsWitness (l : Launch) (D : va_G) (cI cZ : ClassId) (X : Nat → Nat) (S : Nat → Nat → Int32) (O : Nat → Bool) (V : Nat → Int32) (pi : Nat) (ri : Nat) (hpi : pi < 10) (hri : ri < 6) : Met l yX4_servesAsWitness wsX4_servesAsWitness ({ frames := 4, cells := 0, slots := 0, locals := 89 } : Room) (zR D (tyl cI cZ) (hW cI cZ X S O V) [.ref (X 0), .int (nI pi), .int (nI ri)]) (QcRead (bi (c_serves S pi ri))) 0 0 (fun _ => False) := by
  refine Met.ofW (cc := cX4_servesAsWitness) (maxL := 3) (ret := (some .boolean)) (by decide) rfl ?_
  intro p e s m args below meth c s₁ B hml hv
  obtain ⟨rfl, hP, hK⟩ := hv
  have hx := B.exec
  have hb := B.bytes
  have hr := B.returns
  have hts := atoms_spec (ws := wsX4_servesAsWitness) B.pre
  have hown : s.vm.findClass RX4 = some m.cls := findClass_of_methodNamed B.named
  have hlocks := B.notSynchronized
  have i4 : ∀ w ∈ u_ws RX4 TX4 7, w ∈ wsX4_servesAsWitness := by decide +kernel
  have fl_10 := hts (.fieldLink RX4 10 "SignOnHouse" "groups" "LSignOnHouse$Groups;") (by decide +kernel)
  have hl := lv_entry ([.ref (X 0), .int (nI pi), .int (nI ri)]) (n := 3) (Nat.le_of_ble_eq_true rfl)
  rw [lg_entry_eq]
  generalize (lg_sl ([.ref (X 0), .int (nI pi), .int (nI ri)]) ++ List.replicate (3 - (lg_sl ([.ref (X 0), .int (nI pi), .int (nI ri)])).length) Slot.unset).toArray = ls at hl ⊢
  have hl : lv_has ls 3 [(0, .ref (X 0)), (1, .int (nI pi)), (2, .int (nI ri))] := hl
  refine lv_aload_n hx hb dX4_servesAsWitness_0 rfl (lv_at hl 0 rfl) ?_
  refine lv_iload_n hx hb dX4_servesAsWitness_1 rfl (lv_at hl 1 rfl) ?_
  refine z_callR (W.runV (As := [.int (nI pi)]) (rest := []) ⟨hx, hb, hml, hown, hts⟩ (kX4_isBarred l D cI cZ X S O V pi (by omega)) (cwV 1 hts gX4_servesAsWitness_X4_isBarred rfl rfl rfl (by decide +kernel) ⟨Nat.le_of_ble_eq_true rfl, Nat.le_of_ble_eq_true rfl⟩) (zR_preV 0 4 hK hP rfl rfl) rfl rfl hl.1 rfl (lv_room (Nat.le_of_ble_eq_true rfl)) dX4_servesAsWitness_2 ⟨Nat.zero_le _, Nat.zero_le _⟩) ?_
  refine z_if_ne (tgt := 24) hx hb dX4_servesAsWitness_5 (by decide) (fun c_5 => ?_) (fun c_5 => ?_)
  · refine lv_iconst (v := 0) hx hb dX4_servesAsWitness_24 rfl ?_
    exact z_zret hx hb hr hlocks (by simp [c_serves, bi, (eq_true (of_decide_eq_true c_5))]) dX4_servesAsWitness_25
  · refine lv_aload_n hx hb dX4_servesAsWitness_8 rfl (lv_at hl 0 rfl) ?_
    refine va_get (D := D) (ci := 4) (v := .ref (X 1)) (C := RX4) (T := TX4) (N := 7) hx hb hts i4 hown hK hP 0 rfl rfl 0 (by decide) fl_10 (fun _ h9 => h9) rfl dX4_servesAsWitness_9 ?_
    refine lv_iload_n hx hb dX4_servesAsWitness_12 rfl (lv_at hl 1 rfl) ?_
    refine lv_iload_n hx hb dX4_servesAsWitness_13 rfl (lv_at hl 2 rfl) ?_
    refine z_callR (W.runV (As := [.int (nI pi), .int (nI ri)]) (rest := []) ⟨hx, hb, hml, hown, hts⟩ (kX1_anyGrants l D cI cZ X S O V pi ri (by omega) (by omega)) (cwV 2 hts gX4_servesAsWitness_X1_anyGrants rfl rfl rfl (by decide +kernel) ⟨Nat.le_of_ble_eq_true rfl, Nat.le_of_ble_eq_true rfl⟩) (zR_preV 1 1 hK hP rfl rfl) rfl rfl hl.1 rfl (lv_room (Nat.le_of_ble_eq_true rfl)) dX4_servesAsWitness_14 ⟨Nat.zero_le _, Nat.zero_le _⟩) ?_
    refine z_if_eq (tgt := 24) hx hb dX4_servesAsWitness_17 (by decide) (fun c_17 => ?_) (fun c_17 => ?_)
    · refine lv_iconst (v := 0) hx hb dX4_servesAsWitness_24 rfl ?_
      exact z_zret hx hb hr hlocks (by simp [c_serves, bi, (of_decide_eq_false c_5), c_17]) dX4_servesAsWitness_25
    · refine lv_iconst (v := 1) hx hb dX4_servesAsWitness_20 rfl ?_
      refine lv_goto (tgt := 25) hx hb dX4_servesAsWitness_21 (by decide) ?_
      exact z_zret hx hb hr hlocks (by simp [c_serves, bi, (of_decide_eq_false c_5), c_17]) dX4_servesAsWitness_25

set_option maxHeartbeats 4000000 in
set_option maxRecDepth 100000 in
theorem kX4_answerOfHouse (l : Launch) (D : va_G) (cI cZ : ClassId) (X : Nat → Nat) (S : Nat → Nat → Int32) (O : Nat → Bool) (V : Nat → Int32) (pi : Nat) (ri : Nat) (hpi : pi < 10) (hri : ri < 6) : Met l yX4_answerOfHouse wsX4_answerOfHouse ({ frames := 4, cells := 0, slots := 0, locals := 89 } : Room) (zR D (tyl cI cZ) (hW cI cZ X S O V) [.ref (X 0), .int (nI pi), .int (nI ri)]) (QcRead (c_house S V pi ri)) 0 0 (fun _ => False) := by
  refine Met.ofW (cc := cX4_answerOfHouse) (maxL := 4) (ret := (some .int)) (by decide) rfl ?_
  intro p e s m args below meth c s₁ B hml hv
  obtain ⟨rfl, hP, hK⟩ := hv
  have hx := B.exec
  have hb := B.bytes
  have hr := B.returns
  have hts := atoms_spec (ws := wsX4_answerOfHouse) B.pre
  have hown : s.vm.findClass RX4 = some m.cls := findClass_of_methodNamed B.named
  have hlocks := B.notSynchronized
  have i4 : ∀ w ∈ u_ws RX4 TX4 7, w ∈ wsX4_answerOfHouse := by decide +kernel
  have fl_10 := hts (.fieldLink RX4 10 "SignOnHouse" "groups" "LSignOnHouse$Groups;") (by decide +kernel)
  have hl := lv_entry ([.ref (X 0), .int (nI pi), .int (nI ri)]) (n := 4) (Nat.le_of_ble_eq_true rfl)
  rw [lg_entry_eq]
  generalize (lg_sl ([.ref (X 0), .int (nI pi), .int (nI ri)]) ++ List.replicate (4 - (lg_sl ([.ref (X 0), .int (nI pi), .int (nI ri)])).length) Slot.unset).toArray = ls at hl ⊢
  have hl : lv_has ls 4 [(0, .ref (X 0)), (1, .int (nI pi)), (2, .int (nI ri))] := hl
  refine lv_aload_n hx hb dX4_answerOfHouse_0 rfl (lv_at hl 0 rfl) ?_
  refine lv_iload_n hx hb dX4_answerOfHouse_1 rfl (lv_at hl 1 rfl) ?_
  refine z_callR (W.runV (As := [.int (nI pi)]) (rest := []) ⟨hx, hb, hml, hown, hts⟩ (kX4_isBarred l D cI cZ X S O V pi (by omega)) (cwV 1 hts gX4_answerOfHouse_X4_isBarred rfl rfl rfl (by decide +kernel) ⟨Nat.le_of_ble_eq_true rfl, Nat.le_of_ble_eq_true rfl⟩) (zR_preV 0 4 hK hP rfl rfl) rfl rfl hl.1 rfl (lv_room (Nat.le_of_ble_eq_true rfl)) dX4_answerOfHouse_2 ⟨Nat.zero_le _, Nat.zero_le _⟩) ?_
  refine z_if_eq (tgt := 10) hx hb dX4_answerOfHouse_5 (by decide) (fun c_5 => ?_) (fun c_5 => ?_)
  · refine lv_aload_n hx hb dX4_answerOfHouse_10 rfl (lv_at hl 0 rfl) ?_
    refine va_get (D := D) (ci := 4) (v := .ref (X 1)) (C := RX4) (T := TX4) (N := 7) hx hb hts i4 hown hK hP 0 rfl rfl 0 (by decide) fl_10 (fun _ h9 => h9) rfl dX4_answerOfHouse_11 ?_
    refine lv_iload_n hx hb dX4_answerOfHouse_14 rfl (lv_at hl 1 rfl) ?_
    refine lv_iload_n hx hb dX4_answerOfHouse_15 rfl (lv_at hl 2 rfl) ?_
    refine z_callR (W.runV (As := [.int (nI pi), .int (nI ri)]) (rest := []) ⟨hx, hb, hml, hown, hts⟩ (kX1_anyGrants l D cI cZ X S O V pi ri (by omega) (by omega)) (cwV 2 hts gX4_answerOfHouse_X1_anyGrants rfl rfl rfl (by decide +kernel) ⟨Nat.le_of_ble_eq_true rfl, Nat.le_of_ble_eq_true rfl⟩) (zR_preV 1 1 hK hP rfl rfl) rfl rfl hl.1 rfl (lv_room (Nat.le_of_ble_eq_true rfl)) dX4_answerOfHouse_16 ⟨Nat.zero_le _, Nat.zero_le _⟩) ?_
    refine z_if_eq (tgt := 38) hx hb dX4_answerOfHouse_19 (by decide) (fun c_19 => ?_) (fun c_19 => ?_)
    · refine lv_iconst (v := 0) hx hb dX4_answerOfHouse_38 rfl ?_
      refine lv_istore_n (lv' := [(3, .int 0), (0, .ref (X 0)), (1, .int (nI pi)), (2, .int (nI ri))]) hx hb dX4_answerOfHouse_39 rfl hl (by decide) rfl (fun ls hl => ?_)
      refine lv_iload_n hx hb dX4_answerOfHouse_40 rfl (lv_at hl 0 rfl) ?_
      refine lv_if_ne (tgt := 53) hx hb dX4_answerOfHouse_41 (by decide) (fun q => absurd rfl q) (fun _ => ?_)
      refine lv_aload_n hx hb dX4_answerOfHouse_44 rfl (lv_at hl 1 rfl) ?_
      refine lv_iload_n hx hb dX4_answerOfHouse_45 rfl (lv_at hl 2 rfl) ?_
      refine lv_iload_n hx hb dX4_answerOfHouse_46 rfl (lv_at hl 3 rfl) ?_
      refine z_callR (W.runV (As := [.int (nI pi), .int (nI ri)]) (rest := []) ⟨hx, hb, hml, hown, hts⟩ (kX4_holdsGlass l D cI cZ X S O V pi ri (by omega) (by omega)) (cwV 2 hts gX4_answerOfHouse_X4_holdsGlass rfl rfl rfl (by decide +kernel) ⟨Nat.le_of_ble_eq_true rfl, Nat.le_of_ble_eq_true rfl⟩) (zR_preV 0 4 hK hP rfl rfl) rfl rfl hl.1 rfl (lv_room (Nat.le_of_ble_eq_true rfl)) dX4_answerOfHouse_47 ⟨Nat.zero_le _, Nat.zero_le _⟩) ?_
      refine z_if_eq (tgt := 57) hx hb dX4_answerOfHouse_50 (by decide) (fun c_50 => ?_) (fun c_50 => ?_)
      · refine lv_iconst (v := 1) hx hb dX4_answerOfHouse_57 rfl ?_
        exact z_ret hx hb hr hlocks (by simp [c_house, c_lets, bi, (of_decide_eq_false c_5), c_19, (eq_true (nd_f c_50))]) dX4_answerOfHouse_58
      · refine lv_iconst (v := 0) hx hb dX4_answerOfHouse_53 rfl ?_
        refine lv_goto (tgt := 58) hx hb dX4_answerOfHouse_54 (by decide) ?_
        exact z_ret hx hb hr hlocks (by simp [c_house, c_lets, bi, (of_decide_eq_false c_5), c_19, (nd_t c_50)]) dX4_answerOfHouse_58
    · refine lv_aload_n hx hb dX4_answerOfHouse_22 rfl (lv_at hl 0 rfl) ?_
      refine va_get (D := D) (ci := 4) (v := .ref (X 1)) (C := RX4) (T := TX4) (N := 7) hx hb hts i4 hown hK hP 0 rfl rfl 0 (by decide) fl_10 (fun _ h9 => h9) rfl dX4_answerOfHouse_23 ?_
      refine lv_iload_n hx hb dX4_answerOfHouse_26 rfl (lv_at hl 1 rfl) ?_
      refine lv_iload_n hx hb dX4_answerOfHouse_27 rfl (lv_at hl 2 rfl) ?_
      refine z_callR (W.runV (As := [.int (nI pi), .int (nI ri)]) (rest := []) ⟨hx, hb, hml, hown, hts⟩ (kX1_anyDenies l D cI cZ X S O V pi ri (by omega) (by omega)) (cwV 2 hts gX4_answerOfHouse_X1_anyDenies rfl rfl rfl (by decide +kernel) ⟨Nat.le_of_ble_eq_true rfl, Nat.le_of_ble_eq_true rfl⟩) (zR_preV 1 1 hK hP rfl rfl) rfl rfl hl.1 rfl (lv_room (Nat.le_of_ble_eq_true rfl)) dX4_answerOfHouse_28 ⟨Nat.zero_le _, Nat.zero_le _⟩) ?_
      refine z_if_ne (tgt := 38) hx hb dX4_answerOfHouse_31 (by decide) (fun c_31 => ?_) (fun c_31 => ?_)
      · refine lv_iconst (v := 0) hx hb dX4_answerOfHouse_38 rfl ?_
        refine lv_istore_n (lv' := [(3, .int 0), (0, .ref (X 0)), (1, .int (nI pi)), (2, .int (nI ri))]) hx hb dX4_answerOfHouse_39 rfl hl (by decide) rfl (fun ls hl => ?_)
        refine lv_iload_n hx hb dX4_answerOfHouse_40 rfl (lv_at hl 0 rfl) ?_
        refine lv_if_ne (tgt := 53) hx hb dX4_answerOfHouse_41 (by decide) (fun q => absurd rfl q) (fun _ => ?_)
        refine lv_aload_n hx hb dX4_answerOfHouse_44 rfl (lv_at hl 1 rfl) ?_
        refine lv_iload_n hx hb dX4_answerOfHouse_45 rfl (lv_at hl 2 rfl) ?_
        refine lv_iload_n hx hb dX4_answerOfHouse_46 rfl (lv_at hl 3 rfl) ?_
        refine z_callR (W.runV (As := [.int (nI pi), .int (nI ri)]) (rest := []) ⟨hx, hb, hml, hown, hts⟩ (kX4_holdsGlass l D cI cZ X S O V pi ri (by omega) (by omega)) (cwV 2 hts gX4_answerOfHouse_X4_holdsGlass rfl rfl rfl (by decide +kernel) ⟨Nat.le_of_ble_eq_true rfl, Nat.le_of_ble_eq_true rfl⟩) (zR_preV 0 4 hK hP rfl rfl) rfl rfl hl.1 rfl (lv_room (Nat.le_of_ble_eq_true rfl)) dX4_answerOfHouse_47 ⟨Nat.zero_le _, Nat.zero_le _⟩) ?_
        refine z_if_eq (tgt := 57) hx hb dX4_answerOfHouse_50 (by decide) (fun c_50 => ?_) (fun c_50 => ?_)
        · refine lv_iconst (v := 1) hx hb dX4_answerOfHouse_57 rfl ?_
          exact z_ret hx hb hr hlocks (by simp [c_house, c_lets, bi, (of_decide_eq_false c_5), c_19, c_31, (eq_true (nd_f c_50))]) dX4_answerOfHouse_58
        · refine lv_iconst (v := 0) hx hb dX4_answerOfHouse_53 rfl ?_
          refine lv_goto (tgt := 58) hx hb dX4_answerOfHouse_54 (by decide) ?_
          exact z_ret hx hb hr hlocks (by simp [c_house, c_lets, bi, (of_decide_eq_false c_5), c_19, c_31, (nd_t c_50)]) dX4_answerOfHouse_58
      · refine lv_iconst (v := 1) hx hb dX4_answerOfHouse_34 rfl ?_
        refine lv_goto (tgt := 39) hx hb dX4_answerOfHouse_35 (by decide) ?_
        refine lv_istore_n (lv' := [(3, .int 1), (0, .ref (X 0)), (1, .int (nI pi)), (2, .int (nI ri))]) hx hb dX4_answerOfHouse_39 rfl hl (by decide) rfl (fun ls hl => ?_)
        refine lv_iload_n hx hb dX4_answerOfHouse_40 rfl (lv_at hl 0 rfl) ?_
        refine lv_if_ne (tgt := 53) hx hb dX4_answerOfHouse_41 (by decide) (fun _ => ?_) (fun q => absurd q (by decide))
        refine lv_iconst (v := 0) hx hb dX4_answerOfHouse_53 rfl ?_
        refine lv_goto (tgt := 58) hx hb dX4_answerOfHouse_54 (by decide) ?_
        exact z_ret hx hb hr hlocks (by simp [c_house, c_lets, bi, (of_decide_eq_false c_5), c_19, c_31]) dX4_answerOfHouse_58
  · refine lv_iconst (v := 1) hx hb dX4_answerOfHouse_8 rfl ?_
    exact z_ret hx hb hr hlocks (by simp [c_house, c_lets, bi, (eq_true (of_decide_eq_true c_5))]) dX4_answerOfHouse_9

set_option maxHeartbeats 4000000 in
set_option maxRecDepth 100000 in
theorem kX4_answerOfApp (l : Launch) (D : va_G) (cI cZ : ClassId) (X : Nat → Nat) (S : Nat → Nat → Int32) (O : Nat → Bool) (V : Nat → Int32) (sz : Nat) (ai : Nat) (pi : Nat) (ri : Nat) (hai : ai < 4) (hpi : pi < 10) (hri : ri < 6) : Met l yX4_answerOfApp wsX4_answerOfApp ({ frames := 5, cells := 0, slots := 0, locals := 112 } : Room) (zW D (tyl cI cZ) (hW cI cZ X S O V) sz [.ref (X 0), .int (nI ai), .int (nI pi), .int (nI ri)]) (zQi D (tyl cI cZ) (hW cI cZ X (c_appS S V ai pi ri) O V) (c_appR S V ai pi ri) (va_A (hW cI cZ X S O V) sz)) 0 0 (va_A (hW cI cZ X S O V) sz) := by
  refine Met.ofW (cc := cX4_answerOfApp) (maxL := 5) (ret := (some .int)) (by decide) rfl ?_
  intro p e s m args below meth c s₁ B hml hv
  obtain ⟨rfl, hsz, hP, hK, hD0⟩ := hv
  have hx := B.exec
  have hb := B.bytes
  have hr := B.returns
  have hts := atoms_spec (ws := wsX4_answerOfApp) B.pre
  have hown : s.vm.findClass RX4 = some m.cls := findClass_of_methodNamed B.named
  have hlocks := B.notSynchronized
  subst hsz
  have hD := hD0.self (sz := s.heap.size)
  generalize hAe : va_A (hW cI cZ X S O V) s.heap.size = A at hD ⊢
  have hA : ∀ q : Nat, s.heap.size ≤ q → A q := fun q h => by rw [← hAe]; exact Or.inr h
  have hS : va_S A s.heap s.heap [] := va_S.rf
  have i4 : ∀ w ∈ u_ws RX4 TX4 7, w ∈ wsX4_answerOfApp := by decide +kernel
  have fl_33 := hts (.fieldLink RX4 33 "SignOnHouse" "decisions" "LSignOnHouse$Decisions;") (by decide +kernel)
  have fl_44 := hts (.fieldLink RX4 44 "SignOnHouse" "minute" "I") (by decide +kernel)
  have hl := lv_entry ([.ref (X 0), .int (nI ai), .int (nI pi), .int (nI ri)]) (n := 5) (Nat.le_of_ble_eq_true rfl)
  rw [lg_entry_eq]
  generalize (lg_sl ([.ref (X 0), .int (nI ai), .int (nI pi), .int (nI ri)]) ++ List.replicate (5 - (lg_sl ([.ref (X 0), .int (nI ai), .int (nI pi), .int (nI ri)])).length) Slot.unset).toArray = ls at hl ⊢
  have hl : lv_has ls 5 [(0, .ref (X 0)), (1, .int (nI ai)), (2, .int (nI pi)), (3, .int (nI ri))] := hl
  refine lv_aload_n hx hb dX4_answerOfApp_0 rfl (lv_at hl 0 rfl) ?_
  refine va_get (D := D) (ci := 4) (v := .ref (X 4)) (C := RX4) (T := TX4) (N := 7) hx hb hts i4 hown hK hP 0 rfl rfl 3 (by decide) fl_33 (fun _ h9 => h9) rfl dX4_answerOfApp_1 ?_
  refine lv_iload_n hx hb dX4_answerOfApp_4 rfl (lv_at hl 1 rfl) ?_
  refine lv_iload_n hx hb dX4_answerOfApp_5 rfl (lv_at hl 2 rfl) ?_
  refine lv_iload_n hx hb dX4_answerOfApp_6 rfl (lv_at hl 3 rfl) ?_
  refine z_callR (W.runV (As := [.int (nI ai), .int (nI pi), .int (nI ri)]) (rest := []) ⟨hx, hb, hml, hown, hts⟩ (kX0_areKept l D cI cZ X S O V ai pi ri (by omega) (by omega) (by omega)) (cwV 3 hts gX4_answerOfApp_X0_areKept rfl rfl rfl (by decide +kernel) ⟨Nat.le_of_ble_eq_true rfl, Nat.le_of_ble_eq_true rfl⟩) (zR_preV 4 0 hK hP rfl rfl) rfl rfl hl.1 rfl (lv_room (Nat.le_of_ble_eq_true rfl)) dX4_answerOfApp_7 ⟨Nat.zero_le _, Nat.zero_le _⟩) ?_
  refine z_if_eq (tgt := 24) hx hb dX4_answerOfApp_10 (by decide) (fun c_10 => ?_) (fun c_10 => ?_)
  · refine lv_aload_n hx hb dX4_answerOfApp_24 rfl (lv_at hl 0 rfl) ?_
    refine lv_iload_n hx hb dX4_answerOfApp_25 rfl (lv_at hl 2 rfl) ?_
    refine lv_iload_n hx hb dX4_answerOfApp_26 rfl (lv_at hl 3 rfl) ?_
    refine z_callR (W.runV (As := [.int (nI pi), .int (nI ri)]) (rest := []) ⟨hx, hb, hml, hown, hts⟩ (kX4_answerOfHouse l D cI cZ X S O V pi ri (by omega) (by omega)) (cwV 2 hts gX4_answerOfApp_X4_answerOfHouse rfl rfl rfl (by decide +kernel) ⟨Nat.le_of_ble_eq_true rfl, Nat.le_of_ble_eq_true rfl⟩) (zR_preV 0 4 hK hP rfl rfl) rfl rfl hl.1 rfl (lv_room (Nat.le_of_ble_eq_true rfl)) dX4_answerOfApp_27 ⟨Nat.zero_le _, Nat.zero_le _⟩) ?_
    refine lv_istore (lv' := [(4, .int (c_house S V pi ri)), (0, .ref (X 0)), (1, .int (nI ai)), (2, .int (nI pi)), (3, .int (nI ri))]) hx hb dX4_answerOfApp_30 hl (by decide) rfl (fun ls hl => ?_)
    refine lv_aload_n hx hb dX4_answerOfApp_32 rfl (lv_at hl 1 rfl) ?_
    refine va_get (D := D) (ci := 4) (v := .ref (X 4)) (C := RX4) (T := TX4) (N := 7) hx hb hts i4 hown hK hP 0 rfl rfl 3 (by decide) fl_33 (fun _ h9 => h9) rfl dX4_answerOfApp_33 ?_
    refine lv_iload_n hx hb dX4_answerOfApp_36 rfl (lv_at hl 2 rfl) ?_
    refine lv_iload_n hx hb dX4_answerOfApp_37 rfl (lv_at hl 3 rfl) ?_
    refine lv_iload_n hx hb dX4_answerOfApp_38 rfl (lv_at hl 4 rfl) ?_
    refine lv_iload hx hb dX4_answerOfApp_39 (lv_at hl 0 rfl) ?_
    refine lv_aload_n hx hb dX4_answerOfApp_41 rfl (lv_at hl 1 rfl) ?_
    refine va_get (D := D) (ci := 4) (v := .int (V 0)) (C := RX4) (T := TX4) (N := 7) hx hb hts i4 hown hK hP 0 rfl rfl 6 (by decide) fl_44 (fun _ h9 => h9) rfl dX4_answerOfApp_42 ?_
    have hF := z_free hD hS hA
    refine z_callWv (va_runV (As := [.int (nI ai), .int (nI pi), .int (nI ri), .int (c_house S V pi ri), .int (V 0)]) (rest := []) ⟨hx, hb, hml, hown, hts⟩ (kX0_keep l D cI cZ X S O V _ ai pi ri (c_house S V pi ri) (V 0) (by omega) (by omega) (by omega)) (cwV 5 hts gX4_answerOfApp_X0_keep rfl rfl rfl (by decide +kernel) ⟨Nat.le_of_ble_eq_true rfl, Nat.le_of_ble_eq_true rfl⟩) (zW_preV 4 0 hK hP hD rfl rfl) rfl rfl hl.1 rfl (lv_room (Nat.le_of_ble_eq_true rfl)) dX4_answerOfApp_45 ⟨Nat.zero_le _, Nat.zero_le _⟩) hS hF (fun H locs hP hD hS => ?_)
    refine lv_iload hx hb dX4_answerOfApp_48 (lv_at hl 0 rfl) ?_
    have eS : (c_appS S V ai pi ri) = (c_keep S ai pi ri (c_house S V pi ri) (V 0)) := by simp [c_appR, c_appS, bi, (eq_true (nd_f c_10))]
    exact z_wret hx hb hr hlocks (by rw [eS]; exact hP) hK (by rw [eS]; exact hD) hS (by simp [c_appR, c_appS, bi, (eq_true (nd_f c_10))]) dX4_answerOfApp_50
  · refine lv_aload_n hx hb dX4_answerOfApp_13 rfl (lv_at hl 0 rfl) ?_
    refine va_get (D := D) (ci := 4) (v := .ref (X 4)) (C := RX4) (T := TX4) (N := 7) hx hb hts i4 hown hK hP 0 rfl rfl 3 (by decide) fl_33 (fun _ h9 => h9) rfl dX4_answerOfApp_14 ?_
    refine lv_iload_n hx hb dX4_answerOfApp_17 rfl (lv_at hl 1 rfl) ?_
    refine lv_iload_n hx hb dX4_answerOfApp_18 rfl (lv_at hl 2 rfl) ?_
    refine lv_iload_n hx hb dX4_answerOfApp_19 rfl (lv_at hl 3 rfl) ?_
    refine z_callR (W.runV (As := [.int (nI ai), .int (nI pi), .int (nI ri)]) (rest := []) ⟨hx, hb, hml, hown, hts⟩ (kX0_answer l D cI cZ X S O V ai pi ri (by omega) (by omega) (by omega)) (cwV 3 hts gX4_answerOfApp_X0_answer rfl rfl rfl (by decide +kernel) ⟨Nat.le_of_ble_eq_true rfl, Nat.le_of_ble_eq_true rfl⟩) (zR_preV 4 0 hK hP rfl rfl) rfl rfl hl.1 rfl (lv_room (Nat.le_of_ble_eq_true rfl)) dX4_answerOfApp_20 ⟨Nat.zero_le _, Nat.zero_le _⟩) ?_
    have eS : (c_appS S V ai pi ri) = S := by simp [c_appR, c_appS, bi, (nd_t c_10)]
    exact z_wret hx hb hr hlocks (by rw [eS]; exact hP) hK (by rw [eS]; exact hD) hS (by simp [c_appR, c_appS, bi, (nd_t c_10)]) dX4_answerOfApp_23

set_option maxHeartbeats 4000000 in
set_option maxRecDepth 100000 in
theorem kX4_isStale (l : Launch) (D : va_G) (cI cZ : ClassId) (X : Nat → Nat) (S : Nat → Nat → Int32) (O : Nat → Bool) (V : Nat → Int32) (ai : Nat) (pi : Nat) (ri : Nat) (hai : ai < 4) (hpi : pi < 10) (hri : ri < 6) : Met l yX4_isStale wsX4_isStale ({ frames := 5, cells := 0, slots := 0, locals := 112 } : Room) (zR D (tyl cI cZ) (hW cI cZ X S O V) [.ref (X 0), .int (nI ai), .int (nI pi), .int (nI ri)]) (QcRead (bi (c_stale1 S V ai pi ri))) 0 0 (fun _ => False) := by
  refine Met.ofW (cc := cX4_isStale) (maxL := 4) (ret := (some .boolean)) (by decide) rfl ?_
  intro p e s m args below meth c s₁ B hml hv
  obtain ⟨rfl, hP, hK⟩ := hv
  have hx := B.exec
  have hb := B.bytes
  have hr := B.returns
  have hts := atoms_spec (ws := wsX4_isStale) B.pre
  have hown : s.vm.findClass RX4 = some m.cls := findClass_of_methodNamed B.named
  have hlocks := B.notSynchronized
  have i4 : ∀ w ∈ u_ws RX4 TX4 7, w ∈ wsX4_isStale := by decide +kernel
  have fl_33 := hts (.fieldLink RX4 33 "SignOnHouse" "decisions" "LSignOnHouse$Decisions;") (by decide +kernel)
  have hl := lv_entry ([.ref (X 0), .int (nI ai), .int (nI pi), .int (nI ri)]) (n := 4) (Nat.le_of_ble_eq_true rfl)
  rw [lg_entry_eq]
  generalize (lg_sl ([.ref (X 0), .int (nI ai), .int (nI pi), .int (nI ri)]) ++ List.replicate (4 - (lg_sl ([.ref (X 0), .int (nI ai), .int (nI pi), .int (nI ri)])).length) Slot.unset).toArray = ls at hl ⊢
  have hl : lv_has ls 4 [(0, .ref (X 0)), (1, .int (nI ai)), (2, .int (nI pi)), (3, .int (nI ri))] := hl
  refine lv_aload_n hx hb dX4_isStale_0 rfl (lv_at hl 0 rfl) ?_
  refine va_get (D := D) (ci := 4) (v := .ref (X 4)) (C := RX4) (T := TX4) (N := 7) hx hb hts i4 hown hK hP 0 rfl rfl 3 (by decide) fl_33 (fun _ h9 => h9) rfl dX4_isStale_1 ?_
  refine lv_iload_n hx hb dX4_isStale_4 rfl (lv_at hl 1 rfl) ?_
  refine lv_iload_n hx hb dX4_isStale_5 rfl (lv_at hl 2 rfl) ?_
  refine lv_iload_n hx hb dX4_isStale_6 rfl (lv_at hl 3 rfl) ?_
  refine z_callR (W.runV (As := [.int (nI ai), .int (nI pi), .int (nI ri)]) (rest := []) ⟨hx, hb, hml, hown, hts⟩ (kX0_areKept l D cI cZ X S O V ai pi ri (by omega) (by omega) (by omega)) (cwV 3 hts gX4_isStale_X0_areKept rfl rfl rfl (by decide +kernel) ⟨Nat.le_of_ble_eq_true rfl, Nat.le_of_ble_eq_true rfl⟩) (zR_preV 4 0 hK hP rfl rfl) rfl rfl hl.1 rfl (lv_room (Nat.le_of_ble_eq_true rfl)) dX4_isStale_7 ⟨Nat.zero_le _, Nat.zero_le _⟩) ?_
  refine z_if_eq (tgt := 36) hx hb dX4_isStale_10 (by decide) (fun c_10 => ?_) (fun c_10 => ?_)
  · refine lv_iconst (v := 0) hx hb dX4_isStale_36 rfl ?_
    exact z_zret hx hb hr hlocks (by simp [c_stale1, bi, (eq_true (nd_f c_10))]) dX4_isStale_37
  · refine lv_aload_n hx hb dX4_isStale_13 rfl (lv_at hl 0 rfl) ?_
    refine va_get (D := D) (ci := 4) (v := .ref (X 4)) (C := RX4) (T := TX4) (N := 7) hx hb hts i4 hown hK hP 0 rfl rfl 3 (by decide) fl_33 (fun _ h9 => h9) rfl dX4_isStale_14 ?_
    refine lv_iload_n hx hb dX4_isStale_17 rfl (lv_at hl 1 rfl) ?_
    refine lv_iload_n hx hb dX4_isStale_18 rfl (lv_at hl 2 rfl) ?_
    refine lv_iload_n hx hb dX4_isStale_19 rfl (lv_at hl 3 rfl) ?_
    refine z_callR (W.runV (As := [.int (nI ai), .int (nI pi), .int (nI ri)]) (rest := []) ⟨hx, hb, hml, hown, hts⟩ (kX0_answer l D cI cZ X S O V ai pi ri (by omega) (by omega) (by omega)) (cwV 3 hts gX4_isStale_X0_answer rfl rfl rfl (by decide +kernel) ⟨Nat.le_of_ble_eq_true rfl, Nat.le_of_ble_eq_true rfl⟩) (zR_preV 4 0 hK hP rfl rfl) rfl rfl hl.1 rfl (lv_room (Nat.le_of_ble_eq_true rfl)) dX4_isStale_20 ⟨Nat.zero_le _, Nat.zero_le _⟩) ?_
    refine lv_aload_n hx hb dX4_isStale_23 rfl (lv_at hl 0 rfl) ?_
    refine lv_iload_n hx hb dX4_isStale_24 rfl (lv_at hl 2 rfl) ?_
    refine lv_iload_n hx hb dX4_isStale_25 rfl (lv_at hl 3 rfl) ?_
    refine z_callR (W.runV (As := [.int (nI pi), .int (nI ri)]) (rest := [.int (S 17 (ai * 60 + pi * 6 + ri))]) ⟨hx, hb, hml, hown, hts⟩ (kX4_answerOfHouse l D cI cZ X S O V pi ri (by omega) (by omega)) (cwV 2 hts gX4_isStale_X4_answerOfHouse rfl rfl rfl (by decide +kernel) ⟨Nat.le_of_ble_eq_true rfl, Nat.le_of_ble_eq_true rfl⟩) (zR_preV 0 4 hK hP rfl rfl) rfl rfl hl.1 rfl (lv_room (Nat.le_of_ble_eq_true rfl)) dX4_isStale_26 ⟨Nat.zero_le _, Nat.zero_le _⟩) ?_
    refine z_sel_icmp_eq hx hb dX4_isStale_29 dX4_isStale_32 dX4_isStale_33 dX4_isStale_36 ?_
    exact z_zret hx hb hr hlocks (by simp [c_stale1, bi, (nd_t c_10)]) dX4_isStale_37
end
section
/-! ===== methods that throw: what stands ready for a throw, its row, and the end of a method that may throw ===== -/
def xnames : List String := ["java/lang/RuntimeException", "java/lang/Exception"]
def zBad : List Cond := [.castable "java/lang/IllegalArgumentException" "java/lang/IllegalArgumentException", .castable "java/lang/IllegalStateException" "java/lang/IllegalStateException", .castable "java/lang/IndexOutOfBoundsException" "java/lang/IndexOutOfBoundsException", .declares (Bundle.initS Bundle.tN), .declares (Bundle.initS "java/lang/RuntimeException"), .declares (Bundle.initS "java/lang/Exception")]
def zStr : List (Nat × String) := [(54, "group or person is out of range"), (63, "group or inner is out of range"), (65, "group and inner are the same"), (72, "a group would be in itself"), (78, "group or role is out of range"), (80, "what is out of range"), (86, "person or risk is out of range"), (95, "person or role is out of range"), (101, "person is out of range"), (107, "the account is barred"), (113, "no more sessions can be opened"), (127, "there is no such session"), (133, "the session is over"), (142, "minutes is out of range"), (151, "there is no such key"), (159, "a witness is out of range"), (161, "two of the three people are the same"), (166, "a witness does not serve"), (168, "app or minutes is out of range"), (180, "app or role is out of range"), (191, "app or person is out of range"), (196, "app is out of range")]
def zX (A : Nat → Prop) (U : State) : Prop := vx_Zq Bundle.tN "UNASSIGNED_STACK" Bundle.steD A U U.heap ∧ vx_Zq Bundle.tN "SUPPRESSED_SENTINEL" Bundle.listD A U U.heap ∧ (∀ w ∈ zBad, va_Nw w U) ∧ (∀ q ∈ zStr, ∃ sa, vk_R RX4 q.1 q.2 sa U)
theorem zxI_fit : Bundle.fit "java/lang/IllegalArgumentException" = true := by decide +kernel
theorem zxI_bad : ∀ w ∈ (vx_atS RX4 56 "java/lang/IllegalArgumentException" xnames).filter (fun w => !goodWord w), w ∈ zBad := by decide +kernel
theorem zxI_ot : ∀ w ∈ Cond.classLink RX4 52 "java/lang/IllegalArgumentException" :: Cond.initialized "java/lang/IllegalArgumentException" :: vx_atS RX4 56 "java/lang/IllegalArgumentException" xnames, vx_ot w = true := by decide +kernel
theorem zxS_fit : Bundle.fit "java/lang/IllegalStateException" = true := by decide +kernel
theorem zxS_bad : ∀ w ∈ (vx_atS RX4 74 "java/lang/IllegalStateException" xnames).filter (fun w => !goodWord w), w ∈ zBad := by decide +kernel
theorem zxS_ot : ∀ w ∈ Cond.classLink RX4 70 "java/lang/IllegalStateException" :: Cond.initialized "java/lang/IllegalStateException" :: vx_atS RX4 74 "java/lang/IllegalStateException" xnames, vx_ot w = true := by decide +kernel
theorem zxB_fit : Bundle.fit "java/lang/IndexOutOfBoundsException" = true := by decide +kernel
theorem zxB_bad : ∀ w ∈ (vx_atS RX4 129 "java/lang/IndexOutOfBoundsException" xnames).filter (fun w => !goodWord w), w ∈ zBad := by decide +kernel
theorem zxB_ot : ∀ w ∈ Cond.classLink RX4 125 "java/lang/IndexOutOfBoundsException" :: Cond.initialized "java/lang/IndexOutOfBoundsException" :: vx_atS RX4 129 "java/lang/IndexOutOfBoundsException" xnames, vx_ot w = true := by decide +kernel
theorem zx_names : ∀ n ∈ xnames, Bundle.fit n = true := by decide +kernel
theorem zx_on : ∀ w ∈ zBad, w.onTables = true := by decide +kernel
theorem zX_warm {A : Nat → Prop} {s U : State} (hW : s.WarmedH U.vm) (hU : U.heap = s.heap) (h : zX A s) : zX A U := by
  obtain ⟨h1, h2, h3, h4⟩ := h
  refine ⟨by rw [hU]; exact vx_Zq.moved hW.alike h1, by rw [hU]; exact vx_Zq.moved hW.alike h2, fun w hw => ?_, fun q hq => ?_⟩
  · have h5 := h3 w hw
    simp only [zBad, List.mem_cons, List.not_mem_nil, or_false] at hw
    rcases hw with rfl | rfl | rfl | rfl | rfl | rfl
    · exact va_Nw.warmC hW h5
    · exact va_Nw.warmC hW h5
    · exact va_Nw.warmC hW h5
    · exact va_Nw.warmD hW h5
    · exact va_Nw.warmD hW h5
    · exact va_Nw.warmD hW h5
  · obtain ⟨sa, h5⟩ := h4 q hq
    exact ⟨sa, vk_R.warm hW h5⟩
theorem zX_same {A : Nat → Prop} {s U : State} (hv : U.vm = s.vm) (hU : U.heap = s.heap) (h : zX A s) : zX A U := by
  obtain ⟨h1, h2, h3, h4⟩ := h
  refine ⟨?_, ?_, fun w hw => va_Nw.same (zx_on w hw) hv.symm (h3 w hw), fun q hq => ?_⟩
  · rw [hU]; exact vx_Zq.moved (by rw [hv]; exact Vm.Alike.refl _) h1
  · rw [hU]; exact vx_Zq.moved (by rw [hv]; exact Vm.Alike.refl _) h2
  · obtain ⟨sa, h5⟩ := h4 q hq
    exact ⟨sa, vk_R.same hv h5⟩
abbrev zT (D : va_G) (tys : List (ClassId × FieldType)) (ws : va_W) (sz : Nat) (av : List Value) : Array Value → State → Prop := va_Pc av (fun U => U.heap.size = sz ∧ va_P D vwCl ws U.heap ∧ va_K D vwCl tys U ∧ va_D (fun _ => True) ws ∧ zX (va_A ws sz) U)
theorem zT_blind {D : va_G} {tys : List (ClassId × FieldType)} {ws : va_W} {sz : Nat} {av : List Value} : FrameBlind (zT D tys ws sz av) := fun a U g mk q => ⟨q.1, q.2.1, q.2.2.1, va_K.moved (u := U) (U := U.calling g mk a) (Vm.Alike.refl U.vm) q.2.2.2.1, q.2.2.2.2.1, zX_same (s := U) (U := U.calling g mk a) rfl rfl q.2.2.2.2.2⟩
abbrev zTi (D : va_G) (tys : List (ClassId × FieldType)) (ws' : va_W) (k r : Int32) (A : Nat → Prop) : Array Value → State → Outcome → State → Prop := va_Qi (fun x (_ : Unit) => k = 0 ∧ x = r) (fun _ t => zB D tys ws' A t) A
abbrev zXC (D : va_G) (tys : List (ClassId × FieldType)) (ws : va_W) (A : Nat → Prop) (EX : String → Prop) : String → State → State → Prop := vx_X (fun (_ : Unit) => True) (fun E _ t => EX E ∧ zB D tys ws A t) A
section ZT
variable {p : Program} {l : Launch} {e : Env} {R : Room} {s : State} {m : MethodId} {args : Array Value} {below : List Frame} {meth : Method} {c : Code} {H : Heap} {locs : List Loc} {cc : ByteArray} {pc : Nat} {ls : Array Slot} {rest : List Value} {D : va_G} {ws ws' : va_W} {tys : List (ClassId × FieldType)} {A : Nat → Prop} {EX : String → Prop} {Qc : Array Value → State → Outcome → State → Prop} {XC : String → State → State → Prop}
theorem z_throw {cls text : String} {ik is ic : Nat} (hx : p.tables.exec = Jvm.exec) (hb : c.code = cc) (hl : l.stackTraces = false) (hown : s.vm.findClass RX4 = some m.cls) (hcls : Bundle.fit cls = true)
    (hk : (Cond.classLink RX4 ik cls).before args s = true) (hini : (Cond.initialized cls).before args s = true) (hat : ∀ w ∈ (vx_atS RX4 ic cls xnames).filter goodWord, w.before args s = true) (hnb : ∀ w ∈ (vx_atS RX4 ic cls xnames).filter (fun w => !goodWord w), w ∈ zBad) (hgood : ∀ w ∈ Cond.classLink RX4 ik cls :: Cond.initialized cls :: vx_atS RX4 ic cls xnames, vx_ot w = true)
    (hZ : zX A s) (hst : (is, text) ∈ zStr) (hS : va_S A s.heap H locs) (hsize : ls.size = c.maxLocals)
    (d0 : decode cc pc = .ok (.new ik, 3)) (d3 : decode cc (pc + 3) = .ok (.dup, 1)) (d4 : decode cc (pc + 4) = .ok (.ldc is, 2)) (d6 : decode cc (pc + 6) = .ok (.invokespecial ic, 3)) (d9 : decode cc (pc + 9) = .ok (.athrow, 1))
    (ht : ∀ x ∈ c.exceptionTable.toList, False) (hRf : 5 < R.frames) (hRl : 82 ≤ R.locals) (hRc : 1 ≤ R.cells) (hRs : 6 ≤ R.slots) (hlocks : meth.locks = false)
    (hP : va_P D vwCl ws H) (hK : va_K D vwCl tys s) (hD : va_D A ws) (hE : EX cls) :
    W p l e R s m args below meth c H locs 0 0 (vx_MQ below Qc (zXC D tys ws A EX) args s 1 6 A) (F0 m pc ls []) := by
  obtain ⟨hU, hN, hbad, hstr⟩ := hZ
  obtain ⟨sa, hsa⟩ := hstr _ hst
  refine vx_throwS hx hb hl hown hcls zx_names hk hini hsa (vx_hat hat hnb (fun w hw => va_Nw.use (zx_on w hw) (hbad w hw))) hgood hU hN hS hsize d0 d3 d4 d6 d9 (fun x h => (ht x h).elim) hRf (by simpa [xnames] using hRl) (by omega) (by omega) hlocks (fun t hal f1 f2 => ?_) hS.2.2 (by omega) (by omega)
  exact ⟨(), trivial, ⟨hE, hP.kept (fun k q hq => f2 q.1 ((hP k q hq).lt)), va_K.moved hal hK, hD⟩, Nat.le_trans hS.1 f1, fun q h1 h2 => (f2 q (Nat.lt_of_lt_of_le h1 hS.1)).trans (hS.2.1 q h1 h2)⟩
theorem z_tret {k v r : Int32} (hx : p.tables.exec = Jvm.exec) (hb : c.code = cc) (hr : meth.sig.returnType = some .int) (hlocks : meth.locks = false) (hP : va_P D vwCl ws' H) (hK : va_K D vwCl tys s) (hD : va_D A ws') (hS : va_S A s.heap H locs) (hk : k = 0) (h : v = r) (hdg : decode cc pc = .ok (.ireturn, 1)) : W p l e R s m args below meth c H locs 0 0 (vx_MQ below (zTi D tys ws' k r A) XC args s 1 6 A) (F0 m pc ls [.int v]) := by
  subst h
  exact W.widen (k := 1) (n := 6) (by omega) (by omega) (vx_ret (W.iret hx hb hr (fun t ht hW => ⟨⟨_, (), rfl, ⟨hk, rfl⟩, by rw [ht]; exact hP, va_K.moved hW.alike hK, hD⟩, hS.F ht⟩) hS.2.2 hdg hlocks))
theorem z_tzret {k v : Int32} {b : Bool} (hx : p.tables.exec = Jvm.exec) (hb : c.code = cc) (hr : meth.sig.returnType = some .boolean) (hlocks : meth.locks = false) (hP : va_P D vwCl ws' H) (hK : va_K D vwCl tys s) (hD : va_D A ws') (hS : va_S A s.heap H locs) (hk : k = 0) (h : v = bi b) (hdg : decode cc pc = .ok (.ireturn, 1)) : W p l e R s m args below meth c H locs 0 0 (vx_MQ below (zTi D tys ws' k (bi b) A) XC args s 1 6 A) (F0 m pc ls [.int v]) := by
  subst h
  exact W.widen (k := 1) (n := 6) (by omega) (by omega) (vx_ret (W.zret hx hb hr (bi_nar b) (fun t ht hW => ⟨⟨_, (), rfl, ⟨hk, rfl⟩, by rw [ht]; exact hP, va_K.moved hW.alike hK, hD⟩, hS.F ht⟩) hS.2.2 hdg hlocks))
end ZT
theorem zT_preV {s : State} {H : Heap} {D : va_G} {tys : List (ClassId × FieldType)} {ws : va_W} {A : Nat → Prop} {As : List Value} {a : Nat} (q0 ci : Nat) {q : vw_C} {fs : List Value} (hK : va_K D vwCl tys s) (hP : va_P D vwCl ws H) (hD : va_D A ws) (hZ : ∀ U : State, U.heap = H → s.WarmedH U.vm → zX (va_A ws H.size) U) (hc : vwCl[ci]? = some q) (he : ws[q0]? = some (a, .inr (ci, fs))) : PreV s H q.1 a (zT D tys ws H.size (.ref a :: As)) As :=
  ⟨zT_blind, va_recv hK hP hc he, fun U hU hW => ⟨rfl, by rw [hU], by rw [hU]; exact hP, va_K.moved hW.alike hK, hD.weaken (fun _ _ _ _ => trivial), hZ U hU hW⟩⟩
end
section
/-! ===== what the class's public methods work out ===== -/
theorem c_outN {x n : Int32} (N : Nat) (h : c_out x n = false) (hn : n.toInt = N) : ∃ j : Nat, j < N ∧ x = nI j := by
  simp only [c_out, Bool.or_eq_false_iff, decide_eq_false_iff_not, Bool.not_eq_false', decide_eq_true_eq] at h
  obtain ⟨h1, h2⟩ := h
  have h3 : vp_in x N := by
    rw [vp_in_iff]
    rw [Int32.lt_iff_toInt_lt, Int32.toInt_zero] at h1
    rw [Int32.lt_iff_toInt_lt] at h2
    omega
  have := Int32.toInt_lt n
  exact vp_in_of h3 (by omega)
theorem c_out8 {x : Int32} (h : c_out x 8 = false) : ∃ j : Nat, j < 8 ∧ x = nI j := c_outN 8 h (by decide)
theorem c_out10 {x : Int32} (h : c_out x 10 = false) : ∃ j : Nat, j < 10 ∧ x = nI j := c_outN 10 h (by decide)
theorem c_out6 {x : Int32} (h : c_out x 6 = false) : ∃ j : Nat, j < 6 ∧ x = nI j := c_outN 6 h (by decide)
theorem c_out4 {x : Int32} (h : c_out x 4 = false) : ∃ j : Nat, j < 4 ∧ x = nI j := c_outN 4 h (by decide)
theorem c_hasN {V : Nat → Int32} {x : Int32} {n : Nat} (h : c_has V x = true) (hv : V 1 = nI n) (hn : n ≤ 30) : ∃ j : Nat, j < n ∧ x = nI j := by
  simp only [c_has, Bool.and_eq_true, Bool.not_eq_true', decide_eq_false_iff_not] at h
  obtain ⟨h1, h2⟩ := h
  rw [hv] at h2
  have h3 : vp_in x n := by
    rw [vp_in_iff]
    rw [Int32.lt_iff_toInt_lt, Int32.toInt_zero] at h1
    rw [Int32.le_iff_toInt_le, nI_toInt (by omega)] at h2
    omega
  exact vp_in_of h3 (by omega)
def c_spK (x y : Int32) : Int32 := if c_out x 8 = true then 1 else if c_out y 10 = true then 1 else 0
def c_sgK (S : Nat → Nat → Int32) (x y : Int32) (b : Bool) : Int32 := if c_out x 8 = true then 1 else if c_out y 8 = true then 1 else if x = y then 1 else if b = true then (if hasB (c_allA S (S 8 (ix x)) 8) (nI (ix y)) = true then 2 else 0) else 0
def c_srK (x y z : Int32) : Int32 := if c_out x 8 = true then 1 else if c_out y 6 = true then 1 else if z < 0 then 1 else if z ≤ 2 then 0 else 1
def c_riK (x y : Int32) : Int32 := if c_out x 10 = true then 1 else if y < 0 then 1 else if y ≤ 3 then 0 else 1
def c_alK (x y : Int32) : Int32 := if c_out x 10 = true then 1 else if c_out y 6 = true then 1 else 0
def c_opK (S : Nat → Nat → Int32) (V : Nat → Int32) (x : Int32) : Int32 := if c_out x 10 = true then 1 else if S 5 (ix x) = 3 then 2 else if V 1 < 30 then 0 else 2
def c_clK (O : Nat → Bool) (V : Nat → Int32) (x : Int32) : Int32 := if c_has V x = true then (if O (ix x) = true then 2 else 0) else 1
def c_goK (V : Nat → Int32) (x : Int32) : Int32 := if c_has V x = true then 0 else 1
def c_ckK (x : Int32) : Int32 := if x < 0 then 1 else if x ≤ 300 then 0 else 1
def c_itK (V : Nat → Int32) (x : Int32) : Int32 := if x < 0 then 1 else if x ≤ V 2 then 0 else 1
def c_paK (x : Int32) : Int32 := if x < 1 then 1 else if x ≤ 300 then 0 else 1
def c_bgK (S : Nat → Nat → Int32) (x y z w : Int32) : Int32 := if c_out x 10 = true then 1 else if c_out y 6 = true then 1 else if c_out z 10 = true then 1 else if c_out w 10 = true then 1 else if x = z then 1 else if x = w then 1 else if z = w then 1 else if c_serves S (ix z) (ix y) = true then (if c_serves S (ix w) (ix y) = true then 0 else 2) else 2
def c_scK (x y : Int32) : Int32 := if c_out x 4 = true then 1 else if y < 0 then 1 else if y ≤ 60 then 0 else 1
def c_deK (V : Nat → Int32) (x y z : Int32) : Int32 := if c_out x 4 = true then 1 else if c_out z 6 = true then 1 else if c_has V y = true then 0 else 2
def c_foK (x y : Int32) : Int32 := if c_out x 4 = true then 1 else if c_out y 10 = true then 1 else 0
def c_stK (x : Int32) : Int32 := if c_out x 4 = true then 1 else 0
def c_riS (S : Nat → Nat → Int32) (x y : Int32) : Nat → Nat → Int32 := va_up S 5 (upd (S 5) (ix x) y)
def c_ckV (V : Nat → Int32) (x : Int32) : Nat → Int32 := va_up (va_up V 2 (V 2 + 1)) 3 (V 0 + x)
def c_paV (V : Nat → Int32) (x : Int32) : Nat → Int32 := va_up V 0 (V 0 + x)
def c_scS (S : Nat → Nat → Int32) (V : Nat → Int32) (ai : Nat) (y : Int32) : Nat → Nat → Int32 := c_ddS (va_up S 16 (upd (S 16) ai y)) ai (V 0) 60
def c_deS1 (S : Nat → Nat → Int32) (V : Nat → Int32) (si : Nat) : Nat → Nat → Int32 := va_up S 14 (upd (S 14) si (V 0))
def c_stI (S : Nat → Nat → Int32) (V : Nat → Int32) (ai : Nat) (c0 : Int32) (pi : Nat) : Nat → Int32
  | 0 => c0
  | k + 1 => if c_stale1 S V ai pi k = true then c_stI S V ai c0 pi k + 1 else c_stI S V ai c0 pi k
def c_stO (S : Nat → Nat → Int32) (V : Nat → Int32) (ai : Nat) : Nat → Int32
  | 0 => 0
  | k + 1 => c_stI S V ai (c_stO S V ai k) k 6
theorem c_ddS_ne (S : Nat → Nat → Int32) (ai : Nat) (t : Int32) (k w : Nat) (h : w ≠ 17) : c_ddS S ai t k w = S w := by
  induction k with
  | zero => rfl
  | succ k ih =>
    rw [c_ddS]
    split
    · exact ih
    · simp only [va_up, if_neg h]; exact ih
theorem c_doS_ne (S : Nat → Nat → Int32) (t : Int32) (k w : Nat) (h : w ≠ 17) : c_doS S t k w = S w := by
  induction k with
  | zero => rfl
  | succ k ih => rw [c_doS, c_ddS_ne _ _ _ _ _ h, ih]
theorem c_out_lt {j n : Nat} (h : j < n) (hn : n < 2 ^ 31) : c_out (nI j) (nI n) = false := by
  rw [c_out, decide_eq_false (nI_pos (by omega)), decide_eq_true (nI_lt h hn)]; rfl
theorem c_has_lt {V : Nat → Int32} {n0 si : Nat} (hct : V 1 = nI n0) (hn0 : n0 ≤ 30) (hsn : si < n0) : c_has V (nI si) = true := by
  rw [c_has, hct, decide_eq_false (nI_pos (by omega)), decide_eq_false (nI_ge hsn (by omega))]; rfl
end
section
set_option maxHeartbeats 4000000 in
set_option maxRecDepth 100000 in
theorem kX4_now (l : Launch) (D : va_G) (cI cZ : ClassId) (X : Nat → Nat) (S : Nat → Nat → Int32) (O : Nat → Bool) (V : Nat → Int32)  : Met l yX4_now wsX4_now ({ frames := 0, cells := 0, slots := 0, locals := 0 } : Room) (zR D (tyl cI cZ) (hW cI cZ X S O V) [.ref (X 0)]) (QcRead (V 0)) 0 0 (fun _ => False) := by
  refine Met.ofW (cc := cX4_now) (maxL := 1) (ret := (some .int)) (by decide) rfl ?_
  intro p e s m args below meth c s₁ B hml hv
  obtain ⟨rfl, hP, hK⟩ := hv
  have hx := B.exec
  have hb := B.bytes
  have hr := B.returns
  have hts := atoms_spec (ws := wsX4_now) B.pre
  have hown : s.vm.findClass RX4 = some m.cls := findClass_of_methodNamed B.named
  have hlocks := B.notSynchronized
  have i4 : ∀ w ∈ u_ws RX4 TX4 7, w ∈ wsX4_now := by decide +kernel
  have fl_44 := hts (.fieldLink RX4 44 "SignOnHouse" "minute" "I") (by decide +kernel)
  have hl := lv_entry ([.ref (X 0)]) (n := 1) (Nat.le_of_ble_eq_true rfl)
  rw [lg_entry_eq]
  generalize (lg_sl ([.ref (X 0)]) ++ List.replicate (1 - (lg_sl ([.ref (X 0)])).length) Slot.unset).toArray = ls at hl ⊢
  have hl : lv_has ls 1 [(0, .ref (X 0))] := hl
  refine lv_aload_n hx hb dX4_now_0 rfl (lv_at hl 0 rfl) ?_
  refine va_get (D := D) (ci := 4) (v := .int (V 0)) (C := RX4) (T := TX4) (N := 7) hx hb hts i4 hown hK hP 0 rfl rfl 6 (by decide) fl_44 (fun _ h9 => h9) rfl dX4_now_1 ?_
  exact z_ret hx hb hr hlocks rfl dX4_now_4

set_option maxHeartbeats 4000000 in
set_option maxRecDepth 100000 in
theorem kX4_setPerson (l : Launch) (D : va_G) (cI cZ : ClassId) (X : Nat → Nat) (S : Nat → Nat → Int32) (O : Nat → Bool) (V : Nat → Int32) (sz : Nat) (gi : Nat) (pi : Nat) (b0 : Bool) (hgi : gi < 8) (hpi : pi < 10) : Met l yX4_setPerson wsX4_setPerson ({ frames := 6, cells := 0, slots := 0, locals := 90 } : Room) (zW D (tyl cI cZ) (hW cI cZ X S O V) sz [.ref (X 0), .int (nI gi), .int (nI pi), .int (bi b0)]) (zQi D (tyl cI cZ) (hW cI cZ X (va_up S 7 (upd (S 7) pi (c_changed (S 7 pi) (nI gi) b0))) O V) (bi (hasB (S 7 pi) (nI gi))) (va_A (hW cI cZ X S O V) sz)) 0 0 (va_A (hW cI cZ X S O V) sz) := by
  refine Met.ofW (cc := cX4_setPerson) (maxL := 4) (ret := (some .boolean)) (by decide) rfl ?_
  intro p e s m args below meth c s₁ B hml hv
  obtain ⟨rfl, hsz, hP, hK, hD0⟩ := hv
  have hx := B.exec
  have hb := B.bytes
  have hr := B.returns
  have hts := atoms_spec (ws := wsX4_setPerson) B.pre
  have hown : s.vm.findClass RX4 = some m.cls := findClass_of_methodNamed B.named
  have hlocks := B.notSynchronized
  subst hsz
  have hD := hD0.self (sz := s.heap.size)
  generalize hAe : va_A (hW cI cZ X S O V) s.heap.size = A at hD ⊢
  have hA : ∀ q : Nat, s.heap.size ≤ q → A q := fun q h => by rw [← hAe]; exact Or.inr h
  have hS : va_S A s.heap s.heap [] := va_S.rf
  have i4 : ∀ w ∈ u_ws RX4 TX4 7, w ∈ wsX4_setPerson := by decide +kernel
  have fl_10 := hts (.fieldLink RX4 10 "SignOnHouse" "groups" "LSignOnHouse$Groups;") (by decide +kernel)
  have hl := lv_entry ([.ref (X 0), .int (nI gi), .int (nI pi), .int (bi b0)]) (n := 4) (Nat.le_of_ble_eq_true rfl)
  rw [lg_entry_eq]
  generalize (lg_sl ([.ref (X 0), .int (nI gi), .int (nI pi), .int (bi b0)]) ++ List.replicate (4 - (lg_sl ([.ref (X 0), .int (nI gi), .int (nI pi), .int (bi b0)])).length) Slot.unset).toArray = ls at hl ⊢
  have hl : lv_has ls 4 [(0, .ref (X 0)), (1, .int (nI gi)), (2, .int (nI pi)), (3, .int (bi b0))] := hl
  have ok0 : c_out (nI gi) 8 = false := c_out_lt (n := 8) hgi (by decide)
  have ok1 : c_out (nI pi) 10 = false := c_out_lt (n := 10) hpi (by decide)
  refine lv_iload_n hx hb dX4_setPerson_0 rfl (lv_at hl 1 rfl) ?_
  refine lv_bipush (v := 8) hx hb dX4_setPerson_1 (by decide) ?_
  refine z_callR (W.runS (As := [.int (nI gi), .int 8]) (rest := []) ⟨hx, hb, hml, hown, hts⟩ (kX4_isOutside l (nI gi) 8) (va_cwS 2 hts gX4_setPerson_X4_isOutside rfl rfl rfl (by decide +kernel) ⟨Nat.le_of_ble_eq_true rfl, Nat.le_of_ble_eq_true rfl⟩) zP_pre rfl rfl hl.1 rfl (lv_room (Nat.le_of_ble_eq_true rfl)) dX4_setPerson_3 ⟨Nat.zero_le _, Nat.zero_le _⟩) ?_
  refine z_if_ne (tgt := 18) hx hb dX4_setPerson_6 (by decide) (fun q => absurd (ok0.symm.trans q) (by decide)) (fun _ => ?_)
  refine lv_iload_n hx hb dX4_setPerson_9 rfl (lv_at hl 2 rfl) ?_
  refine lv_bipush (v := 10) hx hb dX4_setPerson_10 (by decide) ?_
  refine z_callR (W.runS (As := [.int (nI pi), .int 10]) (rest := []) ⟨hx, hb, hml, hown, hts⟩ (kX4_isOutside l (nI pi) 10) (va_cwS 2 hts gX4_setPerson_X4_isOutside rfl rfl rfl (by decide +kernel) ⟨Nat.le_of_ble_eq_true rfl, Nat.le_of_ble_eq_true rfl⟩) zP_pre rfl rfl hl.1 rfl (lv_room (Nat.le_of_ble_eq_true rfl)) dX4_setPerson_12 ⟨Nat.zero_le _, Nat.zero_le _⟩) ?_
  refine z_if_eq (tgt := 28) hx hb dX4_setPerson_15 (by decide) (fun _ => ?_) (fun q => absurd (ok1.symm.trans q) (by decide))
  refine lv_aload_n hx hb dX4_setPerson_28 rfl (lv_at hl 0 rfl) ?_
  refine va_get (D := D) (ci := 4) (v := .ref (X 1)) (C := RX4) (T := TX4) (N := 7) hx hb hts i4 hown hK hP 0 rfl rfl 0 (by decide) fl_10 (fun _ h9 => h9) rfl dX4_setPerson_29 ?_
  refine lv_iload_n hx hb dX4_setPerson_32 rfl (lv_at hl 1 rfl) ?_
  refine lv_iload_n hx hb dX4_setPerson_33 rfl (lv_at hl 2 rfl) ?_
  refine lv_iload_n hx hb dX4_setPerson_34 rfl (lv_at hl 3 rfl) ?_
  have hF := z_free hD hS hA
  refine z_callWi (va_runV (As := [.int (nI gi), .int (nI pi), .int (bi b0)]) (rest := []) ⟨hx, hb, hml, hown, hts⟩ (kX1_placePerson l D cI cZ X S O V _ gi pi b0 (by omega) (by omega)) (cwV 3 hts gX4_setPerson_X1_placePerson rfl rfl rfl (by decide +kernel) ⟨Nat.le_of_ble_eq_true rfl, Nat.le_of_ble_eq_true rfl⟩) (zW_preV 1 1 hK hP hD rfl rfl) rfl rfl hl.1 rfl (lv_room (Nat.le_of_ble_eq_true rfl)) dX4_setPerson_35 ⟨Nat.zero_le _, Nat.zero_le _⟩) hS hF (fun H locs hP hD hS => ?_)
  exact z_wzret hx hb hr hlocks hP hK hD hS rfl dX4_setPerson_38

set_option maxHeartbeats 4000000 in
set_option maxRecDepth 100000 in
theorem kX4_setRole (l : Launch) (D : va_G) (cI cZ : ClassId) (X : Nat → Nat) (S : Nat → Nat → Int32) (O : Nat → Bool) (V : Nat → Int32) (sz : Nat) (gi : Nat) (ri : Nat) (x2 : Int32) (hgi : gi < 8) (hri : ri < 6) (hw0 : ¬ x2 < 0) (hw2 : x2 ≤ 2) : Met l yX4_setRole wsX4_setRole ({ frames := 6, cells := 0, slots := 0, locals := 90 } : Room) (zW D (tyl cI cZ) (hW cI cZ X S O V) sz [.ref (X 0), .int (nI gi), .int (nI ri), .int x2]) (zQi D (tyl cI cZ) (hW cI cZ X (va_up (va_up S 9 (upd (S 9) ri (c_changed (S 9 ri) (nI gi) (decide (x2 = 1))))) 10 (upd (S 10) ri (c_changed (S 10 ri) (nI gi) (decide (x2 = 2))))) O V) (c_roleOf S gi ri) (va_A (hW cI cZ X S O V) sz)) 0 0 (va_A (hW cI cZ X S O V) sz) := by
  refine Met.ofW (cc := cX4_setRole) (maxL := 4) (ret := (some .int)) (by decide) rfl ?_
  intro p e s m args below meth c s₁ B hml hv
  obtain ⟨rfl, hsz, hP, hK, hD0⟩ := hv
  have hx := B.exec
  have hb := B.bytes
  have hr := B.returns
  have hts := atoms_spec (ws := wsX4_setRole) B.pre
  have hown : s.vm.findClass RX4 = some m.cls := findClass_of_methodNamed B.named
  have hlocks := B.notSynchronized
  subst hsz
  have hD := hD0.self (sz := s.heap.size)
  generalize hAe : va_A (hW cI cZ X S O V) s.heap.size = A at hD ⊢
  have hA : ∀ q : Nat, s.heap.size ≤ q → A q := fun q h => by rw [← hAe]; exact Or.inr h
  have hS : va_S A s.heap s.heap [] := va_S.rf
  have i4 : ∀ w ∈ u_ws RX4 TX4 7, w ∈ wsX4_setRole := by decide +kernel
  have fl_10 := hts (.fieldLink RX4 10 "SignOnHouse" "groups" "LSignOnHouse$Groups;") (by decide +kernel)
  have hl := lv_entry ([.ref (X 0), .int (nI gi), .int (nI ri), .int x2]) (n := 4) (Nat.le_of_ble_eq_true rfl)
  rw [lg_entry_eq]
  generalize (lg_sl ([.ref (X 0), .int (nI gi), .int (nI ri), .int x2]) ++ List.replicate (4 - (lg_sl ([.ref (X 0), .int (nI gi), .int (nI ri), .int x2])).length) Slot.unset).toArray = ls at hl ⊢
  have hl : lv_has ls 4 [(0, .ref (X 0)), (1, .int (nI gi)), (2, .int (nI ri)), (3, .int x2)] := hl
  have ok0 : c_out (nI gi) 8 = false := c_out_lt (n := 8) hgi (by decide)
  have ok1 : c_out (nI ri) 6 = false := c_out_lt (n := 6) hri (by decide)
  refine lv_iload_n hx hb dX4_setRole_0 rfl (lv_at hl 1 rfl) ?_
  refine lv_bipush (v := 8) hx hb dX4_setRole_1 (by decide) ?_
  refine z_callR (W.runS (As := [.int (nI gi), .int 8]) (rest := []) ⟨hx, hb, hml, hown, hts⟩ (kX4_isOutside l (nI gi) 8) (va_cwS 2 hts gX4_setRole_X4_isOutside rfl rfl rfl (by decide +kernel) ⟨Nat.le_of_ble_eq_true rfl, Nat.le_of_ble_eq_true rfl⟩) zP_pre rfl rfl hl.1 rfl (lv_room (Nat.le_of_ble_eq_true rfl)) dX4_setRole_3 ⟨Nat.zero_le _, Nat.zero_le _⟩) ?_
  refine z_if_ne (tgt := 18) hx hb dX4_setRole_6 (by decide) (fun q => absurd (ok0.symm.trans q) (by decide)) (fun _ => ?_)
  refine lv_iload_n hx hb dX4_setRole_9 rfl (lv_at hl 2 rfl) ?_
  refine lv_bipush (v := 6) hx hb dX4_setRole_10 (by decide) ?_
  refine z_callR (W.runS (As := [.int (nI ri), .int 6]) (rest := []) ⟨hx, hb, hml, hown, hts⟩ (kX4_isOutside l (nI ri) 6) (va_cwS 2 hts gX4_setRole_X4_isOutside rfl rfl rfl (by decide +kernel) ⟨Nat.le_of_ble_eq_true rfl, Nat.le_of_ble_eq_true rfl⟩) zP_pre rfl rfl hl.1 rfl (lv_room (Nat.le_of_ble_eq_true rfl)) dX4_setRole_12 ⟨Nat.zero_le _, Nat.zero_le _⟩) ?_
  refine z_if_eq (tgt := 28) hx hb dX4_setRole_15 (by decide) (fun _ => ?_) (fun q => absurd (ok1.symm.trans q) (by decide))
  refine lv_iload_n hx hb dX4_setRole_28 rfl (lv_at hl 3 rfl) ?_
  refine lv_if_lt (tgt := 37) hx hb dX4_setRole_29 (by decide) (fun q => absurd q hw0) (fun _ => ?_)
  refine lv_iload_n hx hb dX4_setRole_32 rfl (lv_at hl 3 rfl) ?_
  refine lv_iconst (v := 2) hx hb dX4_setRole_33 rfl ?_
  refine lv_icmp_le (tgt := 47) hx hb dX4_setRole_34 (by decide) (fun _ => ?_) (fun q => absurd hw2 q)
  refine lv_aload_n hx hb dX4_setRole_47 rfl (lv_at hl 0 rfl) ?_
  refine va_get (D := D) (ci := 4) (v := .ref (X 1)) (C := RX4) (T := TX4) (N := 7) hx hb hts i4 hown hK hP 0 rfl rfl 0 (by decide) fl_10 (fun _ h9 => h9) rfl dX4_setRole_48 ?_
  refine lv_iload_n hx hb dX4_setRole_51 rfl (lv_at hl 1 rfl) ?_
  refine lv_iload_n hx hb dX4_setRole_52 rfl (lv_at hl 2 rfl) ?_
  refine lv_iload_n hx hb dX4_setRole_53 rfl (lv_at hl 3 rfl) ?_
  have hF := z_free hD hS hA
  refine z_callWi (va_runV (As := [.int (nI gi), .int (nI ri), .int x2]) (rest := []) ⟨hx, hb, hml, hown, hts⟩ (kX1_giveRole l D cI cZ X S O V _ gi ri x2 (by omega) (by omega)) (cwV 3 hts gX4_setRole_X1_giveRole rfl rfl rfl (by decide +kernel) ⟨Nat.le_of_ble_eq_true rfl, Nat.le_of_ble_eq_true rfl⟩) (zW_preV 1 1 hK hP hD rfl rfl) rfl rfl hl.1 rfl (lv_room (Nat.le_of_ble_eq_true rfl)) dX4_setRole_54 ⟨Nat.zero_le _, Nat.zero_le _⟩) hS hF (fun H locs hP hD hS => ?_)
  exact z_wret hx hb hr hlocks hP hK hD hS rfl dX4_setRole_57

set_option maxHeartbeats 4000000 in
set_option maxRecDepth 100000 in
theorem kX4_setRisk (l : Launch) (D : va_G) (cI cZ : ClassId) (X : Nat → Nat) (S : Nat → Nat → Int32) (O : Nat → Bool) (V : Nat → Int32) (sz : Nat) (pi : Nat) (x1 : Int32) (hpi : pi < 10) (hw0 : ¬ x1 < 0) (hw3 : x1 ≤ 3) (n0 : Nat) (hn0 : n0 ≤ 30) (hct : V 1 = nI n0) : Met l yX4_setRisk wsX4_setRisk ({ frames := 6, cells := 0, slots := 0, locals := 90 } : Room) (zW D (tyl cI cZ) (hW cI cZ X S O V) sz [.ref (X 0), .int (nI pi), .int x1]) (zQi D (tyl cI cZ) (hW cI cZ X (va_up S 5 (upd (S 5) pi x1)) (if x1 ≤ S 5 pi then O else c_eaO (va_up S 5 (upd (S 5) pi x1)) O (nI pi) n0) V) (if x1 ≤ S 5 pi then 0 else c_eaN (va_up S 5 (upd (S 5) pi x1)) O (nI pi) n0) (va_A (hW cI cZ X S O V) sz)) 0 0 (va_A (hW cI cZ X S O V) sz) := by
  refine Met.ofW (cc := cX4_setRisk) (maxL := 4) (ret := (some .int)) (by decide) rfl ?_
  intro p e s m args below meth c s₁ B hml hv
  obtain ⟨rfl, hsz, hP, hK, hD0⟩ := hv
  have hx := B.exec
  have hb := B.bytes
  have hr := B.returns
  have hts := atoms_spec (ws := wsX4_setRisk) B.pre
  have hown : s.vm.findClass RX4 = some m.cls := findClass_of_methodNamed B.named
  have hlocks := B.notSynchronized
  subst hsz
  have hD := hD0.self (sz := s.heap.size)
  generalize hAe : va_A (hW cI cZ X S O V) s.heap.size = A at hD ⊢
  have hA : ∀ q : Nat, s.heap.size ≤ q → A q := fun q h => by rw [← hAe]; exact Or.inr h
  have hS : va_S A s.heap s.heap [] := va_S.rf
  have i4 : ∀ w ∈ u_ws RX4 TX4 7, w ∈ wsX4_setRisk := by decide +kernel
  have fl_19 := hts (.fieldLink RX4 19 "SignOnHouse" "sessions" "LSignOnHouse$Sessions;") (by decide +kernel)
  have fl_37 := hts (.fieldLink RX4 37 "SignOnHouse" "risks" "[I") (by decide +kernel)
  have hl := lv_entry ([.ref (X 0), .int (nI pi), .int x1]) (n := 4) (Nat.le_of_ble_eq_true rfl)
  rw [lg_entry_eq]
  generalize (lg_sl ([.ref (X 0), .int (nI pi), .int x1]) ++ List.replicate (4 - (lg_sl ([.ref (X 0), .int (nI pi), .int x1])).length) Slot.unset).toArray = ls at hl ⊢
  have hl : lv_has ls 4 [(0, .ref (X 0)), (1, .int (nI pi)), (2, .int x1)] := hl
  have ok0 : c_out (nI pi) 10 = false := c_out_lt (n := 10) hpi (by decide)
  refine lv_iload_n hx hb dX4_setRisk_0 rfl (lv_at hl 1 rfl) ?_
  refine lv_bipush (v := 10) hx hb dX4_setRisk_1 (by decide) ?_
  refine z_callR (W.runS (As := [.int (nI pi), .int 10]) (rest := []) ⟨hx, hb, hml, hown, hts⟩ (kX4_isOutside l (nI pi) 10) (va_cwS 2 hts gX4_setRisk_X4_isOutside rfl rfl rfl (by decide +kernel) ⟨Nat.le_of_ble_eq_true rfl, Nat.le_of_ble_eq_true rfl⟩) zP_pre rfl rfl hl.1 rfl (lv_room (Nat.le_of_ble_eq_true rfl)) dX4_setRisk_3 ⟨Nat.zero_le _, Nat.zero_le _⟩) ?_
  refine z_if_ne (tgt := 18) hx hb dX4_setRisk_6 (by decide) (fun q => absurd (ok0.symm.trans q) (by decide)) (fun _ => ?_)
  refine lv_iload_n hx hb dX4_setRisk_9 rfl (lv_at hl 2 rfl) ?_
  refine lv_if_lt (tgt := 18) hx hb dX4_setRisk_10 (by decide) (fun q => absurd q hw0) (fun _ => ?_)
  refine lv_iload_n hx hb dX4_setRisk_13 rfl (lv_at hl 2 rfl) ?_
  refine lv_iconst (v := 3) hx hb dX4_setRisk_14 rfl ?_
  refine lv_icmp_le (tgt := 28) hx hb dX4_setRisk_15 (by decide) (fun _ => ?_) (fun q => absurd hw3 q)
  refine lv_iload_n hx hb dX4_setRisk_28 rfl (lv_at hl 2 rfl) ?_
  refine lv_aload_n hx hb dX4_setRisk_29 rfl (lv_at hl 0 rfl) ?_
  refine va_get (D := D) (ci := 4) (v := .ref (X 5)) (C := RX4) (T := TX4) (N := 7) hx hb hts i4 hown hK hP 0 rfl rfl 4 (by decide) fl_37 (fun _ h9 => h9) rfl dX4_setRisk_30 ?_
  refine lv_iload_n hx hb dX4_setRisk_33 rfl (lv_at hl 1 rfl) ?_
  refine z_iald (D := D) (j := pi) (f := S 5) hx hb hK hP 5 0 rfl rfl (by omega) (by decide) dX4_setRisk_34 ?_
  refine z_sel_icmp_le hx hb dX4_setRisk_35 dX4_setRisk_38 dX4_setRisk_39 dX4_setRisk_42 ?_
  refine lv_istore_n (lv' := [(3, .int (bi (!decide (x1 ≤ S 5 pi)))), (0, .ref (X 0)), (1, .int (nI pi)), (2, .int x1)]) hx hb dX4_setRisk_43 rfl hl (by decide) rfl (fun ls hl => ?_)
  refine lv_aload_n hx hb dX4_setRisk_44 rfl (lv_at hl 1 rfl) ?_
  refine va_get (D := D) (ci := 4) (v := .ref (X 5)) (C := RX4) (T := TX4) (N := 7) hx hb hts i4 hown hK hP 0 rfl rfl 4 (by decide) fl_37 (fun _ h9 => h9) rfl dX4_setRisk_45 ?_
  refine lv_iload_n hx hb dX4_setRisk_48 rfl (lv_at hl 2 rfl) ?_
  refine lv_iload_n hx hb dX4_setRisk_49 rfl (lv_at hl 3 rfl) ?_
  refine z_iast (D := D) (j := pi) (f := S 5) hx hb hK hP hD hS 5 0 rfl rfl (by omega) (by decide) dX4_setRisk_50 (fun H locs hP hD hS => ?_)
  have hP : va_P D vwCl (hW cI cZ X (va_up S 5 (upd (S 5) pi x1)) O V) H := hP
  have hD : va_D A (hW cI cZ X (va_up S 5 (upd (S 5) pi x1)) O V) := hD
  refine lv_iload_n hx hb dX4_setRisk_51 rfl (lv_at hl 0 rfl) ?_
  refine z_if_eq (tgt := 66) hx hb dX4_setRisk_52 (by decide) (fun c_52 => ?_) (fun c_52 => ?_)
  · refine lv_iconst (v := 0) hx hb dX4_setRisk_66 rfl ?_
    have eO : (if x1 ≤ S 5 pi then O else c_eaO (va_up S 5 (upd (S 5) pi x1)) O (nI pi) n0) = O := by simp [(eq_true (nd_f c_52))]
    exact z_wret hx hb hr hlocks (by rw [eO]; exact hP) hK (by rw [eO]; exact hD) hS (by simp [(eq_true (nd_f c_52))]) dX4_setRisk_67
  · refine lv_aload_n hx hb dX4_setRisk_55 rfl (lv_at hl 1 rfl) ?_
    refine va_get (D := D) (ci := 4) (v := .ref (X 2)) (C := RX4) (T := TX4) (N := 7) hx hb hts i4 hown hK hP 0 rfl rfl 1 (by decide) fl_19 (fun _ h9 => h9) rfl dX4_setRisk_56 ?_
    refine lv_iload_n hx hb dX4_setRisk_59 rfl (lv_at hl 2 rfl) ?_
    have hF := z_free hD hS hA
    refine z_callWi (va_runV (As := [.int (nI pi)]) (rest := []) ⟨hx, hb, hml, hown, hts⟩ (kX3_endAllOf l D cI cZ X (va_up S 5 (upd (S 5) pi x1)) O V _ (nI pi) n0 hn0 hct) (cwV 1 hts gX4_setRisk_X3_endAllOf rfl rfl rfl (by decide +kernel) ⟨Nat.le_of_ble_eq_true rfl, Nat.le_of_ble_eq_true rfl⟩) (zW_preV 2 3 hK hP hD rfl rfl) rfl rfl hl.1 rfl (lv_room (Nat.le_of_ble_eq_true rfl)) dX4_setRisk_60 ⟨Nat.zero_le _, Nat.zero_le _⟩) hS hF (fun H locs hP hD hS => ?_)
    refine lv_goto (tgt := 67) hx hb dX4_setRisk_63 (by decide) ?_
    have eO : (if x1 ≤ S 5 pi then O else c_eaO (va_up S 5 (upd (S 5) pi x1)) O (nI pi) n0) = (c_eaO (va_up S 5 (upd (S 5) pi x1)) O (nI pi) n0) := by simp [(nd_t c_52)]
    exact z_wret hx hb hr hlocks (by rw [eO]; exact hP) hK (by rw [eO]; exact hD) hS (by simp [(nd_t c_52)]) dX4_setRisk_67

set_option maxHeartbeats 4000000 in
set_option maxRecDepth 100000 in
theorem kX4_isIn (l : Launch) (D : va_G) (cI cZ : ClassId) (X : Nat → Nat) (S : Nat → Nat → Int32) (O : Nat → Bool) (V : Nat → Int32) (gi : Nat) (pi : Nat) (hgi : gi < 8) (hpi : pi < 10) : Met l yX4_isIn wsX4_isIn ({ frames := 6, cells := 0, slots := 0, locals := 90 } : Room) (zR D (tyl cI cZ) (hW cI cZ X S O V) [.ref (X 0), .int (nI gi), .int (nI pi)]) (QcRead (bi (hasB (c_allA S (S 7 pi) 8) (nI gi)))) 0 0 (fun _ => False) := by
  refine Met.ofW (cc := cX4_isIn) (maxL := 3) (ret := (some .boolean)) (by decide) rfl ?_
  intro p e s m args below meth c s₁ B hml hv
  obtain ⟨rfl, hP, hK⟩ := hv
  have hx := B.exec
  have hb := B.bytes
  have hr := B.returns
  have hts := atoms_spec (ws := wsX4_isIn) B.pre
  have hown : s.vm.findClass RX4 = some m.cls := findClass_of_methodNamed B.named
  have hlocks := B.notSynchronized
  have i4 : ∀ w ∈ u_ws RX4 TX4 7, w ∈ wsX4_isIn := by decide +kernel
  have fl_10 := hts (.fieldLink RX4 10 "SignOnHouse" "groups" "LSignOnHouse$Groups;") (by decide +kernel)
  have hl := lv_entry ([.ref (X 0), .int (nI gi), .int (nI pi)]) (n := 3) (Nat.le_of_ble_eq_true rfl)
  rw [lg_entry_eq]
  generalize (lg_sl ([.ref (X 0), .int (nI gi), .int (nI pi)]) ++ List.replicate (3 - (lg_sl ([.ref (X 0), .int (nI gi), .int (nI pi)])).length) Slot.unset).toArray = ls at hl ⊢
  have hl : lv_has ls 3 [(0, .ref (X 0)), (1, .int (nI gi)), (2, .int (nI pi))] := hl
  have ok0 : c_out (nI gi) 8 = false := c_out_lt (n := 8) hgi (by decide)
  have ok1 : c_out (nI pi) 10 = false := c_out_lt (n := 10) hpi (by decide)
  refine lv_iload_n hx hb dX4_isIn_0 rfl (lv_at hl 1 rfl) ?_
  refine lv_bipush (v := 8) hx hb dX4_isIn_1 (by decide) ?_
  refine z_callR (W.runS (As := [.int (nI gi), .int 8]) (rest := []) ⟨hx, hb, hml, hown, hts⟩ (kX4_isOutside l (nI gi) 8) (va_cwS 2 hts gX4_isIn_X4_isOutside rfl rfl rfl (by decide +kernel) ⟨Nat.le_of_ble_eq_true rfl, Nat.le_of_ble_eq_true rfl⟩) zP_pre rfl rfl hl.1 rfl (lv_room (Nat.le_of_ble_eq_true rfl)) dX4_isIn_3 ⟨Nat.zero_le _, Nat.zero_le _⟩) ?_
  refine z_if_ne (tgt := 18) hx hb dX4_isIn_6 (by decide) (fun q => absurd (ok0.symm.trans q) (by decide)) (fun _ => ?_)
  refine lv_iload_n hx hb dX4_isIn_9 rfl (lv_at hl 2 rfl) ?_
  refine lv_bipush (v := 10) hx hb dX4_isIn_10 (by decide) ?_
  refine z_callR (W.runS (As := [.int (nI pi), .int 10]) (rest := []) ⟨hx, hb, hml, hown, hts⟩ (kX4_isOutside l (nI pi) 10) (va_cwS 2 hts gX4_isIn_X4_isOutside rfl rfl rfl (by decide +kernel) ⟨Nat.le_of_ble_eq_true rfl, Nat.le_of_ble_eq_true rfl⟩) zP_pre rfl rfl hl.1 rfl (lv_room (Nat.le_of_ble_eq_true rfl)) dX4_isIn_12 ⟨Nat.zero_le _, Nat.zero_le _⟩) ?_
  refine z_if_eq (tgt := 28) hx hb dX4_isIn_15 (by decide) (fun _ => ?_) (fun q => absurd (ok1.symm.trans q) (by decide))
  refine lv_aload_n hx hb dX4_isIn_28 rfl (lv_at hl 0 rfl) ?_
  refine va_get (D := D) (ci := 4) (v := .ref (X 1)) (C := RX4) (T := TX4) (N := 7) hx hb hts i4 hown hK hP 0 rfl rfl 0 (by decide) fl_10 (fun _ h9 => h9) rfl dX4_isIn_29 ?_
  refine lv_iload_n hx hb dX4_isIn_32 rfl (lv_at hl 1 rfl) ?_
  refine lv_iload_n hx hb dX4_isIn_33 rfl (lv_at hl 2 rfl) ?_
  refine z_callR (W.runV (As := [.int (nI gi), .int (nI pi)]) (rest := []) ⟨hx, hb, hml, hown, hts⟩ (kX1_hasPerson l D cI cZ X S O V gi pi (by omega) (by omega)) (cwV 2 hts gX4_isIn_X1_hasPerson rfl rfl rfl (by decide +kernel) ⟨Nat.le_of_ble_eq_true rfl, Nat.le_of_ble_eq_true rfl⟩) (zR_preV 1 1 hK hP rfl rfl) rfl rfl hl.1 rfl (lv_room (Nat.le_of_ble_eq_true rfl)) dX4_isIn_34 ⟨Nat.zero_le _, Nat.zero_le _⟩) ?_
  exact z_zret hx hb hr hlocks rfl dX4_isIn_37

set_option maxHeartbeats 4000000 in
set_option maxRecDepth 100000 in
theorem kX4_allows (l : Launch) (D : va_G) (cI cZ : ClassId) (X : Nat → Nat) (S : Nat → Nat → Int32) (O : Nat → Bool) (V : Nat → Int32) (pi : Nat) (ri : Nat) (hpi : pi < 10) (hri : ri < 6) : Met l yX4_allows wsX4_allows ({ frames := 6, cells := 0, slots := 0, locals := 112 } : Room) (zR D (tyl cI cZ) (hW cI cZ X S O V) [.ref (X 0), .int (nI pi), .int (nI ri)]) (QcRead (bi (decide (c_house S V pi ri = 0)))) 0 0 (fun _ => False) := by
  refine Met.ofW (cc := cX4_allows) (maxL := 3) (ret := (some .boolean)) (by decide) rfl ?_
  intro p e s m args below meth c s₁ B hml hv
  obtain ⟨rfl, hP, hK⟩ := hv
  have hx := B.exec
  have hb := B.bytes
  have hr := B.returns
  have hts := atoms_spec (ws := wsX4_allows) B.pre
  have hown : s.vm.findClass RX4 = some m.cls := findClass_of_methodNamed B.named
  have hlocks := B.notSynchronized
  have hl := lv_entry ([.ref (X 0), .int (nI pi), .int (nI ri)]) (n := 3) (Nat.le_of_ble_eq_true rfl)
  rw [lg_entry_eq]
  generalize (lg_sl ([.ref (X 0), .int (nI pi), .int (nI ri)]) ++ List.replicate (3 - (lg_sl ([.ref (X 0), .int (nI pi), .int (nI ri)])).length) Slot.unset).toArray = ls at hl ⊢
  have hl : lv_has ls 3 [(0, .ref (X 0)), (1, .int (nI pi)), (2, .int (nI ri))] := hl
  have ok0 : c_out (nI pi) 10 = false := c_out_lt (n := 10) hpi (by decide)
  have ok1 : c_out (nI ri) 6 = false := c_out_lt (n := 6) hri (by decide)
  refine lv_iload_n hx hb dX4_allows_0 rfl (lv_at hl 1 rfl) ?_
  refine lv_bipush (v := 10) hx hb dX4_allows_1 (by decide) ?_
  refine z_callR (W.runS (As := [.int (nI pi), .int 10]) (rest := []) ⟨hx, hb, hml, hown, hts⟩ (kX4_isOutside l (nI pi) 10) (va_cwS 2 hts gX4_allows_X4_isOutside rfl rfl rfl (by decide +kernel) ⟨Nat.le_of_ble_eq_true rfl, Nat.le_of_ble_eq_true rfl⟩) zP_pre rfl rfl hl.1 rfl (lv_room (Nat.le_of_ble_eq_true rfl)) dX4_allows_3 ⟨Nat.zero_le _, Nat.zero_le _⟩) ?_
  refine z_if_ne (tgt := 18) hx hb dX4_allows_6 (by decide) (fun q => absurd (ok0.symm.trans q) (by decide)) (fun _ => ?_)
  refine lv_iload_n hx hb dX4_allows_9 rfl (lv_at hl 2 rfl) ?_
  refine lv_bipush (v := 6) hx hb dX4_allows_10 (by decide) ?_
  refine z_callR (W.runS (As := [.int (nI ri), .int 6]) (rest := []) ⟨hx, hb, hml, hown, hts⟩ (kX4_isOutside l (nI ri) 6) (va_cwS 2 hts gX4_allows_X4_isOutside rfl rfl rfl (by decide +kernel) ⟨Nat.le_of_ble_eq_true rfl, Nat.le_of_ble_eq_true rfl⟩) zP_pre rfl rfl hl.1 rfl (lv_room (Nat.le_of_ble_eq_true rfl)) dX4_allows_12 ⟨Nat.zero_le _, Nat.zero_le _⟩) ?_
  refine z_if_eq (tgt := 28) hx hb dX4_allows_15 (by decide) (fun _ => ?_) (fun q => absurd (ok1.symm.trans q) (by decide))
  refine lv_aload_n hx hb dX4_allows_28 rfl (lv_at hl 0 rfl) ?_
  refine lv_iload_n hx hb dX4_allows_29 rfl (lv_at hl 1 rfl) ?_
  refine lv_iload_n hx hb dX4_allows_30 rfl (lv_at hl 2 rfl) ?_
  refine z_callR (W.runV (As := [.int (nI pi), .int (nI ri)]) (rest := []) ⟨hx, hb, hml, hown, hts⟩ (kX4_answerOfHouse l D cI cZ X S O V pi ri (by omega) (by omega)) (cwV 2 hts gX4_allows_X4_answerOfHouse rfl rfl rfl (by decide +kernel) ⟨Nat.le_of_ble_eq_true rfl, Nat.le_of_ble_eq_true rfl⟩) (zR_preV 0 4 hK hP rfl rfl) rfl rfl hl.1 rfl (lv_room (Nat.le_of_ble_eq_true rfl)) dX4_allows_31 ⟨Nat.zero_le _, Nat.zero_le _⟩) ?_
  refine z_sel_if_ne hx hb dX4_allows_34 dX4_allows_37 dX4_allows_38 dX4_allows_41 ?_
  exact z_zret hx hb hr hlocks rfl dX4_allows_42

set_option maxHeartbeats 4000000 in
set_option maxRecDepth 100000 in
theorem kX4_goesOn (l : Launch) (D : va_G) (cI cZ : ClassId) (X : Nat → Nat) (S : Nat → Nat → Int32) (O : Nat → Bool) (V : Nat → Int32) (si : Nat) (n0 : Nat) (hn0 : n0 ≤ 30) (hct : V 1 = nI n0) (hsn : si < n0) : Met l yX4_goesOn wsX4_goesOn ({ frames := 6, cells := 0, slots := 0, locals := 90 } : Room) (zR D (tyl cI cZ) (hW cI cZ X S O V) [.ref (X 0), .int (nI si)]) (QcRead (bi (!O si))) 0 0 (fun _ => False) := by
  refine Met.ofW (cc := cX4_goesOn) (maxL := 2) (ret := (some .boolean)) (by decide) rfl ?_
  intro p e s m args below meth c s₁ B hml hv
  obtain ⟨rfl, hP, hK⟩ := hv
  have hx := B.exec
  have hb := B.bytes
  have hr := B.returns
  have hts := atoms_spec (ws := wsX4_goesOn) B.pre
  have hown : s.vm.findClass RX4 = some m.cls := findClass_of_methodNamed B.named
  have hlocks := B.notSynchronized
  have i4 : ∀ w ∈ u_ws RX4 TX4 7, w ∈ wsX4_goesOn := by decide +kernel
  have fl_19 := hts (.fieldLink RX4 19 "SignOnHouse" "sessions" "LSignOnHouse$Sessions;") (by decide +kernel)
  have hl := lv_entry ([.ref (X 0), .int (nI si)]) (n := 2) (Nat.le_of_ble_eq_true rfl)
  rw [lg_entry_eq]
  generalize (lg_sl ([.ref (X 0), .int (nI si)]) ++ List.replicate (2 - (lg_sl ([.ref (X 0), .int (nI si)])).length) Slot.unset).toArray = ls at hl ⊢
  have hl : lv_has ls 2 [(0, .ref (X 0)), (1, .int (nI si))] := hl
  have ok0 : c_has V (nI si) = true := c_has_lt hct hn0 hsn
  refine lv_aload_n hx hb dX4_goesOn_0 rfl (lv_at hl 0 rfl) ?_
  refine va_get (D := D) (ci := 4) (v := .ref (X 2)) (C := RX4) (T := TX4) (N := 7) hx hb hts i4 hown hK hP 0 rfl rfl 1 (by decide) fl_19 (fun _ h9 => h9) rfl dX4_goesOn_1 ?_
  refine lv_iload_n hx hb dX4_goesOn_4 rfl (lv_at hl 1 rfl) ?_
  refine z_callR (W.runV (As := [.int (nI si)]) (rest := []) ⟨hx, hb, hml, hown, hts⟩ (kX3_has l D cI cZ X S O V (nI si)) (cwV 1 hts gX4_goesOn_X3_has rfl rfl rfl (by decide +kernel) ⟨Nat.le_of_ble_eq_true rfl, Nat.le_of_ble_eq_true rfl⟩) (zR_preV 2 3 hK hP rfl rfl) rfl rfl hl.1 rfl (lv_room (Nat.le_of_ble_eq_true rfl)) dX4_goesOn_5 ⟨Nat.zero_le _, Nat.zero_le _⟩) ?_
  refine z_if_ne (tgt := 21) hx hb dX4_goesOn_8 (by decide) (fun _ => ?_) (fun q => absurd (ok0.symm.trans q) (by decide))
  refine lv_aload_n hx hb dX4_goesOn_21 rfl (lv_at hl 0 rfl) ?_
  refine va_get (D := D) (ci := 4) (v := .ref (X 2)) (C := RX4) (T := TX4) (N := 7) hx hb hts i4 hown hK hP 0 rfl rfl 1 (by decide) fl_19 (fun _ h9 => h9) rfl dX4_goesOn_22 ?_
  refine lv_iload_n hx hb dX4_goesOn_25 rfl (lv_at hl 1 rfl) ?_
  refine z_callR (W.runV (As := [.int (nI si)]) (rest := []) ⟨hx, hb, hml, hown, hts⟩ (kX3_isOver l D cI cZ X S O V si (by omega)) (cwV 1 hts gX4_goesOn_X3_isOver rfl rfl rfl (by decide +kernel) ⟨Nat.le_of_ble_eq_true rfl, Nat.le_of_ble_eq_true rfl⟩) (zR_preV 2 3 hK hP rfl rfl) rfl rfl hl.1 rfl (lv_room (Nat.le_of_ble_eq_true rfl)) dX4_goesOn_26 ⟨Nat.zero_le _, Nat.zero_le _⟩) ?_
  refine z_if_ne (tgt := 36) hx hb dX4_goesOn_29 (by decide) (fun c_29 => ?_) (fun c_29 => ?_)
  · refine lv_iconst (v := 0) hx hb dX4_goesOn_36 rfl ?_
    exact z_zret hx hb hr hlocks (by simp [bi, c_29]) dX4_goesOn_37
  · refine lv_iconst (v := 1) hx hb dX4_goesOn_32 rfl ?_
    refine lv_goto (tgt := 37) hx hb dX4_goesOn_33 (by decide) ?_
    exact z_zret hx hb hr hlocks (by simp [bi, c_29]) dX4_goesOn_37

set_option maxHeartbeats 4000000 in
set_option maxRecDepth 100000 in
theorem kX4_changeKeys (l : Launch) (D : va_G) (cI cZ : ClassId) (X : Nat → Nat) (S : Nat → Nat → Int32) (O : Nat → Bool) (V : Nat → Int32) (sz : Nat) (x0 : Int32) (hw0 : ¬ x0 < 0) (hw3 : x0 ≤ 300) (n0 : Nat) (hn0 : n0 ≤ 30) (hct : V 1 = nI n0) (hpe : ∀ j : Nat, j < n0 → vp_in (S 11 j) 10) : Met l yX4_changeKeys wsX4_changeKeys ({ frames := 6, cells := 0, slots := 0, locals := 90 } : Room) (zW D (tyl cI cZ) (hW cI cZ X S O V) sz [.ref (X 0), .int x0]) (zQi D (tyl cI cZ) (hW cI cZ X S (c_edO S O (va_up (va_up V 2 (V 2 + 1)) 3 (V 0 + x0)) (V 0) n0) (va_up (va_up V 2 (V 2 + 1)) 3 (V 0 + x0))) (V 2 + 1) (va_A (hW cI cZ X S O V) sz)) 0 0 (va_A (hW cI cZ X S O V) sz) := by
  refine Met.ofW (cc := cX4_changeKeys) (maxL := 2) (ret := (some .int)) (by decide) rfl ?_
  intro p e s m args below meth c s₁ B hml hv
  obtain ⟨rfl, hsz, hP, hK, hD0⟩ := hv
  have hx := B.exec
  have hb := B.bytes
  have hr := B.returns
  have hts := atoms_spec (ws := wsX4_changeKeys) B.pre
  have hown : s.vm.findClass RX4 = some m.cls := findClass_of_methodNamed B.named
  have hlocks := B.notSynchronized
  subst hsz
  have hD := hD0.self (sz := s.heap.size)
  generalize hAe : va_A (hW cI cZ X S O V) s.heap.size = A at hD ⊢
  have hA : ∀ q : Nat, s.heap.size ≤ q → A q := fun q h => by rw [← hAe]; exact Or.inr h
  have hS : va_S A s.heap s.heap [] := va_S.rf
  have i4 : ∀ w ∈ u_ws RX4 TX4 7, w ∈ wsX4_changeKeys := by decide +kernel
  have fl_19 := hts (.fieldLink RX4 19 "SignOnHouse" "sessions" "LSignOnHouse$Sessions;") (by decide +kernel)
  have fl_26 := hts (.fieldLink RX4 26 "SignOnHouse" "keys" "LSignOnHouse$Keys;") (by decide +kernel)
  have fl_37 := hts (.fieldLink RX4 37 "SignOnHouse" "risks" "[I") (by decide +kernel)
  have fl_44 := hts (.fieldLink RX4 44 "SignOnHouse" "minute" "I") (by decide +kernel)
  have hl := lv_entry ([.ref (X 0), .int x0]) (n := 2) (Nat.le_of_ble_eq_true rfl)
  rw [lg_entry_eq]
  generalize (lg_sl ([.ref (X 0), .int x0]) ++ List.replicate (2 - (lg_sl ([.ref (X 0), .int x0])).length) Slot.unset).toArray = ls at hl ⊢
  have hl : lv_has ls 2 [(0, .ref (X 0)), (1, .int x0)] := hl
  refine lv_iload_n hx hb dX4_changeKeys_0 rfl (lv_at hl 1 rfl) ?_
  refine lv_if_lt (tgt := 11) hx hb dX4_changeKeys_1 (by decide) (fun q => absurd q hw0) (fun _ => ?_)
  refine lv_iload_n hx hb dX4_changeKeys_4 rfl (lv_at hl 1 rfl) ?_
  refine lv_sipush (v := 300) hx hb dX4_changeKeys_5 (by decide) ?_
  refine lv_icmp_le (tgt := 21) hx hb dX4_changeKeys_8 (by decide) (fun _ => ?_) (fun q => absurd hw3 q)
  refine lv_aload_n hx hb dX4_changeKeys_21 rfl (lv_at hl 0 rfl) ?_
  refine va_get (D := D) (ci := 4) (v := .ref (X 3)) (C := RX4) (T := TX4) (N := 7) hx hb hts i4 hown hK hP 0 rfl rfl 2 (by decide) fl_26 (fun _ h9 => h9) rfl dX4_changeKeys_22 ?_
  refine lv_aload_n hx hb dX4_changeKeys_25 rfl (lv_at hl 0 rfl) ?_
  refine va_get (D := D) (ci := 4) (v := .int (V 0)) (C := RX4) (T := TX4) (N := 7) hx hb hts i4 hown hK hP 0 rfl rfl 6 (by decide) fl_44 (fun _ h9 => h9) rfl dX4_changeKeys_26 ?_
  refine lv_iload_n hx hb dX4_changeKeys_29 rfl (lv_at hl 1 rfl) ?_
  refine lv_iadd hx hb dX4_changeKeys_30 ?_
  have hF := z_free hD hS hA
  refine z_callWv (va_runV (As := [.int ((V 0) + x0)]) (rest := []) ⟨hx, hb, hml, hown, hts⟩ (kX2_signWithNext l D cI cZ X S O V _ ((V 0) + x0)) (cwV 1 hts gX4_changeKeys_X2_signWithNext rfl rfl rfl (by decide +kernel) ⟨Nat.le_of_ble_eq_true rfl, Nat.le_of_ble_eq_true rfl⟩) (zW_preV 3 2 hK hP hD rfl rfl) rfl rfl hl.1 rfl (lv_room (Nat.le_of_ble_eq_true rfl)) dX4_changeKeys_31 ⟨Nat.zero_le _, Nat.zero_le _⟩) hS hF (fun H locs hP hD hS => ?_)
  refine lv_aload_n hx hb dX4_changeKeys_34 rfl (lv_at hl 0 rfl) ?_
  refine va_get (D := D) (ci := 4) (v := .ref (X 2)) (C := RX4) (T := TX4) (N := 7) hx hb hts i4 hown hK hP 0 rfl rfl 1 (by decide) fl_19 (fun _ h9 => h9) rfl dX4_changeKeys_35 ?_
  refine lv_aload_n hx hb dX4_changeKeys_38 rfl (lv_at hl 0 rfl) ?_
  refine va_get (D := D) (ci := 4) (v := .int ((va_up (va_up V 2 (V 2 + 1)) 3 ((V 0) + x0)) 0)) (C := RX4) (T := TX4) (N := 7) hx hb hts i4 hown hK hP 0 rfl rfl 6 (by decide) fl_44 (fun _ h9 => h9) rfl dX4_changeKeys_39 ?_
  refine lv_aload_n hx hb dX4_changeKeys_42 rfl (lv_at hl 0 rfl) ?_
  refine va_get (D := D) (ci := 4) (v := .ref (X 5)) (C := RX4) (T := TX4) (N := 7) hx hb hts i4 hown hK hP 0 rfl rfl 4 (by decide) fl_37 (fun _ h9 => h9) rfl dX4_changeKeys_43 ?_
  refine lv_aload_n hx hb dX4_changeKeys_46 rfl (lv_at hl 0 rfl) ?_
  refine va_get (D := D) (ci := 4) (v := .ref (X 3)) (C := RX4) (T := TX4) (N := 7) hx hb hts i4 hown hK hP 0 rfl rfl 2 (by decide) fl_26 (fun _ h9 => h9) rfl dX4_changeKeys_47 ?_
  have hF := z_free hD hS hA
  refine z_callWi (va_runV (As := [.int ((va_up (va_up V 2 (V 2 + 1)) 3 ((V 0) + x0)) 0), .ref (X 5), .ref (X 3)]) (rest := []) ⟨hx, hb, hml, hown, hts⟩ (kX3_endDue l D cI cZ X S O (va_up (va_up V 2 (V 2 + 1)) 3 ((V 0) + x0)) _ ((va_up (va_up V 2 (V 2 + 1)) 3 ((V 0) + x0)) 0) n0 hn0 hct hpe) (cwV 3 hts gX4_changeKeys_X3_endDue rfl rfl rfl (by decide +kernel) ⟨Nat.le_of_ble_eq_true rfl, Nat.le_of_ble_eq_true rfl⟩) (zW_preV 2 3 hK hP hD rfl rfl) rfl rfl hl.1 rfl (lv_room (Nat.le_of_ble_eq_true rfl)) dX4_changeKeys_50 ⟨Nat.zero_le _, Nat.zero_le _⟩) hS hF (fun H locs hP hD hS => ?_)
  refine lv_pop hx hb dX4_changeKeys_53 rfl ?_
  refine lv_aload_n hx hb dX4_changeKeys_54 rfl (lv_at hl 0 rfl) ?_
  refine va_get (D := D) (ci := 4) (v := .ref (X 3)) (C := RX4) (T := TX4) (N := 7) hx hb hts i4 hown hK hP 0 rfl rfl 2 (by decide) fl_26 (fun _ h9 => h9) rfl dX4_changeKeys_55 ?_
  refine z_callR (W.runV (As := []) (rest := []) ⟨hx, hb, hml, hown, hts⟩ (kX2_signing l D cI cZ X S (c_edO S O (va_up (va_up V 2 (V 2 + 1)) 3 ((V 0) + x0)) ((va_up (va_up V 2 (V 2 + 1)) 3 ((V 0) + x0)) 0) n0) (va_up (va_up V 2 (V 2 + 1)) 3 ((V 0) + x0)) ) (cwV 0 hts gX4_changeKeys_X2_signing rfl rfl rfl (by decide +kernel) ⟨Nat.le_of_ble_eq_true rfl, Nat.le_of_ble_eq_true rfl⟩) (zR_preV 3 2 hK hP rfl rfl) rfl rfl hl.1 rfl (lv_room (Nat.le_of_ble_eq_true rfl)) dX4_changeKeys_58 ⟨Nat.zero_le _, Nat.zero_le _⟩) ?_
  have eO : (c_edO S O (va_up (va_up V 2 (V 2 + 1)) 3 (V 0 + x0)) (V 0) n0) = (c_edO S O (va_up (va_up V 2 (V 2 + 1)) 3 ((V 0) + x0)) ((va_up (va_up V 2 (V 2 + 1)) 3 ((V 0) + x0)) 0) n0) := by rfl
  have eV : (va_up (va_up V 2 (V 2 + 1)) 3 (V 0 + x0)) = (va_up (va_up V 2 (V 2 + 1)) 3 ((V 0) + x0)) := by rfl
  exact z_wret hx hb hr hlocks (by rw [eO, eV]; exact hP) hK (by rw [eO, eV]; exact hD) hS (by rfl) dX4_changeKeys_61

set_option maxHeartbeats 4000000 in
set_option maxRecDepth 100000 in
theorem kX4_isTaken (l : Launch) (D : va_G) (cI cZ : ClassId) (X : Nat → Nat) (S : Nat → Nat → Int32) (O : Nat → Bool) (V : Nat → Int32) (x0 : Int32) (hw0 : ¬ x0 < 0) (hw3 : x0 ≤ V 2) : Met l yX4_isTaken wsX4_isTaken ({ frames := 6, cells := 0, slots := 0, locals := 90 } : Room) (zR D (tyl cI cZ) (hW cI cZ X S O V) [.ref (X 0), .int x0]) (QcRead (bi (c_takes V x0 (V 0)))) 0 0 (fun _ => False) := by
  refine Met.ofW (cc := cX4_isTaken) (maxL := 2) (ret := (some .boolean)) (by decide) rfl ?_
  intro p e s m args below meth c s₁ B hml hv
  obtain ⟨rfl, hP, hK⟩ := hv
  have hx := B.exec
  have hb := B.bytes
  have hr := B.returns
  have hts := atoms_spec (ws := wsX4_isTaken) B.pre
  have hown : s.vm.findClass RX4 = some m.cls := findClass_of_methodNamed B.named
  have hlocks := B.notSynchronized
  have i4 : ∀ w ∈ u_ws RX4 TX4 7, w ∈ wsX4_isTaken := by decide +kernel
  have fl_26 := hts (.fieldLink RX4 26 "SignOnHouse" "keys" "LSignOnHouse$Keys;") (by decide +kernel)
  have fl_44 := hts (.fieldLink RX4 44 "SignOnHouse" "minute" "I") (by decide +kernel)
  have hl := lv_entry ([.ref (X 0), .int x0]) (n := 2) (Nat.le_of_ble_eq_true rfl)
  rw [lg_entry_eq]
  generalize (lg_sl ([.ref (X 0), .int x0]) ++ List.replicate (2 - (lg_sl ([.ref (X 0), .int x0])).length) Slot.unset).toArray = ls at hl ⊢
  have hl : lv_has ls 2 [(0, .ref (X 0)), (1, .int x0)] := hl
  refine lv_iload_n hx hb dX4_isTaken_0 rfl (lv_at hl 1 rfl) ?_
  refine lv_if_lt (tgt := 15) hx hb dX4_isTaken_1 (by decide) (fun q => absurd q hw0) (fun _ => ?_)
  refine lv_iload_n hx hb dX4_isTaken_4 rfl (lv_at hl 1 rfl) ?_
  refine lv_aload_n hx hb dX4_isTaken_5 rfl (lv_at hl 0 rfl) ?_
  refine va_get (D := D) (ci := 4) (v := .ref (X 3)) (C := RX4) (T := TX4) (N := 7) hx hb hts i4 hown hK hP 0 rfl rfl 2 (by decide) fl_26 (fun _ h9 => h9) rfl dX4_isTaken_6 ?_
  refine z_callR (W.runV (As := []) (rest := [.int x0]) ⟨hx, hb, hml, hown, hts⟩ (kX2_signing l D cI cZ X S O V ) (cwV 0 hts gX4_isTaken_X2_signing rfl rfl rfl (by decide +kernel) ⟨Nat.le_of_ble_eq_true rfl, Nat.le_of_ble_eq_true rfl⟩) (zR_preV 3 2 hK hP rfl rfl) rfl rfl hl.1 rfl (lv_room (Nat.le_of_ble_eq_true rfl)) dX4_isTaken_9 ⟨Nat.zero_le _, Nat.zero_le _⟩) ?_
  refine lv_icmp_le (tgt := 25) hx hb dX4_isTaken_12 (by decide) (fun _ => ?_) (fun q => absurd hw3 q)
  refine lv_aload_n hx hb dX4_isTaken_25 rfl (lv_at hl 0 rfl) ?_
  refine va_get (D := D) (ci := 4) (v := .ref (X 3)) (C := RX4) (T := TX4) (N := 7) hx hb hts i4 hown hK hP 0 rfl rfl 2 (by decide) fl_26 (fun _ h9 => h9) rfl dX4_isTaken_26 ?_
  refine lv_iload_n hx hb dX4_isTaken_29 rfl (lv_at hl 1 rfl) ?_
  refine lv_aload_n hx hb dX4_isTaken_30 rfl (lv_at hl 0 rfl) ?_
  refine va_get (D := D) (ci := 4) (v := .int (V 0)) (C := RX4) (T := TX4) (N := 7) hx hb hts i4 hown hK hP 0 rfl rfl 6 (by decide) fl_44 (fun _ h9 => h9) rfl dX4_isTaken_31 ?_
  refine z_callR (W.runV (As := [.int x0, .int (V 0)]) (rest := []) ⟨hx, hb, hml, hown, hts⟩ (kX2_takes l D cI cZ X S O V x0 (V 0)) (cwV 2 hts gX4_isTaken_X2_takes rfl rfl rfl (by decide +kernel) ⟨Nat.le_of_ble_eq_true rfl, Nat.le_of_ble_eq_true rfl⟩) (zR_preV 3 2 hK hP rfl rfl) rfl rfl hl.1 rfl (lv_room (Nat.le_of_ble_eq_true rfl)) dX4_isTaken_34 ⟨Nat.zero_le _, Nat.zero_le _⟩) ?_
  exact z_zret hx hb hr hlocks rfl dX4_isTaken_37
end
section
set_option maxHeartbeats 4000000 in
set_option maxRecDepth 100000 in
theorem kX4_pass (l : Launch) (D : va_G) (cI cZ : ClassId) (X : Nat → Nat) (S : Nat → Nat → Int32) (O : Nat → Bool) (V : Nat → Int32) (sz : Nat) (x0 : Int32) (hw0 : ¬ x0 < 1) (hw3 : x0 ≤ 300) (n0 : Nat) (hn0 : n0 ≤ 30) (hct : V 1 = nI n0) (hpe : ∀ j : Nat, j < n0 → vp_in (S 11 j) 10) : Met l yX4_pass wsX4_pass ({ frames := 6, cells := 0, slots := 0, locals := 90 } : Room) (zW D (tyl cI cZ) (hW cI cZ X S O V) sz [.ref (X 0), .int x0]) (zQi D (tyl cI cZ) (hW cI cZ X (c_doS S (V 0 + x0) 4) (c_edO (c_doS S (V 0 + x0) 4) O (va_up V 0 (V 0 + x0)) (V 0 + x0) n0) (va_up V 0 (V 0 + x0))) (c_edN (c_doS S (V 0 + x0) 4) O (va_up V 0 (V 0 + x0)) (V 0 + x0) n0) (va_A (hW cI cZ X S O V) sz)) 0 0 (va_A (hW cI cZ X S O V) sz) := by
  refine Met.ofW (cc := cX4_pass) (maxL := 2) (ret := (some .int)) (by decide) rfl ?_
  intro p e s m args below meth c s₁ B hml hv
  obtain ⟨rfl, hsz, hP, hK, hD0⟩ := hv
  have hx := B.exec
  have hb := B.bytes
  have hr := B.returns
  have hts := atoms_spec (ws := wsX4_pass) B.pre
  have hown : s.vm.findClass RX4 = some m.cls := findClass_of_methodNamed B.named
  have hlocks := B.notSynchronized
  subst hsz
  have hD := hD0.self (sz := s.heap.size)
  generalize hAe : va_A (hW cI cZ X S O V) s.heap.size = A at hD ⊢
  have hA : ∀ q : Nat, s.heap.size ≤ q → A q := fun q h => by rw [← hAe]; exact Or.inr h
  have hS : va_S A s.heap s.heap [] := va_S.rf
  have i4 : ∀ w ∈ u_ws RX4 TX4 7, w ∈ wsX4_pass := by decide +kernel
  have fl_19 := hts (.fieldLink RX4 19 "SignOnHouse" "sessions" "LSignOnHouse$Sessions;") (by decide +kernel)
  have fl_26 := hts (.fieldLink RX4 26 "SignOnHouse" "keys" "LSignOnHouse$Keys;") (by decide +kernel)
  have fl_33 := hts (.fieldLink RX4 33 "SignOnHouse" "decisions" "LSignOnHouse$Decisions;") (by decide +kernel)
  have fl_37 := hts (.fieldLink RX4 37 "SignOnHouse" "risks" "[I") (by decide +kernel)
  have fl_44 := hts (.fieldLink RX4 44 "SignOnHouse" "minute" "I") (by decide +kernel)
  have hl := lv_entry ([.ref (X 0), .int x0]) (n := 2) (Nat.le_of_ble_eq_true rfl)
  rw [lg_entry_eq]
  generalize (lg_sl ([.ref (X 0), .int x0]) ++ List.replicate (2 - (lg_sl ([.ref (X 0), .int x0])).length) Slot.unset).toArray = ls at hl ⊢
  have hl : lv_has ls 2 [(0, .ref (X 0)), (1, .int x0)] := hl
  refine lv_iload_n hx hb dX4_pass_0 rfl (lv_at hl 1 rfl) ?_
  refine lv_iconst (v := 1) hx hb dX4_pass_1 rfl ?_
  refine lv_icmp_lt (tgt := 12) hx hb dX4_pass_2 (by decide) (fun q => absurd q hw0) (fun _ => ?_)
  refine lv_iload_n hx hb dX4_pass_5 rfl (lv_at hl 1 rfl) ?_
  refine lv_sipush (v := 300) hx hb dX4_pass_6 (by decide) ?_
  refine lv_icmp_le (tgt := 22) hx hb dX4_pass_9 (by decide) (fun _ => ?_) (fun q => absurd hw3 q)
  refine lv_aload_n hx hb dX4_pass_22 rfl (lv_at hl 0 rfl) ?_
  refine lv_dup hx hb dX4_pass_23 rfl ?_
  refine va_get (D := D) (ci := 4) (v := .int (V 0)) (C := RX4) (T := TX4) (N := 7) hx hb hts i4 hown hK hP 0 rfl rfl 6 (by decide) fl_44 (fun _ h9 => h9) rfl dX4_pass_24 ?_
  refine lv_iload_n hx hb dX4_pass_27 rfl (lv_at hl 1 rfl) ?_
  refine lv_iadd hx hb dX4_pass_28 ?_
  refine va_put (D := D) (ci := 4) (v := .int ((V 0) + x0)) (ty := .int) (C := RX4) (T := TX4) (N := 7) hx hb hts i4 tyX4 tyX4_ok nmX4 hown hK hP hD hS 0 rfl rfl 6 (by decide) fl_44 (fun _ h9 => h9) rfl (by decide +kernel) rfl rfl (Nat.le_of_ble_eq_true rfl) dX4_pass_29 (fun H locs hP hD hS => ?_)
  have hP : va_P D vwCl (hW cI cZ X S O (va_up V 0 ((V 0) + x0))) H := hP
  have hD : va_D A (hW cI cZ X S O (va_up V 0 ((V 0) + x0))) := hD
  refine lv_aload_n hx hb dX4_pass_32 rfl (lv_at hl 0 rfl) ?_
  refine va_get (D := D) (ci := 4) (v := .ref (X 4)) (C := RX4) (T := TX4) (N := 7) hx hb hts i4 hown hK hP 0 rfl rfl 3 (by decide) fl_33 (fun _ h9 => h9) rfl dX4_pass_33 ?_
  refine lv_aload_n hx hb dX4_pass_36 rfl (lv_at hl 0 rfl) ?_
  refine va_get (D := D) (ci := 4) (v := .int ((V 0) + x0)) (C := RX4) (T := TX4) (N := 7) hx hb hts i4 hown hK hP 0 rfl rfl 6 (by decide) fl_44 (fun _ h9 => h9) rfl dX4_pass_37 ?_
  have hF := z_free hD hS hA
  refine z_callWv (va_runV (As := [.int ((V 0) + x0)]) (rest := []) ⟨hx, hb, hml, hown, hts⟩ (kX0_dropDueOfAll l D cI cZ X S O (va_up V 0 ((V 0) + x0)) _ ((V 0) + x0)) (cwV 1 hts gX4_pass_X0_dropDueOfAll rfl rfl rfl (by decide +kernel) ⟨Nat.le_of_ble_eq_true rfl, Nat.le_of_ble_eq_true rfl⟩) (zW_preV 4 0 hK hP hD rfl rfl) rfl rfl hl.1 rfl (lv_room (Nat.le_of_ble_eq_true rfl)) dX4_pass_40 ⟨Nat.zero_le _, Nat.zero_le _⟩) hS hF (fun H locs hP hD hS => ?_)
  obtain ⟨S1, hS1⟩ : ∃ z, z = c_doS S ((V 0) + x0) 4 := ⟨_, rfl⟩
  rw [← hS1] at hP hD
  refine lv_aload_n hx hb dX4_pass_43 rfl (lv_at hl 0 rfl) ?_
  refine va_get (D := D) (ci := 4) (v := .ref (X 2)) (C := RX4) (T := TX4) (N := 7) hx hb hts i4 hown hK hP 0 rfl rfl 1 (by decide) fl_19 (fun _ h9 => h9) rfl dX4_pass_44 ?_
  refine lv_aload_n hx hb dX4_pass_47 rfl (lv_at hl 0 rfl) ?_
  refine va_get (D := D) (ci := 4) (v := .int ((V 0) + x0)) (C := RX4) (T := TX4) (N := 7) hx hb hts i4 hown hK hP 0 rfl rfl 6 (by decide) fl_44 (fun _ h9 => h9) rfl dX4_pass_48 ?_
  refine lv_aload_n hx hb dX4_pass_51 rfl (lv_at hl 0 rfl) ?_
  refine va_get (D := D) (ci := 4) (v := .ref (X 5)) (C := RX4) (T := TX4) (N := 7) hx hb hts i4 hown hK hP 0 rfl rfl 4 (by decide) fl_37 (fun _ h9 => h9) rfl dX4_pass_52 ?_
  refine lv_aload_n hx hb dX4_pass_55 rfl (lv_at hl 0 rfl) ?_
  refine va_get (D := D) (ci := 4) (v := .ref (X 3)) (C := RX4) (T := TX4) (N := 7) hx hb hts i4 hown hK hP 0 rfl rfl 2 (by decide) fl_26 (fun _ h9 => h9) rfl dX4_pass_56 ?_
  have hF := z_free hD hS hA
  refine z_callWi (va_runV (As := [.int ((V 0) + x0), .ref (X 5), .ref (X 3)]) (rest := []) ⟨hx, hb, hml, hown, hts⟩ (kX3_endDue l D cI cZ X S1 O (va_up V 0 ((V 0) + x0)) _ ((V 0) + x0) n0 hn0 hct (fun j hj => by rw [hS1, c_doS_ne _ _ _ _ (by decide)]; exact hpe j hj)) (cwV 3 hts gX4_pass_X3_endDue rfl rfl rfl (by decide +kernel) ⟨Nat.le_of_ble_eq_true rfl, Nat.le_of_ble_eq_true rfl⟩) (zW_preV 2 3 hK hP hD rfl rfl) rfl rfl hl.1 rfl (lv_room (Nat.le_of_ble_eq_true rfl)) dX4_pass_59 ⟨Nat.zero_le _, Nat.zero_le _⟩) hS hF (fun H locs hP hD hS => ?_)
  have eO : (c_edO (c_doS S (V 0 + x0) 4) O (va_up V 0 (V 0 + x0)) (V 0 + x0) n0) = (c_edO S1 O (va_up V 0 ((V 0) + x0)) ((V 0) + x0) n0) := by first | (rw [hS1]; done) | (rw [hS1]; rfl) | rfl
  have eV : (va_up V 0 (V 0 + x0)) = (va_up V 0 ((V 0) + x0)) := by first | (rw [hS1]; done) | (rw [hS1]; rfl) | rfl
  have eS : (c_doS S (V 0 + x0) 4) = S1 := by first | (rw [hS1]; done) | (rw [hS1]; rfl) | rfl
  exact z_wret hx hb hr hlocks (by rw [eO, eV, eS]; exact hP) hK (by rw [eO, eV, eS]; exact hD) hS (by rw [hS1]; rfl) dX4_pass_62

set_option maxHeartbeats 4000000 in
set_option maxRecDepth 100000 in
theorem kX4_setCache (l : Launch) (D : va_G) (cI cZ : ClassId) (X : Nat → Nat) (S : Nat → Nat → Int32) (O : Nat → Bool) (V : Nat → Int32) (sz : Nat) (ai : Nat) (x1 : Int32) (hai : ai < 4) (hw0 : ¬ x1 < 0) (hw6 : x1 ≤ 60) : Met l yX4_setCache wsX4_setCache ({ frames := 6, cells := 0, slots := 0, locals := 90 } : Room) (zW D (tyl cI cZ) (hW cI cZ X S O V) sz [.ref (X 0), .int (nI ai), .int x1]) (zQi D (tyl cI cZ) (hW cI cZ X (c_ddS (va_up S 16 (upd (S 16) ai x1)) ai (V 0) 60) O V) (S 16 ai) (va_A (hW cI cZ X S O V) sz)) 0 0 (va_A (hW cI cZ X S O V) sz) := by
  refine Met.ofW (cc := cX4_setCache) (maxL := 4) (ret := (some .int)) (by decide) rfl ?_
  intro p e s m args below meth c s₁ B hml hv
  obtain ⟨rfl, hsz, hP, hK, hD0⟩ := hv
  have hx := B.exec
  have hb := B.bytes
  have hr := B.returns
  have hts := atoms_spec (ws := wsX4_setCache) B.pre
  have hown : s.vm.findClass RX4 = some m.cls := findClass_of_methodNamed B.named
  have hlocks := B.notSynchronized
  subst hsz
  have hD := hD0.self (sz := s.heap.size)
  generalize hAe : va_A (hW cI cZ X S O V) s.heap.size = A at hD ⊢
  have hA : ∀ q : Nat, s.heap.size ≤ q → A q := fun q h => by rw [← hAe]; exact Or.inr h
  have hS : va_S A s.heap s.heap [] := va_S.rf
  have i4 : ∀ w ∈ u_ws RX4 TX4 7, w ∈ wsX4_setCache := by decide +kernel
  have fl_33 := hts (.fieldLink RX4 33 "SignOnHouse" "decisions" "LSignOnHouse$Decisions;") (by decide +kernel)
  have fl_44 := hts (.fieldLink RX4 44 "SignOnHouse" "minute" "I") (by decide +kernel)
  have hl := lv_entry ([.ref (X 0), .int (nI ai), .int x1]) (n := 4) (Nat.le_of_ble_eq_true rfl)
  rw [lg_entry_eq]
  generalize (lg_sl ([.ref (X 0), .int (nI ai), .int x1]) ++ List.replicate (4 - (lg_sl ([.ref (X 0), .int (nI ai), .int x1])).length) Slot.unset).toArray = ls at hl ⊢
  have hl : lv_has ls 4 [(0, .ref (X 0)), (1, .int (nI ai)), (2, .int x1)] := hl
  have ok0 : c_out (nI ai) 4 = false := c_out_lt (n := 4) hai (by decide)
  refine lv_iload_n hx hb dX4_setCache_0 rfl (lv_at hl 1 rfl) ?_
  refine lv_iconst (v := 4) hx hb dX4_setCache_1 rfl ?_
  refine z_callR (W.runS (As := [.int (nI ai), .int 4]) (rest := []) ⟨hx, hb, hml, hown, hts⟩ (kX4_isOutside l (nI ai) 4) (va_cwS 2 hts gX4_setCache_X4_isOutside rfl rfl rfl (by decide +kernel) ⟨Nat.le_of_ble_eq_true rfl, Nat.le_of_ble_eq_true rfl⟩) zP_pre rfl rfl hl.1 rfl (lv_room (Nat.le_of_ble_eq_true rfl)) dX4_setCache_2 ⟨Nat.zero_le _, Nat.zero_le _⟩) ?_
  refine z_if_ne (tgt := 18) hx hb dX4_setCache_5 (by decide) (fun q => absurd (ok0.symm.trans q) (by decide)) (fun _ => ?_)
  refine lv_iload_n hx hb dX4_setCache_8 rfl (lv_at hl 2 rfl) ?_
  refine lv_if_lt (tgt := 18) hx hb dX4_setCache_9 (by decide) (fun q => absurd q hw0) (fun _ => ?_)
  refine lv_iload_n hx hb dX4_setCache_12 rfl (lv_at hl 2 rfl) ?_
  refine lv_bipush (v := 60) hx hb dX4_setCache_13 (by decide) ?_
  refine lv_icmp_le (tgt := 28) hx hb dX4_setCache_15 (by decide) (fun _ => ?_) (fun q => absurd hw6 q)
  refine lv_aload_n hx hb dX4_setCache_28 rfl (lv_at hl 0 rfl) ?_
  refine va_get (D := D) (ci := 4) (v := .ref (X 4)) (C := RX4) (T := TX4) (N := 7) hx hb hts i4 hown hK hP 0 rfl rfl 3 (by decide) fl_33 (fun _ h9 => h9) rfl dX4_setCache_29 ?_
  refine lv_iload_n hx hb dX4_setCache_32 rfl (lv_at hl 1 rfl) ?_
  refine z_callR (W.runV (As := [.int (nI ai)]) (rest := []) ⟨hx, hb, hml, hown, hts⟩ (kX0_cacheOf l D cI cZ X S O V ai (by omega)) (cwV 1 hts gX4_setCache_X0_cacheOf rfl rfl rfl (by decide +kernel) ⟨Nat.le_of_ble_eq_true rfl, Nat.le_of_ble_eq_true rfl⟩) (zR_preV 4 0 hK hP rfl rfl) rfl rfl hl.1 rfl (lv_room (Nat.le_of_ble_eq_true rfl)) dX4_setCache_33 ⟨Nat.zero_le _, Nat.zero_le _⟩) ?_
  refine lv_istore_n (lv' := [(3, .int (S 16 ai)), (0, .ref (X 0)), (1, .int (nI ai)), (2, .int x1)]) hx hb dX4_setCache_36 rfl hl (by decide) rfl (fun ls hl => ?_)
  refine lv_aload_n hx hb dX4_setCache_37 rfl (lv_at hl 1 rfl) ?_
  refine va_get (D := D) (ci := 4) (v := .ref (X 4)) (C := RX4) (T := TX4) (N := 7) hx hb hts i4 hown hK hP 0 rfl rfl 3 (by decide) fl_33 (fun _ h9 => h9) rfl dX4_setCache_38 ?_
  refine lv_iload_n hx hb dX4_setCache_41 rfl (lv_at hl 2 rfl) ?_
  refine lv_iload_n hx hb dX4_setCache_42 rfl (lv_at hl 3 rfl) ?_
  have hF := z_free hD hS hA
  refine z_callWv (va_runV (As := [.int (nI ai), .int x1]) (rest := []) ⟨hx, hb, hml, hown, hts⟩ (kX0_allowCache l D cI cZ X S O V _ ai x1 (by omega)) (cwV 2 hts gX4_setCache_X0_allowCache rfl rfl rfl (by decide +kernel) ⟨Nat.le_of_ble_eq_true rfl, Nat.le_of_ble_eq_true rfl⟩) (zW_preV 4 0 hK hP hD rfl rfl) rfl rfl hl.1 rfl (lv_room (Nat.le_of_ble_eq_true rfl)) dX4_setCache_43 ⟨Nat.zero_le _, Nat.zero_le _⟩) hS hF (fun H locs hP hD hS => ?_)
  refine lv_aload_n hx hb dX4_setCache_46 rfl (lv_at hl 1 rfl) ?_
  refine va_get (D := D) (ci := 4) (v := .ref (X 4)) (C := RX4) (T := TX4) (N := 7) hx hb hts i4 hown hK hP 0 rfl rfl 3 (by decide) fl_33 (fun _ h9 => h9) rfl dX4_setCache_47 ?_
  refine lv_iload_n hx hb dX4_setCache_50 rfl (lv_at hl 2 rfl) ?_
  refine lv_aload_n hx hb dX4_setCache_51 rfl (lv_at hl 1 rfl) ?_
  refine va_get (D := D) (ci := 4) (v := .int (V 0)) (C := RX4) (T := TX4) (N := 7) hx hb hts i4 hown hK hP 0 rfl rfl 6 (by decide) fl_44 (fun _ h9 => h9) rfl dX4_setCache_52 ?_
  have hF := z_free hD hS hA
  refine z_callWv (va_runV (As := [.int (nI ai), .int (V 0)]) (rest := []) ⟨hx, hb, hml, hown, hts⟩ (kX0_dropDue l D cI cZ X (va_up S 16 (upd (S 16) ai x1)) O V _ ai (V 0) (by omega)) (cwV 2 hts gX4_setCache_X0_dropDue rfl rfl rfl (by decide +kernel) ⟨Nat.le_of_ble_eq_true rfl, Nat.le_of_ble_eq_true rfl⟩) (zW_preV 4 0 hK hP hD rfl rfl) rfl rfl hl.1 rfl (lv_room (Nat.le_of_ble_eq_true rfl)) dX4_setCache_55 ⟨Nat.zero_le _, Nat.zero_le _⟩) hS hF (fun H locs hP hD hS => ?_)
  refine lv_iload_n hx hb dX4_setCache_58 rfl (lv_at hl 0 rfl) ?_
  exact z_wret hx hb hr hlocks hP hK hD hS rfl dX4_setCache_59

set_option maxHeartbeats 4000000 in
set_option maxRecDepth 100000 in
theorem kX4_decide (l : Launch) (D : va_G) (cI cZ : ClassId) (X : Nat → Nat) (S : Nat → Nat → Int32) (O : Nat → Bool) (V : Nat → Int32) (sz : Nat) (ai : Nat) (si : Nat) (ri : Nat) (hai : ai < 4) (hri : ri < 6) (n0 : Nat) (hn0 : n0 ≤ 30) (hct : V 1 = nI n0) (hsn : si < n0) (pi : Nat) (hpi : pi < 10) (epi : S 11 si = nI pi) : Met l yX4_decide wsX4_decide ({ frames := 6, cells := 0, slots := 0, locals := 136 } : Room) (zW D (tyl cI cZ) (hW cI cZ X S O V) sz [.ref (X 0), .int (nI ai), .int (nI si), .int (nI ri)]) (zQi D (tyl cI cZ) (hW cI cZ X (if O si = true then S else c_appS (va_up S 14 (upd (S 14) si (V 0))) V ai pi ri) O V) (if O si = true then 2 else c_appR (va_up S 14 (upd (S 14) si (V 0))) V ai pi ri) (va_A (hW cI cZ X S O V) sz)) 0 0 (va_A (hW cI cZ X S O V) sz) := by
  refine Met.ofW (cc := cX4_decide) (maxL := 4) (ret := (some .int)) (by decide) rfl ?_
  intro p e s m args below meth c s₁ B hml hv
  obtain ⟨rfl, hsz, hP, hK, hD0⟩ := hv
  have hx := B.exec
  have hb := B.bytes
  have hr := B.returns
  have hts := atoms_spec (ws := wsX4_decide) B.pre
  have hown : s.vm.findClass RX4 = some m.cls := findClass_of_methodNamed B.named
  have hlocks := B.notSynchronized
  subst hsz
  have hD := hD0.self (sz := s.heap.size)
  generalize hAe : va_A (hW cI cZ X S O V) s.heap.size = A at hD ⊢
  have hA : ∀ q : Nat, s.heap.size ≤ q → A q := fun q h => by rw [← hAe]; exact Or.inr h
  have hS : va_S A s.heap s.heap [] := va_S.rf
  have i4 : ∀ w ∈ u_ws RX4 TX4 7, w ∈ wsX4_decide := by decide +kernel
  have fl_19 := hts (.fieldLink RX4 19 "SignOnHouse" "sessions" "LSignOnHouse$Sessions;") (by decide +kernel)
  have fl_44 := hts (.fieldLink RX4 44 "SignOnHouse" "minute" "I") (by decide +kernel)
  have hl := lv_entry ([.ref (X 0), .int (nI ai), .int (nI si), .int (nI ri)]) (n := 4) (Nat.le_of_ble_eq_true rfl)
  rw [lg_entry_eq]
  generalize (lg_sl ([.ref (X 0), .int (nI ai), .int (nI si), .int (nI ri)]) ++ List.replicate (4 - (lg_sl ([.ref (X 0), .int (nI ai), .int (nI si), .int (nI ri)])).length) Slot.unset).toArray = ls at hl ⊢
  have hl : lv_has ls 4 [(0, .ref (X 0)), (1, .int (nI ai)), (2, .int (nI si)), (3, .int (nI ri))] := hl
  have ok0 : c_out (nI ai) 4 = false := c_out_lt (n := 4) hai (by decide)
  have ok1 : c_out (nI ri) 6 = false := c_out_lt (n := 6) hri (by decide)
  have ok2 : c_has V (nI si) = true := c_has_lt hct hn0 hsn
  refine lv_iload_n hx hb dX4_decide_0 rfl (lv_at hl 1 rfl) ?_
  refine lv_iconst (v := 4) hx hb dX4_decide_1 rfl ?_
  refine z_callR (W.runS (As := [.int (nI ai), .int 4]) (rest := []) ⟨hx, hb, hml, hown, hts⟩ (kX4_isOutside l (nI ai) 4) (va_cwS 2 hts gX4_decide_X4_isOutside rfl rfl rfl (by decide +kernel) ⟨Nat.le_of_ble_eq_true rfl, Nat.le_of_ble_eq_true rfl⟩) zP_pre rfl rfl hl.1 rfl (lv_room (Nat.le_of_ble_eq_true rfl)) dX4_decide_2 ⟨Nat.zero_le _, Nat.zero_le _⟩) ?_
  refine z_if_ne (tgt := 17) hx hb dX4_decide_5 (by decide) (fun q => absurd (ok0.symm.trans q) (by decide)) (fun _ => ?_)
  refine lv_iload_n hx hb dX4_decide_8 rfl (lv_at hl 3 rfl) ?_
  refine lv_bipush (v := 6) hx hb dX4_decide_9 (by decide) ?_
  refine z_callR (W.runS (As := [.int (nI ri), .int 6]) (rest := []) ⟨hx, hb, hml, hown, hts⟩ (kX4_isOutside l (nI ri) 6) (va_cwS 2 hts gX4_decide_X4_isOutside rfl rfl rfl (by decide +kernel) ⟨Nat.le_of_ble_eq_true rfl, Nat.le_of_ble_eq_true rfl⟩) zP_pre rfl rfl hl.1 rfl (lv_room (Nat.le_of_ble_eq_true rfl)) dX4_decide_11 ⟨Nat.zero_le _, Nat.zero_le _⟩) ?_
  refine z_if_eq (tgt := 27) hx hb dX4_decide_14 (by decide) (fun _ => ?_) (fun q => absurd (ok1.symm.trans q) (by decide))
  refine lv_aload_n hx hb dX4_decide_27 rfl (lv_at hl 0 rfl) ?_
  refine va_get (D := D) (ci := 4) (v := .ref (X 2)) (C := RX4) (T := TX4) (N := 7) hx hb hts i4 hown hK hP 0 rfl rfl 1 (by decide) fl_19 (fun _ h9 => h9) rfl dX4_decide_28 ?_
  refine lv_iload_n hx hb dX4_decide_31 rfl (lv_at hl 2 rfl) ?_
  refine z_callR (W.runV (As := [.int (nI si)]) (rest := []) ⟨hx, hb, hml, hown, hts⟩ (kX3_has l D cI cZ X S O V (nI si)) (cwV 1 hts gX4_decide_X3_has rfl rfl rfl (by decide +kernel) ⟨Nat.le_of_ble_eq_true rfl, Nat.le_of_ble_eq_true rfl⟩) (zR_preV 2 3 hK hP rfl rfl) rfl rfl hl.1 rfl (lv_room (Nat.le_of_ble_eq_true rfl)) dX4_decide_32 ⟨Nat.zero_le _, Nat.zero_le _⟩) ?_
  refine z_if_ne (tgt := 48) hx hb dX4_decide_35 (by decide) (fun _ => ?_) (fun q => absurd (ok2.symm.trans q) (by decide))
  refine lv_aload_n hx hb dX4_decide_48 rfl (lv_at hl 0 rfl) ?_
  refine va_get (D := D) (ci := 4) (v := .ref (X 2)) (C := RX4) (T := TX4) (N := 7) hx hb hts i4 hown hK hP 0 rfl rfl 1 (by decide) fl_19 (fun _ h9 => h9) rfl dX4_decide_49 ?_
  refine lv_iload_n hx hb dX4_decide_52 rfl (lv_at hl 2 rfl) ?_
  refine z_callR (W.runV (As := [.int (nI si)]) (rest := []) ⟨hx, hb, hml, hown, hts⟩ (kX3_isOver l D cI cZ X S O V si (by omega)) (cwV 1 hts gX4_decide_X3_isOver rfl rfl rfl (by decide +kernel) ⟨Nat.le_of_ble_eq_true rfl, Nat.le_of_ble_eq_true rfl⟩) (zR_preV 2 3 hK hP rfl rfl) rfl rfl hl.1 rfl (lv_room (Nat.le_of_ble_eq_true rfl)) dX4_decide_53 ⟨Nat.zero_le _, Nat.zero_le _⟩) ?_
  refine z_if_eq (tgt := 61) hx hb dX4_decide_56 (by decide) (fun c_56 => ?_) (fun c_56 => ?_)
  · refine lv_aload_n hx hb dX4_decide_61 rfl (lv_at hl 0 rfl) ?_
    refine va_get (D := D) (ci := 4) (v := .ref (X 2)) (C := RX4) (T := TX4) (N := 7) hx hb hts i4 hown hK hP 0 rfl rfl 1 (by decide) fl_19 (fun _ h9 => h9) rfl dX4_decide_62 ?_
    refine lv_iload_n hx hb dX4_decide_65 rfl (lv_at hl 2 rfl) ?_
    refine lv_aload_n hx hb dX4_decide_66 rfl (lv_at hl 0 rfl) ?_
    refine va_get (D := D) (ci := 4) (v := .int (V 0)) (C := RX4) (T := TX4) (N := 7) hx hb hts i4 hown hK hP 0 rfl rfl 6 (by decide) fl_44 (fun _ h9 => h9) rfl dX4_decide_67 ?_
    have hF := z_free hD hS hA
    refine z_callWv (va_runV (As := [.int (nI si), .int (V 0)]) (rest := []) ⟨hx, hb, hml, hown, hts⟩ (kX3_use l D cI cZ X S O V _ si (V 0) (by omega)) (cwV 2 hts gX4_decide_X3_use rfl rfl rfl (by decide +kernel) ⟨Nat.le_of_ble_eq_true rfl, Nat.le_of_ble_eq_true rfl⟩) (zW_preV 2 3 hK hP hD rfl rfl) rfl rfl hl.1 rfl (lv_room (Nat.le_of_ble_eq_true rfl)) dX4_decide_70 ⟨Nat.zero_le _, Nat.zero_le _⟩) hS hF (fun H locs hP hD hS => ?_)
    refine lv_aload_n hx hb dX4_decide_73 rfl (lv_at hl 0 rfl) ?_
    refine lv_iload_n hx hb dX4_decide_74 rfl (lv_at hl 1 rfl) ?_
    refine lv_aload_n hx hb dX4_decide_75 rfl (lv_at hl 0 rfl) ?_
    refine va_get (D := D) (ci := 4) (v := .ref (X 2)) (C := RX4) (T := TX4) (N := 7) hx hb hts i4 hown hK hP 0 rfl rfl 1 (by decide) fl_19 (fun _ h9 => h9) rfl dX4_decide_76 ?_
    refine lv_iload_n hx hb dX4_decide_79 rfl (lv_at hl 2 rfl) ?_
    refine z_callR (W.runV (As := [.int (nI si)]) (rest := [.int (nI ai), .ref (X 0)]) ⟨hx, hb, hml, hown, hts⟩ (kX3_personOf l D cI cZ X (va_up S 14 (upd (S 14) si (V 0))) O V si (by omega)) (cwV 1 hts gX4_decide_X3_personOf rfl rfl rfl (by decide +kernel) ⟨Nat.le_of_ble_eq_true rfl, Nat.le_of_ble_eq_true rfl⟩) (zR_preV 2 3 hK hP rfl rfl) rfl rfl hl.1 rfl (lv_room (Nat.le_of_ble_eq_true rfl)) dX4_decide_80 ⟨Nat.zero_le _, Nat.zero_le _⟩) ?_
    refine z_top (S 11 si) rfl ?_
    refine z_top (nI pi) epi ?_
    refine lv_iload_n hx hb dX4_decide_83 rfl (lv_at hl 3 rfl) ?_
    have hF := z_free hD hS hA
    refine z_callWi (va_runV (As := [.int (nI ai), .int (nI pi), .int (nI ri)]) (rest := []) ⟨hx, hb, hml, hown, hts⟩ (kX4_answerOfApp l D cI cZ X (va_up S 14 (upd (S 14) si (V 0))) O V _ ai pi ri (by omega) (by omega) (by omega)) (cwV 3 hts gX4_decide_X4_answerOfApp rfl rfl rfl (by decide +kernel) ⟨Nat.le_of_ble_eq_true rfl, Nat.le_of_ble_eq_true rfl⟩) (zW_preV 0 4 hK hP hD rfl rfl) rfl rfl hl.1 rfl (lv_room (Nat.le_of_ble_eq_true rfl)) dX4_decide_84 ⟨Nat.zero_le _, Nat.zero_le _⟩) hS hF (fun H locs hP hD hS => ?_)
    have eS : (if O si = true then S else c_appS (va_up S 14 (upd (S 14) si (V 0))) V ai pi ri) = (c_appS (va_up S 14 (upd (S 14) si (V 0))) V ai pi ri) := by simp [c_56] <;> rfl
    exact z_wret hx hb hr hlocks (by rw [eS]; exact hP) hK (by rw [eS]; exact hD) hS (by simp [c_56] <;> rfl) dX4_decide_87
  · refine lv_iconst (v := 2) hx hb dX4_decide_59 rfl ?_
    have eS : (if O si = true then S else c_appS (va_up S 14 (upd (S 14) si (V 0))) V ai pi ri) = S := by simp [c_56] <;> rfl
    exact z_wret hx hb hr hlocks (by rw [eS]; exact hP) hK (by rw [eS]; exact hD) hS (by simp [c_56] <;> rfl) dX4_decide_60

set_option maxHeartbeats 4000000 in
set_option maxRecDepth 100000 in
theorem kX4_forget (l : Launch) (D : va_G) (cI cZ : ClassId) (X : Nat → Nat) (S : Nat → Nat → Int32) (O : Nat → Bool) (V : Nat → Int32) (sz : Nat) (ai : Nat) (pi : Nat) (hai : ai < 4) (hpi : pi < 10) : Met l yX4_forget wsX4_forget ({ frames := 6, cells := 0, slots := 0, locals := 90 } : Room) (zW D (tyl cI cZ) (hW cI cZ X S O V) sz [.ref (X 0), .int (nI ai), .int (nI pi)]) (zQi D (tyl cI cZ) (hW cI cZ X (c_daS S ai pi 6) O V) (c_daN S ai pi 6) (va_A (hW cI cZ X S O V) sz)) 0 0 (va_A (hW cI cZ X S O V) sz) := by
  refine Met.ofW (cc := cX4_forget) (maxL := 3) (ret := (some .int)) (by decide) rfl ?_
  intro p e s m args below meth c s₁ B hml hv
  obtain ⟨rfl, hsz, hP, hK, hD0⟩ := hv
  have hx := B.exec
  have hb := B.bytes
  have hr := B.returns
  have hts := atoms_spec (ws := wsX4_forget) B.pre
  have hown : s.vm.findClass RX4 = some m.cls := findClass_of_methodNamed B.named
  have hlocks := B.notSynchronized
  subst hsz
  have hD := hD0.self (sz := s.heap.size)
  generalize hAe : va_A (hW cI cZ X S O V) s.heap.size = A at hD ⊢
  have hA : ∀ q : Nat, s.heap.size ≤ q → A q := fun q h => by rw [← hAe]; exact Or.inr h
  have hS : va_S A s.heap s.heap [] := va_S.rf
  have i4 : ∀ w ∈ u_ws RX4 TX4 7, w ∈ wsX4_forget := by decide +kernel
  have fl_33 := hts (.fieldLink RX4 33 "SignOnHouse" "decisions" "LSignOnHouse$Decisions;") (by decide +kernel)
  have hl := lv_entry ([.ref (X 0), .int (nI ai), .int (nI pi)]) (n := 3) (Nat.le_of_ble_eq_true rfl)
  rw [lg_entry_eq]
  generalize (lg_sl ([.ref (X 0), .int (nI ai), .int (nI pi)]) ++ List.replicate (3 - (lg_sl ([.ref (X 0), .int (nI ai), .int (nI pi)])).length) Slot.unset).toArray = ls at hl ⊢
  have hl : lv_has ls 3 [(0, .ref (X 0)), (1, .int (nI ai)), (2, .int (nI pi))] := hl
  have ok0 : c_out (nI ai) 4 = false := c_out_lt (n := 4) hai (by decide)
  have ok1 : c_out (nI pi) 10 = false := c_out_lt (n := 10) hpi (by decide)
  refine lv_iload_n hx hb dX4_forget_0 rfl (lv_at hl 1 rfl) ?_
  refine lv_iconst (v := 4) hx hb dX4_forget_1 rfl ?_
  refine z_callR (W.runS (As := [.int (nI ai), .int 4]) (rest := []) ⟨hx, hb, hml, hown, hts⟩ (kX4_isOutside l (nI ai) 4) (va_cwS 2 hts gX4_forget_X4_isOutside rfl rfl rfl (by decide +kernel) ⟨Nat.le_of_ble_eq_true rfl, Nat.le_of_ble_eq_true rfl⟩) zP_pre rfl rfl hl.1 rfl (lv_room (Nat.le_of_ble_eq_true rfl)) dX4_forget_2 ⟨Nat.zero_le _, Nat.zero_le _⟩) ?_
  refine z_if_ne (tgt := 17) hx hb dX4_forget_5 (by decide) (fun q => absurd (ok0.symm.trans q) (by decide)) (fun _ => ?_)
  refine lv_iload_n hx hb dX4_forget_8 rfl (lv_at hl 2 rfl) ?_
  refine lv_bipush (v := 10) hx hb dX4_forget_9 (by decide) ?_
  refine z_callR (W.runS (As := [.int (nI pi), .int 10]) (rest := []) ⟨hx, hb, hml, hown, hts⟩ (kX4_isOutside l (nI pi) 10) (va_cwS 2 hts gX4_forget_X4_isOutside rfl rfl rfl (by decide +kernel) ⟨Nat.le_of_ble_eq_true rfl, Nat.le_of_ble_eq_true rfl⟩) zP_pre rfl rfl hl.1 rfl (lv_room (Nat.le_of_ble_eq_true rfl)) dX4_forget_11 ⟨Nat.zero_le _, Nat.zero_le _⟩) ?_
  refine z_if_eq (tgt := 27) hx hb dX4_forget_14 (by decide) (fun _ => ?_) (fun q => absurd (ok1.symm.trans q) (by decide))
  refine lv_aload_n hx hb dX4_forget_27 rfl (lv_at hl 0 rfl) ?_
  refine va_get (D := D) (ci := 4) (v := .ref (X 4)) (C := RX4) (T := TX4) (N := 7) hx hb hts i4 hown hK hP 0 rfl rfl 3 (by decide) fl_33 (fun _ h9 => h9) rfl dX4_forget_28 ?_
  refine lv_iload_n hx hb dX4_forget_31 rfl (lv_at hl 1 rfl) ?_
  refine lv_iload_n hx hb dX4_forget_32 rfl (lv_at hl 2 rfl) ?_
  have hF := z_free hD hS hA
  refine z_callWi (va_runV (As := [.int (nI ai), .int (nI pi)]) (rest := []) ⟨hx, hb, hml, hown, hts⟩ (kX0_dropAllOf l D cI cZ X S O V _ ai pi (by omega) (by omega)) (cwV 2 hts gX4_forget_X0_dropAllOf rfl rfl rfl (by decide +kernel) ⟨Nat.le_of_ble_eq_true rfl, Nat.le_of_ble_eq_true rfl⟩) (zW_preV 4 0 hK hP hD rfl rfl) rfl rfl hl.1 rfl (lv_room (Nat.le_of_ble_eq_true rfl)) dX4_forget_33 ⟨Nat.zero_le _, Nat.zero_le _⟩) hS hF (fun H locs hP hD hS => ?_)
  exact z_wret hx hb hr hlocks hP hK hD hS rfl dX4_forget_36

set_option maxHeartbeats 4000000 in
set_option maxRecDepth 100000 in
theorem kX4_stale (l : Launch) (D : va_G) (cI cZ : ClassId) (X : Nat → Nat) (S : Nat → Nat → Int32) (O : Nat → Bool) (V : Nat → Int32) (ai : Nat) (hai : ai < 4) : Met l yX4_stale wsX4_stale ({ frames := 6, cells := 0, slots := 0, locals := 135 } : Room) (zR D (tyl cI cZ) (hW cI cZ X S O V) [.ref (X 0), .int (nI ai)]) (QcRead (c_stO S V ai 10)) 0 0 (fun _ => False) := by
  refine Met.ofW (cc := cX4_stale) (maxL := 5) (ret := (some .int)) (by decide) rfl ?_
  intro p e s m args below meth c s₁ B hml hv
  obtain ⟨rfl, hP, hK⟩ := hv
  have hx := B.exec
  have hb := B.bytes
  have hr := B.returns
  have hts := atoms_spec (ws := wsX4_stale) B.pre
  have hown : s.vm.findClass RX4 = some m.cls := findClass_of_methodNamed B.named
  have hlocks := B.notSynchronized
  have hl := lv_entry ([.ref (X 0), .int (nI ai)]) (n := 5) (Nat.le_of_ble_eq_true rfl)
  rw [lg_entry_eq]
  generalize (lg_sl ([.ref (X 0), .int (nI ai)]) ++ List.replicate (5 - (lg_sl ([.ref (X 0), .int (nI ai)])).length) Slot.unset).toArray = ls at hl ⊢
  have hl : lv_has ls 5 [(0, .ref (X 0)), (1, .int (nI ai))] := hl
  have ok0 : c_out (nI ai) 4 = false := c_out_lt (n := 4) hai (by decide)
  refine lv_iload_n hx hb dX4_stale_0 rfl (lv_at hl 1 rfl) ?_
  refine lv_iconst (v := 4) hx hb dX4_stale_1 rfl ?_
  refine z_callR (W.runS (As := [.int (nI ai), .int 4]) (rest := []) ⟨hx, hb, hml, hown, hts⟩ (kX4_isOutside l (nI ai) 4) (va_cwS 2 hts gX4_stale_X4_isOutside rfl rfl rfl (by decide +kernel) ⟨Nat.le_of_ble_eq_true rfl, Nat.le_of_ble_eq_true rfl⟩) zP_pre rfl rfl hl.1 rfl (lv_room (Nat.le_of_ble_eq_true rfl)) dX4_stale_2 ⟨Nat.zero_le _, Nat.zero_le _⟩) ?_
  refine z_if_eq (tgt := 18) hx hb dX4_stale_5 (by decide) (fun _ => ?_) (fun q => absurd (ok0.symm.trans q) (by decide))
  refine lv_iconst (v := 0) hx hb dX4_stale_18 rfl ?_
  refine lv_istore_n (lv' := [(2, .int 0), (0, .ref (X 0)), (1, .int (nI ai))]) hx hb dX4_stale_19 rfl hl (by decide) rfl (fun ls hl => ?_)
  refine lv_iconst (v := nI 0) hx hb dX4_stale_20 rfl ?_
  refine lv_istore_n (lv' := [(3, .int (nI 0)), (2, .int 0), (0, .ref (X 0)), (1, .int (nI ai))]) hx hb dX4_stale_21 rfl hl (by decide) rfl (fun ls hl => ?_)
  refine z_loop (N := 10) (nL := 5) (Lc := (fun q => [(3, .int (nI q)), (2, .int (c_stO S V ai q)), (0, .ref (X 0)), (1, .int (nI ai))])) (lv_sub hl [0, 1, 2, 3] rfl) (fun ls hl => ?_) (fun q ls hq hl ih => ?_)
  · have hl : lv_has ls 5 [(3, .int (nI 10)), (2, .int (c_stO S V ai 10)), (0, .ref (X 0)), (1, .int (nI ai))] := hl
    refine lv_iload_n hx hb dX4_stale_22 rfl (lv_at hl 0 rfl) ?_
    refine lv_bipush (v := nI 10) hx hb dX4_stale_23 (by decide) ?_
    refine z_ge_t (tgt := 64) (nI_le (by omega) (by omega)) hx hb dX4_stale_25 (by decide) ?_
    refine lv_iload_n hx hb dX4_stale_64 rfl (lv_at hl 1 rfl) ?_
    exact z_ret hx hb hr hlocks rfl dX4_stale_65
  · have hl : lv_has ls 5 [(3, .int (nI q)), (2, .int (c_stO S V ai q)), (0, .ref (X 0)), (1, .int (nI ai))] := hl
    have ih_22 := ih
    refine lv_iload_n hx hb dX4_stale_22 rfl (lv_at hl 0 rfl) ?_
    refine lv_bipush (v := nI 10) hx hb dX4_stale_23 (by decide) ?_
    refine z_ge_f (tgt := 64) (nI_ge (by omega) (by omega)) hx hb dX4_stale_25 (by decide) ?_
    refine lv_iconst (v := nI 0) hx hb dX4_stale_28 rfl ?_
    refine lv_istore (lv' := [(4, .int (nI 0)), (3, .int (nI q)), (2, .int (c_stO S V ai q)), (0, .ref (X 0)), (1, .int (nI ai))]) hx hb dX4_stale_29 hl (by decide) rfl (fun ls hl => ?_)
    refine z_loop (N := 6) (nL := 5) (Lc := (fun k => [(4, .int (nI k)), (3, .int (nI q)), (2, .int (c_stI S V ai (c_stO S V ai q) q k)), (0, .ref (X 0)), (1, .int (nI ai))])) (lv_sub hl [0, 1, 2, 3, 4] rfl) (fun ls hl => ?_) (fun k ls hk hl ih => ?_)
    · have hl : lv_has ls 5 [(4, .int (nI 6)), (3, .int (nI q)), (2, .int (c_stI S V ai (c_stO S V ai q) q 6)), (0, .ref (X 0)), (1, .int (nI ai))] := hl
      refine lv_iload hx hb dX4_stale_31 (lv_at hl 0 rfl) ?_
      refine lv_bipush (v := nI 6) hx hb dX4_stale_33 (by decide) ?_
      refine z_ge_t (tgt := 58) (nI_le (by omega) (by omega)) hx hb dX4_stale_35 (by decide) ?_
      refine lv_iinc (v := nI (q + 1)) (lv' := [(3, .int (nI (q + 1))), (4, .int (nI 6)), (2, .int (c_stI S V ai (c_stO S V ai q) q 6)), (0, .ref (X 0)), (1, .int (nI ai))]) hx hb dX4_stale_58 hl (k := 1) rfl (nI_1 _) (by decide) rfl (fun ls hl => ?_)
      refine lv_goto (tgt := 22) hx hb dX4_stale_61 (by decide) ?_
      have e2 : (c_stO S V ai (q + 1)) = (c_stI S V ai (c_stO S V ai q) q 6) := by rfl
      exact ih_22 ls (by show lv_has ls 5 [(3, .int (nI (q + 1))), (2, .int (c_stO S V ai (q + 1))), (0, .ref (X 0)), (1, .int (nI ai))]; rw [e2]; exact lv_sub hl [0, 2, 3, 4] rfl)
    · have hl : lv_has ls 5 [(4, .int (nI k)), (3, .int (nI q)), (2, .int (c_stI S V ai (c_stO S V ai q) q k)), (0, .ref (X 0)), (1, .int (nI ai))] := hl
      have ih_31 := ih
      refine lv_iload hx hb dX4_stale_31 (lv_at hl 0 rfl) ?_
      refine lv_bipush (v := nI 6) hx hb dX4_stale_33 (by decide) ?_
      refine z_ge_f (tgt := 58) (nI_ge (by omega) (by omega)) hx hb dX4_stale_35 (by decide) ?_
      refine lv_aload_n hx hb dX4_stale_38 rfl (lv_at hl 3 rfl) ?_
      refine lv_iload_n hx hb dX4_stale_39 rfl (lv_at hl 4 rfl) ?_
      refine lv_iload_n hx hb dX4_stale_40 rfl (lv_at hl 1 rfl) ?_
      refine lv_iload hx hb dX4_stale_41 (lv_at hl 0 rfl) ?_
      refine z_callR (W.runV (As := [.int (nI ai), .int (nI q), .int (nI k)]) (rest := []) ⟨hx, hb, hml, hown, hts⟩ (kX4_isStale l D cI cZ X S O V ai q k (by omega) (by omega) (by omega)) (cwV 3 hts gX4_stale_X4_isStale rfl rfl rfl (by decide +kernel) ⟨Nat.le_of_ble_eq_true rfl, Nat.le_of_ble_eq_true rfl⟩) (zR_preV 0 4 hK hP rfl rfl) rfl rfl hl.1 rfl (lv_room (Nat.le_of_ble_eq_true rfl)) dX4_stale_43 ⟨Nat.zero_le _, Nat.zero_le _⟩) ?_
      refine z_if_eq (tgt := 52) hx hb dX4_stale_46 (by decide) (fun c_46 => ?_) (fun c_46 => ?_)
      · refine lv_iinc (v := nI (k + 1)) (lv' := [(4, .int (nI (k + 1))), (3, .int (nI q)), (2, .int (c_stI S V ai (c_stO S V ai q) q k)), (0, .ref (X 0)), (1, .int (nI ai))]) hx hb dX4_stale_52 hl (k := 0) rfl (nI_1 _) (by decide) rfl (fun ls hl => ?_)
        refine lv_goto (tgt := 31) hx hb dX4_stale_55 (by decide) ?_
        have e2 : (c_stI S V ai (c_stO S V ai q) q (k + 1)) = (c_stI S V ai (c_stO S V ai q) q k) := by simp [c_stI, c_46]
        exact ih_31 ls (by show lv_has ls 5 [(4, .int (nI (k + 1))), (3, .int (nI q)), (2, .int (c_stI S V ai (c_stO S V ai q) q (k + 1))), (0, .ref (X 0)), (1, .int (nI ai))]; rw [e2]; exact lv_sub hl [0, 1, 2, 3, 4] rfl)
      · refine lv_iinc (v := c_stI S V ai (c_stO S V ai q) q k + 1) (lv' := [(2, .int (c_stI S V ai (c_stO S V ai q) q k + 1)), (4, .int (nI k)), (3, .int (nI q)), (0, .ref (X 0)), (1, .int (nI ai))]) hx hb dX4_stale_49 hl (k := 2) rfl rfl (by decide) rfl (fun ls hl => ?_)
        refine lv_iinc (v := nI (k + 1)) (lv' := [(4, .int (nI (k + 1))), (2, .int (c_stI S V ai (c_stO S V ai q) q k + 1)), (3, .int (nI q)), (0, .ref (X 0)), (1, .int (nI ai))]) hx hb dX4_stale_52 hl (k := 1) rfl (nI_1 _) (by decide) rfl (fun ls hl => ?_)
        refine lv_goto (tgt := 31) hx hb dX4_stale_55 (by decide) ?_
        have e2 : (c_stI S V ai (c_stO S V ai q) q (k + 1)) = (c_stI S V ai (c_stO S V ai q) q k + 1) := by simp [c_stI, c_46]
        exact ih_31 ls (by show lv_has ls 5 [(4, .int (nI (k + 1))), (3, .int (nI q)), (2, .int (c_stI S V ai (c_stO S V ai q) q (k + 1))), (0, .ref (X 0)), (1, .int (nI ai))]; rw [e2]; exact lv_sub hl [0, 2, 1, 3, 4] rfl)
end
section
set_option maxHeartbeats 4000000 in
set_option maxRecDepth 100000 in
theorem kX4_setGroup (l : Launch) (hl0 : l.stackTraces = false) (D : va_G) (cI cZ : ClassId) (X : Nat → Nat) (S : Nat → Nat → Int32) (O : Nat → Bool) (V : Nat → Int32) (sz : Nat) (x0 : Int32) (x1 : Int32) (b0 : Bool) : vx_Met l yX4_setGroup wsX4_setGroup ({ frames := 6, cells := 1, slots := 6, locals := 90 } : Room) (zT D (tyl cI cZ) (hW cI cZ X S O V) sz [.ref (X 0), .int x0, .int x1, .int (bi b0)]) (zTi D (tyl cI cZ) (hW cI cZ X (va_up S 8 (upd (S 8) (ix x1) (c_changed (S 8 (ix x1)) (nI (ix x0)) b0))) O V) (c_sgK S x0 x1 b0) (bi (hasB (S 8 (ix x1)) (nI (ix x0)))) (va_A (hW cI cZ X S O V) sz)) (zXC D (tyl cI cZ) (hW cI cZ X S O V) (va_A (hW cI cZ X S O V) sz) (fun E => ((c_sgK S x0 x1 b0) = 1 ∧ E = "java/lang/IllegalArgumentException") ∨ ((c_sgK S x0 x1 b0) = 2 ∧ E = "java/lang/IllegalStateException"))) 1 6 (va_A (hW cI cZ X S O V) sz) := by
  refine vx_ofW (cc := cX4_setGroup) (maxL := 4) (ret := (some .boolean)) (by decide) rfl ?_
  intro p e s m args below meth c s₁ B hml htb hv
  obtain ⟨rfl, hsz, hP, hK, hD0, hZ⟩ := hv
  have hx := B.exec
  have hb := B.bytes
  have hr := B.returns
  have hts := atoms_spec (ws := wsX4_setGroup) B.pre
  have hown : s.vm.findClass RX4 = some m.cls := findClass_of_methodNamed B.named
  have hlocks := B.notSynchronized
  subst hsz
  have hD := hD0.self (sz := s.heap.size)
  generalize hAe : va_A (hW cI cZ X S O V) s.heap.size = A at hD hZ ⊢
  have hA : ∀ q : Nat, s.heap.size ≤ q → A q := fun q h => by rw [← hAe]; exact Or.inr h
  have hS : va_S A s.heap s.heap [] := va_S.rf
  have i4 : ∀ w ∈ u_ws RX4 TX4 7, w ∈ wsX4_setGroup := by decide +kernel
  have fl_10 := hts (.fieldLink RX4 10 "SignOnHouse" "groups" "LSignOnHouse$Groups;") (by decide +kernel)
  have xk52 := hts (.classLink RX4 52 "java/lang/IllegalArgumentException") (by decide +kernel)
  have xi52 := hts (.initialized "java/lang/IllegalArgumentException") (by decide +kernel)
  have xa52 : ∀ w ∈ (vx_atS RX4 56 "java/lang/IllegalArgumentException" xnames).filter goodWord, w ∈ wsX4_setGroup := by decide +kernel
  have xk70 := hts (.classLink RX4 70 "java/lang/IllegalStateException") (by decide +kernel)
  have xi70 := hts (.initialized "java/lang/IllegalStateException") (by decide +kernel)
  have xa70 : ∀ w ∈ (vx_atS RX4 74 "java/lang/IllegalStateException" xnames).filter goodWord, w ∈ wsX4_setGroup := by decide +kernel
  have hl := lv_entry ([.ref (X 0), .int x0, .int x1, .int (bi b0)]) (n := 4) (Nat.le_of_ble_eq_true rfl)
  rw [lg_entry_eq]
  generalize (lg_sl ([.ref (X 0), .int x0, .int x1, .int (bi b0)]) ++ List.replicate (4 - (lg_sl ([.ref (X 0), .int x0, .int x1, .int (bi b0)])).length) Slot.unset).toArray = ls at hl ⊢
  have hl : lv_has ls 4 [(0, .ref (X 0)), (1, .int x0), (2, .int x1), (3, .int (bi b0))] := hl
  refine lv_iload_n hx hb dX4_setGroup_0 rfl (lv_at hl 1 rfl) ?_
  refine lv_bipush (v := 8) hx hb dX4_setGroup_1 (by decide) ?_
  refine z_callR (W.runS (As := [.int x0, .int 8]) (rest := []) ⟨hx, hb, hml, hown, hts⟩ (kX4_isOutside l x0 8) (va_cwS 2 hts gX4_setGroup_X4_isOutside rfl rfl rfl (by decide +kernel) ⟨Nat.le_of_ble_eq_true rfl, Nat.le_of_ble_eq_true rfl⟩) zP_pre rfl rfl hl.1 rfl (lv_room (Nat.le_of_ble_eq_true rfl)) dX4_setGroup_3 ⟨Nat.zero_le _, Nat.zero_le _⟩) ?_
  refine z_if_ne (tgt := 18) hx hb dX4_setGroup_6 (by decide) (fun c_6 => ?_) (fun c_6 => ?_)
  · exact z_throw (cls := "java/lang/IllegalArgumentException") (text := "group or inner is out of range") (ik := 52) (is := 63) (ic := 56) hx hb hl0 hown zxI_fit xk52 xi52 (fun w hw => hts w (xa52 w hw)) zxI_bad zxI_ot hZ (by decide +kernel) hS (by rw [hml]; exact hl.1) dX4_setGroup_18 dX4_setGroup_21 dX4_setGroup_22 dX4_setGroup_24 dX4_setGroup_27 htb (by decide) (by decide) (by decide) (by decide) hlocks hP hK hD (Or.inl ⟨by simp [c_sgK, c_6], rfl⟩)
  · obtain ⟨gi, hgi, egi⟩ := c_out8 c_6
    have xgi : ix x0 = gi := ix_of egi (by omega)
    refine lv_iload_n hx hb dX4_setGroup_9 rfl (lv_at hl 2 rfl) ?_
    refine lv_bipush (v := 8) hx hb dX4_setGroup_10 (by decide) ?_
    refine z_callR (W.runS (As := [.int x1, .int 8]) (rest := []) ⟨hx, hb, hml, hown, hts⟩ (kX4_isOutside l x1 8) (va_cwS 2 hts gX4_setGroup_X4_isOutside rfl rfl rfl (by decide +kernel) ⟨Nat.le_of_ble_eq_true rfl, Nat.le_of_ble_eq_true rfl⟩) zP_pre rfl rfl hl.1 rfl (lv_room (Nat.le_of_ble_eq_true rfl)) dX4_setGroup_12 ⟨Nat.zero_le _, Nat.zero_le _⟩) ?_
    refine z_if_eq (tgt := 28) hx hb dX4_setGroup_15 (by decide) (fun c_15 => ?_) (fun c_15 => ?_)
    · obtain ⟨ii, hii, eii⟩ := c_out8 c_15
      have xii : ix x1 = ii := ix_of eii (by omega)
      refine lv_iload_n hx hb dX4_setGroup_28 rfl (lv_at hl 1 rfl) ?_
      refine lv_iload_n hx hb dX4_setGroup_29 rfl (lv_at hl 2 rfl) ?_
      refine lv_icmp_ne (tgt := 43) hx hb dX4_setGroup_30 (by decide) (fun c_30 => ?_) (fun c_30 => ?_)
      · refine lv_iload_n hx hb dX4_setGroup_43 rfl (lv_at hl 3 rfl) ?_
        refine z_if_eq (tgt := 69) hx hb dX4_setGroup_44 (by decide) (fun c_44 => ?_) (fun c_44 => ?_)
        · refine lv_aload_n hx hb dX4_setGroup_69 rfl (lv_at hl 0 rfl) ?_
          refine va_get (D := D) (ci := 4) (v := .ref (X 1)) (C := RX4) (T := TX4) (N := 7) hx hb hts i4 hown hK hP 0 rfl rfl 0 (by decide) fl_10 (fun _ h9 => h9) rfl dX4_setGroup_70 ?_
          refine lv_iload_n hx hb dX4_setGroup_73 rfl (lv_at hl 1 rfl) ?_
          refine z_top (nI gi) egi ?_
          refine lv_iload_n hx hb dX4_setGroup_74 rfl (lv_at hl 2 rfl) ?_
          refine z_top (nI ii) eii ?_
          refine lv_iload_n hx hb dX4_setGroup_75 rfl (lv_at hl 3 rfl) ?_
          have hF := z_free hD hS hA
          refine z_callWi (va_runV (As := [.int (nI gi), .int (nI ii), .int (bi b0)]) (rest := []) ⟨hx, hb, hml, hown, hts⟩ (kX1_placeGroup l D cI cZ X S O V _ gi ii b0 (by omega) (by omega)) (cwV 3 hts gX4_setGroup_X1_placeGroup rfl rfl rfl (by decide +kernel) ⟨Nat.le_of_ble_eq_true rfl, Nat.le_of_ble_eq_true rfl⟩) (zW_preV 1 1 hK hP hD rfl rfl) rfl rfl hl.1 rfl (lv_room (Nat.le_of_ble_eq_true rfl)) dX4_setGroup_76 ⟨Nat.zero_le _, Nat.zero_le _⟩) hS hF (fun H locs hP hD hS => ?_)
          have eS : (va_up S 8 (upd (S 8) (ix x1) (c_changed (S 8 (ix x1)) (nI (ix x0)) b0))) = (va_up S 8 (upd (S 8) ii (c_changed (S 8 ii) (nI gi) b0))) := by simp [c_sgK, bi, c_6, xgi, c_15, xii, c_30, c_44]
          exact z_tzret hx hb hr hlocks (by rw [eS]; exact hP) hK (by rw [eS]; exact hD) hS (by simp [c_sgK, c_6, xgi, c_15, xii, c_30, c_44]) (by simp [c_sgK, bi, c_6, xgi, c_15, xii, c_30, c_44]) dX4_setGroup_79
        · refine lv_aload_n hx hb dX4_setGroup_47 rfl (lv_at hl 0 rfl) ?_
          refine va_get (D := D) (ci := 4) (v := .ref (X 1)) (C := RX4) (T := TX4) (N := 7) hx hb hts i4 hown hK hP 0 rfl rfl 0 (by decide) fl_10 (fun _ h9 => h9) rfl dX4_setGroup_48 ?_
          refine lv_iload_n hx hb dX4_setGroup_51 rfl (lv_at hl 2 rfl) ?_
          refine z_top (nI ii) eii ?_
          refine lv_iload_n hx hb dX4_setGroup_52 rfl (lv_at hl 1 rfl) ?_
          refine z_top (nI gi) egi ?_
          refine z_callR (W.runV (As := [.int (nI ii), .int (nI gi)]) (rest := []) ⟨hx, hb, hml, hown, hts⟩ (kX1_isAround l D cI cZ X S O V ii gi (by omega) (by omega)) (cwV 2 hts gX4_setGroup_X1_isAround rfl rfl rfl (by decide +kernel) ⟨Nat.le_of_ble_eq_true rfl, Nat.le_of_ble_eq_true rfl⟩) (zR_preV 1 1 hK hP rfl rfl) rfl rfl hl.1 rfl (lv_room (Nat.le_of_ble_eq_true rfl)) dX4_setGroup_53 ⟨Nat.zero_le _, Nat.zero_le _⟩) ?_
          refine z_if_eq (tgt := 69) hx hb dX4_setGroup_56 (by decide) (fun c_56 => ?_) (fun c_56 => ?_)
          · refine lv_aload_n hx hb dX4_setGroup_69 rfl (lv_at hl 0 rfl) ?_
            refine va_get (D := D) (ci := 4) (v := .ref (X 1)) (C := RX4) (T := TX4) (N := 7) hx hb hts i4 hown hK hP 0 rfl rfl 0 (by decide) fl_10 (fun _ h9 => h9) rfl dX4_setGroup_70 ?_
            refine lv_iload_n hx hb dX4_setGroup_73 rfl (lv_at hl 1 rfl) ?_
            refine z_top (nI gi) egi ?_
            refine lv_iload_n hx hb dX4_setGroup_74 rfl (lv_at hl 2 rfl) ?_
            refine z_top (nI ii) eii ?_
            refine lv_iload_n hx hb dX4_setGroup_75 rfl (lv_at hl 3 rfl) ?_
            have hF := z_free hD hS hA
            refine z_callWi (va_runV (As := [.int (nI gi), .int (nI ii), .int (bi b0)]) (rest := []) ⟨hx, hb, hml, hown, hts⟩ (kX1_placeGroup l D cI cZ X S O V _ gi ii b0 (by omega) (by omega)) (cwV 3 hts gX4_setGroup_X1_placeGroup rfl rfl rfl (by decide +kernel) ⟨Nat.le_of_ble_eq_true rfl, Nat.le_of_ble_eq_true rfl⟩) (zW_preV 1 1 hK hP hD rfl rfl) rfl rfl hl.1 rfl (lv_room (Nat.le_of_ble_eq_true rfl)) dX4_setGroup_76 ⟨Nat.zero_le _, Nat.zero_le _⟩) hS hF (fun H locs hP hD hS => ?_)
            have eS : (va_up S 8 (upd (S 8) (ix x1) (c_changed (S 8 (ix x1)) (nI (ix x0)) b0))) = (va_up S 8 (upd (S 8) ii (c_changed (S 8 ii) (nI gi) b0))) := by simp [c_sgK, bi, c_6, xgi, c_15, xii, c_30, c_44, c_56]
            exact z_tzret hx hb hr hlocks (by rw [eS]; exact hP) hK (by rw [eS]; exact hD) hS (by simp [c_sgK, c_6, xgi, c_15, xii, c_30, c_44, c_56]) (by simp [c_sgK, bi, c_6, xgi, c_15, xii, c_30, c_44, c_56]) dX4_setGroup_79
          · exact z_throw (cls := "java/lang/IllegalStateException") (text := "a group would be in itself") (ik := 70) (is := 72) (ic := 74) hx hb hl0 hown zxS_fit xk70 xi70 (fun w hw => hts w (xa70 w hw)) zxS_bad zxS_ot hZ (by decide +kernel) hS (by rw [hml]; exact hl.1) dX4_setGroup_59 dX4_setGroup_62 dX4_setGroup_63 dX4_setGroup_65 dX4_setGroup_68 htb (by decide) (by decide) (by decide) (by decide) hlocks hP hK hD (Or.inr ⟨by simp [c_sgK, c_6, xgi, c_15, xii, c_30, c_44, c_56], rfl⟩)
      · exact z_throw (cls := "java/lang/IllegalArgumentException") (text := "group and inner are the same") (ik := 52) (is := 65) (ic := 56) hx hb hl0 hown zxI_fit xk52 xi52 (fun w hw => hts w (xa52 w hw)) zxI_bad zxI_ot hZ (by decide +kernel) hS (by rw [hml]; exact hl.1) dX4_setGroup_33 dX4_setGroup_36 dX4_setGroup_37 dX4_setGroup_39 dX4_setGroup_42 htb (by decide) (by decide) (by decide) (by decide) hlocks hP hK hD (Or.inl ⟨by simp [c_sgK, c_6, xgi, c_15, xii, (eq_true c_30)], rfl⟩)
    · exact z_throw (cls := "java/lang/IllegalArgumentException") (text := "group or inner is out of range") (ik := 52) (is := 63) (ic := 56) hx hb hl0 hown zxI_fit xk52 xi52 (fun w hw => hts w (xa52 w hw)) zxI_bad zxI_ot hZ (by decide +kernel) hS (by rw [hml]; exact hl.1) dX4_setGroup_18 dX4_setGroup_21 dX4_setGroup_22 dX4_setGroup_24 dX4_setGroup_27 htb (by decide) (by decide) (by decide) (by decide) hlocks hP hK hD (Or.inl ⟨by simp [c_sgK, c_6, xgi, c_15], rfl⟩)

set_option maxHeartbeats 4000000 in
set_option maxRecDepth 100000 in
theorem kX4_open (l : Launch) (hl0 : l.stackTraces = false) (D : va_G) (cI cZ : ClassId) (X : Nat → Nat) (S : Nat → Nat → Int32) (O : Nat → Bool) (V : Nat → Int32) (sz : Nat) (x0 : Int32) (n0 : Nat) (hn0 : n0 ≤ 30) (hct : V 1 = nI n0) : vx_Met l yX4_open wsX4_open ({ frames := 6, cells := 1, slots := 6, locals := 90 } : Room) (zT D (tyl cI cZ) (hW cI cZ X S O V) sz [.ref (X 0), .int x0]) (zTi D (tyl cI cZ) (hW cI cZ X (va_up (va_up (va_up (va_up S 11 (upd (S 11) n0 x0)) 12 (upd (S 12) n0 (V 2))) 13 (upd (S 13) n0 (V 0))) 14 (upd (S 14) n0 (V 0))) O (va_up V 1 (V 1 + 1))) (c_opK S V x0) (nI n0) (va_A (hW cI cZ X S O V) sz)) (zXC D (tyl cI cZ) (hW cI cZ X S O V) (va_A (hW cI cZ X S O V) sz) (fun E => ((c_opK S V x0) = 1 ∧ E = "java/lang/IllegalArgumentException") ∨ ((c_opK S V x0) = 2 ∧ E = "java/lang/IllegalStateException"))) 1 6 (va_A (hW cI cZ X S O V) sz) := by
  refine vx_ofW (cc := cX4_open) (maxL := 2) (ret := (some .int)) (by decide) rfl ?_
  intro p e s m args below meth c s₁ B hml htb hv
  obtain ⟨rfl, hsz, hP, hK, hD0, hZ⟩ := hv
  have hx := B.exec
  have hb := B.bytes
  have hr := B.returns
  have hts := atoms_spec (ws := wsX4_open) B.pre
  have hown : s.vm.findClass RX4 = some m.cls := findClass_of_methodNamed B.named
  have hlocks := B.notSynchronized
  subst hsz
  have hD := hD0.self (sz := s.heap.size)
  generalize hAe : va_A (hW cI cZ X S O V) s.heap.size = A at hD hZ ⊢
  have hA : ∀ q : Nat, s.heap.size ≤ q → A q := fun q h => by rw [← hAe]; exact Or.inr h
  have hS : va_S A s.heap s.heap [] := va_S.rf
  have i4 : ∀ w ∈ u_ws RX4 TX4 7, w ∈ wsX4_open := by decide +kernel
  have fl_19 := hts (.fieldLink RX4 19 "SignOnHouse" "sessions" "LSignOnHouse$Sessions;") (by decide +kernel)
  have fl_26 := hts (.fieldLink RX4 26 "SignOnHouse" "keys" "LSignOnHouse$Keys;") (by decide +kernel)
  have fl_44 := hts (.fieldLink RX4 44 "SignOnHouse" "minute" "I") (by decide +kernel)
  have xk52 := hts (.classLink RX4 52 "java/lang/IllegalArgumentException") (by decide +kernel)
  have xi52 := hts (.initialized "java/lang/IllegalArgumentException") (by decide +kernel)
  have xa52 : ∀ w ∈ (vx_atS RX4 56 "java/lang/IllegalArgumentException" xnames).filter goodWord, w ∈ wsX4_open := by decide +kernel
  have xk70 := hts (.classLink RX4 70 "java/lang/IllegalStateException") (by decide +kernel)
  have xi70 := hts (.initialized "java/lang/IllegalStateException") (by decide +kernel)
  have xa70 : ∀ w ∈ (vx_atS RX4 74 "java/lang/IllegalStateException" xnames).filter goodWord, w ∈ wsX4_open := by decide +kernel
  have hl := lv_entry ([.ref (X 0), .int x0]) (n := 2) (Nat.le_of_ble_eq_true rfl)
  rw [lg_entry_eq]
  generalize (lg_sl ([.ref (X 0), .int x0]) ++ List.replicate (2 - (lg_sl ([.ref (X 0), .int x0])).length) Slot.unset).toArray = ls at hl ⊢
  have hl : lv_has ls 2 [(0, .ref (X 0)), (1, .int x0)] := hl
  refine lv_iload_n hx hb dX4_open_0 rfl (lv_at hl 1 rfl) ?_
  refine lv_bipush (v := 10) hx hb dX4_open_1 (by decide) ?_
  refine z_callR (W.runS (As := [.int x0, .int 10]) (rest := []) ⟨hx, hb, hml, hown, hts⟩ (kX4_isOutside l x0 10) (va_cwS 2 hts gX4_open_X4_isOutside rfl rfl rfl (by decide +kernel) ⟨Nat.le_of_ble_eq_true rfl, Nat.le_of_ble_eq_true rfl⟩) zP_pre rfl rfl hl.1 rfl (lv_room (Nat.le_of_ble_eq_true rfl)) dX4_open_3 ⟨Nat.zero_le _, Nat.zero_le _⟩) ?_
  refine z_if_eq (tgt := 19) hx hb dX4_open_6 (by decide) (fun c_6 => ?_) (fun c_6 => ?_)
  · obtain ⟨pi, hpi, epi⟩ := c_out10 c_6
    have xpi : ix x0 = pi := ix_of epi (by omega)
    refine lv_aload_n hx hb dX4_open_19 rfl (lv_at hl 0 rfl) ?_
    refine lv_iload_n hx hb dX4_open_20 rfl (lv_at hl 1 rfl) ?_
    refine z_top (nI pi) epi ?_
    refine z_callR (W.runV (As := [.int (nI pi)]) (rest := []) ⟨hx, hb, hml, hown, hts⟩ (kX4_isBarred l D cI cZ X S O V pi (by omega)) (cwV 1 hts gX4_open_X4_isBarred rfl rfl rfl (by decide +kernel) ⟨Nat.le_of_ble_eq_true rfl, Nat.le_of_ble_eq_true rfl⟩) (zR_preV 0 4 hK hP rfl rfl) rfl rfl hl.1 rfl (lv_room (Nat.le_of_ble_eq_true rfl)) dX4_open_21 ⟨Nat.zero_le _, Nat.zero_le _⟩) ?_
    refine z_if_eq (tgt := 37) hx hb dX4_open_24 (by decide) (fun c_24 => ?_) (fun c_24 => ?_)
    · refine lv_aload_n hx hb dX4_open_37 rfl (lv_at hl 0 rfl) ?_
      refine va_get (D := D) (ci := 4) (v := .ref (X 2)) (C := RX4) (T := TX4) (N := 7) hx hb hts i4 hown hK hP 0 rfl rfl 1 (by decide) fl_19 (fun _ h9 => h9) rfl dX4_open_38 ?_
      refine z_callR (W.runV (As := []) (rest := []) ⟨hx, hb, hml, hown, hts⟩ (kX3_areAllOpened l D cI cZ X S O V ) (cwV 0 hts gX4_open_X3_areAllOpened rfl rfl rfl (by decide +kernel) ⟨Nat.le_of_ble_eq_true rfl, Nat.le_of_ble_eq_true rfl⟩) (zR_preV 2 3 hK hP rfl rfl) rfl rfl hl.1 rfl (lv_room (Nat.le_of_ble_eq_true rfl)) dX4_open_41 ⟨Nat.zero_le _, Nat.zero_le _⟩) ?_
      refine z_if_eq (tgt := 57) hx hb dX4_open_44 (by decide) (fun c_44 => ?_) (fun c_44 => ?_)
      · have hn : n0 < 30 := by
          rcases Nat.lt_or_ge n0 30 with h | h
          · exact h
          · exact absurd (nd_f c_44) (by rw [hct, show n0 = 30 by omega]; decide)
        refine lv_aload_n hx hb dX4_open_57 rfl (lv_at hl 0 rfl) ?_
        refine va_get (D := D) (ci := 4) (v := .ref (X 2)) (C := RX4) (T := TX4) (N := 7) hx hb hts i4 hown hK hP 0 rfl rfl 1 (by decide) fl_19 (fun _ h9 => h9) rfl dX4_open_58 ?_
        refine lv_iload_n hx hb dX4_open_61 rfl (lv_at hl 1 rfl) ?_
        refine lv_aload_n hx hb dX4_open_62 rfl (lv_at hl 0 rfl) ?_
        refine va_get (D := D) (ci := 4) (v := .ref (X 3)) (C := RX4) (T := TX4) (N := 7) hx hb hts i4 hown hK hP 0 rfl rfl 2 (by decide) fl_26 (fun _ h9 => h9) rfl dX4_open_63 ?_
        refine z_callR (W.runV (As := []) (rest := [.int x0, .ref (X 2)]) ⟨hx, hb, hml, hown, hts⟩ (kX2_signing l D cI cZ X S O V ) (cwV 0 hts gX4_open_X2_signing rfl rfl rfl (by decide +kernel) ⟨Nat.le_of_ble_eq_true rfl, Nat.le_of_ble_eq_true rfl⟩) (zR_preV 3 2 hK hP rfl rfl) rfl rfl hl.1 rfl (lv_room (Nat.le_of_ble_eq_true rfl)) dX4_open_66 ⟨Nat.zero_le _, Nat.zero_le _⟩) ?_
        refine lv_aload_n hx hb dX4_open_69 rfl (lv_at hl 0 rfl) ?_
        refine va_get (D := D) (ci := 4) (v := .int (V 0)) (C := RX4) (T := TX4) (N := 7) hx hb hts i4 hown hK hP 0 rfl rfl 6 (by decide) fl_44 (fun _ h9 => h9) rfl dX4_open_70 ?_
        have hF := z_free hD hS hA
        refine z_callWi (va_runV (As := [.int x0, .int (V 2), .int (V 0)]) (rest := []) ⟨hx, hb, hml, hown, hts⟩ (kX3_add l D cI cZ X S O V _ x0 (V 2) (V 0) n0 hn hct) (cwV 3 hts gX4_open_X3_add rfl rfl rfl (by decide +kernel) ⟨Nat.le_of_ble_eq_true rfl, Nat.le_of_ble_eq_true rfl⟩) (zW_preV 2 3 hK hP hD rfl rfl) rfl rfl hl.1 rfl (lv_room (Nat.le_of_ble_eq_true rfl)) dX4_open_73 ⟨Nat.zero_le _, Nat.zero_le _⟩) hS hF (fun H locs hP hD hS => ?_)
        exact z_tret hx hb hr hlocks hP hK hD hS (by simp [c_opK, c_6, xpi, (of_decide_eq_false c_24), (eq_true (nd_f c_44))]) rfl dX4_open_76
      · exact z_throw (cls := "java/lang/IllegalStateException") (text := "no more sessions can be opened") (ik := 70) (is := 113) (ic := 74) hx hb hl0 hown zxS_fit xk70 xi70 (fun w hw => hts w (xa70 w hw)) zxS_bad zxS_ot hZ (by decide +kernel) hS (by rw [hml]; exact hl.1) dX4_open_47 dX4_open_50 dX4_open_51 dX4_open_53 dX4_open_56 htb (by decide) (by decide) (by decide) (by decide) hlocks hP hK hD (Or.inr ⟨by simp [c_opK, c_6, xpi, (of_decide_eq_false c_24), (nd_t c_44)], rfl⟩)
    · exact z_throw (cls := "java/lang/IllegalStateException") (text := "the account is barred") (ik := 70) (is := 107) (ic := 74) hx hb hl0 hown zxS_fit xk70 xi70 (fun w hw => hts w (xa70 w hw)) zxS_bad zxS_ot hZ (by decide +kernel) hS (by rw [hml]; exact hl.1) dX4_open_27 dX4_open_30 dX4_open_31 dX4_open_33 dX4_open_36 htb (by decide) (by decide) (by decide) (by decide) hlocks hP hK hD (Or.inr ⟨by simp [c_opK, c_6, xpi, (eq_true (of_decide_eq_true c_24))], rfl⟩)
  · exact z_throw (cls := "java/lang/IllegalArgumentException") (text := "person is out of range") (ik := 52) (is := 101) (ic := 56) hx hb hl0 hown zxI_fit xk52 xi52 (fun w hw => hts w (xa52 w hw)) zxI_bad zxI_ot hZ (by decide +kernel) hS (by rw [hml]; exact hl.1) dX4_open_9 dX4_open_12 dX4_open_13 dX4_open_15 dX4_open_18 htb (by decide) (by decide) (by decide) (by decide) hlocks hP hK hD (Or.inl ⟨by simp [c_opK, c_6], rfl⟩)

set_option maxHeartbeats 4000000 in
set_option maxRecDepth 100000 in
theorem kX4_close (l : Launch) (hl0 : l.stackTraces = false) (D : va_G) (cI cZ : ClassId) (X : Nat → Nat) (S : Nat → Nat → Int32) (O : Nat → Bool) (V : Nat → Int32) (sz : Nat) (x0 : Int32) (n0 : Nat) (hn0 : n0 ≤ 30) (hct : V 1 = nI n0) : vx_Met l yX4_close wsX4_close ({ frames := 6, cells := 1, slots := 6, locals := 90 } : Room) (zT D (tyl cI cZ) (hW cI cZ X S O V) sz [.ref (X 0), .int x0]) (zTi D (tyl cI cZ) (hW cI cZ X S (va_up O (ix x0) true) V) (c_clK O V x0) (V 0 - S 13 (ix x0)) (va_A (hW cI cZ X S O V) sz)) (zXC D (tyl cI cZ) (hW cI cZ X S O V) (va_A (hW cI cZ X S O V) sz) (fun E => ((c_clK O V x0) = 1 ∧ E = "java/lang/IndexOutOfBoundsException") ∨ ((c_clK O V x0) = 2 ∧ E = "java/lang/IllegalStateException"))) 1 6 (va_A (hW cI cZ X S O V) sz) := by
  refine vx_ofW (cc := cX4_close) (maxL := 2) (ret := (some .int)) (by decide) rfl ?_
  intro p e s m args below meth c s₁ B hml htb hv
  obtain ⟨rfl, hsz, hP, hK, hD0, hZ⟩ := hv
  have hx := B.exec
  have hb := B.bytes
  have hr := B.returns
  have hts := atoms_spec (ws := wsX4_close) B.pre
  have hown : s.vm.findClass RX4 = some m.cls := findClass_of_methodNamed B.named
  have hlocks := B.notSynchronized
  subst hsz
  have hD := hD0.self (sz := s.heap.size)
  generalize hAe : va_A (hW cI cZ X S O V) s.heap.size = A at hD hZ ⊢
  have hA : ∀ q : Nat, s.heap.size ≤ q → A q := fun q h => by rw [← hAe]; exact Or.inr h
  have hS : va_S A s.heap s.heap [] := va_S.rf
  have i4 : ∀ w ∈ u_ws RX4 TX4 7, w ∈ wsX4_close := by decide +kernel
  have fl_19 := hts (.fieldLink RX4 19 "SignOnHouse" "sessions" "LSignOnHouse$Sessions;") (by decide +kernel)
  have fl_44 := hts (.fieldLink RX4 44 "SignOnHouse" "minute" "I") (by decide +kernel)
  have xk70 := hts (.classLink RX4 70 "java/lang/IllegalStateException") (by decide +kernel)
  have xi70 := hts (.initialized "java/lang/IllegalStateException") (by decide +kernel)
  have xa70 : ∀ w ∈ (vx_atS RX4 74 "java/lang/IllegalStateException" xnames).filter goodWord, w ∈ wsX4_close := by decide +kernel
  have xk125 := hts (.classLink RX4 125 "java/lang/IndexOutOfBoundsException") (by decide +kernel)
  have xi125 := hts (.initialized "java/lang/IndexOutOfBoundsException") (by decide +kernel)
  have xa125 : ∀ w ∈ (vx_atS RX4 129 "java/lang/IndexOutOfBoundsException" xnames).filter goodWord, w ∈ wsX4_close := by decide +kernel
  have hl := lv_entry ([.ref (X 0), .int x0]) (n := 2) (Nat.le_of_ble_eq_true rfl)
  rw [lg_entry_eq]
  generalize (lg_sl ([.ref (X 0), .int x0]) ++ List.replicate (2 - (lg_sl ([.ref (X 0), .int x0])).length) Slot.unset).toArray = ls at hl ⊢
  have hl : lv_has ls 2 [(0, .ref (X 0)), (1, .int x0)] := hl
  refine lv_aload_n hx hb dX4_close_0 rfl (lv_at hl 0 rfl) ?_
  refine va_get (D := D) (ci := 4) (v := .ref (X 2)) (C := RX4) (T := TX4) (N := 7) hx hb hts i4 hown hK hP 0 rfl rfl 1 (by decide) fl_19 (fun _ h9 => h9) rfl dX4_close_1 ?_
  refine lv_iload_n hx hb dX4_close_4 rfl (lv_at hl 1 rfl) ?_
  refine z_callR (W.runV (As := [.int x0]) (rest := []) ⟨hx, hb, hml, hown, hts⟩ (kX3_has l D cI cZ X S O V x0) (cwV 1 hts gX4_close_X3_has rfl rfl rfl (by decide +kernel) ⟨Nat.le_of_ble_eq_true rfl, Nat.le_of_ble_eq_true rfl⟩) (zR_preV 2 3 hK hP rfl rfl) rfl rfl hl.1 rfl (lv_room (Nat.le_of_ble_eq_true rfl)) dX4_close_5 ⟨Nat.zero_le _, Nat.zero_le _⟩) ?_
  refine z_if_ne (tgt := 21) hx hb dX4_close_8 (by decide) (fun c_8 => ?_) (fun c_8 => ?_)
  · obtain ⟨si, hsi, esi⟩ := c_hasN c_8 hct hn0
    have xsi : ix x0 = si := ix_of esi (by omega)
    refine lv_aload_n hx hb dX4_close_21 rfl (lv_at hl 0 rfl) ?_
    refine va_get (D := D) (ci := 4) (v := .ref (X 2)) (C := RX4) (T := TX4) (N := 7) hx hb hts i4 hown hK hP 0 rfl rfl 1 (by decide) fl_19 (fun _ h9 => h9) rfl dX4_close_22 ?_
    refine lv_iload_n hx hb dX4_close_25 rfl (lv_at hl 1 rfl) ?_
    refine z_top (nI si) esi ?_
    refine z_callR (W.runV (As := [.int (nI si)]) (rest := []) ⟨hx, hb, hml, hown, hts⟩ (kX3_isOver l D cI cZ X S O V si (by omega)) (cwV 1 hts gX4_close_X3_isOver rfl rfl rfl (by decide +kernel) ⟨Nat.le_of_ble_eq_true rfl, Nat.le_of_ble_eq_true rfl⟩) (zR_preV 2 3 hK hP rfl rfl) rfl rfl hl.1 rfl (lv_room (Nat.le_of_ble_eq_true rfl)) dX4_close_26 ⟨Nat.zero_le _, Nat.zero_le _⟩) ?_
    refine z_if_eq (tgt := 42) hx hb dX4_close_29 (by decide) (fun c_29 => ?_) (fun c_29 => ?_)
    · refine lv_aload_n hx hb dX4_close_42 rfl (lv_at hl 0 rfl) ?_
      refine va_get (D := D) (ci := 4) (v := .ref (X 2)) (C := RX4) (T := TX4) (N := 7) hx hb hts i4 hown hK hP 0 rfl rfl 1 (by decide) fl_19 (fun _ h9 => h9) rfl dX4_close_43 ?_
      refine lv_iload_n hx hb dX4_close_46 rfl (lv_at hl 1 rfl) ?_
      refine z_top (nI si) esi ?_
      have hF := z_free hD hS hA
      refine z_callWv (va_runV (As := [.int (nI si)]) (rest := []) ⟨hx, hb, hml, hown, hts⟩ (kX3_end l D cI cZ X S O V _ si (by omega)) (cwV 1 hts gX4_close_X3_end rfl rfl rfl (by decide +kernel) ⟨Nat.le_of_ble_eq_true rfl, Nat.le_of_ble_eq_true rfl⟩) (zW_preV 2 3 hK hP hD rfl rfl) rfl rfl hl.1 rfl (lv_room (Nat.le_of_ble_eq_true rfl)) dX4_close_47 ⟨Nat.zero_le _, Nat.zero_le _⟩) hS hF (fun H locs hP hD hS => ?_)
      refine lv_aload_n hx hb dX4_close_50 rfl (lv_at hl 0 rfl) ?_
      refine va_get (D := D) (ci := 4) (v := .ref (X 2)) (C := RX4) (T := TX4) (N := 7) hx hb hts i4 hown hK hP 0 rfl rfl 1 (by decide) fl_19 (fun _ h9 => h9) rfl dX4_close_51 ?_
      refine lv_iload_n hx hb dX4_close_54 rfl (lv_at hl 1 rfl) ?_
      refine z_top (nI si) esi ?_
      refine lv_aload_n hx hb dX4_close_55 rfl (lv_at hl 0 rfl) ?_
      refine va_get (D := D) (ci := 4) (v := .int (V 0)) (C := RX4) (T := TX4) (N := 7) hx hb hts i4 hown hK hP 0 rfl rfl 6 (by decide) fl_44 (fun _ h9 => h9) rfl dX4_close_56 ?_
      refine z_callR (W.runV (As := [.int (nI si), .int (V 0)]) (rest := []) ⟨hx, hb, hml, hown, hts⟩ (kX3_age l D cI cZ X S (va_up O si true) V si (V 0) (by omega)) (cwV 2 hts gX4_close_X3_age rfl rfl rfl (by decide +kernel) ⟨Nat.le_of_ble_eq_true rfl, Nat.le_of_ble_eq_true rfl⟩) (zR_preV 2 3 hK hP rfl rfl) rfl rfl hl.1 rfl (lv_room (Nat.le_of_ble_eq_true rfl)) dX4_close_59 ⟨Nat.zero_le _, Nat.zero_le _⟩) ?_
      have eO : (va_up O (ix x0) true) = (va_up O si true) := by simp [c_clK, bi, c_8, xsi, c_29]
      exact z_tret hx hb hr hlocks (by rw [eO]; exact hP) hK (by rw [eO]; exact hD) hS (by simp [c_clK, c_8, xsi, c_29]) (by simp [c_clK, bi, c_8, xsi, c_29]) dX4_close_62
    · exact z_throw (cls := "java/lang/IllegalStateException") (text := "the session is over") (ik := 70) (is := 133) (ic := 74) hx hb hl0 hown zxS_fit xk70 xi70 (fun w hw => hts w (xa70 w hw)) zxS_bad zxS_ot hZ (by decide +kernel) hS (by rw [hml]; exact hl.1) dX4_close_32 dX4_close_35 dX4_close_36 dX4_close_38 dX4_close_41 htb (by decide) (by decide) (by decide) (by decide) hlocks hP hK hD (Or.inr ⟨by simp [c_clK, c_8, xsi, c_29], rfl⟩)
  · exact z_throw (cls := "java/lang/IndexOutOfBoundsException") (text := "there is no such session") (ik := 125) (is := 127) (ic := 129) hx hb hl0 hown zxB_fit xk125 xi125 (fun w hw => hts w (xa125 w hw)) zxB_bad zxB_ot hZ (by decide +kernel) hS (by rw [hml]; exact hl.1) dX4_close_11 dX4_close_14 dX4_close_15 dX4_close_17 dX4_close_20 htb (by decide) (by decide) (by decide) (by decide) hlocks hP hK hD (Or.inl ⟨by simp [c_clK, c_8], rfl⟩)

set_option maxHeartbeats 4000000 in
set_option maxRecDepth 100000 in
theorem kX4_breakGlass (l : Launch) (hl0 : l.stackTraces = false) (D : va_G) (cI cZ : ClassId) (X : Nat → Nat) (S : Nat → Nat → Int32) (O : Nat → Bool) (V : Nat → Int32) (sz : Nat) (x0 : Int32) (x1 : Int32) (x2 : Int32) (x3 : Int32) : vx_Met l yX4_breakGlass wsX4_breakGlass ({ frames := 6, cells := 1, slots := 6, locals := 111 } : Room) (zT D (tyl cI cZ) (hW cI cZ X S O V) sz [.ref (X 0), .int x0, .int x1, .int x2, .int x3]) (zTi D (tyl cI cZ) (hW cI cZ X (va_up S 6 (upd (S 6) (ix x0 * 6 + ix x1) (V 0 + 60))) O V) (c_bgK S x0 x1 x2 x3) (V 0 + 60) (va_A (hW cI cZ X S O V) sz)) (zXC D (tyl cI cZ) (hW cI cZ X S O V) (va_A (hW cI cZ X S O V) sz) (fun E => ((c_bgK S x0 x1 x2 x3) = 1 ∧ E = "java/lang/IllegalArgumentException") ∨ ((c_bgK S x0 x1 x2 x3) = 2 ∧ E = "java/lang/IllegalStateException"))) 1 6 (va_A (hW cI cZ X S O V) sz) := by
  refine vx_ofW (cc := cX4_breakGlass) (maxL := 6) (ret := (some .int)) (by decide) rfl ?_
  intro p e s m args below meth c s₁ B hml htb hv
  obtain ⟨rfl, hsz, hP, hK, hD0, hZ⟩ := hv
  have hx := B.exec
  have hb := B.bytes
  have hr := B.returns
  have hts := atoms_spec (ws := wsX4_breakGlass) B.pre
  have hown : s.vm.findClass RX4 = some m.cls := findClass_of_methodNamed B.named
  have hlocks := B.notSynchronized
  subst hsz
  have hD := hD0.self (sz := s.heap.size)
  generalize hAe : va_A (hW cI cZ X S O V) s.heap.size = A at hD hZ ⊢
  have hA : ∀ q : Nat, s.heap.size ≤ q → A q := fun q h => by rw [← hAe]; exact Or.inr h
  have hS : va_S A s.heap s.heap [] := va_S.rf
  have i4 : ∀ w ∈ u_ws RX4 TX4 7, w ∈ wsX4_breakGlass := by decide +kernel
  have fl_41 := hts (.fieldLink RX4 41 "SignOnHouse" "glassEnds" "[I") (by decide +kernel)
  have fl_44 := hts (.fieldLink RX4 44 "SignOnHouse" "minute" "I") (by decide +kernel)
  have xk52 := hts (.classLink RX4 52 "java/lang/IllegalArgumentException") (by decide +kernel)
  have xi52 := hts (.initialized "java/lang/IllegalArgumentException") (by decide +kernel)
  have xa52 : ∀ w ∈ (vx_atS RX4 56 "java/lang/IllegalArgumentException" xnames).filter goodWord, w ∈ wsX4_breakGlass := by decide +kernel
  have xk70 := hts (.classLink RX4 70 "java/lang/IllegalStateException") (by decide +kernel)
  have xi70 := hts (.initialized "java/lang/IllegalStateException") (by decide +kernel)
  have xa70 : ∀ w ∈ (vx_atS RX4 74 "java/lang/IllegalStateException" xnames).filter goodWord, w ∈ wsX4_breakGlass := by decide +kernel
  have hl := lv_entry ([.ref (X 0), .int x0, .int x1, .int x2, .int x3]) (n := 6) (Nat.le_of_ble_eq_true rfl)
  rw [lg_entry_eq]
  generalize (lg_sl ([.ref (X 0), .int x0, .int x1, .int x2, .int x3]) ++ List.replicate (6 - (lg_sl ([.ref (X 0), .int x0, .int x1, .int x2, .int x3])).length) Slot.unset).toArray = ls at hl ⊢
  have hl : lv_has ls 6 [(0, .ref (X 0)), (1, .int x0), (2, .int x1), (3, .int x2), (4, .int x3)] := hl
  refine lv_iload_n hx hb dX4_breakGlass_0 rfl (lv_at hl 1 rfl) ?_
  refine lv_bipush (v := 10) hx hb dX4_breakGlass_1 (by decide) ?_
  refine z_callR (W.runS (As := [.int x0, .int 10]) (rest := []) ⟨hx, hb, hml, hown, hts⟩ (kX4_isOutside l x0 10) (va_cwS 2 hts gX4_breakGlass_X4_isOutside rfl rfl rfl (by decide +kernel) ⟨Nat.le_of_ble_eq_true rfl, Nat.le_of_ble_eq_true rfl⟩) zP_pre rfl rfl hl.1 rfl (lv_room (Nat.le_of_ble_eq_true rfl)) dX4_breakGlass_3 ⟨Nat.zero_le _, Nat.zero_le _⟩) ?_
  refine z_if_ne (tgt := 18) hx hb dX4_breakGlass_6 (by decide) (fun c_6 => ?_) (fun c_6 => ?_)
  · exact z_throw (cls := "java/lang/IllegalArgumentException") (text := "person or role is out of range") (ik := 52) (is := 95) (ic := 56) hx hb hl0 hown zxI_fit xk52 xi52 (fun w hw => hts w (xa52 w hw)) zxI_bad zxI_ot hZ (by decide +kernel) hS (by rw [hml]; exact hl.1) dX4_breakGlass_18 dX4_breakGlass_21 dX4_breakGlass_22 dX4_breakGlass_24 dX4_breakGlass_27 htb (by decide) (by decide) (by decide) (by decide) hlocks hP hK hD (Or.inl ⟨by simp [c_bgK, c_6], rfl⟩)
  · obtain ⟨pi, hpi, epi⟩ := c_out10 c_6
    have xpi : ix x0 = pi := ix_of epi (by omega)
    refine lv_iload_n hx hb dX4_breakGlass_9 rfl (lv_at hl 2 rfl) ?_
    refine lv_bipush (v := 6) hx hb dX4_breakGlass_10 (by decide) ?_
    refine z_callR (W.runS (As := [.int x1, .int 6]) (rest := []) ⟨hx, hb, hml, hown, hts⟩ (kX4_isOutside l x1 6) (va_cwS 2 hts gX4_breakGlass_X4_isOutside rfl rfl rfl (by decide +kernel) ⟨Nat.le_of_ble_eq_true rfl, Nat.le_of_ble_eq_true rfl⟩) zP_pre rfl rfl hl.1 rfl (lv_room (Nat.le_of_ble_eq_true rfl)) dX4_breakGlass_12 ⟨Nat.zero_le _, Nat.zero_le _⟩) ?_
    refine z_if_eq (tgt := 28) hx hb dX4_breakGlass_15 (by decide) (fun c_15 => ?_) (fun c_15 => ?_)
    · obtain ⟨ri, hri, eri⟩ := c_out6 c_15
      have xri : ix x1 = ri := ix_of eri (by omega)
      refine lv_iload_n hx hb dX4_breakGlass_28 rfl (lv_at hl 3 rfl) ?_
      refine lv_bipush (v := 10) hx hb dX4_breakGlass_29 (by decide) ?_
      refine z_callR (W.runS (As := [.int x2, .int 10]) (rest := []) ⟨hx, hb, hml, hown, hts⟩ (kX4_isOutside l x2 10) (va_cwS 2 hts gX4_breakGlass_X4_isOutside rfl rfl rfl (by decide +kernel) ⟨Nat.le_of_ble_eq_true rfl, Nat.le_of_ble_eq_true rfl⟩) zP_pre rfl rfl hl.1 rfl (lv_room (Nat.le_of_ble_eq_true rfl)) dX4_breakGlass_31 ⟨Nat.zero_le _, Nat.zero_le _⟩) ?_
      refine z_if_ne (tgt := 47) hx hb dX4_breakGlass_34 (by decide) (fun c_34 => ?_) (fun c_34 => ?_)
      · exact z_throw (cls := "java/lang/IllegalArgumentException") (text := "a witness is out of range") (ik := 52) (is := 159) (ic := 56) hx hb hl0 hown zxI_fit xk52 xi52 (fun w hw => hts w (xa52 w hw)) zxI_bad zxI_ot hZ (by decide +kernel) hS (by rw [hml]; exact hl.1) dX4_breakGlass_47 dX4_breakGlass_50 dX4_breakGlass_51 dX4_breakGlass_53 dX4_breakGlass_56 htb (by decide) (by decide) (by decide) (by decide) hlocks hP hK hD (Or.inl ⟨by simp [c_bgK, c_6, xpi, c_15, xri, c_34], rfl⟩)
      · obtain ⟨oi, hoi, eoi⟩ := c_out10 c_34
        have xoi : ix x2 = oi := ix_of eoi (by omega)
        refine lv_iload hx hb dX4_breakGlass_37 (lv_at hl 4 rfl) ?_
        refine lv_bipush (v := 10) hx hb dX4_breakGlass_39 (by decide) ?_
        refine z_callR (W.runS (As := [.int x3, .int 10]) (rest := []) ⟨hx, hb, hml, hown, hts⟩ (kX4_isOutside l x3 10) (va_cwS 2 hts gX4_breakGlass_X4_isOutside rfl rfl rfl (by decide +kernel) ⟨Nat.le_of_ble_eq_true rfl, Nat.le_of_ble_eq_true rfl⟩) zP_pre rfl rfl hl.1 rfl (lv_room (Nat.le_of_ble_eq_true rfl)) dX4_breakGlass_41 ⟨Nat.zero_le _, Nat.zero_le _⟩) ?_
        refine z_if_eq (tgt := 57) hx hb dX4_breakGlass_44 (by decide) (fun c_44 => ?_) (fun c_44 => ?_)
        · obtain ⟨ti, hti, eti⟩ := c_out10 c_44
          have xti : ix x3 = ti := ix_of eti (by omega)
          refine lv_iload_n hx hb dX4_breakGlass_57 rfl (lv_at hl 1 rfl) ?_
          refine lv_iload_n hx hb dX4_breakGlass_58 rfl (lv_at hl 3 rfl) ?_
          refine lv_icmp_eq (tgt := 74) hx hb dX4_breakGlass_59 (by decide) (fun c_59 => ?_) (fun c_59 => ?_)
          · exact z_throw (cls := "java/lang/IllegalArgumentException") (text := "two of the three people are the same") (ik := 52) (is := 161) (ic := 56) hx hb hl0 hown zxI_fit xk52 xi52 (fun w hw => hts w (xa52 w hw)) zxI_bad zxI_ot hZ (by decide +kernel) hS (by rw [hml]; exact hl.1) dX4_breakGlass_74 dX4_breakGlass_77 dX4_breakGlass_78 dX4_breakGlass_80 dX4_breakGlass_83 htb (by decide) (by decide) (by decide) (by decide) hlocks hP hK hD (Or.inl ⟨by simp [c_bgK, c_6, xpi, c_15, xri, c_34, xoi, c_44, xti, (eq_true c_59)], rfl⟩)
          · refine lv_iload_n hx hb dX4_breakGlass_62 rfl (lv_at hl 1 rfl) ?_
            refine lv_iload hx hb dX4_breakGlass_63 (lv_at hl 4 rfl) ?_
            refine lv_icmp_eq (tgt := 74) hx hb dX4_breakGlass_65 (by decide) (fun c_65 => ?_) (fun c_65 => ?_)
            · exact z_throw (cls := "java/lang/IllegalArgumentException") (text := "two of the three people are the same") (ik := 52) (is := 161) (ic := 56) hx hb hl0 hown zxI_fit xk52 xi52 (fun w hw => hts w (xa52 w hw)) zxI_bad zxI_ot hZ (by decide +kernel) hS (by rw [hml]; exact hl.1) dX4_breakGlass_74 dX4_breakGlass_77 dX4_breakGlass_78 dX4_breakGlass_80 dX4_breakGlass_83 htb (by decide) (by decide) (by decide) (by decide) hlocks hP hK hD (Or.inl ⟨by simp [c_bgK, c_6, xpi, c_15, xri, c_34, xoi, c_44, xti, c_59, (eq_true c_65)], rfl⟩)
            · refine lv_iload_n hx hb dX4_breakGlass_68 rfl (lv_at hl 3 rfl) ?_
              refine lv_iload hx hb dX4_breakGlass_69 (lv_at hl 4 rfl) ?_
              refine lv_icmp_ne (tgt := 84) hx hb dX4_breakGlass_71 (by decide) (fun c_71 => ?_) (fun c_71 => ?_)
              · refine lv_aload_n hx hb dX4_breakGlass_84 rfl (lv_at hl 0 rfl) ?_
                refine lv_iload_n hx hb dX4_breakGlass_85 rfl (lv_at hl 3 rfl) ?_
                refine z_top (nI oi) eoi ?_
                refine lv_iload_n hx hb dX4_breakGlass_86 rfl (lv_at hl 2 rfl) ?_
                refine z_top (nI ri) eri ?_
                refine z_callR (W.runV (As := [.int (nI oi), .int (nI ri)]) (rest := []) ⟨hx, hb, hml, hown, hts⟩ (kX4_servesAsWitness l D cI cZ X S O V oi ri (by omega) (by omega)) (cwV 2 hts gX4_breakGlass_X4_servesAsWitness rfl rfl rfl (by decide +kernel) ⟨Nat.le_of_ble_eq_true rfl, Nat.le_of_ble_eq_true rfl⟩) (zR_preV 0 4 hK hP rfl rfl) rfl rfl hl.1 rfl (lv_room (Nat.le_of_ble_eq_true rfl)) dX4_breakGlass_87 ⟨Nat.zero_le _, Nat.zero_le _⟩) ?_
                refine z_if_eq (tgt := 103) hx hb dX4_breakGlass_90 (by decide) (fun c_90 => ?_) (fun c_90 => ?_)
                · exact z_throw (cls := "java/lang/IllegalStateException") (text := "a witness does not serve") (ik := 70) (is := 166) (ic := 74) hx hb hl0 hown zxS_fit xk70 xi70 (fun w hw => hts w (xa70 w hw)) zxS_bad zxS_ot hZ (by decide +kernel) hS (by rw [hml]; exact hl.1) dX4_breakGlass_103 dX4_breakGlass_106 dX4_breakGlass_107 dX4_breakGlass_109 dX4_breakGlass_112 htb (by decide) (by decide) (by decide) (by decide) hlocks hP hK hD (Or.inr ⟨by simp [c_bgK, c_6, xpi, c_15, xri, c_34, xoi, c_44, xti, c_59, c_65, c_71, c_90], rfl⟩)
                · refine lv_aload_n hx hb dX4_breakGlass_93 rfl (lv_at hl 0 rfl) ?_
                  refine lv_iload hx hb dX4_breakGlass_94 (lv_at hl 4 rfl) ?_
                  refine z_top (nI ti) eti ?_
                  refine lv_iload_n hx hb dX4_breakGlass_96 rfl (lv_at hl 2 rfl) ?_
                  refine z_top (nI ri) eri ?_
                  refine z_callR (W.runV (As := [.int (nI ti), .int (nI ri)]) (rest := []) ⟨hx, hb, hml, hown, hts⟩ (kX4_servesAsWitness l D cI cZ X S O V ti ri (by omega) (by omega)) (cwV 2 hts gX4_breakGlass_X4_servesAsWitness rfl rfl rfl (by decide +kernel) ⟨Nat.le_of_ble_eq_true rfl, Nat.le_of_ble_eq_true rfl⟩) (zR_preV 0 4 hK hP rfl rfl) rfl rfl hl.1 rfl (lv_room (Nat.le_of_ble_eq_true rfl)) dX4_breakGlass_97 ⟨Nat.zero_le _, Nat.zero_le _⟩) ?_
                  refine z_if_ne (tgt := 113) hx hb dX4_breakGlass_100 (by decide) (fun c_100 => ?_) (fun c_100 => ?_)
                  · refine lv_aload_n hx hb dX4_breakGlass_113 rfl (lv_at hl 0 rfl) ?_
                    refine va_get (D := D) (ci := 4) (v := .int (V 0)) (C := RX4) (T := TX4) (N := 7) hx hb hts i4 hown hK hP 0 rfl rfl 6 (by decide) fl_44 (fun _ h9 => h9) rfl dX4_breakGlass_114 ?_
                    refine lv_bipush (v := 60) hx hb dX4_breakGlass_117 (by decide) ?_
                    refine lv_iadd hx hb dX4_breakGlass_119 ?_
                    refine lv_istore (lv' := [(5, .int ((V 0) + 60)), (0, .ref (X 0)), (1, .int x0), (2, .int x1), (3, .int x2), (4, .int x3)]) hx hb dX4_breakGlass_120 hl (by decide) rfl (fun ls hl => ?_)
                    refine lv_aload_n hx hb dX4_breakGlass_122 rfl (lv_at hl 1 rfl) ?_
                    refine va_get (D := D) (ci := 4) (v := .ref (X 6)) (C := RX4) (T := TX4) (N := 7) hx hb hts i4 hown hK hP 0 rfl rfl 5 (by decide) fl_41 (fun _ h9 => h9) rfl dX4_breakGlass_123 ?_
                    refine lv_iload_n hx hb dX4_breakGlass_126 rfl (lv_at hl 2 rfl) ?_
                    refine lv_bipush (v := 6) hx hb dX4_breakGlass_127 (by decide) ?_
                    refine lv_imul hx hb dX4_breakGlass_129 ?_
                    refine lv_iload_n hx hb dX4_breakGlass_130 rfl (lv_at hl 3 rfl) ?_
                    refine lv_iadd hx hb dX4_breakGlass_131 ?_
                    refine z_top (nI (pi * 6 + ri)) (by rw [epi, eri]; simp only [show (60 : Int32) = nI 60 from rfl, show (6 : Int32) = nI 6 from rfl, pk_mul, nI_add]) ?_
                    refine lv_iload hx hb dX4_breakGlass_132 (lv_at hl 0 rfl) ?_
                    refine z_iast (D := D) (j := pi * 6 + ri) (f := S 6) hx hb hK hP hD hS 6 0 rfl rfl (by omega) (by decide) dX4_breakGlass_134 (fun H locs hP hD hS => ?_)
                    have hP : va_P D vwCl (hW cI cZ X (va_up S 6 (upd (S 6) (pi * 6 + ri) ((V 0) + 60))) O V) H := hP
                    have hD : va_D A (hW cI cZ X (va_up S 6 (upd (S 6) (pi * 6 + ri) ((V 0) + 60))) O V) := hD
                    refine lv_iload hx hb dX4_breakGlass_135 (lv_at hl 0 rfl) ?_
                    have eS : (va_up S 6 (upd (S 6) (ix x0 * 6 + ix x1) (V 0 + 60))) = (va_up S 6 (upd (S 6) (pi * 6 + ri) ((V 0) + 60))) := by simp [c_bgK, bi, c_6, xpi, c_15, xri, c_34, xoi, c_44, xti, c_59, c_65, c_71, c_90, c_100]
                    exact z_tret hx hb hr hlocks (by rw [eS]; exact hP) hK (by rw [eS]; exact hD) hS (by simp [c_bgK, c_6, xpi, c_15, xri, c_34, xoi, c_44, xti, c_59, c_65, c_71, c_90, c_100]) (by simp [c_bgK, bi, c_6, xpi, c_15, xri, c_34, xoi, c_44, xti, c_59, c_65, c_71, c_90, c_100]) dX4_breakGlass_137
                  · exact z_throw (cls := "java/lang/IllegalStateException") (text := "a witness does not serve") (ik := 70) (is := 166) (ic := 74) hx hb hl0 hown zxS_fit xk70 xi70 (fun w hw => hts w (xa70 w hw)) zxS_bad zxS_ot hZ (by decide +kernel) hS (by rw [hml]; exact hl.1) dX4_breakGlass_103 dX4_breakGlass_106 dX4_breakGlass_107 dX4_breakGlass_109 dX4_breakGlass_112 htb (by decide) (by decide) (by decide) (by decide) hlocks hP hK hD (Or.inr ⟨by simp [c_bgK, c_6, xpi, c_15, xri, c_34, xoi, c_44, xti, c_59, c_65, c_71, c_90, c_100], rfl⟩)
              · exact z_throw (cls := "java/lang/IllegalArgumentException") (text := "two of the three people are the same") (ik := 52) (is := 161) (ic := 56) hx hb hl0 hown zxI_fit xk52 xi52 (fun w hw => hts w (xa52 w hw)) zxI_bad zxI_ot hZ (by decide +kernel) hS (by rw [hml]; exact hl.1) dX4_breakGlass_74 dX4_breakGlass_77 dX4_breakGlass_78 dX4_breakGlass_80 dX4_breakGlass_83 htb (by decide) (by decide) (by decide) (by decide) hlocks hP hK hD (Or.inl ⟨by simp [c_bgK, c_6, xpi, c_15, xri, c_34, xoi, c_44, xti, c_59, c_65, (eq_true c_71)], rfl⟩)
        · exact z_throw (cls := "java/lang/IllegalArgumentException") (text := "a witness is out of range") (ik := 52) (is := 159) (ic := 56) hx hb hl0 hown zxI_fit xk52 xi52 (fun w hw => hts w (xa52 w hw)) zxI_bad zxI_ot hZ (by decide +kernel) hS (by rw [hml]; exact hl.1) dX4_breakGlass_47 dX4_breakGlass_50 dX4_breakGlass_51 dX4_breakGlass_53 dX4_breakGlass_56 htb (by decide) (by decide) (by decide) (by decide) hlocks hP hK hD (Or.inl ⟨by simp [c_bgK, c_6, xpi, c_15, xri, c_34, xoi, c_44], rfl⟩)
    · exact z_throw (cls := "java/lang/IllegalArgumentException") (text := "person or role is out of range") (ik := 52) (is := 95) (ic := 56) hx hb hl0 hown zxI_fit xk52 xi52 (fun w hw => hts w (xa52 w hw)) zxI_bad zxI_ot hZ (by decide +kernel) hS (by rw [hml]; exact hl.1) dX4_breakGlass_18 dX4_breakGlass_21 dX4_breakGlass_22 dX4_breakGlass_24 dX4_breakGlass_27 htb (by decide) (by decide) (by decide) (by decide) hlocks hP hK hD (Or.inl ⟨by simp [c_bgK, c_6, xpi, c_15], rfl⟩)
end
section
/-! ===== what the law's own methods work out ===== -/
def l_low (x : Int32) (m : Nat) : Nat := (x.toBitVec.toNat % 2 ^ 31) % m
theorem l_low_eq {x : Int32} {m : Nat} (h0 : 0 < m) (h : m < 2 ^ 31) : (x &&& 2147483647) - (x &&& 2147483647) / nI m * nI m = nI (l_low x m) := by
  rw [pk_and x 31 (by decide)]
  exact pk_rem (Nat.mod_lt _ (by decide)) h0 h
def l_cell (L : Nat) (xs : Nat → Int32) (k : Nat) : Int32 := if k < L then xs k else 52387 * (nI k + 19) + 2008907
def l_rd (T : Nat → Nat → Int32) (w : Int32) : Nat → Int32
  | 0 => w
  | n + 1 => l_rd T w n ||| (if hasB w (nI n) = true then T 20 (4 + n) else 0)
def l_it (T : Nat → Nat → Int32) (w : Int32) : Nat → Int32
  | 0 => w
  | i + 1 => l_rd T (l_it T w i) 4
def l_bf (T : Nat → Nat → Int32) (w : Int32) : Nat → Int32
  | 0 => 0
  | i + 1 => l_it T w i
def l_mem (T : Nat → Nat → Int32) (x : Int32) (p : Nat) : Nat → Bool
  | 0 => false
  | n + 1 => l_mem T x p n || (hasB x (nI n) && hasB (T 20 n) (nI p))
/-- how many n hold -/
def l_num (G : Nat → Bool) : Nat → Int32
  | 0 => 0
  | n + 1 => l_num G n + bi (G n)
/-- a row whose marks are set where G holds -/
def l_upR (T : Nat → Nat → Int32) (G : Nat → Bool) : Nat → (Nat → Int32)
  | 0 => T 24
  | k + 1 => upd (l_upR T G k) (5 * k + 4) (if G k = true then 1 else T 24 (5 * k + 4))
theorem l_upR_ne (T : Nat → Nat → Int32) (G : Nat → Bool) {k i : Nat} (h : ∀ j : Nat, j < k → i ≠ 5 * j + 4) : l_upR T G k i = T 24 i := by
  induction k with
  | zero => rfl
  | succ k ih =>
    rw [l_upR, pk_un (h k (by omega))]
    exact ih (fun j hj => h j (by omega))
theorem l_upR_at (T : Nat → Nat → Int32) (G : Nat → Bool) {k j : Nat} (h : j < k) : l_upR T G k (5 * j + 4) = if G j = true then 1 else T 24 (5 * j + 4) := by
  induction k with
  | zero => omega
  | succ k ih =>
    rw [l_upR]
    by_cases e : j = k
    · subst e; rw [pk_us]
    · rw [pk_un (by omega)]; exact ih (by omega)
def l_what (S T : Nat → Nat → Int32) (p r n : Nat) : Int32 := if hasB (c_allA S (S 7 p) 8) (nI n) = true then T 21 (3 * n + r) else 0
def l_ser (S T : Nat → Nat → Int32) (p r : Nat) : Nat → Bool
  | 0 => false
  | n + 1 => l_ser S T p r n || (decide (T 21 (3 * n + r) = 1) && hasB (c_allA S (S 7 p) 8) (nI n))
def l_key (T : Nat → Nat → Int32) (k : Int32) : Bool := decide (k = T 19 2) || (decide (k + 1 = T 19 2) && !decide (T 19 3 ≤ T 19 0))
def l_en0 (T : Nat → Nat → Int32) (p j : Nat) : Int32 := T 24 (5 * j + 2) + 60 * (4 - T 22 p)
def l_en1 (T : Nat → Nat → Int32) (p j : Nat) : Int32 := if l_en0 T p j ≤ T 24 (5 * j + 3) + 30 then l_en0 T p j else T 24 (5 * j + 3) + 30
def l_goes (T : Nat → Nat → Int32) (j : Nat) : Bool := decide (T 24 (5 * j + 4) = 0) && (decide (l_en1 T (ix (T 24 (5 * j))) j ≤ T 19 0) || !l_key T (T 24 (5 * j + 1)))
def l_cuts (T : Nat → Nat → Int32) (x : Int32) (p j : Nat) : Bool := !decide (x ≤ T 22 p) && (decide (T 24 (5 * j) = nI p) && decide (T 24 (5 * j + 4) = 0))
def l_gp (T : Nat → Nat → Int32) (w : Int32) : Nat → Int32
  | 0 => w
  | n + 1 => l_gp T w n ||| (if hasB (l_gp T w n) (nI (n % 4)) = true then T 20 (4 + n % 4) else 0)
/-- a cache's row when its length goes from x to y -/
def l_caR (K : Nat → Int32) (t x y : Int32) (a : Nat) : Nat → (Nat → Int32)
  | 0 => K
  | i + 1 => upd (l_caR K t x y a i) (15 * a + i) (if K (15 * a + i) ≤ t then 0 else K (15 * a + i) - x + y)
theorem l_caR_ge (K : Nat → Int32) (t x y : Int32) (a : Nat) {n i : Nat} (h : i < 15 * a ∨ 15 * a + n ≤ i) : l_caR K t x y a n i = K i := by
  induction n with
  | zero => rfl
  | succ n ih => rw [l_caR, pk_un (by omega)]; exact ih (by omega)
theorem l_caR_at (K : Nat → Int32) (t x y : Int32) (a : Nat) {n j : Nat} (h : j < n) : l_caR K t x y a n (15 * a + j) = if K (15 * a + j) ≤ t then 0 else K (15 * a + j) - x + y := by
  induction n with
  | zero => omega
  | succ n ih =>
    rw [l_caR]
    by_cases e : j = n
    · subst e; rw [pk_us]
    · rw [pk_un (by omega)]; exact ih (by omega)
def l_foR (K : Nat → Int32) (b : Nat) : Nat → (Nat → Int32)
  | 0 => K
  | i + 1 => upd (l_foR K b i) (b + i) 0
theorem l_foR_ge (K : Nat → Int32) (b : Nat) {n i : Nat} (h : i < b ∨ b + n ≤ i) : l_foR K b n i = K i := by
  induction n with
  | zero => rfl
  | succ n ih => rw [l_foR, pk_un (by omega)]; exact ih (by omega)
theorem l_foR_at (K : Nat → Int32) (b : Nat) {n j : Nat} (h : j < n) : l_foR K b n (b + j) = 0 := by
  induction n with
  | zero => omega
  | succ n ih =>
    rw [l_foR]
    by_cases e : j = n
    · subst e; rw [pk_us]
    · rw [pk_un (by omega)]; exact ih (by omega)
/-! ===== how the class's cells and the law's rows go together, after n turns ===== -/
def lt8 (x : Int32) : Prop := ∀ j : Nat, 8 ≤ j → x.toBitVec.getLsbD j = false
def bt (x : Int32) (j : Nat) : Bool := x.toBitVec.getLsbD j
def RelG (S T : Nat → Nat → Int32) : Prop :=
  (∀ g p : Nat, g < 4 → p < 5 → bt (S 7 p) g = bt (T 20 g) p) ∧ (∀ g p : Nat, 4 ≤ g → p < 5 → bt (S 7 p) g = false) ∧
  (∀ a b : Nat, a < 4 → b < 4 → bt (S 8 b) a = bt (T 20 (4 + a)) b) ∧ (∀ a b : Nat, b < 8 → 4 ≤ a ∨ 4 ≤ b → bt (S 8 b) a = false) ∧
  (∀ a : Nat, a < 4 → ∃ x : Nat, x < 32 ∧ T 20 a = nI x) ∧ (∀ a : Nat, a < 4 → ∃ x : Nat, x < 16 ∧ T 20 (4 + a) = nI x) ∧
  (∀ r : Nat, r < 3 → lt8 (S 9 r)) ∧ (∀ r : Nat, r < 3 → lt8 (S 10 r)) ∧
  (∀ g r : Nat, 4 ≤ g → r < 3 → bt (S 9 r) g = false ∧ bt (S 10 r) g = false) ∧
  (∀ g r : Nat, g < 4 → r < 3 → T 21 (3 * g + r) = c_roleOf S g r) ∧
  (∀ g r : Nat, g < 4 → r < 3 → bt (S 9 r) g = true → bt (S 10 r) g = false)
def RelP (S T : Nat → Nat → Int32) : Prop :=
  (∀ p : Nat, p < 5 → S 5 p = T 22 p ∧ ∃ x : Nat, x ≤ 3 ∧ T 22 p = nI x) ∧ (∀ p r : Nat, p < 5 → r < 3 → S 6 (p * 6 + r) = T 23 (3 * p + r))
def RelS (t n0 : Nat) (S : Nat → Nat → Int32) (O : Nat → Bool) (V : Nat → Int32) (T : Nat → Nat → Int32) : Prop :=
  n0 ≤ 12 ∧ V 1 = nI n0 ∧ T 19 1 = nI n0 ∧
  (∀ j : Nat, j < n0 → (∃ p : Nat, p < 5 ∧ S 11 j = nI p ∧ T 24 (5 * j) = nI p) ∧ T 24 (5 * j + 1) = S 12 j ∧ (∃ x : Nat, x ≤ t ∧ S 13 j = nI x ∧ T 24 (5 * j + 2) = nI x) ∧ (∃ x : Nat, x ≤ t ∧ S 14 j = nI x ∧ T 24 (5 * j + 3) = nI x)) ∧
  (∀ j : Nat, j < 12 → T 24 (5 * j + 4) = bi (O j)) ∧ (∀ j : Nat, n0 ≤ j → j < 12 → O j = false)
def RelK (n t : Nat) (V : Nat → Int32) (T : Nat → Nat → Int32) : Prop :=
  t ≤ 300 * n ∧ V 0 = nI t ∧ T 19 0 = nI t ∧ (∃ k : Nat, k ≤ n ∧ V 2 = nI k ∧ T 19 2 = nI k) ∧ (∃ x : Nat, x ≤ 300 * n + 300 ∧ V 3 = nI x ∧ T 19 3 = nI x)
def Dec (t c : Nat) (A ks K v : Int32) : Prop :=
  (A = -1 ∧ ∃ x : Nat, x ≤ t ∧ K = nI x) ∨ (∃ x b : Nat, b ≤ 1 ∧ x ≤ t ∧ t < x + c ∧ A = nI (1 - b) ∧ ks = nI x ∧ K = nI (x + c) ∧ v = nI b)
def RelC (t : Nat) (S T : Nat → Nat → Int32) : Prop :=
  (∀ a : Nat, a < 2 → ∃ c : Nat, c ≤ 60 ∧ S 16 a = nI c ∧ T 19 (4 + a) = nI c ∧ ∀ p r : Nat, p < 5 → r < 3 → Dec t c (S 17 (a * 60 + p * 6 + r)) (S 18 (a * 60 + p * 6 + r)) (T 25 (15 * a + 3 * p + r)) (T 26 (15 * a + 3 * p + r))) ∧
  (∀ a p r : Nat, a < 2 → p < 10 → r < 6 → 5 ≤ p ∨ 3 ≤ r → S 17 (a * 60 + p * 6 + r) = -1)
def RelT (n t n0 : Nat) (S : Nat → Nat → Int32) (O : Nat → Bool) (V : Nat → Int32) (T : Nat → Nat → Int32) : Prop :=
  RelG S T ∧ RelP S T ∧ RelS t n0 S O V T ∧ RelK n t V T ∧ RelC t S T
def RelQ (n : Nat) (S : Nat → Nat → Int32) (O : Nat → Bool) (V : Nat → Int32) (T : Nat → Nat → Int32) : Prop := ∃ t n0 : Nat, RelT n t n0 S O V T
end
section
/-! ===== the law's world and rows for its walk ===== -/
theorem zX_narrow {A B : Nat → Prop} {U : State} (h : zX A U) (hAB : ∀ q, B q → A q) : zX B U := ⟨vx_Zq.narrow h.1 hAB, vx_Zq.narrow h.2.1 hAB, h.2.2.1, h.2.2.2⟩
def zY (U : State) : Prop := va_Nc "java/lang/IllegalStateException" "java/lang/IllegalArgumentException" U
theorem zY_moved {u U : State} (h : u.vm.Alike U.vm) (hy : zY u) : zY U := va_Nc.moved h hy
abbrev zL (D : va_G) (tys : List (ClassId × FieldType)) (ws : va_W) (sz : Nat) (av : List Value) : Array Value → State → Prop := va_Pc av (fun U => U.heap.size = sz ∧ va_P D vwCl ws U.heap ∧ va_K D vwCl tys U ∧ va_D (fun _ => True) ws ∧ zX (va_A ws sz) U ∧ zY U)
theorem zL_blind {D : va_G} {tys : List (ClassId × FieldType)} {ws : va_W} {sz : Nat} {av : List Value} : FrameBlind (zL D tys ws sz av) := fun a U g mk q => ⟨q.1, q.2.1, q.2.2.1, va_K.moved (u := U) (U := U.calling g mk a) (Vm.Alike.refl U.vm) q.2.2.2.1, q.2.2.2.2.1, zX_same (s := U) (U := U.calling g mk a) rfl rfl q.2.2.2.2.2.1, zY_moved (u := U) (U := U.calling g mk a) (Vm.Alike.refl U.vm) q.2.2.2.2.2.2⟩
theorem zL_preS {s : State} {H : Heap} {D : va_G} {tys : List (ClassId × FieldType)} {ws : va_W} {A : Nat → Prop} {av : List Value} (hK : va_K D vwCl tys s) (hP : va_P D vwCl ws H) (hD : va_D A ws) (hZ : ∀ U : State, U.heap = H → s.WarmedH U.vm → zX (va_A ws H.size) U) (hY : zY s) : PreS s H (zL D tys ws H.size av) av :=
  ⟨zL_blind, fun U hU hW => ⟨rfl, by rw [hU], by rw [hU]; exact hP, va_K.moved hW.alike hK, hD.weaken (fun _ _ _ _ => trivial), hZ U hU hW, zY_moved hW.alike hY⟩⟩
theorem zX_at {A : Nat → Prop} {s U : State} {H : Heap} {locs : List Loc} (hZ : zX A s) (hS : va_S A s.heap H locs) (hU : U.heap = H) (hW : s.WarmedH U.vm) : zX A U := by
  obtain ⟨h1, h2, h3, h4⟩ := hZ
  refine ⟨by rw [hU]; exact vx_Zq.moved hW.alike (vx_Zq.kept h1 hS.2.1), by rw [hU]; exact vx_Zq.moved hW.alike (vx_Zq.kept h2 hS.2.1), fun w hw => ?_, fun q hq => ?_⟩
  · have h5 := h3 w hw
    simp only [zBad, List.mem_cons, List.not_mem_nil, or_false] at hw
    rcases hw with rfl | rfl | rfl | rfl | rfl | rfl
    · exact va_Nw.warmC hW h5
    · exact va_Nw.warmC hW h5
    · exact va_Nw.warmC hW h5
    · exact va_Nw.warmD hW h5
    · exact va_Nw.warmD hW h5
    · exact va_Nw.warmD hW h5
  · obtain ⟨sa, h5⟩ := h4 q hq
    exact ⟨sa, vk_R.warm hW h5⟩
theorem z_ofWH {l : Launch} {y : MethodName} {ws ws' : List Cond} {rm : Room} {Pc : Array Value → State → Prop} {Qc : Array Value → State → Outcome → State → Prop} {mc ms : Nat} {free : Addr → Prop} {cc : ByteArray} {maxL : Nat} {ret : Option FieldType} {hh : List (Nat × Nat × Nat × Nat)}
    (hy : plainName y.cls = true) (hw : ws = Cond.codeWith y cc maxL ret hh :: ws')
    (body : ∀ p e s m args below meth c s₁, BodyLoose p l y (headSpec ws rm) cc maxL ret e s m args below meth c s₁ → c.maxLocals = maxL → Pc args s →
      W p l e (headSpec ws rm).room s m args below meth c s.heap [] 0 0 (MQ below Qc args s mc ms free) (entryFrame m args maxL)) : Met l y ws rm Pc Qc mc ms free := by
  refine MetFree.of_bodyS (code := cc) (maxLocals := maxL) (ret := ret) hy ?_ ?_
  · intro args s m h hn
    obtain ⟨m9, meth, c, hn9, h1, h2, h3, h4, -, h5, h6, -⟩ := Cond.codeWith_spec (atoms_spec (ws := ws) h _ (by rw [hw]; exact List.mem_cons_self))
    cases hn.symm.trans hn9
    exact ⟨meth, c, h1, h2, h3, h4, h5, h6⟩
  · intro p e s m args below meth c s₁ B hml hP _
    have hh0 : s₁.heap = s.heap := by rw [B.state]; rfl
    obtain ⟨t, a1, o, b1, b2, b3⟩ := body p e s m args below meth c s₁ B hml hP s₁ hh0 (Stand.of_body B)
    exact ⟨t, o, a1, b1, b2, ⟨b3.1, b3.2⟩⟩
/-- the class's cells, then the law's own rows q g h r e s k v at 19 to 26 -/
def lW (cI cZ : ClassId) (X : Nat → Nat) (S : Nat → Nat → Int32) (O : Nat → Bool) (V : Nat → Int32) (T : Nat → Nat → Int32) : va_W :=
  [(X 0, .inr (4, [.ref (X 1), .ref (X 2), .ref (X 3), .ref (X 4), .ref (X 5), .ref (X 6), .int (V 0)])),
   (X 1, .inr (1, [.ref (X 7), .ref (X 8), .ref (X 9), .ref (X 10)])),
   (X 2, .inr (3, [.ref (X 11), .ref (X 12), .ref (X 13), .ref (X 14), .ref (X 15), .int (V 1)])),
   (X 3, .inr (2, [.int (V 2), .int (V 3)])),
   (X 4, .inr (0, [.ref (X 16), .ref (X 17), .ref (X 18)])),
   (X 5, .inl (cI, 10, .inl (S 5))), (X 6, .inl (cI, 60, .inl (S 6))),
   (X 7, .inl (cI, 10, .inl (S 7))), (X 8, .inl (cI, 8, .inl (S 8))), (X 9, .inl (cI, 6, .inl (S 9))), (X 10, .inl (cI, 6, .inl (S 10))),
   (X 11, .inl (cI, 30, .inl (S 11))), (X 12, .inl (cI, 30, .inl (S 12))), (X 13, .inl (cI, 30, .inl (S 13))), (X 14, .inl (cI, 30, .inl (S 14))), (X 15, .inl (cZ, 30, .inl (fun j => bi (O j)))),
   (X 16, .inl (cI, 4, .inl (S 16))), (X 17, .inl (cI, 240, .inl (S 17))), (X 18, .inl (cI, 240, .inl (S 18))),
   (X 19, .inl (cI, 6, .inl (T 19))), (X 20, .inl (cI, 8, .inl (T 20))), (X 21, .inl (cI, 12, .inl (T 21))), (X 22, .inl (cI, 5, .inl (T 22))),
   (X 23, .inl (cI, 15, .inl (T 23))), (X 24, .inl (cI, 60, .inl (T 24))), (X 25, .inl (cI, 30, .inl (T 25))), (X 26, .inl (cI, 30, .inl (T 26)))]
/-- the law's own rows alone -/
def rW (cI : ClassId) (X : Nat → Nat) (T : Nat → Nat → Int32) : va_W :=
  [(X 19, .inl (cI, 6, .inl (T 19))), (X 20, .inl (cI, 8, .inl (T 20))), (X 21, .inl (cI, 12, .inl (T 21))), (X 22, .inl (cI, 5, .inl (T 22))),
   (X 23, .inl (cI, 15, .inl (T 23))), (X 24, .inl (cI, 60, .inl (T 24))), (X 25, .inl (cI, 30, .inl (T 25))), (X 26, .inl (cI, 30, .inl (T 26)))]
theorem zR_preS {s : State} {H : Heap} {D : va_G} {tys : List (ClassId × FieldType)} {ws : va_W} {av : List Value} (hK : va_K D vwCl tys s) (hP : va_P D vwCl ws H) : PreS s H (zR D tys ws av) av :=
  ⟨zR_blind, fun U hU hW => ⟨rfl, by rw [hU]; exact hP, va_K.moved hW.alike hK⟩⟩
abbrev U4 : Type := (Nat → Nat → Int32) × (Nat → Bool) × (Nat → Int32) × (Nat → Nat → Int32)
abbrev zE (D : va_G) (cI cZ : ClassId) (X : Nat → Nat) (n : Nat) (A : Nat → Prop) : Array Value → State → Outcome → State → Prop := va_Qi (fun x (u : U4) => x = 1 ∧ RelQ (n + 1) u.1 u.2.1 u.2.2.1 u.2.2.2) (fun (u : U4) t => zB D (tyl cI cZ) (lW cI cZ X u.1 u.2.1 u.2.2.1 u.2.2.2) A t) A
section ZLB
variable {p : Program} {l : Launch} {e : Env} {R : Room} {s : State} {m : MethodId} {args : Array Value} {below : List Frame} {meth : Method} {c : Code} {H : Heap} {locs : List Loc} {cells slots : Nat} {Q : State → Prop} {cc : ByteArray} {pc : Nat} {ls : Array Slot} {rest st0 : List Value} {D : va_G} {A : Nat → Prop} {av : Array Value}
variable {cI cZ : ClassId} {X : Nat → Nat} {S S1 : Nat → Nat → Int32} {O O1 : Nat → Bool} {V V1 : Nat → Int32} {T T1 : Nat → Nat → Int32}
theorem z_cut {F G : JFrame} (h : W p l e R s m args below meth c H locs cells slots Q G → W p l e R s m args below meth c H locs cells slots Q F) (g : W p l e R s m args below meth c H locs cells slots Q G) : W p l e R s m args below meth c H locs cells slots Q F := h g
theorem z_cutL {F : JFrame} {nL : Nat} {L : List (Nat × Value)} {pc2 : Nat} {st2 : List Value} (h : (∀ ls : Array Slot, lv_has ls nL L → W p l e R s m args below meth c H locs cells slots Q (F0 m pc2 ls st2)) → W p l e R s m args below meth c H locs cells slots Q F) (g : ∀ ls : Array Slot, lv_has ls nL L → W p l e R s m args below meth c H locs cells slots Q (F0 m pc2 ls st2)) : W p l e R s m args below meth c H locs cells slots Q F := h g
/-- a loop that ends at the latest at its Nth head -/
theorem z_while {nL N : Nat} {Lc : Nat → List (Nat × Value)} {ls0 : Array Slot} (h0 : lv_has ls0 nL (Lc 0))
    (hstep : ∀ (k : Nat) (ls : Array Slot), k ≤ N → lv_has ls nL (Lc k) → (k < N → ∀ ls' : Array Slot, lv_has ls' nL (Lc (k + 1)) → W p l e R s m args below meth c H locs cells slots Q (F0 m pc ls' [])) → W p l e R s m args below meth c H locs cells slots Q (F0 m pc ls [])) :
    W p l e R s m args below meth c H locs cells slots Q (F0 m pc ls0 []) := by
  have g : ∀ (n k : Nat), k + n = N → ∀ ls : Array Slot, lv_has ls nL (Lc k) → W p l e R s m args below meth c H locs cells slots Q (F0 m pc ls []) := by
    intro n
    induction n with
    | zero => intro k hk ls hl; exact hstep k ls (by omega) hl (fun h => absurd h (by omega))
    | succ n ih => intro k hk ls hl; exact hstep k ls (by omega) hl (fun _ ls' hl' => ih (k + 1) (by omega) ls' hl')
  exact g N 0 (by omega) ls0 h0
theorem z_callLow {x : Int32} {n : Nat} (hr : CallRun p l e R s m args below meth c H locs cells slots 0 0 (F0 m pc ls st0) rest (QcRead (nI (l_low x n)) av) (fun _ => False)) (hn : 0 < n) (kk : ∀ j : Nat, j < n → W p l e R s m args below meth c H locs cells slots Q (F0 m (pc + 3) ls (.int (nI j) :: rest))) : W p l e R s m args below meth c H locs cells slots Q (F0 m pc ls st0) := W.callR hr (kk _ (Nat.mod_lt _ hn))
theorem z_callAny {x : Int32} (hr : CallRun p l e R s m args below meth c H locs cells slots 0 0 (F0 m pc ls st0) rest (QcRead x av) (fun _ => False)) (kk : ∀ z : Int32, W p l e R s m args below meth c H locs cells slots Q (F0 m (pc + 3) ls (.int z :: rest))) : W p l e R s m args below meth c H locs cells slots Q (F0 m pc ls st0) := W.callR hr (kk _)
theorem z_lawR {al : List Value} (hK : va_K D vwCl (tyl cI cZ) s) (hP : va_P D vwCl (lW cI cZ X S O V T) H) : PreV s H RX4 (X 0) (zR D (tyl cI cZ) (hW cI cZ X S O V) (.ref (X 0) :: al)) al :=
  zR_preV 0 4 hK (hP.sub (ws' := hW cI cZ X S O V) [0, 1, 2, 3, 4, 5, 6, 7, 8, 9, 10, 11, 12, 13, 14, 15, 16, 17, 18] rfl) rfl rfl
theorem z_lawW {al : List Value} (hK : va_K D vwCl (tyl cI cZ) s) (hP : va_P D vwCl (lW cI cZ X S O V T) H) (hD : va_D A (lW cI cZ X S O V T)) : PreV s H RX4 (X 0) (zW D (tyl cI cZ) (hW cI cZ X S O V) H.size (.ref (X 0) :: al)) al :=
  zW_preV 0 4 (A := A) hK (hP.sub (ws' := hW cI cZ X S O V) [0, 1, 2, 3, 4, 5, 6, 7, 8, 9, 10, 11, 12, 13, 14, 15, 16, 17, 18] rfl) (hD.sub (ws' := hW cI cZ X S O V) [0, 1, 2, 3, 4, 5, 6, 7, 8, 9, 10, 11, 12, 13, 14, 15, 16, 17, 18] (by decide) rfl) rfl rfl
theorem z_lawCall {r : Int32} {mc ms : Nat} (hr : va_Run p l e R s m args below meth c H locs cells slots mc ms (F0 m pc ls st0) rest (zQi D (tyl cI cZ) (hW cI cZ X S1 O1 V1) r (va_A (hW cI cZ X S O V) H.size) av) (va_A (hW cI cZ X S O V) H.size)) (hP : va_P D vwCl (lW cI cZ X S O V T) H) (hD : va_D A (lW cI cZ X S O V T)) (hS : va_S A s.heap H locs) (hA : ∀ q, s.heap.size ≤ q → A q)
    (kk : ∀ (H1 : Heap) (locs1 : List Loc), va_P D vwCl (lW cI cZ X S1 O1 V1 T) H1 → va_D A (lW cI cZ X S1 O1 V1 T) → va_S A s.heap H1 locs1 → W p l e R s m args below meth c H1 locs1 (cells + mc) (slots + ms) Q (F0 m (pc + 3) ls (.int r :: rest))) : W p l e R s m args below meth c H locs cells slots Q (F0 m pc ls st0) := by
  have hF : ∀ q, va_A (hW cI cZ X S O V) H.size q → A q := va_free (wc := hW cI cZ X S O V) hD hS hA [0, 1, 2, 3, 4, 5, 6, 7, 8, 9, 10, 11, 12, 13, 14, 15, 16, 17, 18] rfl
  refine va_calli hr hS (fun q _ h => hF q h) hF (fun r' u t H1 locs1 ht _ hw hB _ hk hS1 => ?_)
  subst hw
  obtain ⟨hP1, -, hD1⟩ := hB
  rw [ht] at hP1
  obtain ⟨hP2, hD2⟩ := va_join (wr := rW cI X T) (w1 := hW cI cZ X S1 O1 V1) hP hD [0, 1, 2, 3, 4, 5, 6, 7, 8, 9, 10, 11, 12, 13, 14, 15, 16, 17, 18] [19, 20, 21, 22, 23, 24, 25, 26] rfl rfl (by decide) (by decide) hk hF hP1 hD1
  exact kk H1 locs1 (hP2.sub [8, 9, 10, 11, 12, 13, 14, 15, 16, 17, 18, 19, 20, 21, 22, 23, 24, 25, 26, 0, 1, 2, 3, 4, 5, 6, 7] rfl) (hD2.sub [8, 9, 10, 11, 12, 13, 14, 15, 16, 17, 18, 19, 20, 21, 22, 23, 24, 25, 26, 0, 1, 2, 3, 4, 5, 6, 7] (by decide) rfl) hS1
theorem z_lawCallW {r : Int32} (hr : va_Run p l e R s m args below meth c H locs cells slots 0 0 (F0 m pc ls st0) rest (zQi D (tyl cI cZ) (hW cI cZ X S1 O1 V1) r (va_A (hW cI cZ X S O V) H.size) av) (va_A (hW cI cZ X S O V) H.size)) (hP : va_P D vwCl (lW cI cZ X S O V T) H) (hD : va_D A (lW cI cZ X S O V T)) (hS : va_S A s.heap H locs) (hA : ∀ q, s.heap.size ≤ q → A q)
    (kk : ∀ (H1 : Heap) (locs1 : List Loc), va_P D vwCl (lW cI cZ X S1 O1 V1 T) H1 → va_D A (lW cI cZ X S1 O1 V1 T) → va_S A s.heap H1 locs1 → W p l e R s m args below meth c H1 locs1 cells slots Q (F0 m (pc + 3) ls (.int r :: rest))) : W p l e R s m args below meth c H locs cells slots Q (F0 m pc ls st0) := z_lawCall hr hP hD hS hA kk
theorem z_lawPreL {al : List Value} (hK : va_K D vwCl (tyl cI cZ) s) (hP : va_P D vwCl (lW cI cZ X S O V T) H) (hD : va_D A (lW cI cZ X S O V T)) (hS : va_S A s.heap H locs) (hA : ∀ q, s.heap.size ≤ q → A q) (hZ : zX A s) (hY : zY s) : PreS s H (zL D (tyl cI cZ) (hW cI cZ X S O V) H.size al) al := by
  have hPc := hP.sub (ws' := hW cI cZ X S O V) [0, 1, 2, 3, 4, 5, 6, 7, 8, 9, 10, 11, 12, 13, 14, 15, 16, 17, 18] rfl
  have hDc := hD.sub (ws' := hW cI cZ X S O V) [0, 1, 2, 3, 4, 5, 6, 7, 8, 9, 10, 11, 12, 13, 14, 15, 16, 17, 18] (by decide) rfl
  exact zL_preS hK hPc hDc (fun U' hU hW => zX_narrow (zX_at hZ hS hU hW) (z_free hDc hS hA)) hY
theorem z_lawPreX {al : List Value} (hK : va_K D vwCl (tyl cI cZ) s) (hP : va_P D vwCl (lW cI cZ X S O V T) H) (hD : va_D A (lW cI cZ X S O V T)) (hS : va_S A s.heap H locs) (hA : ∀ q, s.heap.size ≤ q → A q) (hZ : zX A s) (hY : zY s) : PreS s H (zL D (tyl cI cZ) (lW cI cZ X S O V T) H.size al) al :=
  zL_preS hK hP hD (fun U' hU hW => zX_narrow (zX_at hZ hS hU hW) (z_free hD hS hA)) hY
theorem z_eret {n : Nat} {v : Int32} (hx : p.tables.exec = Jvm.exec) (hb : c.code = cc) (hr : meth.sig.returnType = some .boolean) (hlocks : meth.locks = false) (hP : va_P D vwCl (lW cI cZ X S O V T) H) (hK : va_K D vwCl (tyl cI cZ) s) (hD : va_D A (lW cI cZ X S O V T)) (hS : va_S A s.heap H locs) (hv : v = 1) (hR : RelQ (n + 1) S O V T) (hdg : decode cc pc = .ok (.ireturn, 1)) : W p l e R s m args below meth c H locs cells slots (MQ below (zE D cI cZ X n A) args s cells slots A) (F0 m pc ls [.int v]) := by
  subst hv
  exact W.zret hx hb hr (bi_nar true) (fun t ht hW => ⟨⟨_, ((S, O, V, T) : U4), rfl, ⟨rfl, hR⟩, by rw [ht]; exact hP, va_K.moved hW.alike hK, hD⟩, hS.F ht⟩) hS.2.2 hdg hlocks
theorem z_callE {n mc ms : Nat} (hr : va_Run p l e R s m args below meth c H locs cells slots mc ms (F0 m pc ls st0) rest (zE D cI cZ X n (va_A (lW cI cZ X S O V T) H.size) av) (va_A (lW cI cZ X S O V T) H.size)) (hD : va_D A (lW cI cZ X S O V T)) (hS : va_S A s.heap H locs) (hA : ∀ q, s.heap.size ≤ q → A q)
    (kk : ∀ (S : Nat → Nat → Int32) (O : Nat → Bool) (V : Nat → Int32) (T : Nat → Nat → Int32) (H1 : Heap) (locs1 : List Loc), RelQ (n + 1) S O V T → va_P D vwCl (lW cI cZ X S O V T) H1 → va_D A (lW cI cZ X S O V T) → va_S A s.heap H1 locs1 → W p l e R s m args below meth c H1 locs1 (cells + mc) (slots + ms) Q (F0 m (pc + 3) ls (.int 1 :: rest))) : W p l e R s m args below meth c H locs cells slots Q (F0 m pc ls st0) := by
  have hF := z_free hD hS hA
  refine va_calli hr hS (fun q _ h => hF q h) hF (fun r' u t H1 locs1 ht _ hw hB _ hk hS1 => ?_)
  obtain ⟨hw1, hR⟩ := hw
  subst hw1
  obtain ⟨hP1, -, hD1⟩ := hB
  rw [ht] at hP1
  exact kk _ _ _ _ H1 locs1 hR hP1 (hD1.weaken (fun _ q _ h => hF q.1 h)) hS1
end ZLB
end
