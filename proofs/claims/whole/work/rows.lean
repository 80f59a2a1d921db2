section
-- ===== PART A: goes FIRST, ahead of the names: the tables' words, and 'selects' of the private methods out of them =====
/-- a private method of a class that the tables say can be made, by its rows of tables_1 -/
def lw_okq (q : MethodName × Nat) : Prop := (q.1.cls ≠ "java/lang/invoke/MethodHandle" ∧ q.1.cls ≠ "java/lang/invoke/VarHandle") ∧ Cond.instantiable q.1.cls q.2 ∈ tables_1 ∧ Cond.privateMethod q.1 ∈ tables_1 ∧ Cond.instanceMethod q.1 ∈ tables_1
theorem lw_p0 : lw_okq (⟨"java/lang/Throwable", "fillInStackTrace", "(I)Ljava/lang/Throwable;"⟩, 6) := ⟨⟨by decide +kernel, by decide +kernel⟩, List.mem_of_getElem? (i := 176) (by decide +kernel), List.mem_of_getElem? (i := 174) (by decide +kernel), List.mem_of_getElem? (i := 175) (by decide +kernel)⟩
theorem lw_p1 : lw_okq (⟨"SignOnHouse$Groups", "allAround", "(I)I"⟩, 4) := ⟨⟨by decide +kernel, by decide +kernel⟩, List.mem_of_getElem? (i := 23) (by decide +kernel), List.mem_of_getElem? (i := 230) (by decide +kernel), List.mem_of_getElem? (i := 231) (by decide +kernel)⟩
theorem lw_p2 : lw_okq (⟨"SignOnHouse$Groups", "oneLinkFurther", "(I)I"⟩, 4) := ⟨⟨by decide +kernel, by decide +kernel⟩, List.mem_of_getElem? (i := 23) (by decide +kernel), List.mem_of_getElem? (i := 234) (by decide +kernel), List.mem_of_getElem? (i := 235) (by decide +kernel)⟩
theorem lw_p3 : lw_okq (⟨"SignOnHouse$Groups", "roleOf", "(II)I"⟩, 4) := ⟨⟨by decide +kernel, by decide +kernel⟩, List.mem_of_getElem? (i := 23) (by decide +kernel), List.mem_of_getElem? (i := 271) (by decide +kernel), List.mem_of_getElem? (i := 272) (by decide +kernel)⟩
theorem lw_p4 : lw_okq (⟨"SignOnHouse", "answerOfHouse", "(II)I"⟩, 7) := ⟨⟨by decide +kernel, by decide +kernel⟩, List.mem_of_getElem? (i := 15) (by decide +kernel), List.mem_of_getElem? (i := 310) (by decide +kernel), List.mem_of_getElem? (i := 311) (by decide +kernel)⟩
theorem lw_p5 : lw_okq (⟨"SignOnHouse", "isBarred", "(I)Z"⟩, 7) := ⟨⟨by decide +kernel, by decide +kernel⟩, List.mem_of_getElem? (i := 15) (by decide +kernel), List.mem_of_getElem? (i := 314) (by decide +kernel), List.mem_of_getElem? (i := 315) (by decide +kernel)⟩
theorem lw_p6 : lw_okq (⟨"SignOnHouse", "holdsGlass", "(II)Z"⟩, 7) := ⟨⟨by decide +kernel, by decide +kernel⟩, List.mem_of_getElem? (i := 15) (by decide +kernel), List.mem_of_getElem? (i := 326) (by decide +kernel), List.mem_of_getElem? (i := 327) (by decide +kernel)⟩
theorem lw_p7 : lw_okq (⟨"SignOnHouse$Sessions", "isDue", "(IIILSignOnHouse$Keys;)Z"⟩, 6) := ⟨⟨by decide +kernel, by decide +kernel⟩, List.mem_of_getElem? (i := 43) (by decide +kernel), List.mem_of_getElem? (i := 413) (by decide +kernel), List.mem_of_getElem? (i := 414) (by decide +kernel)⟩
theorem lw_p8 : lw_okq (⟨"SignOnHouse", "servesAsWitness", "(II)Z"⟩, 7) := ⟨⟨by decide +kernel, by decide +kernel⟩, List.mem_of_getElem? (i := 15) (by decide +kernel), List.mem_of_getElem? (i := 458) (by decide +kernel), List.mem_of_getElem? (i := 459) (by decide +kernel)⟩
theorem lw_p9 : lw_okq (⟨"SignOnHouse", "answerOfApp", "(III)I"⟩, 7) := ⟨⟨by decide +kernel, by decide +kernel⟩, List.mem_of_getElem? (i := 15) (by decide +kernel), List.mem_of_getElem? (i := 496) (by decide +kernel), List.mem_of_getElem? (i := 497) (by decide +kernel)⟩
theorem lw_p10 : lw_okq (⟨"SignOnHouse", "isStale", "(III)Z"⟩, 7) := ⟨⟨by decide +kernel, by decide +kernel⟩, List.mem_of_getElem? (i := 15) (by decide +kernel), List.mem_of_getElem? (i := 533) (by decide +kernel), List.mem_of_getElem? (i := 534) (by decide +kernel)⟩
theorem lw_p11 : lw_okq (⟨"SignOnHouseModel", "within", "(I)I"⟩, 17) := ⟨⟨by decide +kernel, by decide +kernel⟩, List.mem_of_getElem? (i := 537) (by decide +kernel), List.mem_of_getElem? (i := 619) (by decide +kernel), List.mem_of_getElem? (i := 620) (by decide +kernel)⟩
theorem lw_p12 : lw_okq (⟨"SignOnHouseModel", "fails", "(I)I"⟩, 17) := ⟨⟨by decide +kernel, by decide +kernel⟩, List.mem_of_getElem? (i := 537) (by decide +kernel), List.mem_of_getElem? (i := 630) (by decide +kernel), List.mem_of_getElem? (i := 631) (by decide +kernel)⟩
theorem lw_p13 : lw_okq (⟨"SignOnHouseModel", "belongs", "(II)Z"⟩, 17) := ⟨⟨by decide +kernel, by decide +kernel⟩, List.mem_of_getElem? (i := 537) (by decide +kernel), List.mem_of_getElem? (i := 642) (by decide +kernel), List.mem_of_getElem? (i := 643) (by decide +kernel)⟩
theorem lw_p14 : lw_okq (⟨"SignOnHouseModel", "lets", "(II)Z"⟩, 17) := ⟨⟨by decide +kernel, by decide +kernel⟩, List.mem_of_getElem? (i := 537) (by decide +kernel), List.mem_of_getElem? (i := 650) (by decide +kernel), List.mem_of_getElem? (i := 651) (by decide +kernel)⟩
theorem lw_p15 : lw_okq (⟨"SignOnHouseModel", "finds", "(III)Z"⟩, 17) := ⟨⟨by decide +kernel, by decide +kernel⟩, List.mem_of_getElem? (i := 537) (by decide +kernel), List.mem_of_getElem? (i := 654) (by decide +kernel), List.mem_of_getElem? (i := 655) (by decide +kernel)⟩
def lw_privs_1 : List (MethodName × Nat) := [(⟨"java/lang/Throwable", "fillInStackTrace", "(I)Ljava/lang/Throwable;"⟩, 6), (⟨"SignOnHouse$Groups", "allAround", "(I)I"⟩, 4), (⟨"SignOnHouse$Groups", "oneLinkFurther", "(I)I"⟩, 4), (⟨"SignOnHouse$Groups", "roleOf", "(II)I"⟩, 4), (⟨"SignOnHouse", "answerOfHouse", "(II)I"⟩, 7), (⟨"SignOnHouse", "isBarred", "(I)Z"⟩, 7), (⟨"SignOnHouse", "holdsGlass", "(II)Z"⟩, 7), (⟨"SignOnHouse$Sessions", "isDue", "(IIILSignOnHouse$Keys;)Z"⟩, 6), (⟨"SignOnHouse", "servesAsWitness", "(II)Z"⟩, 7), (⟨"SignOnHouse", "answerOfApp", "(III)I"⟩, 7), (⟨"SignOnHouse", "isStale", "(III)Z"⟩, 7), (⟨"SignOnHouseModel", "within", "(I)I"⟩, 17), (⟨"SignOnHouseModel", "fails", "(I)I"⟩, 17), (⟨"SignOnHouseModel", "belongs", "(II)Z"⟩, 17), (⟨"SignOnHouseModel", "lets", "(II)Z"⟩, 17), (⟨"SignOnHouseModel", "finds", "(III)Z"⟩, 17)]
theorem lw_r1 : ∀ q ∈ lw_privs_1, lw_okq q := List.forall_mem_cons.mpr ⟨lw_p0, List.forall_mem_cons.mpr ⟨lw_p1, List.forall_mem_cons.mpr ⟨lw_p2, List.forall_mem_cons.mpr ⟨lw_p3, List.forall_mem_cons.mpr ⟨lw_p4, List.forall_mem_cons.mpr ⟨lw_p5, List.forall_mem_cons.mpr ⟨lw_p6, List.forall_mem_cons.mpr ⟨lw_p7, List.forall_mem_cons.mpr ⟨lw_p8, List.forall_mem_cons.mpr ⟨lw_p9, List.forall_mem_cons.mpr ⟨lw_p10, List.forall_mem_cons.mpr ⟨lw_p11, List.forall_mem_cons.mpr ⟨lw_p12, List.forall_mem_cons.mpr ⟨lw_p13, List.forall_mem_cons.mpr ⟨lw_p14, List.forall_mem_cons.mpr ⟨lw_p15, fun _ h => absurd h List.not_mem_nil⟩⟩⟩⟩⟩⟩⟩⟩⟩⟩⟩⟩⟩⟩⟩⟩
theorem lw_p16 : lw_okq (⟨"SignOnHouseModel", "isSession", "(I)Z"⟩, 17) := ⟨⟨by decide +kernel, by decide +kernel⟩, List.mem_of_getElem? (i := 537) (by decide +kernel), List.mem_of_getElem? (i := 666) (by decide +kernel), List.mem_of_getElem? (i := 667) (by decide +kernel)⟩
theorem lw_p17 : lw_okq (⟨"SignOnHouseModel", "sweeps", "()I"⟩, 17) := ⟨⟨by decide +kernel, by decide +kernel⟩, List.mem_of_getElem? (i := 537) (by decide +kernel), List.mem_of_getElem? (i := 678) (by decide +kernel), List.mem_of_getElem? (i := 679) (by decide +kernel)⟩
theorem lw_p18 : lw_okq (⟨"SignOnHouseModel", "ends", "(I)Z"⟩, 17) := ⟨⟨by decide +kernel, by decide +kernel⟩, List.mem_of_getElem? (i := 537) (by decide +kernel), List.mem_of_getElem? (i := 682) (by decide +kernel), List.mem_of_getElem? (i := 683) (by decide +kernel)⟩
theorem lw_p19 : lw_okq (⟨"SignOnHouseModel", "isKey", "(I)Z"⟩, 17) := ⟨⟨by decide +kernel, by decide +kernel⟩, List.mem_of_getElem? (i := 537) (by decide +kernel), List.mem_of_getElem? (i := 686) (by decide +kernel), List.mem_of_getElem? (i := 687) (by decide +kernel)⟩
theorem lw_p20 : lw_okq (⟨"SignOnHouseModel", "serves", "(II)Z"⟩, 17) := ⟨⟨by decide +kernel, by decide +kernel⟩, List.mem_of_getElem? (i := 537) (by decide +kernel), List.mem_of_getElem? (i := 706) (by decide +kernel), List.mem_of_getElem? (i := 707) (by decide +kernel)⟩
theorem lw_p21 : lw_okq (⟨"SignOnHouseModel", "drops", "(I)V"⟩, 17) := ⟨⟨by decide +kernel, by decide +kernel⟩, List.mem_of_getElem? (i := 537) (by decide +kernel), List.mem_of_getElem? (i := 717) (by decide +kernel), List.mem_of_getElem? (i := 718) (by decide +kernel)⟩
theorem lw_p22 : lw_okq (⟨"SignOnHouseModel", "keeps", "(II)Z"⟩, 17) := ⟨⟨by decide +kernel, by decide +kernel⟩, List.mem_of_getElem? (i := 537) (by decide +kernel), List.mem_of_getElem? (i := 721) (by decide +kernel), List.mem_of_getElem? (i := 722) (by decide +kernel)⟩
def lw_privs_2 : List (MethodName × Nat) := [(⟨"SignOnHouseModel", "isSession", "(I)Z"⟩, 17), (⟨"SignOnHouseModel", "sweeps", "()I"⟩, 17), (⟨"SignOnHouseModel", "ends", "(I)Z"⟩, 17), (⟨"SignOnHouseModel", "isKey", "(I)Z"⟩, 17), (⟨"SignOnHouseModel", "serves", "(II)Z"⟩, 17), (⟨"SignOnHouseModel", "drops", "(I)V"⟩, 17), (⟨"SignOnHouseModel", "keeps", "(II)Z"⟩, 17)]
theorem lw_r2 : ∀ q ∈ lw_privs_2, lw_okq q := List.forall_mem_cons.mpr ⟨lw_p16, List.forall_mem_cons.mpr ⟨lw_p17, List.forall_mem_cons.mpr ⟨lw_p18, List.forall_mem_cons.mpr ⟨lw_p19, List.forall_mem_cons.mpr ⟨lw_p20, List.forall_mem_cons.mpr ⟨lw_p21, List.forall_mem_cons.mpr ⟨lw_p22, fun _ h => absurd h List.not_mem_nil⟩⟩⟩⟩⟩⟩⟩
def lw_privs : List (MethodName × Nat) := lw_privs_1 ++ (lw_privs_2)
def lw_tbl : List Cond := k2_sels lw_privs ++ tables_1
theorem lw_privs_ok : ∀ q ∈ lw_privs, lw_okq q := by
  show ∀ q ∈ lw_privs_1 ++ (lw_privs_2), lw_okq q
  exact List.forall_mem_append.mpr ⟨lw_r1, lw_r2⟩
-- ===== end of PART A; then your names; then what follows =====
/-! ===== BEGIN words of one list among another's, by their places ===== -/
theorem goodIn_r {big : List Cond} (ws : List Cond) (ps : List Nat) (hp : ws = ps.filterMap (fun i => big[i]?)) (h : ws.all goodWord = true) : GoodIn big ws := by
  intro w hw
  have h1 := List.all_eq_true.mp h w hw
  rw [hp] at hw
  obtain ⟨i, -, hi⟩ := List.mem_filterMap.mp hw
  have hm : w ∈ big := by first | exact List.mem_of_getElem? hi | exact List.getElem?_mem hi
  exact ⟨hm, good_of_word h1⟩
theorem goodIn_app {big a b : List Cond} (ha : GoodIn big a) (hb : GoodIn big b) : GoodIn big (a ++ b) := fun w h => (List.mem_append.mp h).elim (ha w) (hb w)
theorem goodIn_ca {big a b : List Cond} {c : Cond} (ha : GoodIn big (c :: a)) (hb : GoodIn big b) : GoodIn big (c :: (a ++ b)) := fun w h => (List.mem_cons.mp h).elim (fun e => ha w (List.mem_cons.mpr (Or.inl e))) (fun h => (List.mem_append.mp h).elim (fun h => ha w (List.mem_cons.mpr (Or.inr h))) (hb w))
theorem goodIn_sub {big ws : List Cond} (hm : ∀ w ∈ ws, w ∈ big) (h : ws.all goodWord = true) : GoodIn big ws := fun w hw => ⟨hm w hw, good_of_word (List.all_eq_true.mp h w hw)⟩
/-! ===== END ===== -/

/-! ===== BEGIN exceptions that leave a method, and their catching by the caller (launches without stack traces) ===== -/
section VXA
/-! The laws vx_back, vx_callV, vx_callS, vx_callSW, vx_throw0, vx_throwS follow proofs of the library, with one case more: JvmDerived/Free/Laws.lean (Back.of_free), Shelf42/LK1.lean (callV, callS), Shelf/KitTraced.lean (throwNew0V, throwNewS). -/
/-- where a method has thrown q: the class by its name, the cell, what was written, the world -/
def vx_T (XC : String → State → State → Prop) (st : State) (q : Addr) (t : State) (mc ms : Nat) (free : Addr → Prop) : Prop :=
  ∃ (E : String) (ce : Cell) (L : List Loc), XC E st t ∧ t.heap[q]? = some ce ∧ ce.vm = .none ∧ st.vm.findClass E = some ce.cls ∧ st.WarmedH t.vm ∧ st.sameButNew ({ t with vm := st.vm } : State) L mc ms ∧ ∀ z ∈ L, free z.base
def vx_Q (Qc : Array Value → State → Outcome → State → Prop) (XC : String → State → State → Prop) (mc ms : Nat) (free : Addr → Prop) : Array Value → State → Outcome → State → Prop := fun a st o t =>
  (Qc a st o t ∧ ∃ L, FrameEnd st o t L mc ms ∧ ∀ q ∈ L, free q.base) ∨ ∃ q, o = .threw q ∧ vx_T XC st q t mc ms free
/-- a callee that returns or throws -/
def vx_Met (l : Launch) (y : MethodName) (ws : List Cond) (rm : Room) (Pc : Array Value → State → Prop) (Qc : Array Value → State → Outcome → State → Prop) (XC : String → State → State → Prop) (mc ms : Nat) (free : Addr → Prop) : Prop :=
  MetFree l y (headSpec ws rm) Pc (fun _ _ _ _ _ => True) (vx_Q Qc XC mc ms free)
def vx_Post (XC : String → State → State → Prop) (mc ms : Nat) (free : Addr → Prop) : Pt → Array Value → Addr → Pt → Prop := fun A a q B =>
  ∃ (g : JFrame) (mk : MethodId) (t : State) (L : List Loc) (E : String) (ce : Cell), B.U.heap = t.heap ∧ B.U.vm = t.vm ∧ XC E (A.U.calling g mk a) t ∧ t.heap[q]? = some ce ∧ ce.vm = .none ∧ A.U.vm.findClass E = some ce.cls ∧ B.locs = A.locs ++ L ∧ (∀ z ∈ L, free z.base) ∧ B.cells = A.cells + mc ∧ B.slots = A.slots + ms
def vx_Back (l : Launch) (R : Room) (p : Program) (e : Env) (below : List Frame) (s : State) (sargs : Array Value) (y : MethodName) (len W9 : Nat)
    (Pre : Pt → Array Value → Prop) (Post : Pt → Array Value → Option Value → Pt → Prop) (PostX : Pt → Array Value → Addr → Pt → Prop) : Prop :=
  ∀ (m : MethodId) (meth : Method) (c : Code) (A : Pt) (g : JFrame) (ig : Instr) (mk : MethodId) (a : Array Value),
    Stand p l e R s m sargs below meth c A.U A.locs A.cells A.slots → g.method = m → g.locals.size = c.maxLocals → decode c.code g.pc = .ok (ig, len) →
    2 * g.monitorRoom + (g.stack.map fun v => v.category).sum ≤ W9 → A.U.methodNamed? y = some mk → Pre A a →
    (∃ (v : Option Value) (B : Pt), Stand p l e R s m sargs below meth c B.U B.locs B.cells B.slots ∧ Post A a v B ∧
      Steps p.tables e below (doInvoke e (A.U.setTop g) [] mk a).1 (B.U.setTop { g with pc := g.pc + len, stack := v.toList ++ g.stack })) ∨
    (∃ (q : Addr) (B : Pt), Stand p l e R s m sargs below meth c B.U B.locs B.cells B.slots ∧ PostX A a q B ∧
      Steps p.tables e below (doInvoke e (A.U.setTop g) [] mk a).1 ((B.U.setTop g).pushFrame (.throwing q)))
section Payer
variable {l : Launch} {R : Room} {p : Program} {e : Env} {below : List Frame} {s : State} {sargs : Array Value} {y : MethodName} {len W9 : Nat}
theorem vx_back {ws : List Cond} {rm : Room} {Pc : Array Value → State → Prop} {Qc : Array Value → State → Outcome → State → Prop} {XC : String → State → State → Prop} {mc ms : Nat} {free : Addr → Prop} {bytes : ByteArray} {maxL : Nat} {ret : Option FieldType}
    (hM : vx_Met l y ws rm Pc Qc XC mc ms free) (hblind : FrameBlind Pc) (hrc : rm.cells = mc) (hrs : rm.slots = ms)
    (hframes : rm.frames + 1 ≤ R.frames) (hlocals : W9 + (maxL + 11) + rm.locals ≤ R.locals)
    (hws : ∀ w ∈ ws, ∀ a' U, s.WarmedH U.vm → w.before a' U = true) (hcode : Cond.code y bytes maxL ret ∈ ws) (hinit : ∀ a' U, s.WarmedH U.vm → (Cond.initialized y.cls).before a' U = true) :
    vx_Back l R p e below s sargs y len W9 (PreOf R mc ms Pc) (PostOf Qc mc ms free) (vx_Post XC mc ms free) := by
  intro m meth c A g ig mk a X hg hsize hdg hW hn hp
  have h1 : (headSpec ws rm).pre.before a A.U = true := atoms_intro fun w hw => hws w hw _ _ X.warmed
  have h2 : (Cond.code y bytes maxL ret).before a A.U = true := hws _ hcode _ _ X.warmed
  have h3 : (Cond.initialized y.cls).before a A.U = true := hinit _ _ X.warmed
  have h4 : A.cells + (headSpec ws rm).room.cells ≤ R.cells := by rw [show (headSpec ws rm).room.cells = mc from hrc]; exact hp.1
  have h5 : A.slots + (headSpec ws rm).room.slots ≤ R.slots := by rw [show (headSpec ws rm).room.slots = ms from hrs]; exact hp.2.1
  have hPc : Pc a (A.U.calling g mk a) := hblind _ _ _ _ hp.2.2
  obtain ⟨U, Ls, c0, s0⟩ := A
  dsimp only [Pt.U, Pt.locs, Pt.cells, Pt.slots] at h1 h2 h3 h4 h5 X hn hPc ⊢
  obtain ⟨methY, cY, hmY, hcY, -, hlY, -, -, -, -⟩ := Cond.code_spec hn h2
  obtain ⟨kY, hkY, -⟩ := className_of_methodNamed hn
  have hinitY : kY.init = .initialized := Cond.initialized_spec (findClass_of_methodNamed hn) hkY h3
  have h : At U g.method c below := by rw [hg]; exact X.here
  have hlocals9 : W9 + (maxL + 11) + (headSpec ws rm).room.locals ≤ R.locals := hlocals
  have happ : (headSpec ws rm).appliesLoose y e.platform (U.calling g mk a) = true :=
    Spec.appliesLoose_calling (g := g) h hdg hn hkY hinitY
      (X.room_calling (g := g) (R' := (headSpec ws rm).room) hsize hmY hcY hframes (by rw [hlY]; omega) h4 h5) h1
  obtain ⟨mid, hmid⟩ := h.above
  have hfr : (U.setTop g).frames = (.java g :: mid) ++ below := by rw [State.frames_setTop' g h.top, hmid]; rfl
  obtain ⟨o, s₂, hsteps, -, hend, hq⟩ := Steps.callFree hM p X.admits X.cas X.clock (acts := []) hfr happ hPc trivial
  have hq' : vx_Q Qc XC mc ms free a (U.calling g mk a) o s₂ := hq
  rw [State.frames_setTop' g h.top] at hend
  obtain ⟨g₀, hg0⟩ := Option.isSome_iff_exists.mp h.top
  obtain ⟨r, hr⟩ := State.topJava?_eq_some.mp hg0
  have hr' : (({ U with heap := s₂.heap, slotsUsed := s₂.slotsUsed } : State).setVm s₂.vm).frames = .java g₀ :: r := hr
  rcases hq' with ⟨hqc, L, hfe, hL⟩ | ⟨q, rfl, E, ce, L, hx, hce, hcv, hcl, hW₂, hsm, hL⟩
  · obtain ⟨⟨v, rfl⟩, hW₂, e2, q2, q3, q4, q5, q6⟩ := id hfe
    have e3 : s₂ = ({ (U.calling g mk a).setFrames s₂.frames with heap := s₂.heap, slotsUsed := s₂.slotsUsed } : State).setVm s₂.vm := by
      have : s₂ = ({ s₂ with vm := (U.calling g mk a).vm } : State).setVm s₂.vm := rfl
      rw [e2] at this
      exact this
    obtain ⟨c₂, i₂, len₂, hc₂, hd₂, hf₂⟩ := hend
    have hW' : U.WarmedH s₂.vm := hW₂
    have hcc : c₂ = c := by
      have h1 : s₂.code? g.method = U.code? g.method := by
        rw [State.code?_eq, State.code?_eq, hW'.alike.method?]
      exact Option.some.inj (hc₂.symm.trans (h1.trans h.code))
    subst hcc
    have hlen : len₂ = len := by rw [hdg] at hd₂; cases hd₂; rfl
    subst hlen
    have hs₂ : s₂ = (({ U with heap := s₂.heap, slotsUsed := s₂.slotsUsed } : State).setVm s₂.vm).setTop { g with pc := g.pc + len₂, stack := v.toList ++ g.stack } := by
      refine e3.trans ?_
      rw [hf₂, State.calling_eq h.top, State.setFrames_setFrames, State.setTop_of_frames _ hr', hr]
      rfl
    have hsame : U.sameButNew ({ U with heap := s₂.heap, slotsUsed := s₂.slotsUsed } : State) L mc ms := by
      refine ⟨?_, q2, q3, q4, q5, q6⟩
      obtain ⟨t, ht, -⟩ := State.frames_cons hr
      show ({ U with heap := s₂.heap, slotsUsed := s₂.slotsUsed } : State) = { U.setFrames U.frames with heap := s₂.heap, slotsUsed := s₂.slotsUsed }
      rw [State.setFrames_self ht]
    subst hg
    refine Or.inl ⟨v, ⟨(({ U with heap := s₂.heap, slotsUsed := s₂.slotsUsed } : State).setVm s₂.vm), Ls ++ L, c0 + mc, s0 + ms⟩,
      ⟨X.admits, X.cas, X.clock, X.frames, X.room, X.hears, X.method, X.code, (X.here.setHeapUsed s₂.heap s₂.slotsUsed).setVm hW'.alike, X.tail, State.WarmedH.trans X.warmed hW', X.limits, X.bytes, X.same.trans (hsame.setVm s.vm)⟩,
      ⟨g, mk, s₂, L, rfl, rfl, hqc, rfl, hL, rfl, rfl⟩, ?_⟩
    show Steps p.tables e below _ ((({ U with heap := s₂.heap, slotsUsed := s₂.slotsUsed } : State).setVm s₂.vm).setTop { g with pc := g.pc + len₂, stack := v.toList ++ g.stack })
    rw [← hs₂]
    exact hsteps
  · obtain ⟨e2, q2, q3, q4, q5, q6⟩ := id hsm
    have e3 : s₂ = ({ (U.calling g mk a).setFrames s₂.frames with heap := s₂.heap, slotsUsed := s₂.slotsUsed } : State).setVm s₂.vm := by
      have : s₂ = ({ s₂ with vm := (U.calling g mk a).vm } : State).setVm s₂.vm := rfl
      rw [e2] at this
      exact this
    have hf₂ : s₂.frames = .throwing q :: .java g :: U.frames.tail := hend
    have hW' : U.WarmedH s₂.vm := hW₂
    have hs₂ : s₂ = ((({ U with heap := s₂.heap, slotsUsed := s₂.slotsUsed } : State).setVm s₂.vm).setTop g).pushFrame (.throwing q) := by
      refine e3.trans ?_
      rw [hf₂, State.calling_eq h.top, State.setFrames_setFrames, State.pushFrame, State.frames_setTop _ hr', State.setTop_of_frames _ hr', State.setFrames_setFrames, hr]
      rfl
    have hsame : U.sameButNew ({ U with heap := s₂.heap, slotsUsed := s₂.slotsUsed } : State) L mc ms := by
      refine ⟨?_, q2, q3, q4, q5, q6⟩
      obtain ⟨t, ht, -⟩ := State.frames_cons hr
      show ({ U with heap := s₂.heap, slotsUsed := s₂.slotsUsed } : State) = { U.setFrames U.frames with heap := s₂.heap, slotsUsed := s₂.slotsUsed }
      rw [State.setFrames_self ht]
    subst hg
    refine Or.inr ⟨q, ⟨(({ U with heap := s₂.heap, slotsUsed := s₂.slotsUsed } : State).setVm s₂.vm), Ls ++ L, c0 + mc, s0 + ms⟩,
      ⟨X.admits, X.cas, X.clock, X.frames, X.room, X.hears, X.method, X.code, (X.here.setHeapUsed s₂.heap s₂.slotsUsed).setVm hW'.alike, X.tail, State.WarmedH.trans X.warmed hW', X.limits, X.bytes, X.same.trans (hsame.setVm s.vm)⟩,
      ⟨g, mk, s₂, L, E, ce, rfl, rfl, hx, hce, hcv, hcl, rfl, hL, rfl, rfl⟩, ?_⟩
    show Steps p.tables e below _ (((({ U with heap := s₂.heap, slotsUsed := s₂.slotsUsed } : State).setVm s₂.vm).setTop g).pushFrame (.throwing q))
    rw [← hs₂]
    exact hsteps
end Payer
section Calls
variable {p : Program} {l : Launch} {e : Env} {R : Room} {s : State} {m : MethodId} {args : Array Value} {below : List Frame} {meth : Method} {c : Code} {T : State} {locs : List Loc} {cells slots : Nat}
theorem vx_callV (X : Stand p l e R s m args below meth c T locs cells slots) (hexec : p.tables.exec = Jvm.exec) {own C : String} {index : Nat} {y : MethodName} {bytes : ByteArray} {maxL : Nat} {ret : Option FieldType}
    (hown : s.vm.findClass own = some m.cls) (hlink : (Cond.methodLink own index y).before args s = true) (hinst : (Cond.instanceMethod y).before args s = true) (hsel : (Cond.selects C y y).before args s = true)
    (hcode : (Cond.code y bytes maxL ret).before args s = true) (hy : y.cls ≠ "java/lang/invoke/MethodHandle" ∧ y.cls ≠ "java/lang/invoke/VarHandle")
    {W9 : Nat} {Pre : Pt → Array Value → Prop} {Post : Pt → Array Value → Option Value → Pt → Prop} {PostX : Pt → Array Value → Addr → Pt → Prop} (hK : vx_Back l R p e below s args y 3 W9 Pre Post PostX)
    {b : Addr} {cellB : Cell} (hcell : T.heap[b]? = some cellB) (hobj : cellB.vm.isStatics = false) (hcls : s.vm.findClass C = some cellB.cls)
    {g : JFrame} (hg : g.method = m) (hsize : g.locals.size = c.maxLocals) {argsL rest : List Value} (hlen : ∀ sig, parseMethodDescriptor y.desc = some sig → argsL.length = sig.parameters.length)
    (hstack : g.stack = argsL.reverse ++ .ref b :: rest) (hW : 2 * g.monitorRoom + (rest.map fun v => v.category).sum ≤ W9) (hdg : decode c.code g.pc = .ok (.invokevirtual index, 3))
    (hpre : ∀ vm₁, s.WarmedH vm₁ → Pre ⟨T.setVm vm₁, locs, cells, slots⟩ (Value.ref b :: argsL).toArray) :
    (∃ (v : Option Value) (vm₁ : Vm) (B : Pt), s.WarmedH vm₁ ∧ Stand p l e R s m args below meth c B.U B.locs B.cells B.slots ∧ Post ⟨T.setVm vm₁, locs, cells, slots⟩ (Value.ref b :: argsL).toArray v B ∧
      ∀ target, Steps p.tables e below (B.U.setTop { g with pc := g.pc + 3, stack := v.toList ++ rest }) target → Steps p.tables e below (T.setTop g) target) ∨
    (∃ (q : Addr) (vm₁ : Vm) (B : Pt), s.WarmedH vm₁ ∧ Stand p l e R s m args below meth c B.U B.locs B.cells B.slots ∧ PostX ⟨T.setVm vm₁, locs, cells, slots⟩ (Value.ref b :: argsL).toArray q B ∧
      Steps p.tables e below (T.setTop g) ((B.U.setTop { g with stack := rest }).pushFrame (.throwing q))) := by
  obtain ⟨mk, methM, hnamed, hmethM, hstM, habM⟩ := Cond.instanceMethod_spec hinst
  obtain ⟨methM', cM, hmethM', -, -, -, -, -, -, hsigM⟩ := Cond.code_spec hnamed hcode
  cases hmethM.symm.trans hmethM'
  obtain ⟨c2, r2, m2, q1, q2, q3, q4, kP, hkP, hkPi⟩ := Cond.selects_spec hsel
  cases hcls.symm.trans q1
  cases (State.methodFound?_of_named hnamed hy).symm.trans q2
  cases hnamed.symm.trans q3
  have hselP : selectMethod e.platform s.vm cellB.cls mk = .method mk := by rw [Launch.admits_selectMethod X.admits]; exact q4
  obtain ⟨vm₁, X₁, hstep₁⟩ := X.invokevirtual hexec hown hlink hnamed hmethM hstM hkP hkPi hy (a := b) (cell := cellB) hcell
    (fun z h => by rw [h] at hobj; cases hobj) hselP hmethM habM hkP hkPi (g := g) hg (argsL := argsL) (rest := rest) (hlen _ hsigM) hstack hdg
  rcases hK m meth c ⟨T.setVm vm₁, locs, cells, slots⟩ { g with stack := rest } (.invokevirtual index) mk (Value.ref b :: argsL).toArray X₁ hg hsize hdg hW (X₁.named hnamed) (hpre vm₁ X₁.warmed) with ⟨v, B, X', hpost, hsteps⟩ | ⟨q, B, X', hpost, hsteps⟩
  · exact Or.inl ⟨v, vm₁, B, X₁.warmed, X', hpost, fun target h => hstep₁ _ fun acts => by rw [doInvoke_state]; exact hsteps.trans h⟩
  · exact Or.inr ⟨q, vm₁, B, X₁.warmed, X', hpost, hstep₁ _ fun acts => by rw [doInvoke_state]; exact hsteps⟩
theorem vx_callS (X : Stand p l e R s m args below meth c T locs cells slots) (hexec : p.tables.exec = Jvm.exec) {own : String} {index : Nat} {y : MethodName} {bytes : ByteArray} {maxL : Nat} {ret : Option FieldType}
    (hown : s.vm.findClass own = some m.cls) (hlink : (Cond.methodLink own index y).before args s = true) (hstat : (Cond.static y).before args s = true) (hinit : (Cond.initialized y.cls).before args s = true)
    (hcode : (Cond.code y bytes maxL ret).before args s = true) (hy : y.cls ≠ "java/lang/invoke/MethodHandle" ∧ y.cls ≠ "java/lang/invoke/VarHandle")
    {W9 : Nat} {Pre : Pt → Array Value → Prop} {Post : Pt → Array Value → Option Value → Pt → Prop} {PostX : Pt → Array Value → Addr → Pt → Prop} (hK : vx_Back l R p e below s args y 3 W9 Pre Post PostX)
    {g : JFrame} (hg : g.method = m) (hsize : g.locals.size = c.maxLocals) {argsL rest : List Value} (hlen : ∀ sig, parseMethodDescriptor y.desc = some sig → argsL.length = sig.parameters.length)
    (hstack : g.stack = argsL.reverse ++ rest) (hW : 2 * g.monitorRoom + (rest.map fun v => v.category).sum ≤ W9) (hdg : decode c.code g.pc = .ok (.invokestatic index, 3))
    (hpre : ∀ vm₁, s.WarmedH vm₁ → Pre ⟨T.setVm vm₁, locs, cells, slots⟩ argsL.toArray) :
    (∃ (v : Option Value) (vm₁ : Vm) (B : Pt), s.WarmedH vm₁ ∧ Stand p l e R s m args below meth c B.U B.locs B.cells B.slots ∧ Post ⟨T.setVm vm₁, locs, cells, slots⟩ argsL.toArray v B ∧
      ∀ target, Steps p.tables e below (B.U.setTop { g with pc := g.pc + 3, stack := v.toList ++ rest }) target → Steps p.tables e below (T.setTop g) target) ∨
    (∃ (q : Addr) (vm₁ : Vm) (B : Pt), s.WarmedH vm₁ ∧ Stand p l e R s m args below meth c B.U B.locs B.cells B.slots ∧ PostX ⟨T.setVm vm₁, locs, cells, slots⟩ argsL.toArray q B ∧
      Steps p.tables e below (T.setTop g) ((B.U.setTop { g with stack := rest }).pushFrame (.throwing q))) := by
  obtain ⟨mk, hnamed⟩ := Cond.code_named hcode
  obtain ⟨methM, cM, hmethM, -, -, -, -, -, -, hsigM⟩ := Cond.code_spec hnamed hcode
  have hstatic : methM.isStatic = true := Cond.static_spec hnamed hmethM hstat
  obtain ⟨kP, hkP, -⟩ := className_of_methodNamed hnamed
  have hinitP : kP.init = .initialized := Cond.initialized_spec (findClass_of_methodNamed hnamed) hkP hinit
  obtain ⟨vm₁, X₁, hstep₁⟩ := X.invokestatic hexec hown hlink hnamed hmethM hstatic hkP hinitP hy (g := g) hg (argsL := argsL) (rest := rest) (hlen _ hsigM) hstack hdg
  rcases hK m meth c ⟨T.setVm vm₁, locs, cells, slots⟩ { g with stack := rest } (.invokestatic index) mk argsL.toArray X₁ hg hsize hdg hW (X₁.named hnamed) (hpre vm₁ X₁.warmed) with ⟨v, B, X', hpost, hsteps⟩ | ⟨q, B, X', hpost, hsteps⟩
  · exact Or.inl ⟨v, vm₁, B, X₁.warmed, X', hpost, fun target h => hstep₁ _ fun acts => by rw [doInvoke_state]; exact hsteps.trans h⟩
  · exact Or.inr ⟨q, vm₁, B, X₁.warmed, X', hpost, hstep₁ _ fun acts => by rw [doInvoke_state]; exact hsteps⟩
end Calls
theorem vx_cls {s : State} {T : State} {vm₁ : Vm} {E : String} {k : ClassId} (hW : s.WarmedH vm₁) (h : (T.setVm vm₁).vm.findClass E = some k) : s.vm.findClass E = some k := by
  have h1 : vm₁.findClass E = some k := h
  rw [hW.alike.findClass] at h1
  exact h1
/-- the method's frame g, with q thrown over it -/
def vx_W (p : Program) (l : Launch) (e : Env) (R : Room) (s : State) (m : MethodId) (args : Array Value) (below : List Frame) (meth : Method) (c : Code) (H : Heap) (locs : List Loc) (cells slots : Nat) (Q : State → Prop) (g : JFrame) (q : Addr) : Prop :=
  ∀ T : State, T.heap = H → Stand p l e R s m args below meth c T locs cells slots → ∃ t, Steps p.tables e below ((T.setTop g).pushFrame (.throwing q)) t ∧ Q t
def vx_Run (p : Program) (l : Launch) (e : Env) (R : Room) (s : State) (m : MethodId) (args : Array Value) (below : List Frame) (meth : Method) (c : Code) (H : Heap) (locs : List Loc) (cells slots mc ms : Nat) (g : JFrame) (rest : List Value) (Qa : State → Outcome → State → Prop) (XC : String → State → State → Prop) (free : Addr → Prop) : Prop :=
  ∀ T : State, T.heap = H → Stand p l e R s m args below meth c T locs cells slots →
    (∃ (v : Option Value) (st₀ t T' : State) (L : List Loc), st₀.heap = H ∧ Stand p l e R s m args below meth c T' (locs ++ L) (cells + mc) (slots + ms) ∧ (∀ q ∈ L, free q.base) ∧ T'.heap = t.heap ∧ T'.vm = t.vm ∧ Qa st₀ (.returned v) t ∧
      Goes p e below T g T' { g with pc := g.pc + 3, stack := v.toList ++ rest }) ∨
    (∃ (q : Addr) (st₀ t T' : State) (L : List Loc) (E : String) (ce : Cell), st₀.heap = H ∧ Stand p l e R s m args below meth c T' (locs ++ L) (cells + mc) (slots + ms) ∧ (∀ z ∈ L, free z.base) ∧ T'.heap = t.heap ∧ T'.vm = t.vm ∧ XC E st₀ t ∧ t.heap[q]? = some ce ∧ ce.vm = .none ∧ s.vm.findClass E = some ce.cls ∧
      Steps p.tables e below (T.setTop g) ((T'.setTop { g with stack := rest }).pushFrame (.throwing q)))
def vx_X {S : Type} (px : S → Prop) (B : String → S → State → Prop) (A : Nat → Prop) : String → State → State → Prop := fun E st t => ∃ u : S, px u ∧ B E u t ∧ va_F A st t
section Runs
variable {p : Program} {l : Launch} {e : Env} {R : Room} {s : State} {m : MethodId} {args : Array Value} {below : List Frame} {meth : Method} {c : Code} {H : Heap} {locs : List Loc} {cells slots : Nat}
variable {y : MethodName} {bytes cc : ByteArray} {maxL nL mc ms n index : Nat} {ret : Option FieldType} {ws : List Cond} {rm : Room} {Pc : Array Value → State → Prop} {Qc : Array Value → State → Outcome → State → Prop} {XC : String → State → State → Prop} {free : Addr → Prop} {Ts : List Cond} {own C : String} {b : Addr} {As rest : List Value} {g : JFrame}
theorem vx_callBack (cb : CallB R s args own index y bytes maxL ret ws rm mc ms n) (hM : vx_Met l y ws rm Pc Qc XC mc ms free) (hbl : FrameBlind Pc) : vx_Back l R p e below s args y 3 8 (PreOf R mc ms Pc) (PostOf Qc mc ms free) (vx_Post XC mc ms free) := by
  obtain ⟨hrc, hrs, hfr, hlo, hws, hcw, -, hini, -⟩ := cb
  exact vx_back (bytes := bytes) (maxL := maxL) (ret := ret) hM hbl hrc hrs hfr hlo hws hcw (fun a' U hW => word_at hW (Or.inl (by first | rfl | simp [Cond.onTables, Cond.keeps, Cond.steady])) hini)
theorem vx_runV (S : CallFix p m c cc nL s args Ts own) (hM : vx_Met l y ws rm Pc Qc XC mc ms free) (cw : CallW R s args own C index y bytes maxL ret ws rm mc ms n) (hp : PreV s H C b Pc As)
    (hg : g.method = m) (hn : As.length = n) (hsize : g.locals.size = nL) (hstack : g.stack = As.reverse ++ .ref b :: rest) (hW : 2 * g.monitorRoom + (rest.map fun v => v.category).sum ≤ 8) (hdg : decode cc g.pc = .ok (.invokevirtual index, 3)) (hf : cells + mc ≤ R.cells ∧ slots + ms ≤ R.slots) :
    vx_Run p l e R s m args below meth c H locs cells slots mc ms g rest (Qc (Value.ref b :: As).toArray) XC free := by
  have hK : vx_Back l R p e below s args y 3 8 (PreOf R mc ms Pc) (PostOf Qc mc ms free) (vx_Post XC mc ms free) := vx_callBack cw.1 hM hp.1
  obtain ⟨⟨-, -, -, -, -, -, hcode, -, hy, hlen, hl⟩, hin, hse⟩ := cw
  obtain ⟨hx, hb, hml, ho, -⟩ := S
  obtain ⟨-, ⟨cellB, hcB, hoB, hclB⟩, hPc⟩ := hp
  intro T hT X
  rcases vx_callV X hx (C := C) (bytes := bytes) (maxL := maxL) (ret := ret) ho hl hin hse hcode hy hK (by rw [hT]; exact hcB) hoB hclB hg (hsize.trans hml.symm) (argsL := As) (rest := rest) (fun sig h => hn.trans (hlen sig h)) hstack hW (by rw [hb]; exact hdg)
    (fun vm₁ hW₁ => ⟨hf.1, hf.2, hPc (T.setVm vm₁) hT hW₁⟩) with ⟨v, vm₁, ⟨U', l2, c2, s2⟩, hW₁, X', ⟨g', mk, t, L, e1, e2, hq, h1, hL, h2, h3⟩, st⟩ | ⟨q, vm₁, ⟨U', l2, c2, s2⟩, hW₁, X', ⟨g', mk, t, L, E, ce, e1, e2, hq, hce, hcv, hcl, h1, hL, h2, h3⟩, st⟩
  · dsimp only [Pt.U, Pt.locs, Pt.cells, Pt.slots] at X' e1 e2 h1 h2 h3 st
    subst h1; subst h2; subst h3
    exact Or.inl ⟨v, (T.setVm vm₁).calling g' mk (Value.ref b :: As).toArray, t, U', L, hT, X', hL, e1, e2, hq, st⟩
  · dsimp only [Pt.U, Pt.locs, Pt.cells, Pt.slots] at X' e1 e2 h1 h2 h3 st hcl
    subst h1; subst h2; subst h3
    exact Or.inr ⟨q, (T.setVm vm₁).calling g' mk (Value.ref b :: As).toArray, t, U', L, E, ce, hT, X', hL, e1, e2, hq, hce, hcv, vx_cls hW₁ hcl, st⟩
theorem vx_runS (S : CallFix p m c cc nL s args Ts own) (hM : vx_Met l y ws rm Pc Qc XC mc ms free) (cw : CallB R s args own index y bytes maxL ret ws rm mc ms n ∧ (Cond.static y).before args s = true) (hp : PreS s H Pc As)
    (hg : g.method = m) (hn : As.length = n) (hsize : g.locals.size = nL) (hstack : g.stack = As.reverse ++ rest) (hW : 2 * g.monitorRoom + (rest.map fun v => v.category).sum ≤ 8) (hdg : decode cc g.pc = .ok (.invokestatic index, 3)) (hf : cells + mc ≤ R.cells ∧ slots + ms ≤ R.slots) :
    vx_Run p l e R s m args below meth c H locs cells slots mc ms g rest (Qc As.toArray) XC free := by
  have hK : vx_Back l R p e below s args y 3 8 (PreOf R mc ms Pc) (PostOf Qc mc ms free) (vx_Post XC mc ms free) := vx_callBack cw.1 hM hp.1
  obtain ⟨⟨-, -, -, -, -, -, hcode, hini, hy, hlen, hl⟩, hstt⟩ := cw
  obtain ⟨hx, hb, hml, ho, -⟩ := S
  intro T hT X
  rcases vx_callS X hx (bytes := bytes) (maxL := maxL) (ret := ret) ho hl hstt hini hcode hy hK hg (hsize.trans hml.symm) (argsL := As) (rest := rest) (fun sig h => hn.trans (hlen sig h)) hstack hW (by rw [hb]; exact hdg)
    (fun vm₁ hW₁ => ⟨hf.1, hf.2, hp.2 (T.setVm vm₁) hT hW₁⟩) with ⟨v, vm₁, ⟨U', l2, c2, s2⟩, hW₁, X', ⟨g', mk, t, L, e1, e2, hq, h1, hL, h2, h3⟩, st⟩ | ⟨q, vm₁, ⟨U', l2, c2, s2⟩, hW₁, X', ⟨g', mk, t, L, E, ce, e1, e2, hq, hce, hcv, hcl, h1, hL, h2, h3⟩, st⟩
  · dsimp only [Pt.U, Pt.locs, Pt.cells, Pt.slots] at X' e1 e2 h1 h2 h3 st
    subst h1; subst h2; subst h3
    exact Or.inl ⟨v, (T.setVm vm₁).calling g' mk As.toArray, t, U', L, hT, X', hL, e1, e2, hq, st⟩
  · dsimp only [Pt.U, Pt.locs, Pt.cells, Pt.slots] at X' e1 e2 h1 h2 h3 st hcl
    subst h1; subst h2; subst h3
    exact Or.inr ⟨q, (T.setVm vm₁).calling g' mk As.toArray, t, U', L, E, ce, hT, X', hL, e1, e2, hq, hce, hcv, vx_cls hW₁ hcl, st⟩
end Runs
section Rows
variable {p : Program} {l : Launch} {e : Env} {R : Room} {s : State} {m : MethodId} {args : Array Value} {below : List Frame} {meth : Method} {c : Code} {H : Heap} {locs : List Loc} {cells slots : Nat} {Q : State → Prop}
variable {mc ms : Nat} {free : Addr → Prop} {A0 A1 : Nat → Prop} {H0 : Heap} {a : Array Value} {pc : Nat} {ls : Array Slot} {st0 rest : List Value}
theorem vx_keep {st₀ t T' : State} {L : List Loc} (h0 : st₀.heap = H) (e1 : T'.heap = t.heap) (hS : va_S A0 H0 H locs) (hA : ∀ q, q < H.size → A1 q → A0 q) (hf : ∀ q, free q → A0 q) (hL : ∀ q ∈ L, free q.base) (hF : va_F A1 st₀ t) :
    H.size ≤ T'.heap.size ∧ (∀ q : Nat, q < H.size → ¬ A1 q → T'.heap[q]? = H[q]?) ∧ va_S A0 H0 T'.heap (locs ++ L) := by
  obtain ⟨hz, hk⟩ := hF
  rw [h0] at hz hk
  exact ⟨by rw [e1]; exact hz, fun q h1 h2 => by rw [e1]; exact hk q h1 h2,
    ⟨Nat.le_trans hS.1 (by rw [e1]; exact hz), fun q h1 h2 => by rw [e1, hk q (Nat.lt_of_lt_of_le h1 hS.1) (fun z => h2 (hA q (Nat.lt_of_lt_of_le h1 hS.1) z))]; exact hS.2.1 q h1 h2, fun q hq => by
      rcases List.mem_append.mp hq with h | h
      · exact hS.2.2 q h
      · exact hf _ (hL q h)⟩⟩
theorem vx_calli {S SX : Type} {post : Int32 → S → Prop} {px : SX → Prop} {B : S → State → Prop} {BX : String → SX → State → Prop} {AX : Nat → Prop} (hr : vx_Run p l e R s m args below meth c H locs cells slots mc ms (F0 m pc ls st0) rest (va_Qi post B A1 a) (vx_X px BX AX) free) (hS : va_S A0 H0 H locs) (hA : ∀ q, q < H.size → A1 q → A0 q) (hf : ∀ q, free q → A0 q) (hAX : ∀ q, q < H.size → AX q → A0 q)
    (kx : ∀ (E : String) (ce : Cell) (q9 : Addr) (u : SX) (t : State) (H1 : Heap) (locs1 : List Loc), t.heap = H1 → s.vm.Alike t.vm → px u → BX E u t → H.size ≤ H1.size → (∀ q : Nat, q < H.size → ¬ AX q → H1[q]? = H[q]?) → va_S A0 H0 H1 locs1 → H1[q9]? = some ce → ce.vm = .none → s.vm.findClass E = some ce.cls → vx_W p l e R s m args below meth c H1 locs1 (cells + mc) (slots + ms) Q (F0 m pc ls rest) q9)
    (kk : ∀ (r : Int32) (u : S) (t : State) (H1 : Heap) (locs1 : List Loc), t.heap = H1 → s.vm.Alike t.vm → post r u → B u t → H.size ≤ H1.size → (∀ q : Nat, q < H.size → ¬ A1 q → H1[q]? = H[q]?) → va_S A0 H0 H1 locs1 → W p l e R s m args below meth c H1 locs1 (cells + mc) (slots + ms) Q (F0 m (pc + 3) ls (.int r :: rest))) : W p l e R s m args below meth c H locs cells slots Q (F0 m pc ls st0) := by
  intro T hT X
  rcases hr T hT X with ⟨v, st₀, t, T', L, h0, X', hL, e1, e2, ⟨⟨r, u, hv, hp, hb⟩, hF⟩, st⟩ | ⟨q, st₀, t, T', L, E, ce, h0, X', hL, e1, e2, ⟨u, hp, hb, hF⟩, hce, hcv, hcl, st⟩
  · cases hv
    obtain ⟨k1, k2, k3⟩ := vx_keep h0 e1 hS hA hf hL hF
    obtain ⟨t2, a1, b1⟩ := kk r u t T'.heap (locs ++ L) e1.symm (by rw [← e2]; exact X'.warmed.alike) hp hb k1 k2 k3 T' rfl X'
    exact ⟨t2, st t2 a1, b1⟩
  · obtain ⟨k1, k2, k3⟩ := vx_keep h0 e1 hS hAX hf hL hF
    obtain ⟨t2, a1, b1⟩ := kx E ce q u t T'.heap (locs ++ L) e1.symm (by rw [← e2]; exact X'.warmed.alike) hp hb k1 k2 k3 (by rw [e1]; exact hce) hcv hcl T' rfl X'
    exact ⟨t2, st.trans a1, b1⟩
theorem vx_calll {S SX : Type} {post : Int64 → S → Prop} {px : SX → Prop} {B : S → State → Prop} {BX : String → SX → State → Prop} {AX : Nat → Prop} (hr : vx_Run p l e R s m args below meth c H locs cells slots mc ms (F0 m pc ls st0) rest (va_Ql post B A1 a) (vx_X px BX AX) free) (hS : va_S A0 H0 H locs) (hA : ∀ q, q < H.size → A1 q → A0 q) (hf : ∀ q, free q → A0 q) (hAX : ∀ q, q < H.size → AX q → A0 q)
    (kx : ∀ (E : String) (ce : Cell) (q9 : Addr) (u : SX) (t : State) (H1 : Heap) (locs1 : List Loc), t.heap = H1 → s.vm.Alike t.vm → px u → BX E u t → H.size ≤ H1.size → (∀ q : Nat, q < H.size → ¬ AX q → H1[q]? = H[q]?) → va_S A0 H0 H1 locs1 → H1[q9]? = some ce → ce.vm = .none → s.vm.findClass E = some ce.cls → vx_W p l e R s m args below meth c H1 locs1 (cells + mc) (slots + ms) Q (F0 m pc ls rest) q9)
    (kk : ∀ (r : Int64) (u : S) (t : State) (H1 : Heap) (locs1 : List Loc), t.heap = H1 → s.vm.Alike t.vm → post r u → B u t → H.size ≤ H1.size → (∀ q : Nat, q < H.size → ¬ A1 q → H1[q]? = H[q]?) → va_S A0 H0 H1 locs1 → W p l e R s m args below meth c H1 locs1 (cells + mc) (slots + ms) Q (F0 m (pc + 3) ls (.long r :: rest))) : W p l e R s m args below meth c H locs cells slots Q (F0 m pc ls st0) := by
  intro T hT X
  rcases hr T hT X with ⟨v, st₀, t, T', L, h0, X', hL, e1, e2, ⟨⟨r, u, hv, hp, hb⟩, hF⟩, st⟩ | ⟨q, st₀, t, T', L, E, ce, h0, X', hL, e1, e2, ⟨u, hp, hb, hF⟩, hce, hcv, hcl, st⟩
  · cases hv
    obtain ⟨k1, k2, k3⟩ := vx_keep h0 e1 hS hA hf hL hF
    obtain ⟨t2, a1, b1⟩ := kk r u t T'.heap (locs ++ L) e1.symm (by rw [← e2]; exact X'.warmed.alike) hp hb k1 k2 k3 T' rfl X'
    exact ⟨t2, st t2 a1, b1⟩
  · obtain ⟨k1, k2, k3⟩ := vx_keep h0 e1 hS hAX hf hL hF
    obtain ⟨t2, a1, b1⟩ := kx E ce q u t T'.heap (locs ++ L) e1.symm (by rw [← e2]; exact X'.warmed.alike) hp hb k1 k2 k3 (by rw [e1]; exact hce) hcv hcl T' rfl X'
    exact ⟨t2, st.trans a1, b1⟩
theorem vx_callf {S SX : Type} {post : UInt32 → S → Prop} {px : SX → Prop} {B : S → State → Prop} {BX : String → SX → State → Prop} {AX : Nat → Prop} (hr : vx_Run p l e R s m args below meth c H locs cells slots mc ms (F0 m pc ls st0) rest (va_Qf post B A1 a) (vx_X px BX AX) free) (hS : va_S A0 H0 H locs) (hA : ∀ q, q < H.size → A1 q → A0 q) (hf : ∀ q, free q → A0 q) (hAX : ∀ q, q < H.size → AX q → A0 q)
    (kx : ∀ (E : String) (ce : Cell) (q9 : Addr) (u : SX) (t : State) (H1 : Heap) (locs1 : List Loc), t.heap = H1 → s.vm.Alike t.vm → px u → BX E u t → H.size ≤ H1.size → (∀ q : Nat, q < H.size → ¬ AX q → H1[q]? = H[q]?) → va_S A0 H0 H1 locs1 → H1[q9]? = some ce → ce.vm = .none → s.vm.findClass E = some ce.cls → vx_W p l e R s m args below meth c H1 locs1 (cells + mc) (slots + ms) Q (F0 m pc ls rest) q9)
    (kk : ∀ (r : UInt32) (u : S) (t : State) (H1 : Heap) (locs1 : List Loc), t.heap = H1 → s.vm.Alike t.vm → post r u → B u t → H.size ≤ H1.size → (∀ q : Nat, q < H.size → ¬ A1 q → H1[q]? = H[q]?) → va_S A0 H0 H1 locs1 → W p l e R s m args below meth c H1 locs1 (cells + mc) (slots + ms) Q (F0 m (pc + 3) ls (.float r :: rest))) : W p l e R s m args below meth c H locs cells slots Q (F0 m pc ls st0) := by
  intro T hT X
  rcases hr T hT X with ⟨v, st₀, t, T', L, h0, X', hL, e1, e2, ⟨⟨r, u, hv, hp, hb⟩, hF⟩, st⟩ | ⟨q, st₀, t, T', L, E, ce, h0, X', hL, e1, e2, ⟨u, hp, hb, hF⟩, hce, hcv, hcl, st⟩
  · cases hv
    obtain ⟨k1, k2, k3⟩ := vx_keep h0 e1 hS hA hf hL hF
    obtain ⟨t2, a1, b1⟩ := kk r u t T'.heap (locs ++ L) e1.symm (by rw [← e2]; exact X'.warmed.alike) hp hb k1 k2 k3 T' rfl X'
    exact ⟨t2, st t2 a1, b1⟩
  · obtain ⟨k1, k2, k3⟩ := vx_keep h0 e1 hS hAX hf hL hF
    obtain ⟨t2, a1, b1⟩ := kx E ce q u t T'.heap (locs ++ L) e1.symm (by rw [← e2]; exact X'.warmed.alike) hp hb k1 k2 k3 (by rw [e1]; exact hce) hcv hcl T' rfl X'
    exact ⟨t2, st.trans a1, b1⟩
theorem vx_calld {S SX : Type} {post : UInt64 → S → Prop} {px : SX → Prop} {B : S → State → Prop} {BX : String → SX → State → Prop} {AX : Nat → Prop} (hr : vx_Run p l e R s m args below meth c H locs cells slots mc ms (F0 m pc ls st0) rest (va_Qd post B A1 a) (vx_X px BX AX) free) (hS : va_S A0 H0 H locs) (hA : ∀ q, q < H.size → A1 q → A0 q) (hf : ∀ q, free q → A0 q) (hAX : ∀ q, q < H.size → AX q → A0 q)
    (kx : ∀ (E : String) (ce : Cell) (q9 : Addr) (u : SX) (t : State) (H1 : Heap) (locs1 : List Loc), t.heap = H1 → s.vm.Alike t.vm → px u → BX E u t → H.size ≤ H1.size → (∀ q : Nat, q < H.size → ¬ AX q → H1[q]? = H[q]?) → va_S A0 H0 H1 locs1 → H1[q9]? = some ce → ce.vm = .none → s.vm.findClass E = some ce.cls → vx_W p l e R s m args below meth c H1 locs1 (cells + mc) (slots + ms) Q (F0 m pc ls rest) q9)
    (kk : ∀ (r : UInt64) (u : S) (t : State) (H1 : Heap) (locs1 : List Loc), t.heap = H1 → s.vm.Alike t.vm → post r u → B u t → H.size ≤ H1.size → (∀ q : Nat, q < H.size → ¬ A1 q → H1[q]? = H[q]?) → va_S A0 H0 H1 locs1 → W p l e R s m args below meth c H1 locs1 (cells + mc) (slots + ms) Q (F0 m (pc + 3) ls (.double r :: rest))) : W p l e R s m args below meth c H locs cells slots Q (F0 m pc ls st0) := by
  intro T hT X
  rcases hr T hT X with ⟨v, st₀, t, T', L, h0, X', hL, e1, e2, ⟨⟨r, u, hv, hp, hb⟩, hF⟩, st⟩ | ⟨q, st₀, t, T', L, E, ce, h0, X', hL, e1, e2, ⟨u, hp, hb, hF⟩, hce, hcv, hcl, st⟩
  · cases hv
    obtain ⟨k1, k2, k3⟩ := vx_keep h0 e1 hS hA hf hL hF
    obtain ⟨t2, a1, b1⟩ := kk r u t T'.heap (locs ++ L) e1.symm (by rw [← e2]; exact X'.warmed.alike) hp hb k1 k2 k3 T' rfl X'
    exact ⟨t2, st t2 a1, b1⟩
  · obtain ⟨k1, k2, k3⟩ := vx_keep h0 e1 hS hAX hf hL hF
    obtain ⟨t2, a1, b1⟩ := kx E ce q u t T'.heap (locs ++ L) e1.symm (by rw [← e2]; exact X'.warmed.alike) hp hb k1 k2 k3 (by rw [e1]; exact hce) hcv hcl T' rfl X'
    exact ⟨t2, st.trans a1, b1⟩
theorem vx_callv {S SX : Type} {post : S → Prop} {px : SX → Prop} {B : S → State → Prop} {BX : String → SX → State → Prop} {AX : Nat → Prop} (hr : vx_Run p l e R s m args below meth c H locs cells slots mc ms (F0 m pc ls st0) rest (va_Qv post B A1 a) (vx_X px BX AX) free) (hS : va_S A0 H0 H locs) (hA : ∀ q, q < H.size → A1 q → A0 q) (hf : ∀ q, free q → A0 q) (hAX : ∀ q, q < H.size → AX q → A0 q)
    (kx : ∀ (E : String) (ce : Cell) (q9 : Addr) (u : SX) (t : State) (H1 : Heap) (locs1 : List Loc), t.heap = H1 → s.vm.Alike t.vm → px u → BX E u t → H.size ≤ H1.size → (∀ q : Nat, q < H.size → ¬ AX q → H1[q]? = H[q]?) → va_S A0 H0 H1 locs1 → H1[q9]? = some ce → ce.vm = .none → s.vm.findClass E = some ce.cls → vx_W p l e R s m args below meth c H1 locs1 (cells + mc) (slots + ms) Q (F0 m pc ls rest) q9)
    (kk : ∀ (u : S) (t : State) (H1 : Heap) (locs1 : List Loc), t.heap = H1 → s.vm.Alike t.vm → post u → B u t → H.size ≤ H1.size → (∀ q : Nat, q < H.size → ¬ A1 q → H1[q]? = H[q]?) → va_S A0 H0 H1 locs1 → W p l e R s m args below meth c H1 locs1 (cells + mc) (slots + ms) Q (F0 m (pc + 3) ls (rest))) : W p l e R s m args below meth c H locs cells slots Q (F0 m pc ls st0) := by
  intro T hT X
  rcases hr T hT X with ⟨v, st₀, t, T', L, h0, X', hL, e1, e2, ⟨⟨u, hv, hp, hb⟩, hF⟩, st⟩ | ⟨q, st₀, t, T', L, E, ce, h0, X', hL, e1, e2, ⟨u, hp, hb, hF⟩, hce, hcv, hcl, st⟩
  · cases hv
    obtain ⟨k1, k2, k3⟩ := vx_keep h0 e1 hS hA hf hL hF
    obtain ⟨t2, a1, b1⟩ := kk u t T'.heap (locs ++ L) e1.symm (by rw [← e2]; exact X'.warmed.alike) hp hb k1 k2 k3 T' rfl X'
    exact ⟨t2, st t2 a1, b1⟩
  · obtain ⟨k1, k2, k3⟩ := vx_keep h0 e1 hS hAX hf hL hF
    obtain ⟨t2, a1, b1⟩ := kx E ce q u t T'.heap (locs ++ L) e1.symm (by rw [← e2]; exact X'.warmed.alike) hp hb k1 k2 k3 (by rw [e1]; exact hce) hcv hcl T' rfl X'
    exact ⟨t2, st.trans a1, b1⟩
/-- caught by the row x of this method's table; the rows ahead don't take it -/
theorem vx_catch {own name : String} {E : String} {ce : Cell} {q : Addr} (hown : s.vm.findClass own = some m.cls) (pre : List ExceptionTableEntry) (x : ExceptionTableEntry) (suf : List ExceptionTableEntry) (hsplit : c.exceptionTable.toList = pre ++ x :: suf)
    (hpass : ∀ z ∈ pre, covers z pc = false ∨ (z.catchType ≠ 0 ∧ ∃ nm : String, (Cond.classLink own z.catchType nm).before args s = true ∧ va_Nc E nm s)) (hx : covers x pc = true) (h0 : x.catchType ≠ 0)
    (hlink : (Cond.classLink own x.catchType name).before args s = true) (hcast : (Cond.castable E name).before args s = true) (hcell : H[q]? = some ce) (hv : ce.vm = .none) (hcl : s.vm.findClass E = some ce.cls)
    (kk : W p l e R s m args below meth c H locs cells slots Q (F0 m x.handlerPc ls [.ref q])) : vx_W p l e R s m args below meth c H locs cells slots Q (F0 m pc ls rest) q := by
  intro T hT X
  have hpl : e.platform.magicAccessors = ({} : Platform).magicAccessors := by rw [X.admits.platform]
  obtain ⟨c3, c4, hc3, hc4, hasg⟩ := Cond.castable_spec hcast
  cases Option.some.inj (hc3.symm.trans hcl)
  obtain ⟨c5, hc5, hcl5⟩ := Cond.classLink_spec hown hlink e.platform hpl
  cases Option.some.inj (hc4.symm.trans hc5)
  obtain ⟨vm', X', st⟩ := X.thenCaughtThrough q (g := F0 m pc ls rest) rfl (Steps.refl _) (by rw [hT]; exact hcell) (by rw [hv]; rfl) (by obtain ⟨k9, h9, -⟩ := Vm.findClass_spec hcl; exact ⟨k9, h9⟩) pre x suf hsplit
    (fun z hz => by
      rcases hpass z hz with h | ⟨hz0, nm, hl1, hn1⟩
      · exact Or.inl h
      · obtain ⟨c6, hc6, hcl6⟩ := Cond.classLink_spec hown hl1 e.platform hpl
        obtain ⟨a8, b8, h1, h2, h3⟩ := hn1
        cases Option.some.inj (h1.symm.trans hcl)
        cases Option.some.inj (h2.symm.trans hc6)
        exact Or.inr ⟨hz0, _, hcl6, h3⟩) hx (Or.inr ⟨h0, c4, hcl5, hasg⟩)
  obtain ⟨t, a1, b1⟩ := kk (T.setVm vm') hT X'
  exact ⟨t, st.trans a1, b1⟩
end Rows
section Ends
variable {p : Program} {l : Launch} {e : Env} {R : Room} {s : State} {m : MethodId} {args : Array Value} {below : List Frame} {meth : Method} {c : Code} {H : Heap} {locs : List Loc} {cells slots : Nat} {Q : State → Prop}
variable {mc ms : Nat} {free : Addr → Prop} {A0 A1 : Nat → Prop} {H0 : Heap} {a : Array Value} {ls : Array Slot} {st0 rest : List Value}
variable {Qc : Array Value → State → Outcome → State → Prop} {XC : String → State → State → Prop}
/-- what a body that may throw owes at its end -/
def vx_MQ (below : List Frame) (Qc : Array Value → State → Outcome → State → Prop) (XC : String → State → State → Prop) (a : Array Value) (s : State) (mc ms : Nat) (free : Addr → Prop) : State → Prop := fun t =>
  ∃ o, t.status = .running ∧ Ended t below o ∧ vx_Q Qc XC mc ms free a s o t
theorem vx_ret {g : JFrame} {mc ms : Nat} (k : W p l e R s m args below meth c H locs cells slots (MQ below Qc args s mc ms free) g) : W p l e R s m args below meth c H locs cells slots (vx_MQ below Qc XC args s mc ms free) g := by
  intro T hT X
  obtain ⟨t, a1, o, b1, b2, b3, b4⟩ := k T hT X
  exact ⟨t, a1, o, b1, b2, Or.inl ⟨b3, b4⟩⟩
/-- not caught here: it goes on to the caller -/
theorem vx_widen {g : JFrame} {q : Addr} {k n : Nat} (h1 : cells ≤ k) (h2 : slots ≤ n) (kk : vx_W p l e R s m args below meth c H locs k n Q g q) : vx_W p l e R s m args below meth c H locs cells slots Q g q := fun T hT X => kk T hT (stand_widen X h1 h2)
theorem vx_out {pc : Nat} {E : String} {ce : Cell} {q : Addr} {mc ms : Nat} (hout : ∀ x ∈ c.exceptionTable.toList, covers x pc = false) (hlocks : meth.locks = false) (hcell : H[q]? = some ce) (hv : ce.vm = .none) (hcl : s.vm.findClass E = some ce.cls)
    (hx : ∀ t : State, t.heap = H → s.vm.Alike t.vm → XC E s t) (hf : ∀ z ∈ locs, free z.base) (hc : cells ≤ mc) (hs : slots ≤ ms) :
    vx_W p l e R s m args below meth c H locs cells slots (vx_MQ below Qc XC args s mc ms free) (F0 m pc ls rest) q := by
  intro T hT X
  obtain ⟨st1, hrun, hend, hW, hsm⟩ := X.leaveThrown q (g := F0 m pc ls rest) rfl rfl rfl hout hlocks
  have hcell9 : (T.setFrames (.throwing q :: below)).heap[q]? = some ce := by
    show T.heap[q]? = some ce
    rw [hT]; exact hcell
  exact ⟨_, st1, .threw q, hrun, hend, Or.inr ⟨q, rfl, E, ce, locs, hx _ hT hW.alike, hcell9, hv, hcl, hW, hsm.mono hc hs, hf⟩⟩
theorem vx_frame {U : State} {k n : Nat} (h : s.sameButNew ({ U with vm := s.vm } : State) locs k n) : s.heap.size ≤ U.heap.size ∧ ∀ q : Nat, q < s.heap.size → (∀ z ∈ locs, z.base ≠ q) → U.heap[q]? = s.heap[q]? := by
  obtain ⟨-, h2, -, -, -, h6⟩ := h
  refine ⟨h2, fun q hq hz => ?_⟩
  obtain ⟨c9, e1, e2, e3, e4⟩ := h6 q _ (Array.getElem?_eq_getElem hq)
  have hs : c9.slots = (s.heap[q]).slots := Array.ext_getElem? fun i => e4 i fun hm => hz _ hm rfl
  have h9 : c9 = s.heap[q] := by
    rw [hs] at e2
    exact e2
  have e5 : U.heap[q]? = some c9 := e1
  rw [e5, h9, Array.getElem?_eq_getElem hq]
/-- the words of a throw but the four that speak of the heap -/
def vx_no (w : Cond) : Bool := decide (w ≠ .isRef (.static Bundle.tN "UNASSIGNED_STACK" Bundle.steD)) && decide (w ≠ .isRef (.static Bundle.tN "SUPPRESSED_SENTINEL" Bundle.listD)) && decide (w ≠ .laysStatic Bundle.tN "UNASSIGNED_STACK" Bundle.steD) && decide (w ≠ .laysStatic Bundle.tN "SUPPRESSED_SENTINEL" Bundle.listD)
def vx_at0 (own : String) (ic : Nat) (X : String) (names : List String) : List Cond := (Bundle.ownAtoms0 own ic X names).filter vx_no
def vx_atS (own : String) (ic : Nat) (X : String) (names : List String) : List Cond := (Bundle.ownAtoms own ic X names).filter vx_no
/-- a word that the tables alone decide, or a good one -/
def vx_ot (w : Cond) : Bool := w.onTables || goodWord w
theorem vx_ot_at {args a' : Array Value} {s U : State} {w : Cond} (hW : s.WarmedH U.vm) (hvm : s.vm = U.vm) (hg : vx_ot w = true) (h : w.before args s = true) : w.before a' U = true := by
  simp only [vx_ot, Bool.or_eq_true] at hg
  rcases hg with hg | hg
  · exact va_tabs hg hvm h
  · exact word_at hW (good_of_word hg) h
/-- a list's words: the good ones out of the method's own list, the others by premises of their own -/
theorem vx_hat {args : Array Value} {s : State} {L B : List Cond} (h1 : ∀ w ∈ L.filter goodWord, w.before args s = true) (h2 : ∀ w ∈ L.filter (fun w => !goodWord w), w ∈ B) (h3 : ∀ w ∈ B, w.before args s = true) : ∀ w ∈ L, w.before args s = true := by
  intro w hw
  by_cases g : goodWord w = true
  · exact h1 w (List.mem_filter.mpr ⟨hw, g⟩)
  · refine h3 w (h2 w (List.mem_filter.mpr ⟨hw, ?_⟩))
    show (!goodWord w) = true
    cases hgw : goodWord w
    · rfl
    · exact absurd hgw g
theorem vx_c {args : Array Value} {s : State} {w : Cond} {B : List Cond} (h : w.before args s = true) (t : ∀ w ∈ B, w.before args s = true) : ∀ w' ∈ w :: B, w'.before args s = true := fun w' h' => (List.mem_cons.mp h').elim (fun e => by rw [e]; exact h) (t w')
theorem vx_n {args : Array Value} {s : State} : ∀ w ∈ ([] : List Cond), w.before args s = true := fun _ h => nomatch h
theorem vx_own {args : Array Value} {s : State} {L : List Cond} (h1 : ∀ w ∈ L.filter vx_no, w.before args s = true)
    (hU : (Cond.isRef (.static Bundle.tN "UNASSIGNED_STACK" Bundle.steD)).before args s = true) (hN : (Cond.isRef (.static Bundle.tN "SUPPRESSED_SENTINEL" Bundle.listD)).before args s = true)
    (lU : (Cond.laysStatic Bundle.tN "UNASSIGNED_STACK" Bundle.steD).before args s = true) (lN : (Cond.laysStatic Bundle.tN "SUPPRESSED_SENTINEL" Bundle.listD).before args s = true) : ∀ w ∈ L, w.before args s = true := by
  intro w hw
  by_cases e1 : w = .isRef (.static Bundle.tN "UNASSIGNED_STACK" Bundle.steD)
  · rw [e1]; exact hU
  · by_cases e2 : w = .isRef (.static Bundle.tN "SUPPRESSED_SENTINEL" Bundle.listD)
    · rw [e2]; exact hN
    · by_cases e3 : w = .laysStatic Bundle.tN "UNASSIGNED_STACK" Bundle.steD
      · rw [e3]; exact lU
      · by_cases e4 : w = .laysStatic Bundle.tN "SUPPRESSED_SENTINEL" Bundle.listD
        · rw [e4]; exact lN
        · exact h1 w (List.mem_filter.mpr ⟨hw, by unfold vx_no; rw [decide_eq_true e1, decide_eq_true e2, decide_eq_true e3, decide_eq_true e4]; rfl⟩)
/-- where a static field lies, its class's statics cell in H -/
def vx_L (C n d : String) (A : Nat → Prop) (U : State) (H : Heap) : Prop := ∃ (c : ClassId) (k : Class) (i : Nat) (f : Field) (a : Nat) (cell : Cell), U.vm.findClass C = some c ∧ U.fieldFound? C n d = some (c, k, i, f) ∧ f.isStatic = true ∧ k.statics = some a ∧ H[a]? = some cell ∧ cell.vm.isStatics = true ∧ cell.cls = c ∧ f.slot < cell.slots.size ∧ k.staticTypes[f.slot]? = some f.type ∧ ¬ A a
theorem vx_L.moved {C n d : String} {A : Nat → Prop} {u U : State} {H : Heap} (hvm : u.vm.Alike U.vm) (h : vx_L C n d A u H) : vx_L C n d A U H := by
  obtain ⟨c, k, i, f, a, cell, h1, h2, h3, h4, h5, h6, h7, h8, h9, h10⟩ := h
  obtain ⟨k', hi', he⟩ := State.fieldFound?_setVm hvm h2
  exact ⟨c, k', i, f, a, cell, by rw [hvm.findClass]; exact h1, hi', h3, by rw [he]; exact h4, h5, h6, h7, h8, by rw [he]; exact h9, h10⟩
theorem vx_L.kept {C n d : String} {A : Nat → Prop} {U : State} {H H1 : Heap} (h : vx_L C n d A U H) (hq : ∀ a : Nat, a < H.size → ¬ A a → H1[a]? = H[a]?) : vx_L C n d A U H1 := by
  obtain ⟨c, k, i, f, a, cell, h1, h2, h3, h4, h5, h6, h7, h8, h9, h10⟩ := h
  exact ⟨c, k, i, f, a, cell, h1, h2, h3, h4, by rw [hq a (Array.getElem?_eq_some_iff.mp h5).1 h10]; exact h5, h6, h7, h8, h9, h10⟩
theorem vx_L.narrow {C n d : String} {A B : Nat → Prop} {U : State} {H : Heap} (h : vx_L C n d A U H) (hAB : ∀ q, B q → A q) : vx_L C n d B U H := by
  obtain ⟨c, k, i, f, a, cell, h1, h2, h3, h4, h5, h6, h7, h8, h9, h10⟩ := h
  exact ⟨c, k, i, f, a, cell, h1, h2, h3, h4, h5, h6, h7, h8, h9, fun z => h10 (hAB _ z)⟩
theorem vx_L.word {C n d : String} {A : Nat → Prop} {s : State} {args : Array Value} (h : vx_L C n d A s s.heap) : (Cond.laysStatic C n d).before args s = true := by
  obtain ⟨c, k, i, f, a, cell, h1, h2, h3, h4, h5, h6, h7, h8, h9, -⟩ := h
  show (Cond.laysStatic C n d).holds args s none s [] = true
  exact Cond.laysStatic_of h1 h2 h3 h4 h5 h6 h7 h8 h9
/-- .. and what it holds: null or some reference -/
def vx_Zq (C n d : String) (A : Nat → Prop) (U : State) (H : Heap) : Prop := va_Zq C n d A U H ∧ vx_L C n d A U H
theorem vx_Zq.moved {C n d : String} {A : Nat → Prop} {u U : State} {H : Heap} (hvm : u.vm.Alike U.vm) (h : vx_Zq C n d A u H) : vx_Zq C n d A U H := ⟨va_Zq.moved hvm h.1, vx_L.moved hvm h.2⟩
theorem vx_Zq.kept {C n d : String} {A : Nat → Prop} {U : State} {H H1 : Heap} (h : vx_Zq C n d A U H) (hq : ∀ a : Nat, a < H.size → ¬ A a → H1[a]? = H[a]?) : vx_Zq C n d A U H1 := ⟨va_Zq.kept h.1 hq, vx_L.kept h.2 hq⟩
theorem vx_Zq.narrow {C n d : String} {A B : Nat → Prop} {U : State} {H : Heap} (h : vx_Zq C n d A U H) (hAB : ∀ q, B q → A q) : vx_Zq C n d B U H := ⟨va_Zq.narrow h.1 hAB, vx_L.narrow h.2 hAB⟩
theorem vx_Zqof {args : Array Value} {s : State} {C n d : String} {A : Nat → Prop} (hl : (Cond.laysStatic C n d).before args s = true) (hini : (Cond.initialized C).before args s = true) (h : (Cond.isRef (.static C n d)).before args s = true) (hA : ∀ a : Nat, a < s.heap.size → ¬ A a) : vx_Zq C n d A s s.heap := by
  refine ⟨va_Zqof hl hini h hA, ?_⟩
  obtain ⟨c, k, i, f, a, cell, h1, h2, h3, h4, h5, h6, h7, h8, h9⟩ := Cond.laysStatic_spec hl
  exact ⟨c, k, i, f, a, cell, h1, h2, h3, h4, h5, h6, h7, h8, h9, hA a (Array.getElem?_eq_some_iff.mp h5).1⟩
theorem vx_isRef {C n d : String} {v : Value} {A : Nat → Prop} {s : State} {args : Array Value} (h : va_Z C n d v A s s.heap) (hv : v.isRef = true) : (Cond.isRef (.static C n d)).before args s = true := by
  obtain ⟨cf, kf, fi, f, a, cell, h1, h2, h3, h4, h5, h6, h7, -⟩ := h
  have he : (Term.static C n d).eval args s none [] s = some v := by
    simp [Term.eval, State.fieldNamed?, h1, h2, h4, h5, h6, h7]
  simp only [Cond.before, Cond.holds, Cond.value, he]
  cases v <;> simp_all [Value.isRef]
theorem vx_isRefq {C n d : String} {A : Nat → Prop} {s : State} {args : Array Value} (h : va_Zq C n d A s s.heap) : (Cond.isRef (.static C n d)).before args s = true := by
  rcases h with h | ⟨t, h⟩
  · exact vx_isRef h rfl
  · exact vx_isRef h rfl
/-- the same frame, seen from here: as if the method were called anew in this heap -/
theorem vx_rebase {T : State} (X : Stand p l e R s m args below meth c T locs cells slots) {R' : Room} (hf : R'.frames ≤ R.frames) (hl : R'.locals ≤ R.locals) (hc : cells + R'.cells ≤ R.cells) (hs : slots + R'.slots ≤ R.slots) :
    Stand p l e R' ((T.setVm s.vm).setFrames (.invoking m args :: below)) m args below meth c T [] 0 0 := by
  have htop : (T.setVm s.vm).topJava?.isSome := X.here.top
  have hF : ((T.setVm s.vm).setFrames (.invoking m args :: below)).frames = .invoking m args :: below := State.frames_setFrames _ (State.cur_lt_of_top htop)
  obtain ⟨g₀, hg0⟩ := Option.isSome_iff_exists.mp htop
  obtain ⟨r, hr⟩ := State.topJava?_eq_some.mp hg0
  have hl9 : e.platform.stackLimits (T.setVm s.vm).me = e.platform.stackLimits s.me := X.limits
  have hb9 : (T.setVm s.vm).me.stackBytes = s.me.stackBytes := X.bytes
  refine ⟨X.admits, X.cas, X.clock, hF, ?_, X.hears, X.method, X.code, X.here, X.tail, X.warmed, ?_, ?_, ?_⟩
  · have h := X.room
    have hU : ((T.setVm s.vm).setFrames (.invoking m args :: below)).localsInUse = s.localsInUse := by
      rw [State.localsInUse_invoking hF (meth := meth) (c := c) X.method X.code, State.localsInUse_invoking X.frames X.method X.code]
    simp only [State.hasRoom, Bool.and_eq_true, decide_eq_true_eq] at h ⊢
    obtain ⟨⟨⟨⟨h1, h2, h3, h4, h5, h6⟩, h7⟩, h8⟩, h9⟩ := h
    rw [X.frames, List.length_cons] at h2 h3
    have q1 := X.heapSize
    have q2 := X.used
    simp only [hF, hU, List.length_cons, State.stackLimits_setFrames, State.stackBytes_setFrames, hl9, hb9]
    refine ⟨⟨⟨⟨by omega, by omega, by omega, by omega, by omega, h6⟩, ?_⟩, ?_⟩, X.book⟩
    · show T.heap.size + R'.cells ≤ e.platform.maxCells
      omega
    · show T.slotsUsed + R'.slots ≤ e.platform.maxSlots
      omega
  · rw [State.stackLimits_setFrames]; rfl
  · rw [State.stackBytes_setFrames]; rfl
  · refine ⟨?_, Nat.le_refl _, Nat.le_refl _, ?_, ?_, fun a c9 h9 => ⟨c9, h9, rfl, rfl, fun _ _ => rfl⟩⟩
    · obtain ⟨t, ht, -⟩ := State.frames_cons hr
      show T.setVm s.vm = { ((T.setVm s.vm).setFrames (.invoking m args :: below)).setFrames (T.setVm s.vm).frames with heap := T.heap, slotsUsed := T.slotsUsed }
      rw [State.setFrames_setFrames, State.setFrames_self ht]
      rfl
    · show T.slotsUsed = T.slotsUsed + ((T.heap.toList.drop T.heap.size).map (·.slots.size)).sum
      rw [List.drop_eq_nil_of_le (Nat.le_of_eq Array.length_toList)]
      rfl
    · show ((T.heap.toList.drop T.heap.size).map (·.slots.size)).sum ≤ 0
      rw [List.drop_eq_nil_of_le (Nat.le_of_eq Array.length_toList)]
      exact Nat.le_refl _
/-- 'throw new E()': new; dup; invokespecial; athrow -/
theorem vx_throw0 {cc : ByteArray} {pc : Nat} (hexec : p.tables.exec = Jvm.exec) (hb : c.code = cc) (hl : l.stackTraces = false) {own cls : String} {names : List String} {ik ic mc ms : Nat} {A : Nat → Prop}
    (hown : s.vm.findClass own = some m.cls) (hcls : Bundle.fit cls = true) (hnames : ∀ n ∈ names, Bundle.fit n = true)
    (hk : (Cond.classLink own ik cls).before args s = true) (hini : (Cond.initialized cls).before args s = true) (hat : ∀ w ∈ vx_at0 own ic cls names, w.before args s = true)
    (hgood : ∀ w ∈ Cond.classLink own ik cls :: Cond.initialized cls :: vx_at0 own ic cls names, vx_ot w = true)
    (hU : vx_Zq Bundle.tN "UNASSIGNED_STACK" Bundle.steD A s s.heap) (hN : vx_Zq Bundle.tN "SUPPRESSED_SENTINEL" Bundle.listD A s s.heap) (hS : va_S A s.heap H locs) (hsize : ls.size = c.maxLocals)
    (d0 : decode cc pc = .ok (.new ik, 3)) (d3 : decode cc (pc + 3) = .ok (.dup, 1)) (d4 : decode cc (pc + 4) = .ok (.invokespecial ic, 3)) (d7 : decode cc (pc + 7) = .ok (.athrow, 1))
    (hout : ∀ x ∈ c.exceptionTable.toList, covers x (pc + 7) = false)
    (hRframes : names.length + 3 < R.frames) (hRlocals : (rest.map fun v => v.category).sum + (13 * (names.length + 1) + 42) ≤ R.locals) (hRcells : cells + 1 ≤ R.cells) (hRslots : slots + 6 ≤ R.slots) (hlocks : meth.locks = false)
    (hx : ∀ t : State, s.vm.Alike t.vm → H.size ≤ t.heap.size → (∀ q : Nat, q < H.size → t.heap[q]? = H[q]?) → XC cls s t)
    (hf : ∀ z ∈ locs, free z.base) (hc : cells + 1 ≤ mc) (hs : slots + 6 ≤ ms) :
    W p l e R s m args below meth c H locs cells slots (vx_MQ below Qc XC args s mc ms free) (F0 m pc ls rest) := by
  intro T hT X
  have htr : e.platform.stackTraces = false := (show e.platform.stackTraces = l.stackTraces by rw [X.admits.platform]).trans hl
  have Y := vx_rebase X (R' := { frames := R.frames, locals := R.locals, cells := 1, slots := 6 }) (Nat.le_refl _) (Nat.le_refl _) hRcells hRslots
  obtain ⟨s', hA⟩ : ∃ z, z = (T.setVm s.vm).setFrames (.invoking m args :: below) := ⟨_, rfl⟩
  rw [← hA] at Y
  have hvm : s'.vm = s.vm := by rw [hA]; rfl
  have hhp : s'.heap = H := by rw [hA]; exact hT
  have hW0 : s.WarmedH s'.vm := by rw [hvm]; exact State.WarmedH.refl s
  have hat' : ∀ w ∈ vx_at0 own ic cls names, w.before args s' = true := fun w hw => vx_ot_at hW0 hvm.symm (hgood w (List.mem_cons_of_mem _ (List.mem_cons_of_mem _ hw))) (hat w hw)
  have hk' : (Cond.classLink own ik cls).before args s' = true := vx_ot_at hW0 hvm.symm (hgood _ List.mem_cons_self) hk
  have hini' : (Cond.initialized cls).before args s' = true := vx_ot_at hW0 hvm.symm (hgood _ (List.mem_cons_of_mem _ List.mem_cons_self)) hini
  have hU' : vx_Zq Bundle.tN "UNASSIGNED_STACK" Bundle.steD A s' s'.heap := by rw [hhp]; exact vx_Zq.moved hW0.alike (hU.kept hS.2.1)
  have hN' : vx_Zq Bundle.tN "SUPPRESSED_SENTINEL" Bundle.listD A s' s'.heap := by rw [hhp]; exact vx_Zq.moved hW0.alike (hN.kept hS.2.1)
  have h : ∀ w ∈ Bundle.ownAtoms0 own ic cls names, w.before args s' = true := vx_own hat' (vx_isRefq hU'.1) (vx_isRefq hN'.1) hU'.2.word hN'.2.word
  have hown' : s'.vm.findClass own = some m.cls := by rw [hvm]; exact hown
  have hins : (Cond.instantiable cls 6).before args s' = true := h _ (by simp [Bundle.ownAtoms0])
  obtain ⟨vm₁, cX, kX, hfX, hkX, -, -, X₁, st1⟩ := Y.newCold hexec (own := own) (C := cls) (index := ik) (n := 6) hown' hk' hins hini'
    (g := F0 m pc ls rest) rfl (by rw [hb]; exact d0) (Nat.le_refl _) (Nat.le_refl _)
  generalize hT1 : (T.setVm vm₁).pushCell { cls := cX, slots := kX.instanceTypes.map defaultValue, vm := .none } = T1 at X₁ st1
  have hcat : (Value.ref T.heap.size).category = 1 := rfl
  have hcellA : T1.heap[T.heap.size]? = some (freshCell cX kX) := by rw [← hT1]; exact State.heap_pushCell_size _ _
  have d3' : decode c.code (pc + 3) = .ok (.dup, 1) := by rw [hb]; exact d3
  obtain ⟨U, hsteps, hrun, hend, hW, hsame, ce, hce, hO⟩ := X₁.ctorThrow0 hexec htr (own := own) (cls := cls) (names := names) (ic := ic) hown' hcls hnames h (fun x hx => nomatch hx) hfX hkX hcellA (by rw [hhp, hT]; exact Nat.le_refl _)
    (g := { method := m, pc := pc + 4, locals := ls, stack := .ref T.heap.size :: .ref T.heap.size :: rest, locked := none }) rfl hsize rfl rfl (rest := rest) rfl
    (by rw [hb]; exact d4) (by rw [hb]; exact d7) hout hRframes (by simp only [List.map_cons, List.sum_cons, hcat]; omega) hlocks
  obtain ⟨f1, f2⟩ := vx_frame hsame
  rw [hhp] at f1 f2
  have hWs : s.WarmedH U.vm := State.WarmedH.trans hW0 hW
  have hcl : s.vm.findClass cls = some ce.cls := by
    have h9 := hO.cls
    rw [hvm] at h9
    exact h9
  have hall : s.sameButNew ({ U with vm := s.vm } : State) locs mc ms := by
    subst hA
    obtain ⟨e1, e2⟩ := hsame
    rw [State.setFrames_setFrames] at e1
    have h2 : (T.setVm s.vm).sameButNew ({ U with vm := s.vm } : State) [] (0 + 1) (0 + 6) := ⟨e1, e2⟩
    have h3 := X.same.trans h2
    rw [List.append_nil] at h3
    exact h3.mono hc hs
  refine ⟨U, ?_, .threw T.heap.size, hrun, hend, Or.inr ⟨T.heap.size, rfl, cls, ce, locs, hx U hWs.alike f1 (fun q hq => f2 q hq (fun z hz => nomatch hz)), hce, hO.vm, hcl, hWs, hall, hf⟩⟩
  refine st1 _ ?_
  show Steps p.tables e below (T1.setTop { method := m, pc := pc + 3, locals := ls, stack := .ref T.heap.size :: rest, locked := none }) _
  jvm_step X₁.here [X₁.here.top, hexec, d3', Value.category]
  exact hsteps
/-- 'throw new E("text")': new; dup; ldc; invokespecial; athrow -/
theorem vx_throwS {cc : ByteArray} {pc : Nat} (hexec : p.tables.exec = Jvm.exec) (hb : c.code = cc) (hl : l.stackTraces = false) {own cls text : String} {names : List String} {ik is ic mc ms sa : Nat} {A : Nat → Prop}
    (hown : s.vm.findClass own = some m.cls) (hcls : Bundle.fit cls = true) (hnames : ∀ n ∈ names, Bundle.fit n = true)
    (hk : (Cond.classLink own ik cls).before args s = true) (hini : (Cond.initialized cls).before args s = true) (hstr : vk_R own is text sa s) (hat : ∀ w ∈ vx_atS own ic cls names, w.before args s = true)
    (hgood : ∀ w ∈ Cond.classLink own ik cls :: Cond.initialized cls :: vx_atS own ic cls names, vx_ot w = true)
    (hU : vx_Zq Bundle.tN "UNASSIGNED_STACK" Bundle.steD A s s.heap) (hN : vx_Zq Bundle.tN "SUPPRESSED_SENTINEL" Bundle.listD A s s.heap) (hS : va_S A s.heap H locs) (hsize : ls.size = c.maxLocals)
    (d0 : decode cc pc = .ok (.new ik, 3)) (d3 : decode cc (pc + 3) = .ok (.dup, 1)) (d4 : decode cc (pc + 4) = .ok (.ldc is, 2)) (d6 : decode cc (pc + 6) = .ok (.invokespecial ic, 3)) (d9 : decode cc (pc + 9) = .ok (.athrow, 1))
    (hout : ∀ x ∈ c.exceptionTable.toList, covers x (pc + 9) = false)
    (hRframes : names.length + 3 < R.frames) (hRlocals : (rest.map fun v => v.category).sum + (13 * (names.length + 1) + 43) ≤ R.locals) (hRcells : cells + 1 ≤ R.cells) (hRslots : slots + 6 ≤ R.slots) (hlocks : meth.locks = false)
    (hx : ∀ t : State, s.vm.Alike t.vm → H.size ≤ t.heap.size → (∀ q : Nat, q < H.size → t.heap[q]? = H[q]?) → XC cls s t)
    (hf : ∀ z ∈ locs, free z.base) (hc : cells + 1 ≤ mc) (hs : slots + 6 ≤ ms) :
    W p l e R s m args below meth c H locs cells slots (vx_MQ below Qc XC args s mc ms free) (F0 m pc ls rest) := by
  intro T hT X
  have htr : e.platform.stackTraces = false := (show e.platform.stackTraces = l.stackTraces by rw [X.admits.platform]).trans hl
  have Y := vx_rebase X (R' := { frames := R.frames, locals := R.locals, cells := 1, slots := 6 }) (Nat.le_refl _) (Nat.le_refl _) hRcells hRslots
  obtain ⟨s', hA⟩ : ∃ z, z = (T.setVm s.vm).setFrames (.invoking m args :: below) := ⟨_, rfl⟩
  rw [← hA] at Y
  have hvm : s'.vm = s.vm := by rw [hA]; rfl
  have hhp : s'.heap = H := by rw [hA]; exact hT
  have hW0 : s.WarmedH s'.vm := by rw [hvm]; exact State.WarmedH.refl s
  have hat' : ∀ w ∈ vx_atS own ic cls names, w.before args s' = true := fun w hw => vx_ot_at hW0 hvm.symm (hgood w (List.mem_cons_of_mem _ (List.mem_cons_of_mem _ hw))) (hat w hw)
  have hk' : (Cond.classLink own ik cls).before args s' = true := vx_ot_at hW0 hvm.symm (hgood _ List.mem_cons_self) hk
  have hini' : (Cond.initialized cls).before args s' = true := vx_ot_at hW0 hvm.symm (hgood _ (List.mem_cons_of_mem _ List.mem_cons_self)) hini
  have hU' : vx_Zq Bundle.tN "UNASSIGNED_STACK" Bundle.steD A s' s'.heap := by rw [hhp]; exact vx_Zq.moved hW0.alike (hU.kept hS.2.1)
  have hN' : vx_Zq Bundle.tN "SUPPRESSED_SENTINEL" Bundle.listD A s' s'.heap := by rw [hhp]; exact vx_Zq.moved hW0.alike (hN.kept hS.2.1)
  have h : ∀ w ∈ Bundle.ownAtoms own ic cls names, w.before args s' = true := vx_own hat' (vx_isRefq hU'.1) (vx_isRefq hN'.1) hU'.2.word hN'.2.word
  have hown' : s'.vm.findClass own = some m.cls := by rw [hvm]; exact hown
  have hins : (Cond.instantiable cls 6).before args s' = true := h _ (by simp [Bundle.ownAtoms])
  obtain ⟨vm₁, cX, kX, hfX, hkX, -, -, X₁, st1⟩ := Y.newCold hexec (own := own) (C := cls) (index := ik) (n := 6) hown' hk' hins hini'
    (g := F0 m pc ls rest) rfl (by rw [hb]; exact d0) (Nat.le_refl _) (Nat.le_refl _)
  generalize hT1 : (T.setVm vm₁).pushCell { cls := cX, slots := kX.instanceTypes.map defaultValue, vm := .none } = T1 at X₁ st1
  have hcat : (Value.ref T.heap.size).category = 1 := rfl
  have hcellA : T1.heap[T.heap.size]? = some (freshCell cX kX) := by rw [← hT1]; exact State.heap_pushCell_size _ _
  have d3' : decode c.code (pc + 3) = .ok (.dup, 1) := by rw [hb]; exact d3
  have d4' : decode c.code (pc + 4) = .ok (.ldc is, 2) := by rw [hb]; exact d4
  have hstr' : vk_R own is text sa s' := vk_R.warm hW0 hstr
  obtain ⟨U, hsteps, hrun, hend, hW, hsame, ce, hce, hO⟩ := X₁.ctorThrowS hexec htr (own := own) (cls := cls) (names := names) (ic := ic) hown' hcls hnames h (fun x hx => nomatch hx) hfX hkX hcellA (by rw [hhp, hT]; exact Nat.le_refl _) (msg := .ref sa) rfl
    (g := { method := m, pc := pc + 6, locals := ls, stack := .ref sa :: .ref T.heap.size :: .ref T.heap.size :: rest, locked := none }) rfl hsize rfl rfl (rest := rest) rfl
    (by rw [hb]; exact d6) (by rw [hb]; exact d9) hout hRframes (by simp only [List.map_cons, List.sum_cons, hcat]; omega) hlocks
  obtain ⟨f1, f2⟩ := vx_frame hsame
  rw [hhp] at f1 f2
  have hWs : s.WarmedH U.vm := State.WarmedH.trans hW0 hW
  have hcl : s.vm.findClass cls = some ce.cls := by
    have h9 := hO.cls
    rw [hvm] at h9
    exact h9
  have hall : s.sameButNew ({ U with vm := s.vm } : State) locs mc ms := by
    subst hA
    obtain ⟨e1, e2⟩ := hsame
    rw [State.setFrames_setFrames] at e1
    have h2 : (T.setVm s.vm).sameButNew ({ U with vm := s.vm } : State) [] (0 + 1) (0 + 6) := ⟨e1, e2⟩
    have h3 := X.same.trans h2
    rw [List.append_nil] at h3
    exact h3.mono hc hs
  refine ⟨U, ?_, .threw T.heap.size, hrun, hend, Or.inr ⟨T.heap.size, rfl, cls, ce, locs, hx U hWs.alike f1 (fun q hq => f2 q hq (fun z hz => nomatch hz)), hce, hO.vm, hcl, hWs, hall, hf⟩⟩
  refine st1 _ ?_
  show Steps p.tables e below (T1.setTop { method := m, pc := pc + 3, locals := ls, stack := .ref T.heap.size :: rest, locked := none }) _
  jvm_step X₁.here [X₁.here.top, hexec, d3', Value.category]
  exact X₁.ldcString hexec (own := own) (text := text) (index := is) (a := sa) hown' hstr'.1 hstr'.2
    (g := { method := m, pc := pc + 4, locals := ls, stack := .ref T.heap.size :: .ref T.heap.size :: rest, locked := none }) rfl d4' _ hsteps
/-- 'throw new E("text")', the text by a wide index -/
theorem vx_throwSW {cc : ByteArray} {pc : Nat} (hexec : p.tables.exec = Jvm.exec) (hb : c.code = cc) (hl : l.stackTraces = false) {own cls text : String} {names : List String} {ik is ic mc ms sa : Nat} {A : Nat → Prop}
    (hown : s.vm.findClass own = some m.cls) (hcls : Bundle.fit cls = true) (hnames : ∀ n ∈ names, Bundle.fit n = true)
    (hk : (Cond.classLink own ik cls).before args s = true) (hini : (Cond.initialized cls).before args s = true) (hstr : vk_R own is text sa s) (hat : ∀ w ∈ vx_atS own ic cls names, w.before args s = true)
    (hgood : ∀ w ∈ Cond.classLink own ik cls :: Cond.initialized cls :: vx_atS own ic cls names, vx_ot w = true)
    (hU : vx_Zq Bundle.tN "UNASSIGNED_STACK" Bundle.steD A s s.heap) (hN : vx_Zq Bundle.tN "SUPPRESSED_SENTINEL" Bundle.listD A s s.heap) (hS : va_S A s.heap H locs) (hsize : ls.size = c.maxLocals)
    (d0 : decode cc pc = .ok (.new ik, 3)) (d3 : decode cc (pc + 3) = .ok (.dup, 1)) (d4 : decode cc (pc + 4) = .ok (.ldc_w is, 3)) (d7 : decode cc (pc + 7) = .ok (.invokespecial ic, 3)) (d10 : decode cc (pc + 10) = .ok (.athrow, 1))
    (hout : ∀ x ∈ c.exceptionTable.toList, covers x (pc + 10) = false)
    (hRframes : names.length + 3 < R.frames) (hRlocals : (rest.map fun v => v.category).sum + (13 * (names.length + 1) + 43) ≤ R.locals) (hRcells : cells + 1 ≤ R.cells) (hRslots : slots + 6 ≤ R.slots) (hlocks : meth.locks = false)
    (hx : ∀ t : State, s.vm.Alike t.vm → H.size ≤ t.heap.size → (∀ q : Nat, q < H.size → t.heap[q]? = H[q]?) → XC cls s t)
    (hf : ∀ z ∈ locs, free z.base) (hc : cells + 1 ≤ mc) (hs : slots + 6 ≤ ms) :
    W p l e R s m args below meth c H locs cells slots (vx_MQ below Qc XC args s mc ms free) (F0 m pc ls rest) := by
  intro T hT X
  have htr : e.platform.stackTraces = false := (show e.platform.stackTraces = l.stackTraces by rw [X.admits.platform]).trans hl
  have Y := vx_rebase X (R' := { frames := R.frames, locals := R.locals, cells := 1, slots := 6 }) (Nat.le_refl _) (Nat.le_refl _) hRcells hRslots
  obtain ⟨s', hA⟩ : ∃ z, z = (T.setVm s.vm).setFrames (.invoking m args :: below) := ⟨_, rfl⟩
  rw [← hA] at Y
  have hvm : s'.vm = s.vm := by rw [hA]; rfl
  have hhp : s'.heap = H := by rw [hA]; exact hT
  have hW0 : s.WarmedH s'.vm := by rw [hvm]; exact State.WarmedH.refl s
  have hat' : ∀ w ∈ vx_atS own ic cls names, w.before args s' = true := fun w hw => vx_ot_at hW0 hvm.symm (hgood w (List.mem_cons_of_mem _ (List.mem_cons_of_mem _ hw))) (hat w hw)
  have hk' : (Cond.classLink own ik cls).before args s' = true := vx_ot_at hW0 hvm.symm (hgood _ List.mem_cons_self) hk
  have hini' : (Cond.initialized cls).before args s' = true := vx_ot_at hW0 hvm.symm (hgood _ (List.mem_cons_of_mem _ List.mem_cons_self)) hini
  have hU' : vx_Zq Bundle.tN "UNASSIGNED_STACK" Bundle.steD A s' s'.heap := by rw [hhp]; exact vx_Zq.moved hW0.alike (hU.kept hS.2.1)
  have hN' : vx_Zq Bundle.tN "SUPPRESSED_SENTINEL" Bundle.listD A s' s'.heap := by rw [hhp]; exact vx_Zq.moved hW0.alike (hN.kept hS.2.1)
  have h : ∀ w ∈ Bundle.ownAtoms own ic cls names, w.before args s' = true := vx_own hat' (vx_isRefq hU'.1) (vx_isRefq hN'.1) hU'.2.word hN'.2.word
  have hown' : s'.vm.findClass own = some m.cls := by rw [hvm]; exact hown
  have hins : (Cond.instantiable cls 6).before args s' = true := h _ (by simp [Bundle.ownAtoms])
  obtain ⟨vm₁, cX, kX, hfX, hkX, -, -, X₁, st1⟩ := Y.newCold hexec (own := own) (C := cls) (index := ik) (n := 6) hown' hk' hins hini'
    (g := F0 m pc ls rest) rfl (by rw [hb]; exact d0) (Nat.le_refl _) (Nat.le_refl _)
  generalize hT1 : (T.setVm vm₁).pushCell { cls := cX, slots := kX.instanceTypes.map defaultValue, vm := .none } = T1 at X₁ st1
  have hcat : (Value.ref T.heap.size).category = 1 := rfl
  have hcellA : T1.heap[T.heap.size]? = some (freshCell cX kX) := by rw [← hT1]; exact State.heap_pushCell_size _ _
  have d3' : decode c.code (pc + 3) = .ok (.dup, 1) := by rw [hb]; exact d3
  have d4' : decode c.code (pc + 4) = .ok (.ldc_w is, 3) := by rw [hb]; exact d4
  have hstr' : vk_R own is text sa s' := vk_R.warm hW0 hstr
  obtain ⟨U, hsteps, hrun, hend, hW, hsame, ce, hce, hO⟩ := X₁.ctorThrowS hexec htr (own := own) (cls := cls) (names := names) (ic := ic) hown' hcls hnames h (fun x hx => nomatch hx) hfX hkX hcellA (by rw [hhp, hT]; exact Nat.le_refl _) (msg := .ref sa) rfl
    (g := { method := m, pc := pc + 7, locals := ls, stack := .ref sa :: .ref T.heap.size :: .ref T.heap.size :: rest, locked := none }) rfl hsize rfl rfl (rest := rest) rfl
    (by rw [hb]; exact d7) (by rw [hb]; exact d10) hout hRframes (by simp only [List.map_cons, List.sum_cons, hcat]; omega) hlocks
  obtain ⟨f1, f2⟩ := vx_frame hsame
  rw [hhp] at f1 f2
  have hWs : s.WarmedH U.vm := State.WarmedH.trans hW0 hW
  have hcl : s.vm.findClass cls = some ce.cls := by
    have h9 := hO.cls
    rw [hvm] at h9
    exact h9
  have hall : s.sameButNew ({ U with vm := s.vm } : State) locs mc ms := by
    subst hA
    obtain ⟨e1, e2⟩ := hsame
    rw [State.setFrames_setFrames] at e1
    have h2 : (T.setVm s.vm).sameButNew ({ U with vm := s.vm } : State) [] (0 + 1) (0 + 6) := ⟨e1, e2⟩
    have h3 := X.same.trans h2
    rw [List.append_nil] at h3
    exact h3.mono hc hs
  refine ⟨U, ?_, .threw T.heap.size, hrun, hend, Or.inr ⟨T.heap.size, rfl, cls, ce, locs, hx U hWs.alike f1 (fun q hq => f2 q hq (fun z hz => nomatch hz)), hce, hO.vm, hcl, hWs, hall, hf⟩⟩
  refine st1 _ ?_
  show Steps p.tables e below (T1.setTop { method := m, pc := pc + 3, locals := ls, stack := .ref T.heap.size :: rest, locked := none }) _
  jvm_step X₁.here [X₁.here.top, hexec, d3', Value.category]
  exact X₁.ldcStringW hexec (own := own) (text := text) (index := is) (a := sa) hown' hstr'.1 hstr'.2
    (g := { method := m, pc := pc + 4, locals := ls, stack := .ref T.heap.size :: .ref T.heap.size :: rest, locked := none }) rfl d4' _ hsteps
end Ends
section Bodies
variable {l : Launch}
theorem vx_ofW {y : MethodName} {ws ws' : List Cond} {rm : Room} {Pc : Array Value → State → Prop} {Qc : Array Value → State → Outcome → State → Prop} {XC : String → State → State → Prop} {mc ms : Nat} {free : Addr → Prop} {cc : ByteArray} {maxL : Nat} {ret : Option FieldType}
    (hy : plainName y.cls = true) (hw : ws = Cond.code y cc maxL ret :: ws')
    (body : ∀ p e s m args below meth c s₁, BodyLoose p l y (headSpec ws rm) cc maxL ret e s m args below meth c s₁ → c.maxLocals = maxL → (∀ x ∈ c.exceptionTable.toList, False) → Pc args s →
      W p l e (headSpec ws rm).room s m args below meth c s.heap [] 0 0 (vx_MQ below Qc XC args s mc ms free) (entryFrame m args maxL)) : vx_Met l y ws rm Pc Qc XC mc ms free := by
  refine MetFree.of_bodyS (code := cc) (maxLocals := maxL) (ret := ret) hy ?_ ?_
  · intro args s m h hn
    obtain ⟨meth, c, h1, h2, h3, h4, h5, h6, -, -⟩ := Cond.code_spec hn (atoms_spec (ws := ws) h _ (by rw [hw]; exact List.mem_cons_self))
    exact ⟨meth, c, h1, h2, h3, h4, h5, h6⟩
  · intro p e s m args below meth c s₁ B hml hP _
    have hh0 : s₁.heap = s.heap := by rw [B.state]; rfl
    have ht : ∀ x ∈ c.exceptionTable.toList, False := by
      obtain ⟨meth9, c9, h1, h2, -, -, -, -, h7, -⟩ := Cond.code_spec B.named (atoms_spec (ws := ws) B.pre _ (by rw [hw]; exact List.mem_cons_self))
      cases Option.some.inj (h1.symm.trans B.method)
      cases Option.some.inj (h2.symm.trans (Stand.of_body B).code)
      intro x hx
      rw [Array.isEmpty_iff.mp h7] at hx
      cases hx
    obtain ⟨t, a1, o, b1, b2, b3⟩ := body p e s m args below meth c s₁ B hml ht hP s₁ hh0 (Stand.of_body B)
    exact ⟨t, o, a1, b1, b2, b3⟩
/-- the table of a body with handlers -/
theorem vx_table {p : Program} {x y : MethodName} {S : Spec} {cc bytes : ByteArray} {maxL maxL' : Nat} {ret ret' : Option FieldType} {e : Env} {s s₁ : State} {m : MethodId} {args : Array Value} {below : List Frame} {meth : Method} {c : Code} {hh : List (Nat × Nat × Nat × Nat)}
    (B : BodyLoose p l y S cc maxL ret e s m args below meth c s₁) (h : (Cond.codeWith y bytes maxL' ret' hh).before args s = true) : c.exceptionTable.toList = tableOf hh := by
  obtain ⟨m9, meth9, c9, hn9, h1, h2, -, -, h6, -⟩ := Cond.codeWith_spec h
  cases Option.some.inj (hn9.symm.trans B.named)
  cases Option.some.inj (h1.symm.trans B.method)
  cases Option.some.inj (h2.symm.trans (Stand.of_body B).code)
  rw [← h6, table_eq]
end Bodies
end VXA
/-! ===== END ===== -/
/-! ===== BEGIN a static call of a method with an exception table ===== -/
section VXS
variable {p : Program} {l : Launch} {e : Env} {R : Room} {s : State} {m : MethodId} {args : Array Value} {below : List Frame} {meth : Method} {c : Code} {T : State} {H : Heap} {locs : List Loc} {cells slots : Nat}
abbrev vx_CSW (R : Room) (s : State) (args : Array Value) (own : String) (index : Nat) (y : MethodName) (bytes : ByteArray) (maxL : Nat) (ret : Option FieldType) (hh : List (Nat × Nat × Nat × Nat)) (ws : List Cond) (rm : Room) (mc ms n : Nat) : Prop :=
  (rm.cells = mc ∧ rm.slots = ms ∧ rm.frames + 1 ≤ R.frames ∧ 8 + (maxL + 11) + rm.locals ≤ R.locals ∧ (∀ w ∈ ws, ∀ (a' : Array Value) (U : State), s.WarmedH U.vm → w.before a' U = true) ∧ Cond.codeWith y bytes maxL ret hh ∈ ws) ∧
  (Cond.codeWith y bytes maxL ret hh).before args s = true ∧ (Cond.initialized y.cls).before args s = true ∧ (y.cls ≠ "java/lang/invoke/MethodHandle" ∧ y.cls ≠ "java/lang/invoke/VarHandle") ∧
  (∀ sig, parseMethodDescriptor y.desc = some sig → n = sig.parameters.length) ∧ (Cond.methodLink own index y).before args s = true ∧ (Cond.static y).before args s = true
theorem vx_cwSW {own : String} {index maxL mc ms : Nat} {y : MethodName} {bytes : ByteArray} {ret : Option FieldType} {hh : List (Nat × Nat × Nat × Nat)} {Ts ws ws' : List Cond} {rm : Room} (n : Nat) (ht : ∀ w ∈ Ts, w.before args s = true) (hT : GoodIn Ts (va_wsS own index y ws)) (hw : ws = Cond.codeWith y bytes maxL ret hh :: ws') (hrc : rm.cells = mc) (hrs : rm.slots = ms)
    (hd : y.cls ≠ "java/lang/invoke/MethodHandle" ∧ y.cls ≠ "java/lang/invoke/VarHandle" ∧ (parseMethodDescriptor y.desc).map (fun d => d.parameters.length) = some n) (hR : rm.frames + 1 ≤ R.frames ∧ 8 + (maxL + 11) + rm.locals ≤ R.locals) :
    vx_CSW R s args own index y bytes maxL ret hh ws rm mc ms n := by
  have ok : ∀ w ∈ va_wsS own index y ws, w.before args s = true := fun w h => ht w (hT w h).1
  have hG : GoodIn Ts ws := fun w h => hT w (by unfold va_wsS; exact List.mem_append_right _ h)
  have hc : Cond.codeWith y bytes maxL ret hh ∈ ws := by rw [hw]; exact List.mem_cons_self
  refine ⟨⟨hrc, hrs, hR.1, hR.2, pay_in ht hG, hc⟩, ht _ (hG _ hc).1, ok _ (by simp [va_wsS]), ⟨hd.1, hd.2.1⟩, fun sig h => ?_, ok _ (by simp [va_wsS]), ok _ (by simp [va_wsS])⟩
  have h2 := hd.2.2
  rw [h] at h2
  exact (Option.some.inj h2).symm
theorem vx_callSW (X : Stand p l e R s m args below meth c T locs cells slots) (hexec : p.tables.exec = Jvm.exec) {own : String} {index : Nat} {y : MethodName} {bytes : ByteArray} {maxL : Nat} {ret : Option FieldType} {hh : List (Nat × Nat × Nat × Nat)}
    (hown : s.vm.findClass own = some m.cls) (hlink : (Cond.methodLink own index y).before args s = true) (hstat : (Cond.static y).before args s = true) (hinit : (Cond.initialized y.cls).before args s = true)
    (hcode : (Cond.codeWith y bytes maxL ret hh).before args s = true) (hy : y.cls ≠ "java/lang/invoke/MethodHandle" ∧ y.cls ≠ "java/lang/invoke/VarHandle")
    {W9 : Nat} {Pre : Pt → Array Value → Prop} {Post : Pt → Array Value → Option Value → Pt → Prop} (hK : Back l R p e below s args y 3 W9 Pre Post)
    {g : JFrame} (hg : g.method = m) (hsize : g.locals.size = c.maxLocals) {argsL rest : List Value} (hlen : ∀ sig, parseMethodDescriptor y.desc = some sig → argsL.length = sig.parameters.length)
    (hstack : g.stack = argsL.reverse ++ rest) (hW : 2 * g.monitorRoom + (rest.map fun v => v.category).sum ≤ W9) (hdg : decode c.code g.pc = .ok (.invokestatic index, 3))
    (hpre : ∀ vm₁, s.WarmedH vm₁ → Pre ⟨T.setVm vm₁, locs, cells, slots⟩ argsL.toArray) :
    ∃ (v : Option Value) (vm₁ : Vm) (B : Pt), s.WarmedH vm₁ ∧ Stand p l e R s m args below meth c B.U B.locs B.cells B.slots ∧ Post ⟨T.setVm vm₁, locs, cells, slots⟩ argsL.toArray v B ∧
      ∀ target, Steps p.tables e below (B.U.setTop { g with pc := g.pc + 3, stack := v.toList ++ rest }) target → Steps p.tables e below (T.setTop g) target := by
  obtain ⟨mk, methM, cM, hnamed, hmethM, -, -, -, -, -, -, hsigM⟩ := Cond.codeWith_spec hcode
  have hstatic : methM.isStatic = true := Cond.static_spec hnamed hmethM hstat
  obtain ⟨kP, hkP, -⟩ := className_of_methodNamed hnamed
  have hinitP : kP.init = .initialized := Cond.initialized_spec (findClass_of_methodNamed hnamed) hkP hinit
  obtain ⟨vm₁, X₁, hstep₁⟩ := X.invokestatic hexec hown hlink hnamed hmethM hstatic hkP hinitP hy (g := g) hg (argsL := argsL) (rest := rest) (hlen _ hsigM) hstack hdg
  obtain ⟨v, B, X', hpost, hsteps⟩ := hK m meth c ⟨T.setVm vm₁, locs, cells, slots⟩ { g with stack := rest } (.invokestatic index) mk argsL.toArray X₁ hg hsize hdg hW (X₁.named hnamed) (hpre vm₁ X₁.warmed)
  exact ⟨v, vm₁, B, X₁.warmed, X', hpost, fun target h => hstep₁ _ fun acts => by rw [doInvoke_state]; exact hsteps.trans h⟩
theorem vx_runSW {y : MethodName} {bytes cc : ByteArray} {maxL nL mc ms n index : Nat} {ret : Option FieldType} {hh : List (Nat × Nat × Nat × Nat)} {ws : List Cond} {rm : Room} {Pc : Array Value → State → Prop} {Qc : Array Value → State → Outcome → State → Prop} {free : Addr → Prop} {Ts : List Cond} {own : String} {As rest : List Value} {g : JFrame}
    (S : CallFix p m c cc nL s args Ts own) (hM : Met l y ws rm Pc Qc mc ms free) (cw : vx_CSW R s args own index y bytes maxL ret hh ws rm mc ms n) (hp : PreS s H Pc As)
    (hg : g.method = m) (hn : As.length = n) (hsize : g.locals.size = nL) (hstack : g.stack = As.reverse ++ rest) (hW : 2 * g.monitorRoom + (rest.map fun v => v.category).sum ≤ 8) (hdg : decode cc g.pc = .ok (.invokestatic index, 3)) (hf : cells + mc ≤ R.cells ∧ slots + ms ≤ R.slots) :
    va_Run p l e R s m args below meth c H locs cells slots mc ms g rest (Qc As.toArray) (free) := by
  obtain ⟨⟨hrc, hrs, hfr, hlo, hws, hcw⟩, hcode, hini, hy, hlen, hl, hstt⟩ := cw
  have hK : Back l R p e below s args y 3 8 (PreOf R mc ms Pc) (PostOf Qc mc ms free) := va_backW (hh := hh) (bytes := bytes) (maxL := maxL) (ret := ret) hM hp.1 hrc hrs hfr hlo hws hcw (fun a' U hW => word_at hW (Or.inl (by first | rfl | simp [Cond.onTables, Cond.keeps, Cond.steady])) hini)
  obtain ⟨hx, hb, hml, ho, -⟩ := S
  intro T hT X
  obtain ⟨v, vm₁, ⟨U', l2, c2, s2⟩, hW₁, X', ⟨g', mk, t, L, e1, e2, hq, h1, hL, h2, h3⟩, st⟩ := vx_callSW X hx (hh := hh) (bytes := bytes) (maxL := maxL) (ret := ret) ho hl hstt hini hcode hy hK hg (hsize.trans hml.symm) (argsL := As) (rest := rest) (fun sig h => hn.trans (hlen sig h)) hstack hW (by rw [hb]; exact hdg)
    (fun vm₁ hW₁ => ⟨hf.1, hf.2, hp.2 (T.setVm vm₁) hT hW₁⟩)
  dsimp only [Pt.U, Pt.locs, Pt.cells, Pt.slots] at X' e1 e2 h1 h2 h3 st
  subst h1; subst h2; subst h3
  exact ⟨v, (T.setVm vm₁).calling g' mk As.toArray, t, U', L, hT, X', hL, e1, e2, hq, st⟩
/-- not caught here, past rows that name other classes: it goes on to the caller -/
theorem vx_outP {p : Program} {l : Launch} {e : Env} {R : Room} {s : State} {m : MethodId} {args : Array Value} {below : List Frame} {meth : Method} {c : Code} {H : Heap} {locs : List Loc} {cells slots : Nat} {free : Addr → Prop} {ls : Array Slot} {rest : List Value} {Qc : Array Value → State → Outcome → State → Prop} {XC : String → State → State → Prop}
    {pc : Nat} {own E : String} {ce : Cell} {q : Addr} {mc ms : Nat} (hown : s.vm.findClass own = some m.cls) (hlocks : meth.locks = false)
    (hpass : ∀ z ∈ c.exceptionTable.toList, covers z pc = false ∨ (z.catchType ≠ 0 ∧ ∃ nm : String, (Cond.classLink own z.catchType nm).before args s = true ∧ va_Nc E nm s)) (hcell : H[q]? = some ce) (hv : ce.vm = .none) (hcl : s.vm.findClass E = some ce.cls)
    (hx : ∀ t : State, t.heap = H → s.vm.Alike t.vm → XC E s t) (hf : ∀ z ∈ locs, free z.base) (hc : cells ≤ mc) (hs : slots ≤ ms) :
    vx_W p l e R s m args below meth c H locs cells slots (vx_MQ below Qc XC args s mc ms free) (F0 m pc ls rest) q := by
  intro T hT X
  have hpl : e.platform.magicAccessors = ({} : Platform).magicAccessors := by rw [X.admits.platform]
  obtain ⟨vm', hW', X', st⟩ := X.outThrough hlocks q (g := F0 m pc ls rest) rfl rfl rfl (cell := ce) (by rw [hT]; exact hcell) (by rw [hv]; rfl)
    (by obtain ⟨k9, h9, -⟩ := Vm.findClass_spec hcl; exact ⟨k9, h9⟩) (fun z hz => by
      rcases hpass z hz with h | ⟨hz0, nm, hl1, hn1⟩
      · exact Or.inl h
      · obtain ⟨c6, hc6, hcl6⟩ := Cond.classLink_spec hown hl1 e.platform hpl
        obtain ⟨a8, b8, h1, h2, h3⟩ := hn1
        cases Option.some.inj (h1.symm.trans hcl)
        cases Option.some.inj (h2.symm.trans hc6)
        exact Or.inr ⟨hz0, _, hcl6, h3⟩)
  obtain ⟨g₀, hfr⟩ := X'.frames_eq
  have hcell9 : ((T.setVm vm').setFrames (.throwing q :: below)).heap[q]? = some ce := by
    show T.heap[q]? = some ce
    rw [hT]; exact hcell
  have hend : Ended ((T.setVm vm').setFrames (.throwing q :: below)) below (.threw q) := State.frames_setFrames _ (State.cur_lt_of_frames hfr)
  refine ⟨(T.setVm vm').setFrames (.throwing q :: below), ?_, .threw q, X'.here.running, hend, Or.inr ⟨q, rfl, E, ce, locs, hx _ hT (X'.ends _).1.alike, hcell9, hv, hcl, (X'.ends _).1, (X'.ends _).2.mono hc hs, hf⟩⟩
  rw [X.pushThrowing_eq]
  exact st
/-- a thing of a world lies in the heap -/
theorem vx_lt {D : va_G} {cl : List vw_C} {ws : va_W} {H1 : Heap} (h : va_P D cl ws H1) {k : Nat} {q : Nat × va_E} (hk : ws[k]? = some q) : q.1 < H1.size := (h k q hk).lt
end VXS
/-! ===== END ===== -/
/-! ===== BEGIN methods with a table of their own: called by a name, returning or throwing ===== -/
section VXH
/-! vx_backW, vx_callVX, vx_callSX, vx_callVW, vx_runVW, vx_runVX, vx_runSX, vx_ofWH follow the same proofs as their sisters above (Free/Laws.lean, Shelf42/LK1.lean); vx_outP calls Shelf42/NT130.lean (outThrough). -/
section
variable {l : Launch} {R : Room} {p : Program} {e : Env} {below : List Frame} {s : State} {sargs : Array Value} {y : MethodName} {len W9 : Nat}
theorem vx_backW {ws : List Cond} {rm : Room} {Pc : Array Value → State → Prop} {Qc : Array Value → State → Outcome → State → Prop} {XC : String → State → State → Prop} {mc ms : Nat} {free : Addr → Prop} {bytes : ByteArray} {maxL : Nat} {ret : Option FieldType} {hh : List (Nat × Nat × Nat × Nat)}
    (hM : vx_Met l y ws rm Pc Qc XC mc ms free) (hblind : FrameBlind Pc) (hrc : rm.cells = mc) (hrs : rm.slots = ms)
    (hframes : rm.frames + 1 ≤ R.frames) (hlocals : W9 + (maxL + 11) + rm.locals ≤ R.locals)
    (hws : ∀ w ∈ ws, ∀ a' U, s.WarmedH U.vm → w.before a' U = true) (hcode : Cond.codeWith y bytes maxL ret hh ∈ ws) (hinit : ∀ a' U, s.WarmedH U.vm → (Cond.initialized y.cls).before a' U = true) :
    vx_Back l R p e below s sargs y len W9 (PreOf R mc ms Pc) (PostOf Qc mc ms free) (vx_Post XC mc ms free) := by
  intro m meth c A g ig mk a X hg hsize hdg hW hn hp
  have h1 : (headSpec ws rm).pre.before a A.U = true := atoms_intro fun w hw => hws w hw _ _ X.warmed
  have h2 : (Cond.codeWith y bytes maxL ret hh).before a A.U = true := hws _ hcode _ _ X.warmed
  have h3 : (Cond.initialized y.cls).before a A.U = true := hinit _ _ X.warmed
  have h4 : A.cells + (headSpec ws rm).room.cells ≤ R.cells := by rw [show (headSpec ws rm).room.cells = mc from hrc]; exact hp.1
  have h5 : A.slots + (headSpec ws rm).room.slots ≤ R.slots := by rw [show (headSpec ws rm).room.slots = ms from hrs]; exact hp.2.1
  have hPc : Pc a (A.U.calling g mk a) := hblind _ _ _ _ hp.2.2
  obtain ⟨U, Ls, c0, s0⟩ := A
  dsimp only [Pt.U, Pt.locs, Pt.cells, Pt.slots] at h1 h2 h3 h4 h5 X hn hPc ⊢
  obtain ⟨m9, methY, cY, hn9, hmY, hcY, -, hlY, -⟩ := Cond.codeWith_spec h2
  cases Option.some.inj (hn9.symm.trans hn)
  obtain ⟨kY, hkY, -⟩ := className_of_methodNamed hn
  have hinitY : kY.init = .initialized := Cond.initialized_spec (findClass_of_methodNamed hn) hkY h3
  have h : At U g.method c below := by rw [hg]; exact X.here
  have hlocals9 : W9 + (maxL + 11) + (headSpec ws rm).room.locals ≤ R.locals := hlocals
  have happ : (headSpec ws rm).appliesLoose y e.platform (U.calling g mk a) = true :=
    Spec.appliesLoose_calling (g := g) h hdg hn hkY hinitY
      (X.room_calling (g := g) (R' := (headSpec ws rm).room) hsize hmY hcY hframes (by rw [hlY]; omega) h4 h5) h1
  obtain ⟨mid, hmid⟩ := h.above
  have hfr : (U.setTop g).frames = (.java g :: mid) ++ below := by rw [State.frames_setTop' g h.top, hmid]; rfl
  obtain ⟨o, s₂, hsteps, -, hend, hq⟩ := Steps.callFree hM p X.admits X.cas X.clock (acts := []) hfr happ hPc trivial
  have hq' : vx_Q Qc XC mc ms free a (U.calling g mk a) o s₂ := hq
  rw [State.frames_setTop' g h.top] at hend
  obtain ⟨g₀, hg0⟩ := Option.isSome_iff_exists.mp h.top
  obtain ⟨r, hr⟩ := State.topJava?_eq_some.mp hg0
  have hr' : (({ U with heap := s₂.heap, slotsUsed := s₂.slotsUsed } : State).setVm s₂.vm).frames = .java g₀ :: r := hr
  rcases hq' with ⟨hqc, L, hfe, hL⟩ | ⟨q, rfl, E, ce, L, hx, hce, hcv, hcl, hW₂, hsm, hL⟩
  · obtain ⟨⟨v, rfl⟩, hW₂, e2, q2, q3, q4, q5, q6⟩ := id hfe
    have e3 : s₂ = ({ (U.calling g mk a).setFrames s₂.frames with heap := s₂.heap, slotsUsed := s₂.slotsUsed } : State).setVm s₂.vm := by
      have : s₂ = ({ s₂ with vm := (U.calling g mk a).vm } : State).setVm s₂.vm := rfl
      rw [e2] at this
      exact this
    obtain ⟨c₂, i₂, len₂, hc₂, hd₂, hf₂⟩ := hend
    have hW' : U.WarmedH s₂.vm := hW₂
    have hcc : c₂ = c := by
      have h1 : s₂.code? g.method = U.code? g.method := by
        rw [State.code?_eq, State.code?_eq, hW'.alike.method?]
      exact Option.some.inj (hc₂.symm.trans (h1.trans h.code))
    subst hcc
    have hlen : len₂ = len := by rw [hdg] at hd₂; cases hd₂; rfl
    subst hlen
    have hs₂ : s₂ = (({ U with heap := s₂.heap, slotsUsed := s₂.slotsUsed } : State).setVm s₂.vm).setTop { g with pc := g.pc + len₂, stack := v.toList ++ g.stack } := by
      refine e3.trans ?_
      rw [hf₂, State.calling_eq h.top, State.setFrames_setFrames, State.setTop_of_frames _ hr', hr]
      rfl
    have hsame : U.sameButNew ({ U with heap := s₂.heap, slotsUsed := s₂.slotsUsed } : State) L mc ms := by
      refine ⟨?_, q2, q3, q4, q5, q6⟩
      obtain ⟨t, ht, -⟩ := State.frames_cons hr
      show ({ U with heap := s₂.heap, slotsUsed := s₂.slotsUsed } : State) = { U.setFrames U.frames with heap := s₂.heap, slotsUsed := s₂.slotsUsed }
      rw [State.setFrames_self ht]
    subst hg
    refine Or.inl ⟨v, ⟨(({ U with heap := s₂.heap, slotsUsed := s₂.slotsUsed } : State).setVm s₂.vm), Ls ++ L, c0 + mc, s0 + ms⟩,
      ⟨X.admits, X.cas, X.clock, X.frames, X.room, X.hears, X.method, X.code, (X.here.setHeapUsed s₂.heap s₂.slotsUsed).setVm hW'.alike, X.tail, State.WarmedH.trans X.warmed hW', X.limits, X.bytes, X.same.trans (hsame.setVm s.vm)⟩,
      ⟨g, mk, s₂, L, rfl, rfl, hqc, rfl, hL, rfl, rfl⟩, ?_⟩
    show Steps p.tables e below _ ((({ U with heap := s₂.heap, slotsUsed := s₂.slotsUsed } : State).setVm s₂.vm).setTop { g with pc := g.pc + len₂, stack := v.toList ++ g.stack })
    rw [← hs₂]
    exact hsteps
  · obtain ⟨e2, q2, q3, q4, q5, q6⟩ := id hsm
    have e3 : s₂ = ({ (U.calling g mk a).setFrames s₂.frames with heap := s₂.heap, slotsUsed := s₂.slotsUsed } : State).setVm s₂.vm := by
      have : s₂ = ({ s₂ with vm := (U.calling g mk a).vm } : State).setVm s₂.vm := rfl
      rw [e2] at this
      exact this
    have hf₂ : s₂.frames = .throwing q :: .java g :: U.frames.tail := hend
    have hW' : U.WarmedH s₂.vm := hW₂
    have hs₂ : s₂ = ((({ U with heap := s₂.heap, slotsUsed := s₂.slotsUsed } : State).setVm s₂.vm).setTop g).pushFrame (.throwing q) := by
      refine e3.trans ?_
      rw [hf₂, State.calling_eq h.top, State.setFrames_setFrames, State.pushFrame, State.frames_setTop _ hr', State.setTop_of_frames _ hr', State.setFrames_setFrames, hr]
      rfl
    have hsame : U.sameButNew ({ U with heap := s₂.heap, slotsUsed := s₂.slotsUsed } : State) L mc ms := by
      refine ⟨?_, q2, q3, q4, q5, q6⟩
      obtain ⟨t, ht, -⟩ := State.frames_cons hr
      show ({ U with heap := s₂.heap, slotsUsed := s₂.slotsUsed } : State) = { U.setFrames U.frames with heap := s₂.heap, slotsUsed := s₂.slotsUsed }
      rw [State.setFrames_self ht]
    subst hg
    refine Or.inr ⟨q, ⟨(({ U with heap := s₂.heap, slotsUsed := s₂.slotsUsed } : State).setVm s₂.vm), Ls ++ L, c0 + mc, s0 + ms⟩,
      ⟨X.admits, X.cas, X.clock, X.frames, X.room, X.hears, X.method, X.code, (X.here.setHeapUsed s₂.heap s₂.slotsUsed).setVm hW'.alike, X.tail, State.WarmedH.trans X.warmed hW', X.limits, X.bytes, X.same.trans (hsame.setVm s.vm)⟩,
      ⟨g, mk, s₂, L, E, ce, rfl, rfl, hx, hce, hcv, hcl, rfl, hL, rfl, rfl⟩, ?_⟩
    show Steps p.tables e below _ (((({ U with heap := s₂.heap, slotsUsed := s₂.slotsUsed } : State).setVm s₂.vm).setTop g).pushFrame (.throwing q))
    rw [← hs₂]
    exact hsteps
end
variable {p : Program} {l : Launch} {e : Env} {R : Room} {s : State} {m : MethodId} {args : Array Value} {below : List Frame} {meth : Method} {c : Code} {T : State} {H : Heap} {locs : List Loc} {cells slots : Nat}
theorem vx_callVX (X : Stand p l e R s m args below meth c T locs cells slots) (hexec : p.tables.exec = Jvm.exec) {own C : String} {index : Nat} {y : MethodName} {bytes : ByteArray} {maxL : Nat} {ret : Option FieldType} {hh : List (Nat × Nat × Nat × Nat)}
    (hown : s.vm.findClass own = some m.cls) (hlink : (Cond.methodLink own index y).before args s = true) (hinst : (Cond.instanceMethod y).before args s = true) (hsel : (Cond.selects C y y).before args s = true)
    (hcode : (Cond.codeWith y bytes maxL ret hh).before args s = true) (hy : y.cls ≠ "java/lang/invoke/MethodHandle" ∧ y.cls ≠ "java/lang/invoke/VarHandle")
    {W9 : Nat} {Pre : Pt → Array Value → Prop} {Post : Pt → Array Value → Option Value → Pt → Prop} {PostX : Pt → Array Value → Addr → Pt → Prop} (hK : vx_Back l R p e below s args y 3 W9 Pre Post PostX)
    {b : Addr} {cellB : Cell} (hcell : T.heap[b]? = some cellB) (hobj : cellB.vm.isStatics = false) (hcls : s.vm.findClass C = some cellB.cls)
    {g : JFrame} (hg : g.method = m) (hsize : g.locals.size = c.maxLocals) {argsL rest : List Value} (hlen : ∀ sig, parseMethodDescriptor y.desc = some sig → argsL.length = sig.parameters.length)
    (hstack : g.stack = argsL.reverse ++ .ref b :: rest) (hW : 2 * g.monitorRoom + (rest.map fun v => v.category).sum ≤ W9) (hdg : decode c.code g.pc = .ok (.invokevirtual index, 3))
    (hpre : ∀ vm₁, s.WarmedH vm₁ → Pre ⟨T.setVm vm₁, locs, cells, slots⟩ (Value.ref b :: argsL).toArray) :
    (∃ (v : Option Value) (vm₁ : Vm) (B : Pt), s.WarmedH vm₁ ∧ Stand p l e R s m args below meth c B.U B.locs B.cells B.slots ∧ Post ⟨T.setVm vm₁, locs, cells, slots⟩ (Value.ref b :: argsL).toArray v B ∧
      ∀ target, Steps p.tables e below (B.U.setTop { g with pc := g.pc + 3, stack := v.toList ++ rest }) target → Steps p.tables e below (T.setTop g) target) ∨
    (∃ (q : Addr) (vm₁ : Vm) (B : Pt), s.WarmedH vm₁ ∧ Stand p l e R s m args below meth c B.U B.locs B.cells B.slots ∧ PostX ⟨T.setVm vm₁, locs, cells, slots⟩ (Value.ref b :: argsL).toArray q B ∧
      Steps p.tables e below (T.setTop g) ((B.U.setTop { g with stack := rest }).pushFrame (.throwing q))) := by
  obtain ⟨mk, methM, hnamed, hmethM, hstM, habM⟩ := Cond.instanceMethod_spec hinst
  obtain ⟨m8, methM', cM, hn8, hmethM', -, -, -, -, -, -, hsigM⟩ := Cond.codeWith_spec hcode
  cases Option.some.inj (hn8.symm.trans hnamed)
  cases hmethM.symm.trans hmethM'
  obtain ⟨c2, r2, m2, q1, q2, q3, q4, kP, hkP, hkPi⟩ := Cond.selects_spec hsel
  cases hcls.symm.trans q1
  cases (State.methodFound?_of_named hnamed hy).symm.trans q2
  cases hnamed.symm.trans q3
  have hselP : selectMethod e.platform s.vm cellB.cls mk = .method mk := by rw [Launch.admits_selectMethod X.admits]; exact q4
  obtain ⟨vm₁, X₁, hstep₁⟩ := X.invokevirtual hexec hown hlink hnamed hmethM hstM hkP hkPi hy (a := b) (cell := cellB) hcell
    (fun z h => by rw [h] at hobj; cases hobj) hselP hmethM habM hkP hkPi (g := g) hg (argsL := argsL) (rest := rest) (hlen _ hsigM) hstack hdg
  rcases hK m meth c ⟨T.setVm vm₁, locs, cells, slots⟩ { g with stack := rest } (.invokevirtual index) mk (Value.ref b :: argsL).toArray X₁ hg hsize hdg hW (X₁.named hnamed) (hpre vm₁ X₁.warmed) with ⟨v, B, X', hpost, hsteps⟩ | ⟨q, B, X', hpost, hsteps⟩
  · exact Or.inl ⟨v, vm₁, B, X₁.warmed, X', hpost, fun target h => hstep₁ _ fun acts => by rw [doInvoke_state]; exact hsteps.trans h⟩
  · exact Or.inr ⟨q, vm₁, B, X₁.warmed, X', hpost, hstep₁ _ fun acts => by rw [doInvoke_state]; exact hsteps⟩
theorem vx_callSX (X : Stand p l e R s m args below meth c T locs cells slots) (hexec : p.tables.exec = Jvm.exec) {own : String} {index : Nat} {y : MethodName} {bytes : ByteArray} {maxL : Nat} {ret : Option FieldType} {hh : List (Nat × Nat × Nat × Nat)}
    (hown : s.vm.findClass own = some m.cls) (hlink : (Cond.methodLink own index y).before args s = true) (hstat : (Cond.static y).before args s = true) (hinit : (Cond.initialized y.cls).before args s = true)
    (hcode : (Cond.codeWith y bytes maxL ret hh).before args s = true) (hy : y.cls ≠ "java/lang/invoke/MethodHandle" ∧ y.cls ≠ "java/lang/invoke/VarHandle")
    {W9 : Nat} {Pre : Pt → Array Value → Prop} {Post : Pt → Array Value → Option Value → Pt → Prop} {PostX : Pt → Array Value → Addr → Pt → Prop} (hK : vx_Back l R p e below s args y 3 W9 Pre Post PostX)
    {g : JFrame} (hg : g.method = m) (hsize : g.locals.size = c.maxLocals) {argsL rest : List Value} (hlen : ∀ sig, parseMethodDescriptor y.desc = some sig → argsL.length = sig.parameters.length)
    (hstack : g.stack = argsL.reverse ++ rest) (hW : 2 * g.monitorRoom + (rest.map fun v => v.category).sum ≤ W9) (hdg : decode c.code g.pc = .ok (.invokestatic index, 3))
    (hpre : ∀ vm₁, s.WarmedH vm₁ → Pre ⟨T.setVm vm₁, locs, cells, slots⟩ argsL.toArray) :
    (∃ (v : Option Value) (vm₁ : Vm) (B : Pt), s.WarmedH vm₁ ∧ Stand p l e R s m args below meth c B.U B.locs B.cells B.slots ∧ Post ⟨T.setVm vm₁, locs, cells, slots⟩ argsL.toArray v B ∧
      ∀ target, Steps p.tables e below (B.U.setTop { g with pc := g.pc + 3, stack := v.toList ++ rest }) target → Steps p.tables e below (T.setTop g) target) ∨
    (∃ (q : Addr) (vm₁ : Vm) (B : Pt), s.WarmedH vm₁ ∧ Stand p l e R s m args below meth c B.U B.locs B.cells B.slots ∧ PostX ⟨T.setVm vm₁, locs, cells, slots⟩ argsL.toArray q B ∧
      Steps p.tables e below (T.setTop g) ((B.U.setTop { g with stack := rest }).pushFrame (.throwing q))) := by
  obtain ⟨mk, methM, cM, hnamed, hmethM, -, -, -, -, -, -, hsigM⟩ := Cond.codeWith_spec hcode
  have hstatic : methM.isStatic = true := Cond.static_spec hnamed hmethM hstat
  obtain ⟨kP, hkP, -⟩ := className_of_methodNamed hnamed
  have hinitP : kP.init = .initialized := Cond.initialized_spec (findClass_of_methodNamed hnamed) hkP hinit
  obtain ⟨vm₁, X₁, hstep₁⟩ := X.invokestatic hexec hown hlink hnamed hmethM hstatic hkP hinitP hy (g := g) hg (argsL := argsL) (rest := rest) (hlen _ hsigM) hstack hdg
  rcases hK m meth c ⟨T.setVm vm₁, locs, cells, slots⟩ { g with stack := rest } (.invokestatic index) mk argsL.toArray X₁ hg hsize hdg hW (X₁.named hnamed) (hpre vm₁ X₁.warmed) with ⟨v, B, X', hpost, hsteps⟩ | ⟨q, B, X', hpost, hsteps⟩
  · exact Or.inl ⟨v, vm₁, B, X₁.warmed, X', hpost, fun target h => hstep₁ _ fun acts => by rw [doInvoke_state]; exact hsteps.trans h⟩
  · exact Or.inr ⟨q, vm₁, B, X₁.warmed, X', hpost, hstep₁ _ fun acts => by rw [doInvoke_state]; exact hsteps⟩
theorem vx_callVW (X : Stand p l e R s m args below meth c T locs cells slots) (hexec : p.tables.exec = Jvm.exec) {own C : String} {index : Nat} {y : MethodName} {bytes : ByteArray} {maxL : Nat} {ret : Option FieldType} {hh : List (Nat × Nat × Nat × Nat)}
    (hown : s.vm.findClass own = some m.cls) (hlink : (Cond.methodLink own index y).before args s = true) (hinst : (Cond.instanceMethod y).before args s = true) (hsel : (Cond.selects C y y).before args s = true)
    (hcode : (Cond.codeWith y bytes maxL ret hh).before args s = true) (hy : y.cls ≠ "java/lang/invoke/MethodHandle" ∧ y.cls ≠ "java/lang/invoke/VarHandle")
    {W9 : Nat} {Pre : Pt → Array Value → Prop} {Post : Pt → Array Value → Option Value → Pt → Prop} (hK : Back l R p e below s args y 3 W9 Pre Post)
    {b : Addr} {cellB : Cell} (hcell : T.heap[b]? = some cellB) (hobj : cellB.vm.isStatics = false) (hcls : s.vm.findClass C = some cellB.cls)
    {g : JFrame} (hg : g.method = m) (hsize : g.locals.size = c.maxLocals) {argsL rest : List Value} (hlen : ∀ sig, parseMethodDescriptor y.desc = some sig → argsL.length = sig.parameters.length)
    (hstack : g.stack = argsL.reverse ++ .ref b :: rest) (hW : 2 * g.monitorRoom + (rest.map fun v => v.category).sum ≤ W9) (hdg : decode c.code g.pc = .ok (.invokevirtual index, 3))
    (hpre : ∀ vm₁, s.WarmedH vm₁ → Pre ⟨T.setVm vm₁, locs, cells, slots⟩ (Value.ref b :: argsL).toArray) :
    ∃ (v : Option Value) (vm₁ : Vm) (B : Pt), s.WarmedH vm₁ ∧ Stand p l e R s m args below meth c B.U B.locs B.cells B.slots ∧ Post ⟨T.setVm vm₁, locs, cells, slots⟩ (Value.ref b :: argsL).toArray v B ∧
      ∀ target, Steps p.tables e below (B.U.setTop { g with pc := g.pc + 3, stack := v.toList ++ rest }) target → Steps p.tables e below (T.setTop g) target := by
  obtain ⟨mk, methM, hnamed, hmethM, hstM, habM⟩ := Cond.instanceMethod_spec hinst
  obtain ⟨m8, methM', cM, hn8, hmethM', -, -, -, -, -, -, hsigM⟩ := Cond.codeWith_spec hcode
  cases Option.some.inj (hn8.symm.trans hnamed)
  cases hmethM.symm.trans hmethM'
  obtain ⟨c2, r2, m2, q1, q2, q3, q4, kP, hkP, hkPi⟩ := Cond.selects_spec hsel
  cases hcls.symm.trans q1
  cases (State.methodFound?_of_named hnamed hy).symm.trans q2
  cases hnamed.symm.trans q3
  have hselP : selectMethod e.platform s.vm cellB.cls mk = .method mk := by rw [Launch.admits_selectMethod X.admits]; exact q4
  obtain ⟨vm₁, X₁, hstep₁⟩ := X.invokevirtual hexec hown hlink hnamed hmethM hstM hkP hkPi hy (a := b) (cell := cellB) hcell
    (fun z h => by rw [h] at hobj; cases hobj) hselP hmethM habM hkP hkPi (g := g) hg (argsL := argsL) (rest := rest) (hlen _ hsigM) hstack hdg
  obtain ⟨v, B, X', hpost, hsteps⟩ := hK m meth c ⟨T.setVm vm₁, locs, cells, slots⟩ { g with stack := rest } (.invokevirtual index) mk (Value.ref b :: argsL).toArray X₁ hg hsize hdg hW (X₁.named hnamed) (hpre vm₁ X₁.warmed)
  exact ⟨v, vm₁, B, X₁.warmed, X', hpost, fun target h => hstep₁ _ fun acts => by rw [doInvoke_state]; exact hsteps.trans h⟩
abbrev vx_CVW (R : Room) (s : State) (args : Array Value) (own C : String) (index : Nat) (y : MethodName) (bytes : ByteArray) (maxL : Nat) (ret : Option FieldType) (hh : List (Nat × Nat × Nat × Nat)) (ws : List Cond) (rm : Room) (mc ms n : Nat) : Prop :=
  (rm.cells = mc ∧ rm.slots = ms ∧ rm.frames + 1 ≤ R.frames ∧ 8 + (maxL + 11) + rm.locals ≤ R.locals ∧ (∀ w ∈ ws, ∀ (a' : Array Value) (U : State), s.WarmedH U.vm → w.before a' U = true) ∧ Cond.codeWith y bytes maxL ret hh ∈ ws) ∧
  (Cond.codeWith y bytes maxL ret hh).before args s = true ∧ (Cond.initialized y.cls).before args s = true ∧ (y.cls ≠ "java/lang/invoke/MethodHandle" ∧ y.cls ≠ "java/lang/invoke/VarHandle") ∧
  (∀ sig, parseMethodDescriptor y.desc = some sig → n = sig.parameters.length) ∧ (Cond.methodLink own index y).before args s = true ∧ (Cond.instanceMethod y).before args s = true ∧ (Cond.selects C y y).before args s = true
theorem vx_cwVW {own C : String} {index maxL mc ms : Nat} {y : MethodName} {bytes : ByteArray} {ret : Option FieldType} {hh : List (Nat × Nat × Nat × Nat)} {Ts ws ws' : List Cond} {rm : Room} (n : Nat) (ht : ∀ w ∈ Ts, w.before args s = true) (hT : GoodIn Ts (wsV own index C y ws)) (hw : ws = Cond.codeWith y bytes maxL ret hh :: ws') (hrc : rm.cells = mc) (hrs : rm.slots = ms)
    (hd : y.cls = C ∧ y.cls ≠ "java/lang/invoke/MethodHandle" ∧ y.cls ≠ "java/lang/invoke/VarHandle" ∧ (parseMethodDescriptor y.desc).map (fun d => d.parameters.length) = some n) (hR : rm.frames + 1 ≤ R.frames ∧ 8 + (maxL + 11) + rm.locals ≤ R.locals) :
    vx_CVW R s args own C index y bytes maxL ret hh ws rm mc ms n := by
  obtain ⟨hC, hd⟩ := hd
  subst hC
  have ok : ∀ w ∈ wsV own index y.cls y ws, w.before args s = true := fun w h => ht w (hT w h).1
  have hG : GoodIn Ts ws := fun w h => hT w (by unfold wsV; exact List.mem_append_right _ h)
  have hc : Cond.codeWith y bytes maxL ret hh ∈ ws := by rw [hw]; exact List.mem_cons_self
  refine ⟨⟨hrc, hrs, hR.1, hR.2, pay_in ht hG, hc⟩, ht _ (hG _ hc).1, ok _ (by simp [wsV]), ⟨hd.1, hd.2.1⟩, fun sig h => ?_, ok _ (by simp [wsV]), ok _ (by simp [wsV]), ok _ (by simp [wsV])⟩
  have h2 := hd.2.2
  rw [h] at h2
  exact (Option.some.inj h2).symm
theorem vx_runVW {y : MethodName} {bytes cc : ByteArray} {maxL nL mc ms n index : Nat} {ret : Option FieldType} {hh : List (Nat × Nat × Nat × Nat)} {ws : List Cond} {rm : Room} {Pc : Array Value → State → Prop} {Qc : Array Value → State → Outcome → State → Prop} {free : Addr → Prop} {Ts : List Cond} {own C : String} {b : Addr} {As rest : List Value} {g : JFrame}
    (S : CallFix p m c cc nL s args Ts own) (hM : Met l y ws rm Pc Qc mc ms free) (cw : vx_CVW R s args own C index y bytes maxL ret hh ws rm mc ms n) (hp : PreV s H C b Pc As)
    (hg : g.method = m) (hn : As.length = n) (hsize : g.locals.size = nL) (hstack : g.stack = As.reverse ++ .ref b :: rest) (hW : 2 * g.monitorRoom + (rest.map fun v => v.category).sum ≤ 8) (hdg : decode cc g.pc = .ok (.invokevirtual index, 3)) (hf : cells + mc ≤ R.cells ∧ slots + ms ≤ R.slots) :
    va_Run p l e R s m args below meth c H locs cells slots mc ms g rest (Qc (Value.ref b :: As).toArray) free := by
  obtain ⟨⟨hrc, hrs, hfr, hlo, hws, hcw⟩, hcode, hini, hy, hlen, hl, hin, hse⟩ := cw
  have hK : Back l R p e below s args y 3 8 (PreOf R mc ms Pc) (PostOf Qc mc ms free) := va_backW (hh := hh) (bytes := bytes) (maxL := maxL) (ret := ret) hM hp.1 hrc hrs hfr hlo hws hcw (fun a' U hW => word_at hW (Or.inl (by first | rfl | simp [Cond.onTables, Cond.keeps, Cond.steady])) hini)
  obtain ⟨hx, hb, hml, ho, -⟩ := S
  obtain ⟨-, ⟨cellB, hcB, hoB, hclB⟩, hPc⟩ := hp
  intro T hT X
  obtain ⟨v, vm₁, ⟨U', l2, c2, s2⟩, hW₁, X', ⟨g', mk, t, L, e1, e2, hq, h1, hL, h2, h3⟩, st⟩ := vx_callVW X hx (C := C) (hh := hh) (bytes := bytes) (maxL := maxL) (ret := ret) ho hl hin hse hcode hy hK (by rw [hT]; exact hcB) hoB hclB hg (hsize.trans hml.symm) (argsL := As) (rest := rest) (fun sig h => hn.trans (hlen sig h)) hstack hW (by rw [hb]; exact hdg)
    (fun vm₁ hW₁ => ⟨hf.1, hf.2, hPc (T.setVm vm₁) hT hW₁⟩)
  dsimp only [Pt.U, Pt.locs, Pt.cells, Pt.slots] at X' e1 e2 h1 h2 h3 st
  subst h1; subst h2; subst h3
  exact ⟨v, (T.setVm vm₁).calling g' mk (Value.ref b :: As).toArray, t, U', L, hT, X', hL, e1, e2, hq, st⟩
section
variable {y : MethodName} {bytes cc : ByteArray} {maxL nL mc ms n index : Nat} {ret : Option FieldType} {ws : List Cond} {rm : Room} {Pc : Array Value → State → Prop} {Qc : Array Value → State → Outcome → State → Prop} {XC : String → State → State → Prop} {free : Addr → Prop} {Ts : List Cond} {own C : String} {b : Addr} {As rest : List Value} {g : JFrame}
theorem vx_runVX {hh : List (Nat × Nat × Nat × Nat)} (S : CallFix p m c cc nL s args Ts own) (hM : vx_Met l y ws rm Pc Qc XC mc ms free) (cw : vx_CVW R s args own C index y bytes maxL ret hh ws rm mc ms n) (hp : PreV s H C b Pc As)
    (hg : g.method = m) (hn : As.length = n) (hsize : g.locals.size = nL) (hstack : g.stack = As.reverse ++ .ref b :: rest) (hW : 2 * g.monitorRoom + (rest.map fun v => v.category).sum ≤ 8) (hdg : decode cc g.pc = .ok (.invokevirtual index, 3)) (hf : cells + mc ≤ R.cells ∧ slots + ms ≤ R.slots) :
    vx_Run p l e R s m args below meth c H locs cells slots mc ms g rest (Qc (Value.ref b :: As).toArray) XC free := by
  obtain ⟨⟨hrc, hrs, hfr, hlo, hws, hcw⟩, hcode, hini, hy, hlen, hl, hin, hse⟩ := cw
  have hK : vx_Back l R p e below s args y 3 8 (PreOf R mc ms Pc) (PostOf Qc mc ms free) (vx_Post XC mc ms free) := vx_backW (hh := hh) (bytes := bytes) (maxL := maxL) (ret := ret) hM hp.1 hrc hrs hfr hlo hws hcw (fun a' U hW => word_at hW (Or.inl (by first | rfl | simp [Cond.onTables, Cond.keeps, Cond.steady])) hini)
  obtain ⟨hx, hb, hml, ho, -⟩ := S
  obtain ⟨-, ⟨cellB, hcB, hoB, hclB⟩, hPc⟩ := hp
  intro T hT X
  rcases vx_callVX X hx (C := C) (hh := hh) (bytes := bytes) (maxL := maxL) (ret := ret) ho hl hin hse hcode hy hK (by rw [hT]; exact hcB) hoB hclB hg (hsize.trans hml.symm) (argsL := As) (rest := rest) (fun sig h => hn.trans (hlen sig h)) hstack hW (by rw [hb]; exact hdg)
    (fun vm₁ hW₁ => ⟨hf.1, hf.2, hPc (T.setVm vm₁) hT hW₁⟩) with ⟨v, vm₁, ⟨U', l2, c2, s2⟩, hW₁, X', ⟨g', mk, t, L, e1, e2, hq, h1, hL, h2, h3⟩, st⟩ | ⟨q, vm₁, ⟨U', l2, c2, s2⟩, hW₁, X', ⟨g', mk, t, L, E, ce, e1, e2, hq, hce, hcv, hcl, h1, hL, h2, h3⟩, st⟩
  · dsimp only [Pt.U, Pt.locs, Pt.cells, Pt.slots] at X' e1 e2 h1 h2 h3 st
    subst h1; subst h2; subst h3
    exact Or.inl ⟨v, (T.setVm vm₁).calling g' mk (Value.ref b :: As).toArray, t, U', L, hT, X', hL, e1, e2, hq, st⟩
  · dsimp only [Pt.U, Pt.locs, Pt.cells, Pt.slots] at X' e1 e2 h1 h2 h3 st hcl
    subst h1; subst h2; subst h3
    exact Or.inr ⟨q, (T.setVm vm₁).calling g' mk (Value.ref b :: As).toArray, t, U', L, E, ce, hT, X', hL, e1, e2, hq, hce, hcv, vx_cls hW₁ hcl, st⟩
theorem vx_runSX {hh : List (Nat × Nat × Nat × Nat)} (S : CallFix p m c cc nL s args Ts own) (hM : vx_Met l y ws rm Pc Qc XC mc ms free) (cw : vx_CSW R s args own index y bytes maxL ret hh ws rm mc ms n) (hp : PreS s H Pc As)
    (hg : g.method = m) (hn : As.length = n) (hsize : g.locals.size = nL) (hstack : g.stack = As.reverse ++ rest) (hW : 2 * g.monitorRoom + (rest.map fun v => v.category).sum ≤ 8) (hdg : decode cc g.pc = .ok (.invokestatic index, 3)) (hf : cells + mc ≤ R.cells ∧ slots + ms ≤ R.slots) :
    vx_Run p l e R s m args below meth c H locs cells slots mc ms g rest (Qc As.toArray) XC free := by
  obtain ⟨⟨hrc, hrs, hfr, hlo, hws, hcw⟩, hcode, hini, hy, hlen, hl, hstt⟩ := cw
  have hK : vx_Back l R p e below s args y 3 8 (PreOf R mc ms Pc) (PostOf Qc mc ms free) (vx_Post XC mc ms free) := vx_backW (hh := hh) (bytes := bytes) (maxL := maxL) (ret := ret) hM hp.1 hrc hrs hfr hlo hws hcw (fun a' U hW => word_at hW (Or.inl (by first | rfl | simp [Cond.onTables, Cond.keeps, Cond.steady])) hini)
  obtain ⟨hx, hb, hml, ho, -⟩ := S
  intro T hT X
  rcases vx_callSX X hx (hh := hh) (bytes := bytes) (maxL := maxL) (ret := ret) ho hl hstt hini hcode hy hK hg (hsize.trans hml.symm) (argsL := As) (rest := rest) (fun sig h => hn.trans (hlen sig h)) hstack hW (by rw [hb]; exact hdg)
    (fun vm₁ hW₁ => ⟨hf.1, hf.2, hp.2 (T.setVm vm₁) hT hW₁⟩) with ⟨v, vm₁, ⟨U', l2, c2, s2⟩, hW₁, X', ⟨g', mk, t, L, e1, e2, hq, h1, hL, h2, h3⟩, st⟩ | ⟨q, vm₁, ⟨U', l2, c2, s2⟩, hW₁, X', ⟨g', mk, t, L, E, ce, e1, e2, hq, hce, hcv, hcl, h1, hL, h2, h3⟩, st⟩
  · dsimp only [Pt.U, Pt.locs, Pt.cells, Pt.slots] at X' e1 e2 h1 h2 h3 st
    subst h1; subst h2; subst h3
    exact Or.inl ⟨v, (T.setVm vm₁).calling g' mk As.toArray, t, U', L, hT, X', hL, e1, e2, hq, st⟩
  · dsimp only [Pt.U, Pt.locs, Pt.cells, Pt.slots] at X' e1 e2 h1 h2 h3 st hcl
    subst h1; subst h2; subst h3
    exact Or.inr ⟨q, (T.setVm vm₁).calling g' mk As.toArray, t, U', L, E, ce, hT, X', hL, e1, e2, hq, hce, hcv, vx_cls hW₁ hcl, st⟩
end
end VXH
theorem vx_ofWH {l : Launch} {y : MethodName} {ws ws' : List Cond} {rm : Room} {Pc : Array Value → State → Prop} {Qc : Array Value → State → Outcome → State → Prop} {XC : String → State → State → Prop} {mc ms : Nat} {free : Addr → Prop} {cc : ByteArray} {maxL : Nat} {ret : Option FieldType} {hh : List (Nat × Nat × Nat × Nat)}
    (hy : plainName y.cls = true) (hw : ws = Cond.codeWith y cc maxL ret hh :: ws')
    (body : ∀ p e s m args below meth c s₁, BodyLoose p l y (headSpec ws rm) cc maxL ret e s m args below meth c s₁ → c.maxLocals = maxL → Pc args s →
      W p l e (headSpec ws rm).room s m args below meth c s.heap [] 0 0 (vx_MQ below Qc XC args s mc ms free) (entryFrame m args maxL)) : vx_Met l y ws rm Pc Qc XC mc ms free := by
  refine MetFree.of_bodyS (code := cc) (maxLocals := maxL) (ret := ret) hy ?_ ?_
  · intro args s m h hn
    obtain ⟨m9, meth, c, hn9, h1, h2, h3, h4, -, h5, h6, -⟩ := Cond.codeWith_spec (atoms_spec (ws := ws) h _ (by rw [hw]; exact List.mem_cons_self))
    cases hn.symm.trans hn9
    exact ⟨meth, c, h1, h2, h3, h4, h5, h6⟩
  · intro p e s m args below meth c s₁ B hml hP _
    have hh0 : s₁.heap = s.heap := by rw [B.state]; rfl
    obtain ⟨t, a1, o, b1, b2, b3⟩ := body p e s m args below meth c s₁ B hml hP s₁ hh0 (Stand.of_body B)
    exact ⟨t, o, a1, b1, b2, b3⟩
/-! ===== END ===== -/
end
section
/-! ===== BEGIN printed: names, fields, word lists, decode rows ===== -/
def RX0 : String := "SignOnHouse$Decisions"
def TX0 : u_T := fun k => match k with
  | 0 => ("SignOnHouse$Decisions", "caches", "[I", true)
  | 1 => ("SignOnHouse$Decisions", "answers", "[I", true)
  | _ => ("SignOnHouse$Decisions", "keptSince", "[I", true)
def tyX0 : Nat → FieldType := fun k => match k with
  | 0 => .array .int
  | 1 => .array .int
  | _ => .array .int
abbrev wsX00 : List Cond := u_ws RX0 TX0 3
theorem nmX0 : ∀ a, a < 3 → ∀ b, b < 3 → a ≠ b → (TX0 a).2.1 ≠ (TX0 b).2.1 := by decide +kernel
theorem tyX0_ok : ∀ k, k < 3 → parseFieldDescriptor (TX0 k).2.2.1 = some (tyX0 k) := by decide +kernel
abbrev cX0_init : ByteArray := prog_2_method_1_code
def yX0_init : MethodName := ⟨RX0, "<init>", "()V"⟩
abbrev cX0_cacheOf : ByteArray := prog_2_method_2_code
def yX0_cacheOf : MethodName := ⟨RX0, "cacheOf", "(I)I"⟩
abbrev cX0_allowCache : ByteArray := prog_2_method_3_code
def yX0_allowCache : MethodName := ⟨RX0, "allowCache", "(II)V"⟩
abbrev cX0_areKept : ByteArray := prog_2_method_4_code
def yX0_areKept : MethodName := ⟨RX0, "areKept", "(III)Z"⟩
abbrev cX0_answer : ByteArray := prog_2_method_5_code
def yX0_answer : MethodName := ⟨RX0, "answer", "(III)I"⟩
abbrev cX0_keep : ByteArray := prog_2_method_6_code
def yX0_keep : MethodName := ⟨RX0, "keep", "(IIIII)V"⟩
abbrev cX0_dropAllOf : ByteArray := prog_2_method_7_code
def yX0_dropAllOf : MethodName := ⟨RX0, "dropAllOf", "(II)I"⟩
abbrev cX0_dropDueOfAll : ByteArray := prog_2_method_8_code
def yX0_dropDueOfAll : MethodName := ⟨RX0, "dropDueOfAll", "(I)V"⟩
abbrev cX0_dropDue : ByteArray := prog_2_method_9_code
def yX0_dropDue : MethodName := ⟨RX0, "dropDue", "(II)V"⟩
abbrev cX0_place : ByteArray := prog_2_method_10_code
def yX0_place : MethodName := ⟨RX0, "place", "(III)I"⟩
def RX1 : String := "SignOnHouse$Groups"
def TX1 : u_T := fun k => match k with
  | 0 => ("SignOnHouse$Groups", "homesOfPerson", "[I", true)
  | 1 => ("SignOnHouse$Groups", "homesOfGroup", "[I", true)
  | 2 => ("SignOnHouse$Groups", "grantedOfRole", "[I", true)
  | _ => ("SignOnHouse$Groups", "deniedOfRole", "[I", true)
def tyX1 : Nat → FieldType := fun k => match k with
  | 0 => .array .int
  | 1 => .array .int
  | 2 => .array .int
  | _ => .array .int
abbrev wsX10 : List Cond := u_ws RX1 TX1 4
theorem nmX1 : ∀ a, a < 4 → ∀ b, b < 4 → a ≠ b → (TX1 a).2.1 ≠ (TX1 b).2.1 := by decide +kernel
theorem tyX1_ok : ∀ k, k < 4 → parseFieldDescriptor (TX1 k).2.2.1 = some (tyX1 k) := by decide +kernel
abbrev cX1_init : ByteArray := prog_3_method_1_code
def yX1_init : MethodName := ⟨RX1, "<init>", "()V"⟩
abbrev cX1_placePerson : ByteArray := prog_3_method_2_code
def yX1_placePerson : MethodName := ⟨RX1, "placePerson", "(IIZ)Z"⟩
abbrev cX1_placeGroup : ByteArray := prog_3_method_3_code
def yX1_placeGroup : MethodName := ⟨RX1, "placeGroup", "(IIZ)Z"⟩
abbrev cX1_giveRole : ByteArray := prog_3_method_4_code
def yX1_giveRole : MethodName := ⟨RX1, "giveRole", "(III)I"⟩
abbrev cX1_hasPerson : ByteArray := prog_3_method_5_code
def yX1_hasPerson : MethodName := ⟨RX1, "hasPerson", "(II)Z"⟩
abbrev cX1_isAround : ByteArray := prog_3_method_6_code
def yX1_isAround : MethodName := ⟨RX1, "isAround", "(II)Z"⟩
abbrev cX1_anyGrants : ByteArray := prog_3_method_7_code
def yX1_anyGrants : MethodName := ⟨RX1, "anyGrants", "(II)Z"⟩
abbrev cX1_anyDenies : ByteArray := prog_3_method_8_code
def yX1_anyDenies : MethodName := ⟨RX1, "anyDenies", "(II)Z"⟩
abbrev cX1_roleOf : ByteArray := prog_3_method_9_code
def yX1_roleOf : MethodName := ⟨RX1, "roleOf", "(II)I"⟩
abbrev cX1_allAround : ByteArray := prog_3_method_10_code
def yX1_allAround : MethodName := ⟨RX1, "allAround", "(I)I"⟩
abbrev cX1_oneLinkFurther : ByteArray := prog_3_method_11_code
def yX1_oneLinkFurther : MethodName := ⟨RX1, "oneLinkFurther", "(I)I"⟩
abbrev cX1_contains : ByteArray := prog_3_method_12_code
def yX1_contains : MethodName := ⟨RX1, "contains", "(II)Z"⟩
abbrev cX1_changed : ByteArray := prog_3_method_13_code
def yX1_changed : MethodName := ⟨RX1, "changed", "(IIZ)I"⟩
def RX2 : String := "SignOnHouse$Keys"
def TX2 : u_T := fun k => match k with
  | 0 => ("SignOnHouse$Keys", "signing", "I", false)
  | _ => ("SignOnHouse$Keys", "endOfBefore", "I", false)
def tyX2 : Nat → FieldType := fun k => match k with
  | 0 => .int
  | _ => .int
abbrev wsX20 : List Cond := u_ws RX2 TX2 2
theorem nmX2 : ∀ a, a < 2 → ∀ b, b < 2 → a ≠ b → (TX2 a).2.1 ≠ (TX2 b).2.1 := by decide +kernel
theorem tyX2_ok : ∀ k, k < 2 → parseFieldDescriptor (TX2 k).2.2.1 = some (tyX2 k) := by decide +kernel
abbrev cX2_init : ByteArray := prog_4_method_1_code
def yX2_init : MethodName := ⟨RX2, "<init>", "()V"⟩
abbrev cX2_signing : ByteArray := prog_4_method_2_code
def yX2_signing : MethodName := ⟨RX2, "signing", "()I"⟩
abbrev cX2_signWithNext : ByteArray := prog_4_method_3_code
def yX2_signWithNext : MethodName := ⟨RX2, "signWithNext", "(I)V"⟩
abbrev cX2_takes : ByteArray := prog_4_method_4_code
def yX2_takes : MethodName := ⟨RX2, "takes", "(II)Z"⟩
def RX3 : String := "SignOnHouse$Sessions"
def TX3 : u_T := fun k => match k with
  | 0 => ("SignOnHouse$Sessions", "people", "[I", true)
  | 1 => ("SignOnHouse$Sessions", "signedWith", "[I", true)
  | 2 => ("SignOnHouse$Sessions", "openedAt", "[I", true)
  | 3 => ("SignOnHouse$Sessions", "usedAt", "[I", true)
  | 4 => ("SignOnHouse$Sessions", "over", "[Z", true)
  | _ => ("SignOnHouse$Sessions", "count", "I", false)
def tyX3 : Nat → FieldType := fun k => match k with
  | 0 => .array .int
  | 1 => .array .int
  | 2 => .array .int
  | 3 => .array .int
  | 4 => .array .boolean
  | _ => .int
abbrev wsX30 : List Cond := u_ws RX3 TX3 6
theorem nmX3 : ∀ a, a < 6 → ∀ b, b < 6 → a ≠ b → (TX3 a).2.1 ≠ (TX3 b).2.1 := by decide +kernel
theorem tyX3_ok : ∀ k, k < 6 → parseFieldDescriptor (TX3 k).2.2.1 = some (tyX3 k) := by decide +kernel
abbrev cX3_init : ByteArray := prog_5_method_1_code
def yX3_init : MethodName := ⟨RX3, "<init>", "()V"⟩
abbrev cX3_areAllOpened : ByteArray := prog_5_method_2_code
def yX3_areAllOpened : MethodName := ⟨RX3, "areAllOpened", "()Z"⟩
abbrev cX3_has : ByteArray := prog_5_method_3_code
def yX3_has : MethodName := ⟨RX3, "has", "(I)Z"⟩
abbrev cX3_add : ByteArray := prog_5_method_4_code
def yX3_add : MethodName := ⟨RX3, "add", "(III)I"⟩
abbrev cX3_isOver : ByteArray := prog_5_method_5_code
def yX3_isOver : MethodName := ⟨RX3, "isOver", "(I)Z"⟩
abbrev cX3_end : ByteArray := prog_5_method_6_code
def yX3_end : MethodName := ⟨RX3, "end", "(I)V"⟩
abbrev cX3_use : ByteArray := prog_5_method_7_code
def yX3_use : MethodName := ⟨RX3, "use", "(II)V"⟩
abbrev cX3_personOf : ByteArray := prog_5_method_8_code
def yX3_personOf : MethodName := ⟨RX3, "personOf", "(I)I"⟩
abbrev cX3_age : ByteArray := prog_5_method_9_code
def yX3_age : MethodName := ⟨RX3, "age", "(II)I"⟩
abbrev cX3_endAllOf : ByteArray := prog_5_method_10_code
def yX3_endAllOf : MethodName := ⟨RX3, "endAllOf", "(I)I"⟩
abbrev cX3_endDue : ByteArray := prog_5_method_11_code
def yX3_endDue : MethodName := ⟨RX3, "endDue", "(I[ILSignOnHouse$Keys;)I"⟩
abbrev cX3_isDue : ByteArray := prog_5_method_12_code
def yX3_isDue : MethodName := ⟨RX3, "isDue", "(IIILSignOnHouse$Keys;)Z"⟩
def RX4 : String := "SignOnHouse"
def TX4 : u_T := fun k => match k with
  | 0 => ("SignOnHouse", "groups", "LSignOnHouse$Groups;", true)
  | 1 => ("SignOnHouse", "sessions", "LSignOnHouse$Sessions;", true)
  | 2 => ("SignOnHouse", "keys", "LSignOnHouse$Keys;", true)
  | 3 => ("SignOnHouse", "decisions", "LSignOnHouse$Decisions;", true)
  | 4 => ("SignOnHouse", "risks", "[I", true)
  | 5 => ("SignOnHouse", "glassEnds", "[I", true)
  | _ => ("SignOnHouse", "minute", "I", false)
def tyX4 : Nat → FieldType := fun k => match k with
  | 0 => .object "SignOnHouse$Groups"
  | 1 => .object "SignOnHouse$Sessions"
  | 2 => .object "SignOnHouse$Keys"
  | 3 => .object "SignOnHouse$Decisions"
  | 4 => .array .int
  | 5 => .array .int
  | _ => .int
abbrev wsX40 : List Cond := u_ws RX4 TX4 7
theorem nmX4 : ∀ a, a < 7 → ∀ b, b < 7 → a ≠ b → (TX4 a).2.1 ≠ (TX4 b).2.1 := by decide +kernel
theorem tyX4_ok : ∀ k, k < 7 → parseFieldDescriptor (TX4 k).2.2.1 = some (tyX4 k) := by decide +kernel
abbrev cX4_init : ByteArray := prog_1_method_1_code
def yX4_init : MethodName := ⟨RX4, "<init>", "()V"⟩
abbrev cX4_setPerson : ByteArray := prog_1_method_2_code
def yX4_setPerson : MethodName := ⟨RX4, "setPerson", "(IIZ)Z"⟩
abbrev cX4_setGroup : ByteArray := prog_1_method_3_code
def yX4_setGroup : MethodName := ⟨RX4, "setGroup", "(IIZ)Z"⟩
abbrev cX4_setRole : ByteArray := prog_1_method_4_code
def yX4_setRole : MethodName := ⟨RX4, "setRole", "(III)I"⟩
abbrev cX4_setRisk : ByteArray := prog_1_method_5_code
def yX4_setRisk : MethodName := ⟨RX4, "setRisk", "(II)I"⟩
abbrev cX4_isIn : ByteArray := prog_1_method_6_code
def yX4_isIn : MethodName := ⟨RX4, "isIn", "(II)Z"⟩
abbrev cX4_allows : ByteArray := prog_1_method_7_code
def yX4_allows : MethodName := ⟨RX4, "allows", "(II)Z"⟩
abbrev cX4_open : ByteArray := prog_1_method_8_code
def yX4_open : MethodName := ⟨RX4, "open", "(I)I"⟩
abbrev cX4_close : ByteArray := prog_1_method_9_code
def yX4_close : MethodName := ⟨RX4, "close", "(I)I"⟩
abbrev cX4_goesOn : ByteArray := prog_1_method_10_code
def yX4_goesOn : MethodName := ⟨RX4, "goesOn", "(I)Z"⟩
abbrev cX4_changeKeys : ByteArray := prog_1_method_11_code
def yX4_changeKeys : MethodName := ⟨RX4, "changeKeys", "(I)I"⟩
abbrev cX4_isTaken : ByteArray := prog_1_method_12_code
def yX4_isTaken : MethodName := ⟨RX4, "isTaken", "(I)Z"⟩
abbrev cX4_pass : ByteArray := prog_1_method_13_code
def yX4_pass : MethodName := ⟨RX4, "pass", "(I)I"⟩
abbrev cX4_now : ByteArray := prog_1_method_14_code
def yX4_now : MethodName := ⟨RX4, "now", "()I"⟩
abbrev cX4_breakGlass : ByteArray := prog_1_method_15_code
def yX4_breakGlass : MethodName := ⟨RX4, "breakGlass", "(IIII)I"⟩
abbrev cX4_setCache : ByteArray := prog_1_method_16_code
def yX4_setCache : MethodName := ⟨RX4, "setCache", "(II)I"⟩
abbrev cX4_decide : ByteArray := prog_1_method_17_code
def yX4_decide : MethodName := ⟨RX4, "decide", "(III)I"⟩
abbrev cX4_forget : ByteArray := prog_1_method_18_code
def yX4_forget : MethodName := ⟨RX4, "forget", "(II)I"⟩
abbrev cX4_stale : ByteArray := prog_1_method_19_code
def yX4_stale : MethodName := ⟨RX4, "stale", "(I)I"⟩
abbrev cX4_isOutside : ByteArray := prog_1_method_20_code
def yX4_isOutside : MethodName := ⟨RX4, "isOutside", "(II)Z"⟩
abbrev cX4_isBarred : ByteArray := prog_1_method_21_code
def yX4_isBarred : MethodName := ⟨RX4, "isBarred", "(I)Z"⟩
abbrev cX4_holdsGlass : ByteArray := prog_1_method_22_code
def yX4_holdsGlass : MethodName := ⟨RX4, "holdsGlass", "(II)Z"⟩
abbrev cX4_servesAsWitness : ByteArray := prog_1_method_23_code
def yX4_servesAsWitness : MethodName := ⟨RX4, "servesAsWitness", "(II)Z"⟩
abbrev cX4_answerOfHouse : ByteArray := prog_1_method_24_code
def yX4_answerOfHouse : MethodName := ⟨RX4, "answerOfHouse", "(II)I"⟩
abbrev cX4_answerOfApp : ByteArray := prog_1_method_25_code
def yX4_answerOfApp : MethodName := ⟨RX4, "answerOfApp", "(III)I"⟩
abbrev cX4_isStale : ByteArray := prog_1_method_26_code
def yX4_isStale : MethodName := ⟨RX4, "isStale", "(III)Z"⟩
def RX5 : String := "SignOnHouseModel"
def TX5 : u_T := fun k => match k with
  | 0 => ("SignOnHouseModel", "thrown", "I", false)
  | 1 => ("SignOnHouseModel", "now", "I", false)
  | 2 => ("SignOnHouseModel", "people", "[I", true)
  | 3 => ("SignOnHouseModel", "groups", "[I", true)
  | 4 => ("SignOnHouseModel", "roles", "[I", true)
  | 5 => ("SignOnHouseModel", "risk", "[I", true)
  | 6 => ("SignOnHouseModel", "glass", "[I", true)
  | 7 => ("SignOnHouseModel", "sessions", "I", false)
  | 8 => ("SignOnHouseModel", "who", "[I", true)
  | 9 => ("SignOnHouseModel", "signed", "[I", true)
  | 10 => ("SignOnHouseModel", "since", "[I", true)
  | 11 => ("SignOnHouseModel", "used", "[I", true)
  | 12 => ("SignOnHouseModel", "over", "[Z", true)
  | 13 => ("SignOnHouseModel", "key", "I", false)
  | 14 => ("SignOnHouseModel", "taken", "I", false)
  | 15 => ("SignOnHouseModel", "cache", "[I", true)
  | _ => ("SignOnHouseModel", "kept", "[I", true)
def tyX5 : Nat → FieldType := fun k => match k with
  | 0 => .int
  | 1 => .int
  | 2 => .array .int
  | 3 => .array .int
  | 4 => .array .int
  | 5 => .array .int
  | 6 => .array .int
  | 7 => .int
  | 8 => .array .int
  | 9 => .array .int
  | 10 => .array .int
  | 11 => .array .int
  | 12 => .array .boolean
  | 13 => .int
  | 14 => .int
  | 15 => .array .int
  | _ => .array .int
abbrev wsX50 : List Cond := u_ws RX5 TX5 17
theorem nmX5 : ∀ a, a < 17 → ∀ b, b < 17 → a ≠ b → (TX5 a).2.1 ≠ (TX5 b).2.1 := by decide +kernel
theorem tyX5_ok : ∀ k, k < 17 → parseFieldDescriptor (TX5 k).2.2.1 = some (tyX5 k) := by decide +kernel
abbrev cX5_init : ByteArray := prog_7_method_1_code
def yX5_init : MethodName := ⟨RX5, "<init>", "()V"⟩
abbrev cX5_thrown : ByteArray := prog_7_method_2_code
def yX5_thrown : MethodName := ⟨RX5, "thrown", "()I"⟩
abbrev cX5_fails : ByteArray := prog_7_method_3_code
def yX5_fails : MethodName := ⟨RX5, "fails", "(I)I"⟩
abbrev cX5_in : ByteArray := prog_7_method_4_code
def yX5_in : MethodName := ⟨RX5, "in", "(III)Z"⟩
abbrev cX5_isPerson : ByteArray := prog_7_method_5_code
def yX5_isPerson : MethodName := ⟨RX5, "isPerson", "(I)Z"⟩
abbrev cX5_isGroup : ByteArray := prog_7_method_6_code
def yX5_isGroup : MethodName := ⟨RX5, "isGroup", "(I)Z"⟩
abbrev cX5_isRole : ByteArray := prog_7_method_7_code
def yX5_isRole : MethodName := ⟨RX5, "isRole", "(I)Z"⟩
abbrev cX5_isApp : ByteArray := prog_7_method_8_code
def yX5_isApp : MethodName := ⟨RX5, "isApp", "(I)Z"⟩
abbrev cX5_has : ByteArray := prog_7_method_9_code
def yX5_has : MethodName := ⟨RX5, "has", "(II)Z"⟩
abbrev cX5_within : ByteArray := prog_7_method_10_code
def yX5_within : MethodName := ⟨RX5, "within", "(I)I"⟩
abbrev cX5_setPerson : ByteArray := prog_7_method_11_code
def yX5_setPerson : MethodName := ⟨RX5, "setPerson", "(IIZ)Z"⟩
abbrev cX5_setGroup : ByteArray := prog_7_method_12_code
def yX5_setGroup : MethodName := ⟨RX5, "setGroup", "(IIZ)Z"⟩
abbrev cX5_setRole : ByteArray := prog_7_method_13_code
def yX5_setRole : MethodName := ⟨RX5, "setRole", "(III)I"⟩
abbrev cX5_belongs : ByteArray := prog_7_method_14_code
def yX5_belongs : MethodName := ⟨RX5, "belongs", "(II)Z"⟩
abbrev cX5_finds : ByteArray := prog_7_method_15_code
def yX5_finds : MethodName := ⟨RX5, "finds", "(III)Z"⟩
abbrev cX5_lets : ByteArray := prog_7_method_16_code
def yX5_lets : MethodName := ⟨RX5, "lets", "(II)Z"⟩
abbrev cX5_isKey : ByteArray := prog_7_method_17_code
def yX5_isKey : MethodName := ⟨RX5, "isKey", "(I)Z"⟩
abbrev cX5_ends : ByteArray := prog_7_method_18_code
def yX5_ends : MethodName := ⟨RX5, "ends", "(I)Z"⟩
abbrev cX5_sweeps : ByteArray := prog_7_method_19_code
def yX5_sweeps : MethodName := ⟨RX5, "sweeps", "()I"⟩
abbrev cX5_setRisk : ByteArray := prog_7_method_20_code
def yX5_setRisk : MethodName := ⟨RX5, "setRisk", "(II)I"⟩
abbrev cX5_isIn : ByteArray := prog_7_method_21_code
def yX5_isIn : MethodName := ⟨RX5, "isIn", "(II)Z"⟩
abbrev cX5_allows : ByteArray := prog_7_method_22_code
def yX5_allows : MethodName := ⟨RX5, "allows", "(II)Z"⟩
abbrev cX5_open : ByteArray := prog_7_method_23_code
def yX5_open : MethodName := ⟨RX5, "open", "(I)I"⟩
abbrev cX5_isSession : ByteArray := prog_7_method_24_code
def yX5_isSession : MethodName := ⟨RX5, "isSession", "(I)Z"⟩
abbrev cX5_close : ByteArray := prog_7_method_25_code
def yX5_close : MethodName := ⟨RX5, "close", "(I)I"⟩
abbrev cX5_goesOn : ByteArray := prog_7_method_26_code
def yX5_goesOn : MethodName := ⟨RX5, "goesOn", "(I)Z"⟩
abbrev cX5_changeKeys : ByteArray := prog_7_method_27_code
def yX5_changeKeys : MethodName := ⟨RX5, "changeKeys", "(I)I"⟩
abbrev cX5_isTaken : ByteArray := prog_7_method_28_code
def yX5_isTaken : MethodName := ⟨RX5, "isTaken", "(I)Z"⟩
abbrev cX5_pass : ByteArray := prog_7_method_29_code
def yX5_pass : MethodName := ⟨RX5, "pass", "(I)I"⟩
abbrev cX5_now : ByteArray := prog_7_method_30_code
def yX5_now : MethodName := ⟨RX5, "now", "()I"⟩
abbrev cX5_serves : ByteArray := prog_7_method_31_code
def yX5_serves : MethodName := ⟨RX5, "serves", "(II)Z"⟩
abbrev cX5_breakGlass : ByteArray := prog_7_method_32_code
def yX5_breakGlass : MethodName := ⟨RX5, "breakGlass", "(IIII)I"⟩
abbrev cX5_keeps : ByteArray := prog_7_method_33_code
def yX5_keeps : MethodName := ⟨RX5, "keeps", "(II)Z"⟩
abbrev cX5_drops : ByteArray := prog_7_method_34_code
def yX5_drops : MethodName := ⟨RX5, "drops", "(I)V"⟩
abbrev cX5_setCache : ByteArray := prog_7_method_35_code
def yX5_setCache : MethodName := ⟨RX5, "setCache", "(II)I"⟩
abbrev cX5_decide : ByteArray := prog_7_method_36_code
def yX5_decide : MethodName := ⟨RX5, "decide", "(III)I"⟩
abbrev cX5_forget : ByteArray := prog_7_method_37_code
def yX5_forget : MethodName := ⟨RX5, "forget", "(II)I"⟩
abbrev cX5_stale : ByteArray := prog_7_method_38_code
def yX5_stale : MethodName := ⟨RX5, "stale", "(I)I"⟩
def RJx145de : String := "java/io/Serializable"
def TJx145de : u_T := fun k => match k with
  | _ => ("", "", "", false)
def tyJx145de : Nat → FieldType := fun k => match k with
  | _ => .int
abbrev wsJx145de0 : List Cond := u_ws RJx145de TJx145de 0
theorem nmJx145de : ∀ a, a < 0 → ∀ b, b < 0 → a ≠ b → (TJx145de a).2.1 ≠ (TJx145de b).2.1 := by decide +kernel
theorem tyJx145de_ok : ∀ k, k < 0 → parseFieldDescriptor (TJx145de k).2.2.1 = some (tyJx145de k) := by decide +kernel
def RJ0 : String := "java/lang/String"
def TJ0 : u_T := fun k => match k with
  | _ => ("", "", "", false)
def tyJ0 : Nat → FieldType := fun k => match k with
  | _ => .int
abbrev wsJ00 : List Cond := u_ws RJ0 TJ0 0
theorem nmJ0 : ∀ a, a < 0 → ∀ b, b < 0 → a ≠ b → (TJ0 a).2.1 ≠ (TJ0 b).2.1 := by decide +kernel
theorem tyJ0_ok : ∀ k, k < 0 → parseFieldDescriptor (TJ0 k).2.2.1 = some (tyJ0 k) := by decide +kernel
def RJ7 : String := "java/util/Arrays"
def TJ7 : u_T := fun k => match k with
  | _ => ("", "", "", false)
def tyJ7 : Nat → FieldType := fun k => match k with
  | _ => .int
abbrev wsJ70 : List Cond := u_ws RJ7 TJ7 0
theorem nmJ7 : ∀ a, a < 0 → ∀ b, b < 0 → a ≠ b → (TJ7 a).2.1 ≠ (TJ7 b).2.1 := by decide +kernel
theorem tyJ7_ok : ∀ k, k < 0 → parseFieldDescriptor (TJ7 k).2.2.1 = some (tyJ7 k) := by decide +kernel
abbrev cJ7_fill_53178 : ByteArray := prog_15_method_103_code
def yJ7_fill_53178 : MethodName := ⟨RJ7, "fill", "([II)V"⟩
def RL : String := "SignOnHouseLaw"
abbrev cL_setPerson : ByteArray := method_3_code
def yL_setPerson : MethodName := ⟨RL, "setPerson", "(LSignOnHouse;IIZ[J)I"⟩
abbrev cL_setGroup : ByteArray := method_4_code
def yL_setGroup : MethodName := ⟨RL, "setGroup", "(LSignOnHouse;IIZ[J)I"⟩
abbrev cL_setRole : ByteArray := method_5_code
def yL_setRole : MethodName := ⟨RL, "setRole", "(LSignOnHouse;III[J)I"⟩
abbrev cL_setRisk : ByteArray := method_6_code
def yL_setRisk : MethodName := ⟨RL, "setRisk", "(LSignOnHouse;II[J)I"⟩
abbrev cL_isIn : ByteArray := method_7_code
def yL_isIn : MethodName := ⟨RL, "isIn", "(LSignOnHouse;II[J)I"⟩
abbrev cL_allows : ByteArray := method_8_code
def yL_allows : MethodName := ⟨RL, "allows", "(LSignOnHouse;II[J)I"⟩
abbrev cL_open : ByteArray := method_9_code
def yL_open : MethodName := ⟨RL, "open", "(LSignOnHouse;I[J)I"⟩
abbrev cL_close : ByteArray := method_10_code
def yL_close : MethodName := ⟨RL, "close", "(LSignOnHouse;I[J)I"⟩
abbrev cL_goesOn : ByteArray := method_11_code
def yL_goesOn : MethodName := ⟨RL, "goesOn", "(LSignOnHouse;I[J)I"⟩
abbrev cL_changeKeys : ByteArray := method_12_code
def yL_changeKeys : MethodName := ⟨RL, "changeKeys", "(LSignOnHouse;I[J)I"⟩
abbrev cL_isTaken : ByteArray := method_13_code
def yL_isTaken : MethodName := ⟨RL, "isTaken", "(LSignOnHouse;I[J)I"⟩
abbrev cL_pass : ByteArray := method_14_code
def yL_pass : MethodName := ⟨RL, "pass", "(LSignOnHouse;I[J)I"⟩
abbrev cL_breakGlass : ByteArray := method_15_code
def yL_breakGlass : MethodName := ⟨RL, "breakGlass", "(LSignOnHouse;IIII[J)I"⟩
abbrev cL_setCache : ByteArray := method_16_code
def yL_setCache : MethodName := ⟨RL, "setCache", "(LSignOnHouse;II[J)I"⟩
abbrev cL_decide : ByteArray := method_17_code
def yL_decide : MethodName := ⟨RL, "decide", "(LSignOnHouse;III[J)I"⟩
abbrev cL_forget : ByteArray := method_18_code
def yL_forget : MethodName := ⟨RL, "forget", "(LSignOnHouse;II[J)I"⟩
abbrev cL_stale : ByteArray := method_19_code
def yL_stale : MethodName := ⟨RL, "stale", "(LSignOnHouse;I[J)I"⟩
abbrev cL_law : ByteArray := code
def yL_law : MethodName := ⟨RL, "law", "([I)Z"⟩
def wsJ7_fill_53178 : List Cond := .code yJ7_fill_53178 cJ7_fill_53178 4 none :: ([])
def wsX0_init : List Cond := .code yX0_init cX0_init 1 none :: ([.methodLink RX0 3 objectInit, .instanceMethod objectInit, .code objectInit ⟨#[0xb1]⟩ 1 none, .arrayClass .int, .fieldLink RX0 9 "SignOnHouse$Decisions" "caches" "[I", .fieldLink RX0 15 "SignOnHouse$Decisions" "answers" "[I", .fieldLink RX0 18 "SignOnHouse$Decisions" "keptSince" "[I", .methodLink RX0 21 yJ7_fill_53178, .static yJ7_fill_53178, .initialized RJ7, .code yJ7_fill_53178 cJ7_fill_53178 4 none] ++ wsX00)
def wsX0_cacheOf : List Cond := .code yX0_cacheOf cX0_cacheOf 2 (some .int) :: ([.fieldLink RX0 9 "SignOnHouse$Decisions" "caches" "[I"] ++ wsX00)
def wsX0_allowCache : List Cond := .code yX0_allowCache cX0_allowCache 3 none :: ([.fieldLink RX0 9 "SignOnHouse$Decisions" "caches" "[I"] ++ wsX00)
def wsX0_place : List Cond := .code yX0_place cX0_place 3 (some .int) :: ([])
def wsX0_areKept : List Cond := .code yX0_areKept cX0_areKept 4 (some .boolean) :: ([.fieldLink RX0 15 "SignOnHouse$Decisions" "answers" "[I", .methodLink RX0 27 yX0_place, .static yX0_place, .initialized RX0, .code yX0_place cX0_place 3 (some .int)] ++ wsX00)
def wsX0_answer : List Cond := .code yX0_answer cX0_answer 4 (some .int) :: ([.fieldLink RX0 15 "SignOnHouse$Decisions" "answers" "[I", .methodLink RX0 27 yX0_place, .static yX0_place, .initialized RX0, .code yX0_place cX0_place 3 (some .int)] ++ wsX00)
def wsX0_keep : List Cond := .code yX0_keep cX0_keep 6 none :: ([.fieldLink RX0 9 "SignOnHouse$Decisions" "caches" "[I", .fieldLink RX0 15 "SignOnHouse$Decisions" "answers" "[I", .fieldLink RX0 18 "SignOnHouse$Decisions" "keptSince" "[I", .methodLink RX0 27 yX0_place, .static yX0_place, .initialized RX0, .code yX0_place cX0_place 3 (some .int)] ++ wsX00)
def wsX0_dropAllOf : List Cond := .code yX0_dropAllOf cX0_dropAllOf 5 (some .int) :: ([.fieldLink RX0 15 "SignOnHouse$Decisions" "answers" "[I", .methodLink RX0 31 yX0_areKept, .instanceMethod yX0_areKept, .selects RX0 yX0_areKept yX0_areKept, .initialized RX0, .code yX0_areKept cX0_areKept 4 (some .boolean), .methodLink RX0 27 yX0_place, .static yX0_place, .code yX0_place cX0_place 3 (some .int)] ++ wsX00)
def wsX0_dropDue : List Cond := .code yX0_dropDue cX0_dropDue 5 none :: ([.fieldLink RX0 18 "SignOnHouse$Decisions" "keptSince" "[I", .fieldLink RX0 9 "SignOnHouse$Decisions" "caches" "[I", .fieldLink RX0 15 "SignOnHouse$Decisions" "answers" "[I", .methodLink RX0 27 yX0_place, .static yX0_place, .initialized RX0, .code yX0_place cX0_place 3 (some .int)] ++ wsX00)
def wsX0_dropDueOfAll : List Cond := .code yX0_dropDueOfAll cX0_dropDueOfAll 3 none :: ([.methodLink RX0 35 yX0_dropDue, .instanceMethod yX0_dropDue, .selects RX0 yX0_dropDue yX0_dropDue, .initialized RX0, .code yX0_dropDue cX0_dropDue 5 none, .fieldLink RX0 18 "SignOnHouse$Decisions" "keptSince" "[I", .fieldLink RX0 9 "SignOnHouse$Decisions" "caches" "[I", .fieldLink RX0 15 "SignOnHouse$Decisions" "answers" "[I", .methodLink RX0 27 yX0_place, .static yX0_place, .code yX0_place cX0_place 3 (some .int)] ++ wsX00)
def wsX1_init : List Cond := .code yX1_init cX1_init 1 none :: ([.methodLink RX1 3 objectInit, .instanceMethod objectInit, .code objectInit ⟨#[0xb1]⟩ 1 none, .arrayClass .int, .fieldLink RX1 9 "SignOnHouse$Groups" "homesOfPerson" "[I", .fieldLink RX1 15 "SignOnHouse$Groups" "homesOfGroup" "[I", .fieldLink RX1 18 "SignOnHouse$Groups" "grantedOfRole" "[I", .fieldLink RX1 21 "SignOnHouse$Groups" "deniedOfRole" "[I"] ++ wsX10)
def wsX1_contains : List Cond := .code yX1_contains cX1_contains 2 (some .boolean) :: ([])
def wsX1_changed : List Cond := .code yX1_changed cX1_changed 3 (some .int) :: ([])
def wsX1_placePerson : List Cond := .code yX1_placePerson cX1_placePerson 5 (some .boolean) :: ([.fieldLink RX1 9 "SignOnHouse$Groups" "homesOfPerson" "[I", .methodLink RX1 24 yX1_contains, .static yX1_contains, .initialized RX1, .code yX1_contains cX1_contains 2 (some .boolean), .methodLink RX1 28 yX1_changed, .static yX1_changed, .code yX1_changed cX1_changed 3 (some .int)] ++ wsX10)
def wsX1_placeGroup : List Cond := .code yX1_placeGroup cX1_placeGroup 5 (some .boolean) :: ([.fieldLink RX1 15 "SignOnHouse$Groups" "homesOfGroup" "[I", .methodLink RX1 24 yX1_contains, .static yX1_contains, .initialized RX1, .code yX1_contains cX1_contains 2 (some .boolean), .methodLink RX1 28 yX1_changed, .static yX1_changed, .code yX1_changed cX1_changed 3 (some .int)] ++ wsX10)
def wsX1_roleOf : List Cond := .code yX1_roleOf cX1_roleOf 3 (some .int) :: ([.fieldLink RX1 18 "SignOnHouse$Groups" "grantedOfRole" "[I", .fieldLink RX1 21 "SignOnHouse$Groups" "deniedOfRole" "[I", .methodLink RX1 24 yX1_contains, .static yX1_contains, .initialized RX1, .code yX1_contains cX1_contains 2 (some .boolean)] ++ wsX10)
def wsX1_giveRole : List Cond := .code yX1_giveRole cX1_giveRole 5 (some .int) :: ([.fieldLink RX1 18 "SignOnHouse$Groups" "grantedOfRole" "[I", .fieldLink RX1 21 "SignOnHouse$Groups" "deniedOfRole" "[I", .methodLink RX1 32 yX1_roleOf, .instanceMethod yX1_roleOf, .selects RX1 yX1_roleOf yX1_roleOf, .initialized RX1, .code yX1_roleOf cX1_roleOf 3 (some .int), .methodLink RX1 24 yX1_contains, .static yX1_contains, .code yX1_contains cX1_contains 2 (some .boolean), .methodLink RX1 28 yX1_changed, .static yX1_changed, .code yX1_changed cX1_changed 3 (some .int)] ++ wsX10)
def wsX1_oneLinkFurther : List Cond := .code yX1_oneLinkFurther cX1_oneLinkFurther 4 (some .int) :: ([.fieldLink RX1 15 "SignOnHouse$Groups" "homesOfGroup" "[I", .methodLink RX1 24 yX1_contains, .static yX1_contains, .initialized RX1, .code yX1_contains cX1_contains 2 (some .boolean)] ++ wsX10)
def wsX1_allAround : List Cond := .code yX1_allAround cX1_allAround 4 (some .int) :: ([.methodLink RX1 40 yX1_oneLinkFurther, .instanceMethod yX1_oneLinkFurther, .selects RX1 yX1_oneLinkFurther yX1_oneLinkFurther, .initialized RX1, .code yX1_oneLinkFurther cX1_oneLinkFurther 4 (some .int), .fieldLink RX1 15 "SignOnHouse$Groups" "homesOfGroup" "[I", .methodLink RX1 24 yX1_contains, .static yX1_contains, .code yX1_contains cX1_contains 2 (some .boolean)] ++ wsX10)
def wsX1_hasPerson : List Cond := .code yX1_hasPerson cX1_hasPerson 3 (some .boolean) :: ([.fieldLink RX1 9 "SignOnHouse$Groups" "homesOfPerson" "[I", .methodLink RX1 36 yX1_allAround, .instanceMethod yX1_allAround, .selects RX1 yX1_allAround yX1_allAround, .initialized RX1, .code yX1_allAround cX1_allAround 4 (some .int), .methodLink RX1 40 yX1_oneLinkFurther, .instanceMethod yX1_oneLinkFurther, .selects RX1 yX1_oneLinkFurther yX1_oneLinkFurther, .code yX1_oneLinkFurther cX1_oneLinkFurther 4 (some .int), .fieldLink RX1 15 "SignOnHouse$Groups" "homesOfGroup" "[I", .methodLink RX1 24 yX1_contains, .static yX1_contains, .code yX1_contains cX1_contains 2 (some .boolean)] ++ wsX10)
def wsX1_isAround : List Cond := .code yX1_isAround cX1_isAround 3 (some .boolean) :: ([.fieldLink RX1 15 "SignOnHouse$Groups" "homesOfGroup" "[I", .methodLink RX1 36 yX1_allAround, .instanceMethod yX1_allAround, .selects RX1 yX1_allAround yX1_allAround, .initialized RX1, .code yX1_allAround cX1_allAround 4 (some .int), .methodLink RX1 40 yX1_oneLinkFurther, .instanceMethod yX1_oneLinkFurther, .selects RX1 yX1_oneLinkFurther yX1_oneLinkFurther, .code yX1_oneLinkFurther cX1_oneLinkFurther 4 (some .int), .methodLink RX1 24 yX1_contains, .static yX1_contains, .code yX1_contains cX1_contains 2 (some .boolean)] ++ wsX10)
def wsX1_anyGrants : List Cond := .code yX1_anyGrants cX1_anyGrants 3 (some .boolean) :: ([.fieldLink RX1 9 "SignOnHouse$Groups" "homesOfPerson" "[I", .fieldLink RX1 18 "SignOnHouse$Groups" "grantedOfRole" "[I", .methodLink RX1 36 yX1_allAround, .instanceMethod yX1_allAround, .selects RX1 yX1_allAround yX1_allAround, .initialized RX1, .code yX1_allAround cX1_allAround 4 (some .int), .methodLink RX1 40 yX1_oneLinkFurther, .instanceMethod yX1_oneLinkFurther, .selects RX1 yX1_oneLinkFurther yX1_oneLinkFurther, .code yX1_oneLinkFurther cX1_oneLinkFurther 4 (some .int), .fieldLink RX1 15 "SignOnHouse$Groups" "homesOfGroup" "[I", .methodLink RX1 24 yX1_contains, .static yX1_contains, .code yX1_contains cX1_contains 2 (some .boolean)] ++ wsX10)
def wsX1_anyDenies : List Cond := .code yX1_anyDenies cX1_anyDenies 3 (some .boolean) :: ([.fieldLink RX1 9 "SignOnHouse$Groups" "homesOfPerson" "[I", .fieldLink RX1 21 "SignOnHouse$Groups" "deniedOfRole" "[I", .methodLink RX1 36 yX1_allAround, .instanceMethod yX1_allAround, .selects RX1 yX1_allAround yX1_allAround, .initialized RX1, .code yX1_allAround cX1_allAround 4 (some .int), .methodLink RX1 40 yX1_oneLinkFurther, .instanceMethod yX1_oneLinkFurther, .selects RX1 yX1_oneLinkFurther yX1_oneLinkFurther, .code yX1_oneLinkFurther cX1_oneLinkFurther 4 (some .int), .fieldLink RX1 15 "SignOnHouse$Groups" "homesOfGroup" "[I", .methodLink RX1 24 yX1_contains, .static yX1_contains, .code yX1_contains cX1_contains 2 (some .boolean)] ++ wsX10)
def wsX2_init : List Cond := .code yX2_init cX2_init 1 none :: ([.methodLink RX2 1 objectInit, .instanceMethod objectInit, .code objectInit ⟨#[0xb1]⟩ 1 none, .fieldLink RX2 7 "SignOnHouse$Keys" "signing" "I", .fieldLink RX2 13 "SignOnHouse$Keys" "endOfBefore" "I"] ++ wsX20)
def wsX2_signing : List Cond := .code yX2_signing cX2_signing 1 (some .int) :: ([.fieldLink RX2 7 "SignOnHouse$Keys" "signing" "I"] ++ wsX20)
def wsX2_signWithNext : List Cond := .code yX2_signWithNext cX2_signWithNext 2 none :: ([.fieldLink RX2 7 "SignOnHouse$Keys" "signing" "I", .fieldLink RX2 13 "SignOnHouse$Keys" "endOfBefore" "I"] ++ wsX20)
def wsX2_takes : List Cond := .code yX2_takes cX2_takes 3 (some .boolean) :: ([.fieldLink RX2 7 "SignOnHouse$Keys" "signing" "I", .fieldLink RX2 13 "SignOnHouse$Keys" "endOfBefore" "I"] ++ wsX20)
def wsX3_init : List Cond := .code yX3_init cX3_init 1 none :: ([.methodLink RX3 1 objectInit, .instanceMethod objectInit, .code objectInit ⟨#[0xb1]⟩ 1 none, .arrayClass .int, .fieldLink RX3 9 "SignOnHouse$Sessions" "people" "[I", .fieldLink RX3 13 "SignOnHouse$Sessions" "signedWith" "[I", .fieldLink RX3 16 "SignOnHouse$Sessions" "openedAt" "[I", .fieldLink RX3 19 "SignOnHouse$Sessions" "usedAt" "[I", .arrayClass .boolean, .fieldLink RX3 22 "SignOnHouse$Sessions" "over" "[Z", .fieldLink RX3 26 "SignOnHouse$Sessions" "count" "I"] ++ wsX30)
def wsX3_areAllOpened : List Cond := .code yX3_areAllOpened cX3_areAllOpened 1 (some .boolean) :: ([.fieldLink RX3 26 "SignOnHouse$Sessions" "count" "I"] ++ wsX30)
def wsX3_has : List Cond := .code yX3_has cX3_has 2 (some .boolean) :: ([.fieldLink RX3 26 "SignOnHouse$Sessions" "count" "I"] ++ wsX30)
def wsX3_add : List Cond := .code yX3_add cX3_add 5 (some .int) :: ([.fieldLink RX3 26 "SignOnHouse$Sessions" "count" "I", .fieldLink RX3 9 "SignOnHouse$Sessions" "people" "[I", .fieldLink RX3 13 "SignOnHouse$Sessions" "signedWith" "[I", .fieldLink RX3 16 "SignOnHouse$Sessions" "openedAt" "[I", .fieldLink RX3 19 "SignOnHouse$Sessions" "usedAt" "[I"] ++ wsX30)
def wsX3_isOver : List Cond := .code yX3_isOver cX3_isOver 2 (some .boolean) :: ([.fieldLink RX3 22 "SignOnHouse$Sessions" "over" "[Z"] ++ wsX30)
def wsX3_end : List Cond := .code yX3_end cX3_end 2 none :: ([.fieldLink RX3 22 "SignOnHouse$Sessions" "over" "[Z"] ++ wsX30)
def wsX3_use : List Cond := .code yX3_use cX3_use 3 none :: ([.fieldLink RX3 19 "SignOnHouse$Sessions" "usedAt" "[I"] ++ wsX30)
def wsX3_personOf : List Cond := .code yX3_personOf cX3_personOf 2 (some .int) :: ([.fieldLink RX3 9 "SignOnHouse$Sessions" "people" "[I"] ++ wsX30)
def wsX3_age : List Cond := .code yX3_age cX3_age 3 (some .int) :: ([.fieldLink RX3 16 "SignOnHouse$Sessions" "openedAt" "[I"] ++ wsX30)
def wsX3_endAllOf : List Cond := .code yX3_endAllOf cX3_endAllOf 4 (some .int) :: ([.fieldLink RX3 26 "SignOnHouse$Sessions" "count" "I", .fieldLink RX3 22 "SignOnHouse$Sessions" "over" "[Z", .fieldLink RX3 9 "SignOnHouse$Sessions" "people" "[I", .methodLink RX3 30 yX3_end, .instanceMethod yX3_end, .selects RX3 yX3_end yX3_end, .initialized RX3, .code yX3_end cX3_end 2 none] ++ wsX30)
def wsX3_isDue : List Cond := .code yX3_isDue cX3_isDue 5 (some .boolean) :: ([.fieldLink RX3 19 "SignOnHouse$Sessions" "usedAt" "[I", .fieldLink RX3 13 "SignOnHouse$Sessions" "signedWith" "[I", .methodLink RX3 38 yX3_age, .instanceMethod yX3_age, .selects RX3 yX3_age yX3_age, .initialized RX3, .code yX3_age cX3_age 3 (some .int), .fieldLink RX3 16 "SignOnHouse$Sessions" "openedAt" "[I", .methodLink RX3 42 yX2_takes, .instanceMethod yX2_takes, .selects RX2 yX2_takes yX2_takes, .initialized RX2, .code yX2_takes cX2_takes 3 (some .boolean), .fieldLink RX2 7 "SignOnHouse$Keys" "signing" "I", .fieldLink RX2 13 "SignOnHouse$Keys" "endOfBefore" "I"] ++ wsX30 ++ wsX20)
def wsX3_endDue_r1 : List Cond := [Cond.fieldLink RX3 26 "SignOnHouse$Sessions" "count" "I", Cond.fieldLink RX3 22 "SignOnHouse$Sessions" "over" "[Z", Cond.fieldLink RX3 9 "SignOnHouse$Sessions" "people" "[I", Cond.methodLink RX3 34 yX3_isDue, Cond.instanceMethod yX3_isDue, Cond.selects RX3 yX3_isDue yX3_isDue, Cond.initialized RX3, Cond.code yX3_isDue cX3_isDue 5 (some .boolean), Cond.fieldLink RX3 19 "SignOnHouse$Sessions" "usedAt" "[I", Cond.fieldLink RX3 13 "SignOnHouse$Sessions" "signedWith" "[I", Cond.methodLink RX3 38 yX3_age, Cond.instanceMethod yX3_age, Cond.selects RX3 yX3_age yX3_age, Cond.code yX3_age cX3_age 3 (some .int), Cond.fieldLink RX3 16 "SignOnHouse$Sessions" "openedAt" "[I", Cond.methodLink RX3 42 yX2_takes, Cond.instanceMethod yX2_takes, Cond.selects RX2 yX2_takes yX2_takes, Cond.initialized RX2, Cond.code yX2_takes cX2_takes 3 (some .boolean), Cond.fieldLink RX2 7 "SignOnHouse$Keys" "signing" "I", Cond.fieldLink RX2 13 "SignOnHouse$Keys" "endOfBefore" "I", Cond.methodLink RX3 30 yX3_end, Cond.instanceMethod yX3_end]
def wsX3_endDue_r2 : List Cond := [Cond.selects RX3 yX3_end yX3_end, Cond.code yX3_end cX3_end 2 none]
def wsX3_endDue : List Cond := .code yX3_endDue cX3_endDue 6 (some .int) :: ((wsX3_endDue_r1 ++ wsX3_endDue_r2) ++ wsX30 ++ wsX20)
def wsX4_init_r1 : List Cond := [Cond.methodLink RX4 1 objectInit, Cond.instanceMethod objectInit, Cond.code objectInit ⟨#[0xb1]⟩ 1 none, Cond.classLink RX4 7 RX1, Cond.instantiable RX1 4, Cond.initialized RX1, Cond.fieldLink RX4 10 "SignOnHouse" "groups" "LSignOnHouse$Groups;", Cond.classLink RX4 16 RX3, Cond.instantiable RX3 6, Cond.initialized RX3, Cond.fieldLink RX4 19 "SignOnHouse" "sessions" "LSignOnHouse$Sessions;", Cond.classLink RX4 23 RX2, Cond.instantiable RX2 2, Cond.initialized RX2, Cond.fieldLink RX4 26 "SignOnHouse" "keys" "LSignOnHouse$Keys;", Cond.classLink RX4 30 RX0, Cond.instantiable RX0 3, Cond.initialized RX0, Cond.fieldLink RX4 33 "SignOnHouse" "decisions" "LSignOnHouse$Decisions;", Cond.arrayClass .int, Cond.fieldLink RX4 37 "SignOnHouse" "risks" "[I", Cond.fieldLink RX4 41 "SignOnHouse" "glassEnds" "[I", Cond.fieldLink RX4 44 "SignOnHouse" "minute" "I", Cond.methodLink RX4 9 yX1_init]
def wsX4_init_r2 : List Cond := [Cond.instanceMethod yX1_init, Cond.code yX1_init cX1_init 1 none, Cond.methodLink RX1 3 objectInit, Cond.fieldLink RX1 9 "SignOnHouse$Groups" "homesOfPerson" "[I", Cond.fieldLink RX1 15 "SignOnHouse$Groups" "homesOfGroup" "[I", Cond.fieldLink RX1 18 "SignOnHouse$Groups" "grantedOfRole" "[I", Cond.fieldLink RX1 21 "SignOnHouse$Groups" "deniedOfRole" "[I", Cond.methodLink RX4 18 yX3_init, Cond.instanceMethod yX3_init, Cond.code yX3_init cX3_init 1 none, Cond.methodLink RX3 1 objectInit, Cond.fieldLink RX3 9 "SignOnHouse$Sessions" "people" "[I", Cond.fieldLink RX3 13 "SignOnHouse$Sessions" "signedWith" "[I", Cond.fieldLink RX3 16 "SignOnHouse$Sessions" "openedAt" "[I", Cond.fieldLink RX3 19 "SignOnHouse$Sessions" "usedAt" "[I", Cond.arrayClass .boolean, Cond.fieldLink RX3 22 "SignOnHouse$Sessions" "over" "[Z", Cond.fieldLink RX3 26 "SignOnHouse$Sessions" "count" "I", Cond.methodLink RX4 25 yX2_init, Cond.instanceMethod yX2_init, Cond.code yX2_init cX2_init 1 none, Cond.methodLink RX2 1 objectInit, Cond.fieldLink RX2 7 "SignOnHouse$Keys" "signing" "I", Cond.fieldLink RX2 13 "SignOnHouse$Keys" "endOfBefore" "I"]
def wsX4_init_r3 : List Cond := [Cond.methodLink RX4 32 yX0_init, Cond.instanceMethod yX0_init, Cond.code yX0_init cX0_init 1 none, Cond.methodLink RX0 3 objectInit, Cond.fieldLink RX0 9 "SignOnHouse$Decisions" "caches" "[I", Cond.fieldLink RX0 15 "SignOnHouse$Decisions" "answers" "[I", Cond.fieldLink RX0 18 "SignOnHouse$Decisions" "keptSince" "[I", Cond.methodLink RX0 21 yJ7_fill_53178, Cond.static yJ7_fill_53178, Cond.initialized RJ7, Cond.code yJ7_fill_53178 cJ7_fill_53178 4 none]
def wsX4_init : List Cond := .code yX4_init cX4_init 1 none :: ((wsX4_init_r1 ++ (wsX4_init_r2 ++ wsX4_init_r3)) ++ wsX10 ++ wsX40 ++ wsX30 ++ wsX20 ++ wsX00)
def wsX4_isOutside : List Cond := .code yX4_isOutside cX4_isOutside 2 (some .boolean) :: ([])
def wsX4_setPerson : List Cond := .code yX4_setPerson cX4_setPerson 4 (some .boolean) :: ([.classLink RX4 52 "java/lang/IllegalArgumentException", .initialized "java/lang/IllegalArgumentException", .fieldLink RX4 10 "SignOnHouse" "groups" "LSignOnHouse$Groups;", .methodLink RX4 48 yX4_isOutside, .static yX4_isOutside, .initialized RX4, .code yX4_isOutside cX4_isOutside 2 (some .boolean), .methodLink RX4 59 yX1_placePerson, .instanceMethod yX1_placePerson, .selects RX1 yX1_placePerson yX1_placePerson, .initialized RX1, .code yX1_placePerson cX1_placePerson 5 (some .boolean), .fieldLink RX1 9 "SignOnHouse$Groups" "homesOfPerson" "[I", .methodLink RX1 24 yX1_contains, .static yX1_contains, .code yX1_contains cX1_contains 2 (some .boolean), .methodLink RX1 28 yX1_changed, .static yX1_changed, .code yX1_changed cX1_changed 3 (some .int)] ++ wsX40 ++ wsX10 ++ (vx_atS RX4 56 "java/lang/IllegalArgumentException" ["java/lang/RuntimeException", "java/lang/Exception"]).filter goodWord)
def wsX4_setGroup_r1 : List Cond := [Cond.classLink RX4 52 "java/lang/IllegalArgumentException", Cond.initialized "java/lang/IllegalArgumentException", Cond.classLink RX4 70 "java/lang/IllegalStateException", Cond.initialized "java/lang/IllegalStateException", Cond.fieldLink RX4 10 "SignOnHouse" "groups" "LSignOnHouse$Groups;", Cond.methodLink RX4 48 yX4_isOutside, Cond.static yX4_isOutside, Cond.initialized RX4, Cond.code yX4_isOutside cX4_isOutside 2 (some .boolean), Cond.methodLink RX4 67 yX1_isAround, Cond.instanceMethod yX1_isAround, Cond.selects RX1 yX1_isAround yX1_isAround, Cond.initialized RX1, Cond.code yX1_isAround cX1_isAround 3 (some .boolean), Cond.fieldLink RX1 15 "SignOnHouse$Groups" "homesOfGroup" "[I", Cond.methodLink RX1 36 yX1_allAround, Cond.instanceMethod yX1_allAround, Cond.selects RX1 yX1_allAround yX1_allAround, Cond.code yX1_allAround cX1_allAround 4 (some .int), Cond.methodLink RX1 40 yX1_oneLinkFurther, Cond.instanceMethod yX1_oneLinkFurther, Cond.selects RX1 yX1_oneLinkFurther yX1_oneLinkFurther, Cond.code yX1_oneLinkFurther cX1_oneLinkFurther 4 (some .int), Cond.methodLink RX1 24 yX1_contains]
def wsX4_setGroup_r2 : List Cond := [Cond.static yX1_contains, Cond.code yX1_contains cX1_contains 2 (some .boolean), Cond.methodLink RX4 75 yX1_placeGroup, Cond.instanceMethod yX1_placeGroup, Cond.selects RX1 yX1_placeGroup yX1_placeGroup, Cond.code yX1_placeGroup cX1_placeGroup 5 (some .boolean), Cond.methodLink RX1 28 yX1_changed, Cond.static yX1_changed, Cond.code yX1_changed cX1_changed 3 (some .int)]
def wsX4_setGroup : List Cond := .code yX4_setGroup cX4_setGroup 4 (some .boolean) :: ((wsX4_setGroup_r1 ++ wsX4_setGroup_r2) ++ wsX40 ++ wsX10 ++ (vx_atS RX4 56 "java/lang/IllegalArgumentException" ["java/lang/RuntimeException", "java/lang/Exception"]).filter goodWord ++ (vx_atS RX4 74 "java/lang/IllegalStateException" ["java/lang/RuntimeException", "java/lang/Exception"]).filter goodWord)
def wsX4_setRole : List Cond := .code yX4_setRole cX4_setRole 4 (some .int) :: ([.classLink RX4 52 "java/lang/IllegalArgumentException", .initialized "java/lang/IllegalArgumentException", .fieldLink RX4 10 "SignOnHouse" "groups" "LSignOnHouse$Groups;", .methodLink RX4 48 yX4_isOutside, .static yX4_isOutside, .initialized RX4, .code yX4_isOutside cX4_isOutside 2 (some .boolean), .methodLink RX4 82 yX1_giveRole, .instanceMethod yX1_giveRole, .selects RX1 yX1_giveRole yX1_giveRole, .initialized RX1, .code yX1_giveRole cX1_giveRole 5 (some .int), .fieldLink RX1 18 "SignOnHouse$Groups" "grantedOfRole" "[I", .fieldLink RX1 21 "SignOnHouse$Groups" "deniedOfRole" "[I", .methodLink RX1 32 yX1_roleOf, .instanceMethod yX1_roleOf, .selects RX1 yX1_roleOf yX1_roleOf, .code yX1_roleOf cX1_roleOf 3 (some .int), .methodLink RX1 24 yX1_contains, .static yX1_contains, .code yX1_contains cX1_contains 2 (some .boolean), .methodLink RX1 28 yX1_changed, .static yX1_changed, .code yX1_changed cX1_changed 3 (some .int)] ++ wsX40 ++ wsX10 ++ (vx_atS RX4 56 "java/lang/IllegalArgumentException" ["java/lang/RuntimeException", "java/lang/Exception"]).filter goodWord)
def wsX4_setRisk : List Cond := .code yX4_setRisk cX4_setRisk 4 (some .int) :: ([.classLink RX4 52 "java/lang/IllegalArgumentException", .initialized "java/lang/IllegalArgumentException", .fieldLink RX4 37 "SignOnHouse" "risks" "[I", .fieldLink RX4 19 "SignOnHouse" "sessions" "LSignOnHouse$Sessions;", .methodLink RX4 48 yX4_isOutside, .static yX4_isOutside, .initialized RX4, .code yX4_isOutside cX4_isOutside 2 (some .boolean), .methodLink RX4 88 yX3_endAllOf, .instanceMethod yX3_endAllOf, .selects RX3 yX3_endAllOf yX3_endAllOf, .initialized RX3, .code yX3_endAllOf cX3_endAllOf 4 (some .int), .fieldLink RX3 26 "SignOnHouse$Sessions" "count" "I", .fieldLink RX3 22 "SignOnHouse$Sessions" "over" "[Z", .fieldLink RX3 9 "SignOnHouse$Sessions" "people" "[I", .methodLink RX3 30 yX3_end, .instanceMethod yX3_end, .selects RX3 yX3_end yX3_end, .code yX3_end cX3_end 2 none] ++ wsX40 ++ wsX30 ++ (vx_atS RX4 56 "java/lang/IllegalArgumentException" ["java/lang/RuntimeException", "java/lang/Exception"]).filter goodWord)
def wsX4_isIn_r1 : List Cond := [Cond.classLink RX4 52 "java/lang/IllegalArgumentException", Cond.initialized "java/lang/IllegalArgumentException", Cond.fieldLink RX4 10 "SignOnHouse" "groups" "LSignOnHouse$Groups;", Cond.methodLink RX4 48 yX4_isOutside, Cond.static yX4_isOutside, Cond.initialized RX4, Cond.code yX4_isOutside cX4_isOutside 2 (some .boolean), Cond.methodLink RX4 92 yX1_hasPerson, Cond.instanceMethod yX1_hasPerson, Cond.selects RX1 yX1_hasPerson yX1_hasPerson, Cond.initialized RX1, Cond.code yX1_hasPerson cX1_hasPerson 3 (some .boolean), Cond.fieldLink RX1 9 "SignOnHouse$Groups" "homesOfPerson" "[I", Cond.methodLink RX1 36 yX1_allAround, Cond.instanceMethod yX1_allAround, Cond.selects RX1 yX1_allAround yX1_allAround, Cond.code yX1_allAround cX1_allAround 4 (some .int), Cond.methodLink RX1 40 yX1_oneLinkFurther, Cond.instanceMethod yX1_oneLinkFurther, Cond.selects RX1 yX1_oneLinkFurther yX1_oneLinkFurther, Cond.code yX1_oneLinkFurther cX1_oneLinkFurther 4 (some .int), Cond.fieldLink RX1 15 "SignOnHouse$Groups" "homesOfGroup" "[I", Cond.methodLink RX1 24 yX1_contains, Cond.static yX1_contains]
def wsX4_isIn_r2 : List Cond := [Cond.code yX1_contains cX1_contains 2 (some .boolean)]
def wsX4_isIn : List Cond := .code yX4_isIn cX4_isIn 3 (some .boolean) :: ((wsX4_isIn_r1 ++ wsX4_isIn_r2) ++ wsX40 ++ wsX10 ++ (vx_atS RX4 56 "java/lang/IllegalArgumentException" ["java/lang/RuntimeException", "java/lang/Exception"]).filter goodWord)
def wsX4_isBarred : List Cond := .code yX4_isBarred cX4_isBarred 2 (some .boolean) :: ([.fieldLink RX4 37 "SignOnHouse" "risks" "[I"] ++ wsX40)
def wsX4_holdsGlass : List Cond := .code yX4_holdsGlass cX4_holdsGlass 3 (some .boolean) :: ([.fieldLink RX4 44 "SignOnHouse" "minute" "I", .fieldLink RX4 41 "SignOnHouse" "glassEnds" "[I"] ++ wsX40)
def wsX4_answerOfHouse_r1 : List Cond := [Cond.fieldLink RX4 10 "SignOnHouse" "groups" "LSignOnHouse$Groups;", Cond.methodLink RX4 103 yX4_isBarred, Cond.instanceMethod yX4_isBarred, Cond.selects RX4 yX4_isBarred yX4_isBarred, Cond.initialized RX4, Cond.code yX4_isBarred cX4_isBarred 2 (some .boolean), Cond.fieldLink RX4 37 "SignOnHouse" "risks" "[I", Cond.methodLink RX4 202 yX1_anyGrants, Cond.instanceMethod yX1_anyGrants, Cond.selects RX1 yX1_anyGrants yX1_anyGrants, Cond.initialized RX1, Cond.code yX1_anyGrants cX1_anyGrants 3 (some .boolean), Cond.fieldLink RX1 9 "SignOnHouse$Groups" "homesOfPerson" "[I", Cond.fieldLink RX1 18 "SignOnHouse$Groups" "grantedOfRole" "[I", Cond.methodLink RX1 36 yX1_allAround, Cond.instanceMethod yX1_allAround, Cond.selects RX1 yX1_allAround yX1_allAround, Cond.code yX1_allAround cX1_allAround 4 (some .int), Cond.methodLink RX1 40 yX1_oneLinkFurther, Cond.instanceMethod yX1_oneLinkFurther, Cond.selects RX1 yX1_oneLinkFurther yX1_oneLinkFurther, Cond.code yX1_oneLinkFurther cX1_oneLinkFurther 4 (some .int), Cond.fieldLink RX1 15 "SignOnHouse$Groups" "homesOfGroup" "[I", Cond.methodLink RX1 24 yX1_contains]
def wsX4_answerOfHouse_r2 : List Cond := [Cond.static yX1_contains, Cond.code yX1_contains cX1_contains 2 (some .boolean), Cond.methodLink RX4 205 yX1_anyDenies, Cond.instanceMethod yX1_anyDenies, Cond.selects RX1 yX1_anyDenies yX1_anyDenies, Cond.code yX1_anyDenies cX1_anyDenies 3 (some .boolean), Cond.fieldLink RX1 21 "SignOnHouse$Groups" "deniedOfRole" "[I", Cond.methodLink RX4 208 yX4_holdsGlass, Cond.instanceMethod yX4_holdsGlass, Cond.selects RX4 yX4_holdsGlass yX4_holdsGlass, Cond.code yX4_holdsGlass cX4_holdsGlass 3 (some .boolean), Cond.fieldLink RX4 44 "SignOnHouse" "minute" "I", Cond.fieldLink RX4 41 "SignOnHouse" "glassEnds" "[I"]
def wsX4_answerOfHouse : List Cond := .code yX4_answerOfHouse cX4_answerOfHouse 4 (some .int) :: ((wsX4_answerOfHouse_r1 ++ wsX4_answerOfHouse_r2) ++ wsX40 ++ wsX10)
def wsX4_allows_r1 : List Cond := [Cond.classLink RX4 52 "java/lang/IllegalArgumentException", Cond.initialized "java/lang/IllegalArgumentException", Cond.methodLink RX4 48 yX4_isOutside, Cond.static yX4_isOutside, Cond.initialized RX4, Cond.code yX4_isOutside cX4_isOutside 2 (some .boolean), Cond.methodLink RX4 97 yX4_answerOfHouse, Cond.instanceMethod yX4_answerOfHouse, Cond.selects RX4 yX4_answerOfHouse yX4_answerOfHouse, Cond.code yX4_answerOfHouse cX4_answerOfHouse 4 (some .int), Cond.fieldLink RX4 10 "SignOnHouse" "groups" "LSignOnHouse$Groups;", Cond.methodLink RX4 103 yX4_isBarred, Cond.instanceMethod yX4_isBarred, Cond.selects RX4 yX4_isBarred yX4_isBarred, Cond.code yX4_isBarred cX4_isBarred 2 (some .boolean), Cond.fieldLink RX4 37 "SignOnHouse" "risks" "[I", Cond.methodLink RX4 202 yX1_anyGrants, Cond.instanceMethod yX1_anyGrants, Cond.selects RX1 yX1_anyGrants yX1_anyGrants, Cond.initialized RX1, Cond.code yX1_anyGrants cX1_anyGrants 3 (some .boolean), Cond.fieldLink RX1 9 "SignOnHouse$Groups" "homesOfPerson" "[I", Cond.fieldLink RX1 18 "SignOnHouse$Groups" "grantedOfRole" "[I", Cond.methodLink RX1 36 yX1_allAround]
def wsX4_allows_r2 : List Cond := [Cond.instanceMethod yX1_allAround, Cond.selects RX1 yX1_allAround yX1_allAround, Cond.code yX1_allAround cX1_allAround 4 (some .int), Cond.methodLink RX1 40 yX1_oneLinkFurther, Cond.instanceMethod yX1_oneLinkFurther, Cond.selects RX1 yX1_oneLinkFurther yX1_oneLinkFurther, Cond.code yX1_oneLinkFurther cX1_oneLinkFurther 4 (some .int), Cond.fieldLink RX1 15 "SignOnHouse$Groups" "homesOfGroup" "[I", Cond.methodLink RX1 24 yX1_contains, Cond.static yX1_contains, Cond.code yX1_contains cX1_contains 2 (some .boolean), Cond.methodLink RX4 205 yX1_anyDenies, Cond.instanceMethod yX1_anyDenies, Cond.selects RX1 yX1_anyDenies yX1_anyDenies, Cond.code yX1_anyDenies cX1_anyDenies 3 (some .boolean), Cond.fieldLink RX1 21 "SignOnHouse$Groups" "deniedOfRole" "[I", Cond.methodLink RX4 208 yX4_holdsGlass, Cond.instanceMethod yX4_holdsGlass, Cond.selects RX4 yX4_holdsGlass yX4_holdsGlass, Cond.code yX4_holdsGlass cX4_holdsGlass 3 (some .boolean), Cond.fieldLink RX4 44 "SignOnHouse" "minute" "I", Cond.fieldLink RX4 41 "SignOnHouse" "glassEnds" "[I"]
def wsX4_allows : List Cond := .code yX4_allows cX4_allows 3 (some .boolean) :: ((wsX4_allows_r1 ++ wsX4_allows_r2) ++ wsX40 ++ wsX10 ++ (vx_atS RX4 56 "java/lang/IllegalArgumentException" ["java/lang/RuntimeException", "java/lang/Exception"]).filter goodWord)
def wsX4_open_r1 : List Cond := [Cond.classLink RX4 52 "java/lang/IllegalArgumentException", Cond.initialized "java/lang/IllegalArgumentException", Cond.classLink RX4 70 "java/lang/IllegalStateException", Cond.initialized "java/lang/IllegalStateException", Cond.fieldLink RX4 19 "SignOnHouse" "sessions" "LSignOnHouse$Sessions;", Cond.fieldLink RX4 26 "SignOnHouse" "keys" "LSignOnHouse$Keys;", Cond.fieldLink RX4 44 "SignOnHouse" "minute" "I", Cond.methodLink RX4 48 yX4_isOutside, Cond.static yX4_isOutside, Cond.initialized RX4, Cond.code yX4_isOutside cX4_isOutside 2 (some .boolean), Cond.methodLink RX4 103 yX4_isBarred, Cond.instanceMethod yX4_isBarred, Cond.selects RX4 yX4_isBarred yX4_isBarred, Cond.code yX4_isBarred cX4_isBarred 2 (some .boolean), Cond.fieldLink RX4 37 "SignOnHouse" "risks" "[I", Cond.methodLink RX4 109 yX3_areAllOpened, Cond.instanceMethod yX3_areAllOpened, Cond.selects RX3 yX3_areAllOpened yX3_areAllOpened, Cond.initialized RX3, Cond.code yX3_areAllOpened cX3_areAllOpened 1 (some .boolean), Cond.fieldLink RX3 26 "SignOnHouse$Sessions" "count" "I", Cond.methodLink RX4 115 yX2_signing, Cond.instanceMethod yX2_signing]
def wsX4_open_r2 : List Cond := [Cond.selects RX2 yX2_signing yX2_signing, Cond.initialized RX2, Cond.code yX2_signing cX2_signing 1 (some .int), Cond.fieldLink RX2 7 "SignOnHouse$Keys" "signing" "I", Cond.methodLink RX4 119 yX3_add, Cond.instanceMethod yX3_add, Cond.selects RX3 yX3_add yX3_add, Cond.code yX3_add cX3_add 5 (some .int), Cond.fieldLink RX3 9 "SignOnHouse$Sessions" "people" "[I", Cond.fieldLink RX3 13 "SignOnHouse$Sessions" "signedWith" "[I", Cond.fieldLink RX3 16 "SignOnHouse$Sessions" "openedAt" "[I", Cond.fieldLink RX3 19 "SignOnHouse$Sessions" "usedAt" "[I"]
def wsX4_open : List Cond := .code yX4_open cX4_open 2 (some .int) :: ((wsX4_open_r1 ++ wsX4_open_r2) ++ wsX40 ++ wsX30 ++ wsX20 ++ (vx_atS RX4 56 "java/lang/IllegalArgumentException" ["java/lang/RuntimeException", "java/lang/Exception"]).filter goodWord ++ (vx_atS RX4 74 "java/lang/IllegalStateException" ["java/lang/RuntimeException", "java/lang/Exception"]).filter goodWord)
def wsX4_close_r1 : List Cond := [Cond.classLink RX4 125 "java/lang/IndexOutOfBoundsException", Cond.initialized "java/lang/IndexOutOfBoundsException", Cond.classLink RX4 70 "java/lang/IllegalStateException", Cond.initialized "java/lang/IllegalStateException", Cond.fieldLink RX4 19 "SignOnHouse" "sessions" "LSignOnHouse$Sessions;", Cond.fieldLink RX4 44 "SignOnHouse" "minute" "I", Cond.methodLink RX4 122 yX3_has, Cond.instanceMethod yX3_has, Cond.selects RX3 yX3_has yX3_has, Cond.initialized RX3, Cond.code yX3_has cX3_has 2 (some .boolean), Cond.fieldLink RX3 26 "SignOnHouse$Sessions" "count" "I", Cond.methodLink RX4 130 yX3_isOver, Cond.instanceMethod yX3_isOver, Cond.selects RX3 yX3_isOver yX3_isOver, Cond.code yX3_isOver cX3_isOver 2 (some .boolean), Cond.fieldLink RX3 22 "SignOnHouse$Sessions" "over" "[Z", Cond.methodLink RX4 135 yX3_end, Cond.instanceMethod yX3_end, Cond.selects RX3 yX3_end yX3_end, Cond.code yX3_end cX3_end 2 none, Cond.methodLink RX4 139 yX3_age, Cond.instanceMethod yX3_age, Cond.selects RX3 yX3_age yX3_age]
def wsX4_close_r2 : List Cond := [Cond.code yX3_age cX3_age 3 (some .int), Cond.fieldLink RX3 16 "SignOnHouse$Sessions" "openedAt" "[I"]
def wsX4_close : List Cond := .code yX4_close cX4_close 2 (some .int) :: ((wsX4_close_r1 ++ wsX4_close_r2) ++ wsX40 ++ wsX30 ++ (vx_atS RX4 129 "java/lang/IndexOutOfBoundsException" ["java/lang/RuntimeException", "java/lang/Exception"]).filter goodWord ++ (vx_atS RX4 74 "java/lang/IllegalStateException" ["java/lang/RuntimeException", "java/lang/Exception"]).filter goodWord)
def wsX4_goesOn : List Cond := .code yX4_goesOn cX4_goesOn 2 (some .boolean) :: ([.classLink RX4 125 "java/lang/IndexOutOfBoundsException", .initialized "java/lang/IndexOutOfBoundsException", .fieldLink RX4 19 "SignOnHouse" "sessions" "LSignOnHouse$Sessions;", .methodLink RX4 122 yX3_has, .instanceMethod yX3_has, .selects RX3 yX3_has yX3_has, .initialized RX3, .code yX3_has cX3_has 2 (some .boolean), .fieldLink RX3 26 "SignOnHouse$Sessions" "count" "I", .methodLink RX4 130 yX3_isOver, .instanceMethod yX3_isOver, .selects RX3 yX3_isOver yX3_isOver, .code yX3_isOver cX3_isOver 2 (some .boolean), .fieldLink RX3 22 "SignOnHouse$Sessions" "over" "[Z"] ++ wsX40 ++ wsX30 ++ (vx_atS RX4 129 "java/lang/IndexOutOfBoundsException" ["java/lang/RuntimeException", "java/lang/Exception"]).filter goodWord)
def wsX4_changeKeys_r1 : List Cond := [Cond.classLink RX4 52 "java/lang/IllegalArgumentException", Cond.initialized "java/lang/IllegalArgumentException", Cond.fieldLink RX4 26 "SignOnHouse" "keys" "LSignOnHouse$Keys;", Cond.fieldLink RX4 44 "SignOnHouse" "minute" "I", Cond.fieldLink RX4 19 "SignOnHouse" "sessions" "LSignOnHouse$Sessions;", Cond.fieldLink RX4 37 "SignOnHouse" "risks" "[I", Cond.methodLink RX4 144 yX2_signWithNext, Cond.instanceMethod yX2_signWithNext, Cond.selects RX2 yX2_signWithNext yX2_signWithNext, Cond.initialized RX2, Cond.code yX2_signWithNext cX2_signWithNext 2 none, Cond.fieldLink RX2 7 "SignOnHouse$Keys" "signing" "I", Cond.fieldLink RX2 13 "SignOnHouse$Keys" "endOfBefore" "I", Cond.methodLink RX4 147 yX3_endDue, Cond.instanceMethod yX3_endDue, Cond.selects RX3 yX3_endDue yX3_endDue, Cond.initialized RX3, Cond.code yX3_endDue cX3_endDue 6 (some .int), Cond.fieldLink RX3 26 "SignOnHouse$Sessions" "count" "I", Cond.fieldLink RX3 22 "SignOnHouse$Sessions" "over" "[Z", Cond.fieldLink RX3 9 "SignOnHouse$Sessions" "people" "[I", Cond.methodLink RX3 34 yX3_isDue, Cond.instanceMethod yX3_isDue, Cond.selects RX3 yX3_isDue yX3_isDue]
def wsX4_changeKeys_r2 : List Cond := [Cond.code yX3_isDue cX3_isDue 5 (some .boolean), Cond.fieldLink RX3 19 "SignOnHouse$Sessions" "usedAt" "[I", Cond.fieldLink RX3 13 "SignOnHouse$Sessions" "signedWith" "[I", Cond.methodLink RX3 38 yX3_age, Cond.instanceMethod yX3_age, Cond.selects RX3 yX3_age yX3_age, Cond.code yX3_age cX3_age 3 (some .int), Cond.fieldLink RX3 16 "SignOnHouse$Sessions" "openedAt" "[I", Cond.methodLink RX3 42 yX2_takes, Cond.instanceMethod yX2_takes, Cond.selects RX2 yX2_takes yX2_takes, Cond.code yX2_takes cX2_takes 3 (some .boolean), Cond.methodLink RX3 30 yX3_end, Cond.instanceMethod yX3_end, Cond.selects RX3 yX3_end yX3_end, Cond.code yX3_end cX3_end 2 none, Cond.methodLink RX4 115 yX2_signing, Cond.instanceMethod yX2_signing, Cond.selects RX2 yX2_signing yX2_signing, Cond.code yX2_signing cX2_signing 1 (some .int)]
def wsX4_changeKeys : List Cond := .code yX4_changeKeys cX4_changeKeys 2 (some .int) :: ((wsX4_changeKeys_r1 ++ wsX4_changeKeys_r2) ++ wsX40 ++ wsX20 ++ wsX30 ++ (vx_atS RX4 56 "java/lang/IllegalArgumentException" ["java/lang/RuntimeException", "java/lang/Exception"]).filter goodWord)
def wsX4_isTaken : List Cond := .code yX4_isTaken cX4_isTaken 2 (some .boolean) :: ([.classLink RX4 52 "java/lang/IllegalArgumentException", .initialized "java/lang/IllegalArgumentException", .fieldLink RX4 26 "SignOnHouse" "keys" "LSignOnHouse$Keys;", .fieldLink RX4 44 "SignOnHouse" "minute" "I", .methodLink RX4 115 yX2_signing, .instanceMethod yX2_signing, .selects RX2 yX2_signing yX2_signing, .initialized RX2, .code yX2_signing cX2_signing 1 (some .int), .fieldLink RX2 7 "SignOnHouse$Keys" "signing" "I", .methodLink RX4 153 yX2_takes, .instanceMethod yX2_takes, .selects RX2 yX2_takes yX2_takes, .code yX2_takes cX2_takes 3 (some .boolean), .fieldLink RX2 13 "SignOnHouse$Keys" "endOfBefore" "I"] ++ wsX40 ++ wsX20 ++ (vx_atS RX4 56 "java/lang/IllegalArgumentException" ["java/lang/RuntimeException", "java/lang/Exception"]).filter goodWord)
def wsX4_pass_r1 : List Cond := [Cond.classLink RX4 52 "java/lang/IllegalArgumentException", Cond.initialized "java/lang/IllegalArgumentException", Cond.fieldLink RX4 44 "SignOnHouse" "minute" "I", Cond.fieldLink RX4 33 "SignOnHouse" "decisions" "LSignOnHouse$Decisions;", Cond.fieldLink RX4 19 "SignOnHouse" "sessions" "LSignOnHouse$Sessions;", Cond.fieldLink RX4 37 "SignOnHouse" "risks" "[I", Cond.fieldLink RX4 26 "SignOnHouse" "keys" "LSignOnHouse$Keys;", Cond.methodLink RX4 156 yX0_dropDueOfAll, Cond.instanceMethod yX0_dropDueOfAll, Cond.selects RX0 yX0_dropDueOfAll yX0_dropDueOfAll, Cond.initialized RX0, Cond.code yX0_dropDueOfAll cX0_dropDueOfAll 3 none, Cond.methodLink RX0 35 yX0_dropDue, Cond.instanceMethod yX0_dropDue, Cond.selects RX0 yX0_dropDue yX0_dropDue, Cond.code yX0_dropDue cX0_dropDue 5 none, Cond.fieldLink RX0 18 "SignOnHouse$Decisions" "keptSince" "[I", Cond.fieldLink RX0 9 "SignOnHouse$Decisions" "caches" "[I", Cond.fieldLink RX0 15 "SignOnHouse$Decisions" "answers" "[I", Cond.methodLink RX0 27 yX0_place, Cond.static yX0_place, Cond.code yX0_place cX0_place 3 (some .int), Cond.methodLink RX4 147 yX3_endDue, Cond.instanceMethod yX3_endDue]
def wsX4_pass_r2 : List Cond := [Cond.selects RX3 yX3_endDue yX3_endDue, Cond.initialized RX3, Cond.code yX3_endDue cX3_endDue 6 (some .int), Cond.fieldLink RX3 26 "SignOnHouse$Sessions" "count" "I", Cond.fieldLink RX3 22 "SignOnHouse$Sessions" "over" "[Z", Cond.fieldLink RX3 9 "SignOnHouse$Sessions" "people" "[I", Cond.methodLink RX3 34 yX3_isDue, Cond.instanceMethod yX3_isDue, Cond.selects RX3 yX3_isDue yX3_isDue, Cond.code yX3_isDue cX3_isDue 5 (some .boolean), Cond.fieldLink RX3 19 "SignOnHouse$Sessions" "usedAt" "[I", Cond.fieldLink RX3 13 "SignOnHouse$Sessions" "signedWith" "[I", Cond.methodLink RX3 38 yX3_age, Cond.instanceMethod yX3_age, Cond.selects RX3 yX3_age yX3_age, Cond.code yX3_age cX3_age 3 (some .int), Cond.fieldLink RX3 16 "SignOnHouse$Sessions" "openedAt" "[I", Cond.methodLink RX3 42 yX2_takes, Cond.instanceMethod yX2_takes, Cond.selects RX2 yX2_takes yX2_takes, Cond.initialized RX2, Cond.code yX2_takes cX2_takes 3 (some .boolean), Cond.fieldLink RX2 7 "SignOnHouse$Keys" "signing" "I", Cond.fieldLink RX2 13 "SignOnHouse$Keys" "endOfBefore" "I"]
def wsX4_pass_r3 : List Cond := [Cond.methodLink RX3 30 yX3_end, Cond.instanceMethod yX3_end, Cond.selects RX3 yX3_end yX3_end, Cond.code yX3_end cX3_end 2 none]
def wsX4_pass : List Cond := .code yX4_pass cX4_pass 2 (some .int) :: ((wsX4_pass_r1 ++ (wsX4_pass_r2 ++ wsX4_pass_r3)) ++ wsX40 ++ wsX00 ++ wsX30 ++ wsX20 ++ (vx_atS RX4 56 "java/lang/IllegalArgumentException" ["java/lang/RuntimeException", "java/lang/Exception"]).filter goodWord)
def wsX4_now : List Cond := .code yX4_now cX4_now 1 (some .int) :: ([.fieldLink RX4 44 "SignOnHouse" "minute" "I"] ++ wsX40)
def wsX4_servesAsWitness_r1 : List Cond := [Cond.fieldLink RX4 10 "SignOnHouse" "groups" "LSignOnHouse$Groups;", Cond.methodLink RX4 103 yX4_isBarred, Cond.instanceMethod yX4_isBarred, Cond.selects RX4 yX4_isBarred yX4_isBarred, Cond.initialized RX4, Cond.code yX4_isBarred cX4_isBarred 2 (some .boolean), Cond.fieldLink RX4 37 "SignOnHouse" "risks" "[I", Cond.methodLink RX4 202 yX1_anyGrants, Cond.instanceMethod yX1_anyGrants, Cond.selects RX1 yX1_anyGrants yX1_anyGrants, Cond.initialized RX1, Cond.code yX1_anyGrants cX1_anyGrants 3 (some .boolean), Cond.fieldLink RX1 9 "SignOnHouse$Groups" "homesOfPerson" "[I", Cond.fieldLink RX1 18 "SignOnHouse$Groups" "grantedOfRole" "[I", Cond.methodLink RX1 36 yX1_allAround, Cond.instanceMethod yX1_allAround, Cond.selects RX1 yX1_allAround yX1_allAround, Cond.code yX1_allAround cX1_allAround 4 (some .int), Cond.methodLink RX1 40 yX1_oneLinkFurther, Cond.instanceMethod yX1_oneLinkFurther, Cond.selects RX1 yX1_oneLinkFurther yX1_oneLinkFurther, Cond.code yX1_oneLinkFurther cX1_oneLinkFurther 4 (some .int), Cond.fieldLink RX1 15 "SignOnHouse$Groups" "homesOfGroup" "[I", Cond.methodLink RX1 24 yX1_contains]
def wsX4_servesAsWitness_r2 : List Cond := [Cond.static yX1_contains, Cond.code yX1_contains cX1_contains 2 (some .boolean)]
def wsX4_servesAsWitness : List Cond := .code yX4_servesAsWitness cX4_servesAsWitness 3 (some .boolean) :: ((wsX4_servesAsWitness_r1 ++ wsX4_servesAsWitness_r2) ++ wsX40 ++ wsX10)
def wsX4_breakGlass_r1 : List Cond := [Cond.classLink RX4 52 "java/lang/IllegalArgumentException", Cond.initialized "java/lang/IllegalArgumentException", Cond.classLink RX4 70 "java/lang/IllegalStateException", Cond.initialized "java/lang/IllegalStateException", Cond.fieldLink RX4 44 "SignOnHouse" "minute" "I", Cond.fieldLink RX4 41 "SignOnHouse" "glassEnds" "[I", Cond.methodLink RX4 48 yX4_isOutside, Cond.static yX4_isOutside, Cond.initialized RX4, Cond.code yX4_isOutside cX4_isOutside 2 (some .boolean), Cond.methodLink RX4 163 yX4_servesAsWitness, Cond.instanceMethod yX4_servesAsWitness, Cond.selects RX4 yX4_servesAsWitness yX4_servesAsWitness, Cond.code yX4_servesAsWitness cX4_servesAsWitness 3 (some .boolean), Cond.fieldLink RX4 10 "SignOnHouse" "groups" "LSignOnHouse$Groups;", Cond.methodLink RX4 103 yX4_isBarred, Cond.instanceMethod yX4_isBarred, Cond.selects RX4 yX4_isBarred yX4_isBarred, Cond.code yX4_isBarred cX4_isBarred 2 (some .boolean), Cond.fieldLink RX4 37 "SignOnHouse" "risks" "[I", Cond.methodLink RX4 202 yX1_anyGrants, Cond.instanceMethod yX1_anyGrants, Cond.selects RX1 yX1_anyGrants yX1_anyGrants, Cond.initialized RX1]
def wsX4_breakGlass_r2 : List Cond := [Cond.code yX1_anyGrants cX1_anyGrants 3 (some .boolean), Cond.fieldLink RX1 9 "SignOnHouse$Groups" "homesOfPerson" "[I", Cond.fieldLink RX1 18 "SignOnHouse$Groups" "grantedOfRole" "[I", Cond.methodLink RX1 36 yX1_allAround, Cond.instanceMethod yX1_allAround, Cond.selects RX1 yX1_allAround yX1_allAround, Cond.code yX1_allAround cX1_allAround 4 (some .int), Cond.methodLink RX1 40 yX1_oneLinkFurther, Cond.instanceMethod yX1_oneLinkFurther, Cond.selects RX1 yX1_oneLinkFurther yX1_oneLinkFurther, Cond.code yX1_oneLinkFurther cX1_oneLinkFurther 4 (some .int), Cond.fieldLink RX1 15 "SignOnHouse$Groups" "homesOfGroup" "[I", Cond.methodLink RX1 24 yX1_contains, Cond.static yX1_contains, Cond.code yX1_contains cX1_contains 2 (some .boolean)]
def wsX4_breakGlass : List Cond := .code yX4_breakGlass cX4_breakGlass 6 (some .int) :: ((wsX4_breakGlass_r1 ++ wsX4_breakGlass_r2) ++ wsX40 ++ wsX10 ++ (vx_atS RX4 56 "java/lang/IllegalArgumentException" ["java/lang/RuntimeException", "java/lang/Exception"]).filter goodWord ++ (vx_atS RX4 74 "java/lang/IllegalStateException" ["java/lang/RuntimeException", "java/lang/Exception"]).filter goodWord)
def wsX4_setCache_r1 : List Cond := [Cond.classLink RX4 52 "java/lang/IllegalArgumentException", Cond.initialized "java/lang/IllegalArgumentException", Cond.fieldLink RX4 33 "SignOnHouse" "decisions" "LSignOnHouse$Decisions;", Cond.fieldLink RX4 44 "SignOnHouse" "minute" "I", Cond.methodLink RX4 48 yX4_isOutside, Cond.static yX4_isOutside, Cond.initialized RX4, Cond.code yX4_isOutside cX4_isOutside 2 (some .boolean), Cond.methodLink RX4 170 yX0_cacheOf, Cond.instanceMethod yX0_cacheOf, Cond.selects RX0 yX0_cacheOf yX0_cacheOf, Cond.initialized RX0, Cond.code yX0_cacheOf cX0_cacheOf 2 (some .int), Cond.fieldLink RX0 9 "SignOnHouse$Decisions" "caches" "[I", Cond.methodLink RX4 173 yX0_allowCache, Cond.instanceMethod yX0_allowCache, Cond.selects RX0 yX0_allowCache yX0_allowCache, Cond.code yX0_allowCache cX0_allowCache 3 none, Cond.methodLink RX4 177 yX0_dropDue, Cond.instanceMethod yX0_dropDue, Cond.selects RX0 yX0_dropDue yX0_dropDue, Cond.code yX0_dropDue cX0_dropDue 5 none, Cond.fieldLink RX0 18 "SignOnHouse$Decisions" "keptSince" "[I", Cond.fieldLink RX0 15 "SignOnHouse$Decisions" "answers" "[I"]
def wsX4_setCache_r2 : List Cond := [Cond.methodLink RX0 27 yX0_place, Cond.static yX0_place, Cond.code yX0_place cX0_place 3 (some .int)]
def wsX4_setCache : List Cond := .code yX4_setCache cX4_setCache 4 (some .int) :: ((wsX4_setCache_r1 ++ wsX4_setCache_r2) ++ wsX40 ++ wsX00 ++ (vx_atS RX4 56 "java/lang/IllegalArgumentException" ["java/lang/RuntimeException", "java/lang/Exception"]).filter goodWord)
def wsX4_answerOfApp_r1 : List Cond := [Cond.fieldLink RX4 33 "SignOnHouse" "decisions" "LSignOnHouse$Decisions;", Cond.fieldLink RX4 44 "SignOnHouse" "minute" "I", Cond.methodLink RX4 211 yX0_areKept, Cond.instanceMethod yX0_areKept, Cond.selects RX0 yX0_areKept yX0_areKept, Cond.initialized RX0, Cond.code yX0_areKept cX0_areKept 4 (some .boolean), Cond.fieldLink RX0 15 "SignOnHouse$Decisions" "answers" "[I", Cond.methodLink RX0 27 yX0_place, Cond.static yX0_place, Cond.code yX0_place cX0_place 3 (some .int), Cond.methodLink RX4 214 yX0_answer, Cond.instanceMethod yX0_answer, Cond.selects RX0 yX0_answer yX0_answer, Cond.code yX0_answer cX0_answer 4 (some .int), Cond.methodLink RX4 97 yX4_answerOfHouse, Cond.instanceMethod yX4_answerOfHouse, Cond.selects RX4 yX4_answerOfHouse yX4_answerOfHouse, Cond.initialized RX4, Cond.code yX4_answerOfHouse cX4_answerOfHouse 4 (some .int), Cond.fieldLink RX4 10 "SignOnHouse" "groups" "LSignOnHouse$Groups;", Cond.methodLink RX4 103 yX4_isBarred, Cond.instanceMethod yX4_isBarred, Cond.selects RX4 yX4_isBarred yX4_isBarred]
def wsX4_answerOfApp_r2 : List Cond := [Cond.code yX4_isBarred cX4_isBarred 2 (some .boolean), Cond.fieldLink RX4 37 "SignOnHouse" "risks" "[I", Cond.methodLink RX4 202 yX1_anyGrants, Cond.instanceMethod yX1_anyGrants, Cond.selects RX1 yX1_anyGrants yX1_anyGrants, Cond.initialized RX1, Cond.code yX1_anyGrants cX1_anyGrants 3 (some .boolean), Cond.fieldLink RX1 9 "SignOnHouse$Groups" "homesOfPerson" "[I", Cond.fieldLink RX1 18 "SignOnHouse$Groups" "grantedOfRole" "[I", Cond.methodLink RX1 36 yX1_allAround, Cond.instanceMethod yX1_allAround, Cond.selects RX1 yX1_allAround yX1_allAround, Cond.code yX1_allAround cX1_allAround 4 (some .int), Cond.methodLink RX1 40 yX1_oneLinkFurther, Cond.instanceMethod yX1_oneLinkFurther, Cond.selects RX1 yX1_oneLinkFurther yX1_oneLinkFurther, Cond.code yX1_oneLinkFurther cX1_oneLinkFurther 4 (some .int), Cond.fieldLink RX1 15 "SignOnHouse$Groups" "homesOfGroup" "[I", Cond.methodLink RX1 24 yX1_contains, Cond.static yX1_contains, Cond.code yX1_contains cX1_contains 2 (some .boolean), Cond.methodLink RX4 205 yX1_anyDenies, Cond.instanceMethod yX1_anyDenies, Cond.selects RX1 yX1_anyDenies yX1_anyDenies]
def wsX4_answerOfApp_r3 : List Cond := [Cond.code yX1_anyDenies cX1_anyDenies 3 (some .boolean), Cond.fieldLink RX1 21 "SignOnHouse$Groups" "deniedOfRole" "[I", Cond.methodLink RX4 208 yX4_holdsGlass, Cond.instanceMethod yX4_holdsGlass, Cond.selects RX4 yX4_holdsGlass yX4_holdsGlass, Cond.code yX4_holdsGlass cX4_holdsGlass 3 (some .boolean), Cond.fieldLink RX4 41 "SignOnHouse" "glassEnds" "[I", Cond.methodLink RX4 217 yX0_keep, Cond.instanceMethod yX0_keep, Cond.selects RX0 yX0_keep yX0_keep, Cond.code yX0_keep cX0_keep 6 none, Cond.fieldLink RX0 9 "SignOnHouse$Decisions" "caches" "[I", Cond.fieldLink RX0 18 "SignOnHouse$Decisions" "keptSince" "[I"]
def wsX4_answerOfApp : List Cond := .code yX4_answerOfApp cX4_answerOfApp 5 (some .int) :: ((wsX4_answerOfApp_r1 ++ (wsX4_answerOfApp_r2 ++ wsX4_answerOfApp_r3)) ++ wsX40 ++ wsX00 ++ wsX10)
def wsX4_decide_r1 : List Cond := [Cond.classLink RX4 52 "java/lang/IllegalArgumentException", Cond.initialized "java/lang/IllegalArgumentException", Cond.classLink RX4 125 "java/lang/IndexOutOfBoundsException", Cond.initialized "java/lang/IndexOutOfBoundsException", Cond.fieldLink RX4 19 "SignOnHouse" "sessions" "LSignOnHouse$Sessions;", Cond.fieldLink RX4 44 "SignOnHouse" "minute" "I", Cond.methodLink RX4 48 yX4_isOutside, Cond.static yX4_isOutside, Cond.initialized RX4, Cond.code yX4_isOutside cX4_isOutside 2 (some .boolean), Cond.methodLink RX4 122 yX3_has, Cond.instanceMethod yX3_has, Cond.selects RX3 yX3_has yX3_has, Cond.initialized RX3, Cond.code yX3_has cX3_has 2 (some .boolean), Cond.fieldLink RX3 26 "SignOnHouse$Sessions" "count" "I", Cond.methodLink RX4 130 yX3_isOver, Cond.instanceMethod yX3_isOver, Cond.selects RX3 yX3_isOver yX3_isOver, Cond.code yX3_isOver cX3_isOver 2 (some .boolean), Cond.fieldLink RX3 22 "SignOnHouse$Sessions" "over" "[Z", Cond.methodLink RX4 182 yX3_use, Cond.instanceMethod yX3_use, Cond.selects RX3 yX3_use yX3_use]
def wsX4_decide_r2 : List Cond := [Cond.code yX3_use cX3_use 3 none, Cond.fieldLink RX3 19 "SignOnHouse$Sessions" "usedAt" "[I", Cond.methodLink RX4 185 yX3_personOf, Cond.instanceMethod yX3_personOf, Cond.selects RX3 yX3_personOf yX3_personOf, Cond.code yX3_personOf cX3_personOf 2 (some .int), Cond.fieldLink RX3 9 "SignOnHouse$Sessions" "people" "[I", Cond.methodLink RX4 188 yX4_answerOfApp, Cond.instanceMethod yX4_answerOfApp, Cond.selects RX4 yX4_answerOfApp yX4_answerOfApp, Cond.code yX4_answerOfApp cX4_answerOfApp 5 (some .int), Cond.fieldLink RX4 33 "SignOnHouse" "decisions" "LSignOnHouse$Decisions;", Cond.methodLink RX4 211 yX0_areKept, Cond.instanceMethod yX0_areKept, Cond.selects RX0 yX0_areKept yX0_areKept, Cond.initialized RX0, Cond.code yX0_areKept cX0_areKept 4 (some .boolean), Cond.fieldLink RX0 15 "SignOnHouse$Decisions" "answers" "[I", Cond.methodLink RX0 27 yX0_place, Cond.static yX0_place, Cond.code yX0_place cX0_place 3 (some .int), Cond.methodLink RX4 214 yX0_answer, Cond.instanceMethod yX0_answer, Cond.selects RX0 yX0_answer yX0_answer]
def wsX4_decide_r3 : List Cond := [Cond.code yX0_answer cX0_answer 4 (some .int), Cond.methodLink RX4 97 yX4_answerOfHouse, Cond.instanceMethod yX4_answerOfHouse, Cond.selects RX4 yX4_answerOfHouse yX4_answerOfHouse, Cond.code yX4_answerOfHouse cX4_answerOfHouse 4 (some .int), Cond.fieldLink RX4 10 "SignOnHouse" "groups" "LSignOnHouse$Groups;", Cond.methodLink RX4 103 yX4_isBarred, Cond.instanceMethod yX4_isBarred, Cond.selects RX4 yX4_isBarred yX4_isBarred, Cond.code yX4_isBarred cX4_isBarred 2 (some .boolean), Cond.fieldLink RX4 37 "SignOnHouse" "risks" "[I", Cond.methodLink RX4 202 yX1_anyGrants, Cond.instanceMethod yX1_anyGrants, Cond.selects RX1 yX1_anyGrants yX1_anyGrants, Cond.initialized RX1, Cond.code yX1_anyGrants cX1_anyGrants 3 (some .boolean), Cond.fieldLink RX1 9 "SignOnHouse$Groups" "homesOfPerson" "[I", Cond.fieldLink RX1 18 "SignOnHouse$Groups" "grantedOfRole" "[I", Cond.methodLink RX1 36 yX1_allAround, Cond.instanceMethod yX1_allAround, Cond.selects RX1 yX1_allAround yX1_allAround, Cond.code yX1_allAround cX1_allAround 4 (some .int), Cond.methodLink RX1 40 yX1_oneLinkFurther, Cond.instanceMethod yX1_oneLinkFurther]
def wsX4_decide_r4 : List Cond := [Cond.selects RX1 yX1_oneLinkFurther yX1_oneLinkFurther, Cond.code yX1_oneLinkFurther cX1_oneLinkFurther 4 (some .int), Cond.fieldLink RX1 15 "SignOnHouse$Groups" "homesOfGroup" "[I", Cond.methodLink RX1 24 yX1_contains, Cond.static yX1_contains, Cond.code yX1_contains cX1_contains 2 (some .boolean), Cond.methodLink RX4 205 yX1_anyDenies, Cond.instanceMethod yX1_anyDenies, Cond.selects RX1 yX1_anyDenies yX1_anyDenies, Cond.code yX1_anyDenies cX1_anyDenies 3 (some .boolean), Cond.fieldLink RX1 21 "SignOnHouse$Groups" "deniedOfRole" "[I", Cond.methodLink RX4 208 yX4_holdsGlass, Cond.instanceMethod yX4_holdsGlass, Cond.selects RX4 yX4_holdsGlass yX4_holdsGlass, Cond.code yX4_holdsGlass cX4_holdsGlass 3 (some .boolean), Cond.fieldLink RX4 41 "SignOnHouse" "glassEnds" "[I", Cond.methodLink RX4 217 yX0_keep, Cond.instanceMethod yX0_keep, Cond.selects RX0 yX0_keep yX0_keep, Cond.code yX0_keep cX0_keep 6 none, Cond.fieldLink RX0 9 "SignOnHouse$Decisions" "caches" "[I", Cond.fieldLink RX0 18 "SignOnHouse$Decisions" "keptSince" "[I"]
def wsX4_decide : List Cond := .code yX4_decide cX4_decide 4 (some .int) :: ((wsX4_decide_r1 ++ (wsX4_decide_r2 ++ (wsX4_decide_r3 ++ wsX4_decide_r4))) ++ wsX40 ++ wsX30 ++ wsX00 ++ wsX10 ++ (vx_atS RX4 56 "java/lang/IllegalArgumentException" ["java/lang/RuntimeException", "java/lang/Exception"]).filter goodWord ++ (vx_atS RX4 129 "java/lang/IndexOutOfBoundsException" ["java/lang/RuntimeException", "java/lang/Exception"]).filter goodWord)
def wsX4_forget : List Cond := .code yX4_forget cX4_forget 3 (some .int) :: ([.classLink RX4 52 "java/lang/IllegalArgumentException", .initialized "java/lang/IllegalArgumentException", .fieldLink RX4 33 "SignOnHouse" "decisions" "LSignOnHouse$Decisions;", .methodLink RX4 48 yX4_isOutside, .static yX4_isOutside, .initialized RX4, .code yX4_isOutside cX4_isOutside 2 (some .boolean), .methodLink RX4 193 yX0_dropAllOf, .instanceMethod yX0_dropAllOf, .selects RX0 yX0_dropAllOf yX0_dropAllOf, .initialized RX0, .code yX0_dropAllOf cX0_dropAllOf 5 (some .int), .fieldLink RX0 15 "SignOnHouse$Decisions" "answers" "[I", .methodLink RX0 31 yX0_areKept, .instanceMethod yX0_areKept, .selects RX0 yX0_areKept yX0_areKept, .code yX0_areKept cX0_areKept 4 (some .boolean), .methodLink RX0 27 yX0_place, .static yX0_place, .code yX0_place cX0_place 3 (some .int)] ++ wsX40 ++ wsX00 ++ (vx_atS RX4 56 "java/lang/IllegalArgumentException" ["java/lang/RuntimeException", "java/lang/Exception"]).filter goodWord)
def wsX4_isStale_r1 : List Cond := [Cond.fieldLink RX4 33 "SignOnHouse" "decisions" "LSignOnHouse$Decisions;", Cond.methodLink RX4 211 yX0_areKept, Cond.instanceMethod yX0_areKept, Cond.selects RX0 yX0_areKept yX0_areKept, Cond.initialized RX0, Cond.code yX0_areKept cX0_areKept 4 (some .boolean), Cond.fieldLink RX0 15 "SignOnHouse$Decisions" "answers" "[I", Cond.methodLink RX0 27 yX0_place, Cond.static yX0_place, Cond.code yX0_place cX0_place 3 (some .int), Cond.methodLink RX4 214 yX0_answer, Cond.instanceMethod yX0_answer, Cond.selects RX0 yX0_answer yX0_answer, Cond.code yX0_answer cX0_answer 4 (some .int), Cond.methodLink RX4 97 yX4_answerOfHouse, Cond.instanceMethod yX4_answerOfHouse, Cond.selects RX4 yX4_answerOfHouse yX4_answerOfHouse, Cond.initialized RX4, Cond.code yX4_answerOfHouse cX4_answerOfHouse 4 (some .int), Cond.fieldLink RX4 10 "SignOnHouse" "groups" "LSignOnHouse$Groups;", Cond.methodLink RX4 103 yX4_isBarred, Cond.instanceMethod yX4_isBarred, Cond.selects RX4 yX4_isBarred yX4_isBarred, Cond.code yX4_isBarred cX4_isBarred 2 (some .boolean)]
def wsX4_isStale_r2 : List Cond := [Cond.fieldLink RX4 37 "SignOnHouse" "risks" "[I", Cond.methodLink RX4 202 yX1_anyGrants, Cond.instanceMethod yX1_anyGrants, Cond.selects RX1 yX1_anyGrants yX1_anyGrants, Cond.initialized RX1, Cond.code yX1_anyGrants cX1_anyGrants 3 (some .boolean), Cond.fieldLink RX1 9 "SignOnHouse$Groups" "homesOfPerson" "[I", Cond.fieldLink RX1 18 "SignOnHouse$Groups" "grantedOfRole" "[I", Cond.methodLink RX1 36 yX1_allAround, Cond.instanceMethod yX1_allAround, Cond.selects RX1 yX1_allAround yX1_allAround, Cond.code yX1_allAround cX1_allAround 4 (some .int), Cond.methodLink RX1 40 yX1_oneLinkFurther, Cond.instanceMethod yX1_oneLinkFurther, Cond.selects RX1 yX1_oneLinkFurther yX1_oneLinkFurther, Cond.code yX1_oneLinkFurther cX1_oneLinkFurther 4 (some .int), Cond.fieldLink RX1 15 "SignOnHouse$Groups" "homesOfGroup" "[I", Cond.methodLink RX1 24 yX1_contains, Cond.static yX1_contains, Cond.code yX1_contains cX1_contains 2 (some .boolean), Cond.methodLink RX4 205 yX1_anyDenies, Cond.instanceMethod yX1_anyDenies, Cond.selects RX1 yX1_anyDenies yX1_anyDenies, Cond.code yX1_anyDenies cX1_anyDenies 3 (some .boolean)]
def wsX4_isStale_r3 : List Cond := [Cond.fieldLink RX1 21 "SignOnHouse$Groups" "deniedOfRole" "[I", Cond.methodLink RX4 208 yX4_holdsGlass, Cond.instanceMethod yX4_holdsGlass, Cond.selects RX4 yX4_holdsGlass yX4_holdsGlass, Cond.code yX4_holdsGlass cX4_holdsGlass 3 (some .boolean), Cond.fieldLink RX4 44 "SignOnHouse" "minute" "I", Cond.fieldLink RX4 41 "SignOnHouse" "glassEnds" "[I"]
def wsX4_isStale : List Cond := .code yX4_isStale cX4_isStale 4 (some .boolean) :: ((wsX4_isStale_r1 ++ (wsX4_isStale_r2 ++ wsX4_isStale_r3)) ++ wsX40 ++ wsX00 ++ wsX10)
def wsX4_stale_r1 : List Cond := [Cond.classLink RX4 52 "java/lang/IllegalArgumentException", Cond.initialized "java/lang/IllegalArgumentException", Cond.methodLink RX4 48 yX4_isOutside, Cond.static yX4_isOutside, Cond.initialized RX4, Cond.code yX4_isOutside cX4_isOutside 2 (some .boolean), Cond.methodLink RX4 198 yX4_isStale, Cond.instanceMethod yX4_isStale, Cond.selects RX4 yX4_isStale yX4_isStale, Cond.code yX4_isStale cX4_isStale 4 (some .boolean), Cond.fieldLink RX4 33 "SignOnHouse" "decisions" "LSignOnHouse$Decisions;", Cond.methodLink RX4 211 yX0_areKept, Cond.instanceMethod yX0_areKept, Cond.selects RX0 yX0_areKept yX0_areKept, Cond.initialized RX0, Cond.code yX0_areKept cX0_areKept 4 (some .boolean), Cond.fieldLink RX0 15 "SignOnHouse$Decisions" "answers" "[I", Cond.methodLink RX0 27 yX0_place, Cond.static yX0_place, Cond.code yX0_place cX0_place 3 (some .int), Cond.methodLink RX4 214 yX0_answer, Cond.instanceMethod yX0_answer, Cond.selects RX0 yX0_answer yX0_answer, Cond.code yX0_answer cX0_answer 4 (some .int)]
def wsX4_stale_r2 : List Cond := [Cond.methodLink RX4 97 yX4_answerOfHouse, Cond.instanceMethod yX4_answerOfHouse, Cond.selects RX4 yX4_answerOfHouse yX4_answerOfHouse, Cond.code yX4_answerOfHouse cX4_answerOfHouse 4 (some .int), Cond.fieldLink RX4 10 "SignOnHouse" "groups" "LSignOnHouse$Groups;", Cond.methodLink RX4 103 yX4_isBarred, Cond.instanceMethod yX4_isBarred, Cond.selects RX4 yX4_isBarred yX4_isBarred, Cond.code yX4_isBarred cX4_isBarred 2 (some .boolean), Cond.fieldLink RX4 37 "SignOnHouse" "risks" "[I", Cond.methodLink RX4 202 yX1_anyGrants, Cond.instanceMethod yX1_anyGrants, Cond.selects RX1 yX1_anyGrants yX1_anyGrants, Cond.initialized RX1, Cond.code yX1_anyGrants cX1_anyGrants 3 (some .boolean), Cond.fieldLink RX1 9 "SignOnHouse$Groups" "homesOfPerson" "[I", Cond.fieldLink RX1 18 "SignOnHouse$Groups" "grantedOfRole" "[I", Cond.methodLink RX1 36 yX1_allAround, Cond.instanceMethod yX1_allAround, Cond.selects RX1 yX1_allAround yX1_allAround, Cond.code yX1_allAround cX1_allAround 4 (some .int), Cond.methodLink RX1 40 yX1_oneLinkFurther, Cond.instanceMethod yX1_oneLinkFurther, Cond.selects RX1 yX1_oneLinkFurther yX1_oneLinkFurther]
def wsX4_stale_r3 : List Cond := [Cond.code yX1_oneLinkFurther cX1_oneLinkFurther 4 (some .int), Cond.fieldLink RX1 15 "SignOnHouse$Groups" "homesOfGroup" "[I", Cond.methodLink RX1 24 yX1_contains, Cond.static yX1_contains, Cond.code yX1_contains cX1_contains 2 (some .boolean), Cond.methodLink RX4 205 yX1_anyDenies, Cond.instanceMethod yX1_anyDenies, Cond.selects RX1 yX1_anyDenies yX1_anyDenies, Cond.code yX1_anyDenies cX1_anyDenies 3 (some .boolean), Cond.fieldLink RX1 21 "SignOnHouse$Groups" "deniedOfRole" "[I", Cond.methodLink RX4 208 yX4_holdsGlass, Cond.instanceMethod yX4_holdsGlass, Cond.selects RX4 yX4_holdsGlass yX4_holdsGlass, Cond.code yX4_holdsGlass cX4_holdsGlass 3 (some .boolean), Cond.fieldLink RX4 44 "SignOnHouse" "minute" "I", Cond.fieldLink RX4 41 "SignOnHouse" "glassEnds" "[I"]
def wsX4_stale : List Cond := .code yX4_stale cX4_stale 5 (some .int) :: ((wsX4_stale_r1 ++ (wsX4_stale_r2 ++ wsX4_stale_r3)) ++ wsX40 ++ wsX00 ++ wsX10 ++ (vx_atS RX4 56 "java/lang/IllegalArgumentException" ["java/lang/RuntimeException", "java/lang/Exception"]).filter goodWord)
def wsX5_init : List Cond := .code yX5_init cX5_init 2 none :: ([.methodLink RX5 1 objectInit, .instanceMethod objectInit, .code objectInit ⟨#[0xb1]⟩ 1 none, .arrayClass .int, .fieldLink RX5 7 "SignOnHouseModel" "people" "[I", .fieldLink RX5 13 "SignOnHouseModel" "groups" "[I", .fieldLink RX5 16 "SignOnHouseModel" "roles" "[I", .fieldLink RX5 19 "SignOnHouseModel" "risk" "[I", .fieldLink RX5 22 "SignOnHouseModel" "glass" "[I", .fieldLink RX5 25 "SignOnHouseModel" "who" "[I", .fieldLink RX5 28 "SignOnHouseModel" "signed" "[I", .fieldLink RX5 31 "SignOnHouseModel" "since" "[I", .fieldLink RX5 34 "SignOnHouseModel" "used" "[I", .arrayClass .boolean, .fieldLink RX5 37 "SignOnHouseModel" "over" "[Z", .fieldLink RX5 41 "SignOnHouseModel" "cache" "[I", .fieldLink RX5 44 "SignOnHouseModel" "kept" "[I"] ++ wsX50)
def wsX5_thrown : List Cond := .code yX5_thrown cX5_thrown 1 (some .int) :: ([.fieldLink RX5 47 "SignOnHouseModel" "thrown" "I"] ++ wsX50)
def wsX5_fails : List Cond := .code yX5_fails cX5_fails 2 (some .int) :: ([.fieldLink RX5 47 "SignOnHouseModel" "thrown" "I"] ++ wsX50)
def wsX5_in : List Cond := .code yX5_in cX5_in 3 (some .boolean) :: ([])
def wsX5_isPerson : List Cond := .code yX5_isPerson cX5_isPerson 1 (some .boolean) :: ([.methodLink RX5 51 yX5_in, .static yX5_in, .initialized RX5, .code yX5_in cX5_in 3 (some .boolean)])
def wsX5_isGroup : List Cond := .code yX5_isGroup cX5_isGroup 1 (some .boolean) :: ([.methodLink RX5 51 yX5_in, .static yX5_in, .initialized RX5, .code yX5_in cX5_in 3 (some .boolean)])
def wsX5_isRole : List Cond := .code yX5_isRole cX5_isRole 1 (some .boolean) :: ([.methodLink RX5 51 yX5_in, .static yX5_in, .initialized RX5, .code yX5_in cX5_in 3 (some .boolean)])
def wsX5_isApp : List Cond := .code yX5_isApp cX5_isApp 1 (some .boolean) :: ([.methodLink RX5 51 yX5_in, .static yX5_in, .initialized RX5, .code yX5_in cX5_in 3 (some .boolean)])
def wsX5_has : List Cond := .code yX5_has cX5_has 2 (some .boolean) :: ([])
def wsX5_within : List Cond := .code yX5_within cX5_within 5 (some .int) :: ([.fieldLink RX5 13 "SignOnHouseModel" "groups" "[I", .methodLink RX5 55 yX5_has, .static yX5_has, .initialized RX5, .code yX5_has cX5_has 2 (some .boolean)] ++ wsX50)
def wsX5_setPerson : List Cond := .code yX5_setPerson cX5_setPerson 5 (some .boolean) :: ([.fieldLink RX5 47 "SignOnHouseModel" "thrown" "I", .fieldLink RX5 7 "SignOnHouseModel" "people" "[I", .methodLink RX5 59 yX5_isGroup, .static yX5_isGroup, .initialized RX5, .code yX5_isGroup cX5_isGroup 1 (some .boolean), .methodLink RX5 51 yX5_in, .static yX5_in, .code yX5_in cX5_in 3 (some .boolean), .methodLink RX5 63 yX5_isPerson, .static yX5_isPerson, .code yX5_isPerson cX5_isPerson 1 (some .boolean), .methodLink RX5 55 yX5_has, .static yX5_has, .code yX5_has cX5_has 2 (some .boolean)] ++ wsX50)
def wsX5_setGroup : List Cond := .code yX5_setGroup cX5_setGroup 5 (some .boolean) :: ([.fieldLink RX5 47 "SignOnHouseModel" "thrown" "I", .fieldLink RX5 13 "SignOnHouseModel" "groups" "[I", .methodLink RX5 59 yX5_isGroup, .static yX5_isGroup, .initialized RX5, .code yX5_isGroup cX5_isGroup 1 (some .boolean), .methodLink RX5 51 yX5_in, .static yX5_in, .code yX5_in cX5_in 3 (some .boolean), .methodLink RX5 66 yX5_within, .instanceMethod yX5_within, .selects RX5 yX5_within yX5_within, .code yX5_within cX5_within 5 (some .int), .methodLink RX5 55 yX5_has, .static yX5_has, .code yX5_has cX5_has 2 (some .boolean)] ++ wsX50)
def wsX5_setRole : List Cond := .code yX5_setRole cX5_setRole 5 (some .int) :: ([.fieldLink RX5 47 "SignOnHouseModel" "thrown" "I", .fieldLink RX5 16 "SignOnHouseModel" "roles" "[I", .methodLink RX5 59 yX5_isGroup, .static yX5_isGroup, .initialized RX5, .code yX5_isGroup cX5_isGroup 1 (some .boolean), .methodLink RX5 51 yX5_in, .static yX5_in, .code yX5_in cX5_in 3 (some .boolean), .methodLink RX5 70 yX5_isRole, .static yX5_isRole, .code yX5_isRole cX5_isRole 1 (some .boolean), .methodLink RX5 73 yX5_fails, .instanceMethod yX5_fails, .selects RX5 yX5_fails yX5_fails, .code yX5_fails cX5_fails 2 (some .int)] ++ wsX50)
def wsX5_belongs : List Cond := .code yX5_belongs cX5_belongs 6 (some .boolean) :: ([.fieldLink RX5 7 "SignOnHouseModel" "people" "[I", .methodLink RX5 66 yX5_within, .instanceMethod yX5_within, .selects RX5 yX5_within yX5_within, .initialized RX5, .code yX5_within cX5_within 5 (some .int), .fieldLink RX5 13 "SignOnHouseModel" "groups" "[I", .methodLink RX5 55 yX5_has, .static yX5_has, .code yX5_has cX5_has 2 (some .boolean)] ++ wsX50)
def wsX5_finds : List Cond := .code yX5_finds cX5_finds 6 (some .boolean) :: ([.fieldLink RX5 16 "SignOnHouseModel" "roles" "[I", .methodLink RX5 76 yX5_belongs, .instanceMethod yX5_belongs, .selects RX5 yX5_belongs yX5_belongs, .initialized RX5, .code yX5_belongs cX5_belongs 6 (some .boolean), .fieldLink RX5 7 "SignOnHouseModel" "people" "[I", .methodLink RX5 66 yX5_within, .instanceMethod yX5_within, .selects RX5 yX5_within yX5_within, .code yX5_within cX5_within 5 (some .int), .fieldLink RX5 13 "SignOnHouseModel" "groups" "[I", .methodLink RX5 55 yX5_has, .static yX5_has, .code yX5_has cX5_has 2 (some .boolean)] ++ wsX50)
def wsX5_lets : List Cond := .code yX5_lets cX5_lets 3 (some .boolean) :: ([.fieldLink RX5 19 "SignOnHouseModel" "risk" "[I", .fieldLink RX5 22 "SignOnHouseModel" "glass" "[I", .fieldLink RX5 82 "SignOnHouseModel" "now" "I", .methodLink RX5 79 yX5_finds, .instanceMethod yX5_finds, .selects RX5 yX5_finds yX5_finds, .initialized RX5, .code yX5_finds cX5_finds 6 (some .boolean), .fieldLink RX5 16 "SignOnHouseModel" "roles" "[I", .methodLink RX5 76 yX5_belongs, .instanceMethod yX5_belongs, .selects RX5 yX5_belongs yX5_belongs, .code yX5_belongs cX5_belongs 6 (some .boolean), .fieldLink RX5 7 "SignOnHouseModel" "people" "[I", .methodLink RX5 66 yX5_within, .instanceMethod yX5_within, .selects RX5 yX5_within yX5_within, .code yX5_within cX5_within 5 (some .int), .fieldLink RX5 13 "SignOnHouseModel" "groups" "[I", .methodLink RX5 55 yX5_has, .static yX5_has, .code yX5_has cX5_has 2 (some .boolean)] ++ wsX50)
def wsX5_isKey : List Cond := .code yX5_isKey cX5_isKey 2 (some .boolean) :: ([.fieldLink RX5 85 "SignOnHouseModel" "key" "I", .fieldLink RX5 82 "SignOnHouseModel" "now" "I", .fieldLink RX5 88 "SignOnHouseModel" "taken" "I"] ++ wsX50)
def wsX5_ends : List Cond := .code yX5_ends cX5_ends 2 (some .boolean) :: ([.fieldLink RX5 82 "SignOnHouseModel" "now" "I", .fieldLink RX5 34 "SignOnHouseModel" "used" "[I", .fieldLink RX5 31 "SignOnHouseModel" "since" "[I", .fieldLink RX5 19 "SignOnHouseModel" "risk" "[I", .fieldLink RX5 25 "SignOnHouseModel" "who" "[I", .fieldLink RX5 28 "SignOnHouseModel" "signed" "[I", .methodLink RX5 91 yX5_isKey, .instanceMethod yX5_isKey, .selects RX5 yX5_isKey yX5_isKey, .initialized RX5, .code yX5_isKey cX5_isKey 2 (some .boolean), .fieldLink RX5 85 "SignOnHouseModel" "key" "I", .fieldLink RX5 88 "SignOnHouseModel" "taken" "I"] ++ wsX50)
def wsX5_sweeps : List Cond := .code yX5_sweeps cX5_sweeps 4 (some .int) :: ([.fieldLink RX5 94 "SignOnHouseModel" "sessions" "I", .fieldLink RX5 37 "SignOnHouseModel" "over" "[Z", .methodLink RX5 97 yX5_ends, .instanceMethod yX5_ends, .selects RX5 yX5_ends yX5_ends, .initialized RX5, .code yX5_ends cX5_ends 2 (some .boolean), .fieldLink RX5 82 "SignOnHouseModel" "now" "I", .fieldLink RX5 34 "SignOnHouseModel" "used" "[I", .fieldLink RX5 31 "SignOnHouseModel" "since" "[I", .fieldLink RX5 19 "SignOnHouseModel" "risk" "[I", .fieldLink RX5 25 "SignOnHouseModel" "who" "[I", .fieldLink RX5 28 "SignOnHouseModel" "signed" "[I", .methodLink RX5 91 yX5_isKey, .instanceMethod yX5_isKey, .selects RX5 yX5_isKey yX5_isKey, .code yX5_isKey cX5_isKey 2 (some .boolean), .fieldLink RX5 85 "SignOnHouseModel" "key" "I", .fieldLink RX5 88 "SignOnHouseModel" "taken" "I"] ++ wsX50)
def wsX5_setRisk : List Cond := .code yX5_setRisk cX5_setRisk 6 (some .int) :: ([.fieldLink RX5 47 "SignOnHouseModel" "thrown" "I", .fieldLink RX5 94 "SignOnHouseModel" "sessions" "I", .fieldLink RX5 19 "SignOnHouseModel" "risk" "[I", .fieldLink RX5 25 "SignOnHouseModel" "who" "[I", .fieldLink RX5 37 "SignOnHouseModel" "over" "[Z", .methodLink RX5 63 yX5_isPerson, .static yX5_isPerson, .initialized RX5, .code yX5_isPerson cX5_isPerson 1 (some .boolean), .methodLink RX5 51 yX5_in, .static yX5_in, .code yX5_in cX5_in 3 (some .boolean), .methodLink RX5 73 yX5_fails, .instanceMethod yX5_fails, .selects RX5 yX5_fails yX5_fails, .code yX5_fails cX5_fails 2 (some .int)] ++ wsX50)
def wsX5_isIn : List Cond := .code yX5_isIn cX5_isIn 3 (some .boolean) :: ([.fieldLink RX5 47 "SignOnHouseModel" "thrown" "I", .methodLink RX5 59 yX5_isGroup, .static yX5_isGroup, .initialized RX5, .code yX5_isGroup cX5_isGroup 1 (some .boolean), .methodLink RX5 51 yX5_in, .static yX5_in, .code yX5_in cX5_in 3 (some .boolean), .methodLink RX5 63 yX5_isPerson, .static yX5_isPerson, .code yX5_isPerson cX5_isPerson 1 (some .boolean), .methodLink RX5 76 yX5_belongs, .instanceMethod yX5_belongs, .selects RX5 yX5_belongs yX5_belongs, .code yX5_belongs cX5_belongs 6 (some .boolean), .fieldLink RX5 7 "SignOnHouseModel" "people" "[I", .methodLink RX5 66 yX5_within, .instanceMethod yX5_within, .selects RX5 yX5_within yX5_within, .code yX5_within cX5_within 5 (some .int), .fieldLink RX5 13 "SignOnHouseModel" "groups" "[I", .methodLink RX5 55 yX5_has, .static yX5_has, .code yX5_has cX5_has 2 (some .boolean)] ++ wsX50)
def wsX5_allows_r1 : List Cond := [Cond.fieldLink RX5 47 "SignOnHouseModel" "thrown" "I", Cond.methodLink RX5 63 yX5_isPerson, Cond.static yX5_isPerson, Cond.initialized RX5, Cond.code yX5_isPerson cX5_isPerson 1 (some .boolean), Cond.methodLink RX5 51 yX5_in, Cond.static yX5_in, Cond.code yX5_in cX5_in 3 (some .boolean), Cond.methodLink RX5 70 yX5_isRole, Cond.static yX5_isRole, Cond.code yX5_isRole cX5_isRole 1 (some .boolean), Cond.methodLink RX5 100 yX5_lets, Cond.instanceMethod yX5_lets, Cond.selects RX5 yX5_lets yX5_lets, Cond.code yX5_lets cX5_lets 3 (some .boolean), Cond.fieldLink RX5 19 "SignOnHouseModel" "risk" "[I", Cond.fieldLink RX5 22 "SignOnHouseModel" "glass" "[I", Cond.fieldLink RX5 82 "SignOnHouseModel" "now" "I", Cond.methodLink RX5 79 yX5_finds, Cond.instanceMethod yX5_finds, Cond.selects RX5 yX5_finds yX5_finds, Cond.code yX5_finds cX5_finds 6 (some .boolean), Cond.fieldLink RX5 16 "SignOnHouseModel" "roles" "[I", Cond.methodLink RX5 76 yX5_belongs]
def wsX5_allows_r2 : List Cond := [Cond.instanceMethod yX5_belongs, Cond.selects RX5 yX5_belongs yX5_belongs, Cond.code yX5_belongs cX5_belongs 6 (some .boolean), Cond.fieldLink RX5 7 "SignOnHouseModel" "people" "[I", Cond.methodLink RX5 66 yX5_within, Cond.instanceMethod yX5_within, Cond.selects RX5 yX5_within yX5_within, Cond.code yX5_within cX5_within 5 (some .int), Cond.fieldLink RX5 13 "SignOnHouseModel" "groups" "[I", Cond.methodLink RX5 55 yX5_has, Cond.static yX5_has, Cond.code yX5_has cX5_has 2 (some .boolean)]
def wsX5_allows : List Cond := .code yX5_allows cX5_allows 3 (some .boolean) :: ((wsX5_allows_r1 ++ wsX5_allows_r2) ++ wsX50)
def wsX5_open : List Cond := .code yX5_open cX5_open 2 (some .int) :: ([.fieldLink RX5 47 "SignOnHouseModel" "thrown" "I", .fieldLink RX5 19 "SignOnHouseModel" "risk" "[I", .fieldLink RX5 94 "SignOnHouseModel" "sessions" "I", .fieldLink RX5 25 "SignOnHouseModel" "who" "[I", .fieldLink RX5 28 "SignOnHouseModel" "signed" "[I", .fieldLink RX5 85 "SignOnHouseModel" "key" "I", .fieldLink RX5 31 "SignOnHouseModel" "since" "[I", .fieldLink RX5 82 "SignOnHouseModel" "now" "I", .fieldLink RX5 34 "SignOnHouseModel" "used" "[I", .methodLink RX5 63 yX5_isPerson, .static yX5_isPerson, .initialized RX5, .code yX5_isPerson cX5_isPerson 1 (some .boolean), .methodLink RX5 51 yX5_in, .static yX5_in, .code yX5_in cX5_in 3 (some .boolean), .methodLink RX5 73 yX5_fails, .instanceMethod yX5_fails, .selects RX5 yX5_fails yX5_fails, .code yX5_fails cX5_fails 2 (some .int)] ++ wsX50)
def wsX5_isSession : List Cond := .code yX5_isSession cX5_isSession 2 (some .boolean) :: ([.fieldLink RX5 94 "SignOnHouseModel" "sessions" "I", .methodLink RX5 51 yX5_in, .static yX5_in, .initialized RX5, .code yX5_in cX5_in 3 (some .boolean)] ++ wsX50)
def wsX5_close : List Cond := .code yX5_close cX5_close 2 (some .int) :: ([.fieldLink RX5 47 "SignOnHouseModel" "thrown" "I", .fieldLink RX5 37 "SignOnHouseModel" "over" "[Z", .fieldLink RX5 82 "SignOnHouseModel" "now" "I", .fieldLink RX5 31 "SignOnHouseModel" "since" "[I", .methodLink RX5 103 yX5_isSession, .instanceMethod yX5_isSession, .selects RX5 yX5_isSession yX5_isSession, .initialized RX5, .code yX5_isSession cX5_isSession 2 (some .boolean), .fieldLink RX5 94 "SignOnHouseModel" "sessions" "I", .methodLink RX5 51 yX5_in, .static yX5_in, .code yX5_in cX5_in 3 (some .boolean), .methodLink RX5 73 yX5_fails, .instanceMethod yX5_fails, .selects RX5 yX5_fails yX5_fails, .code yX5_fails cX5_fails 2 (some .int)] ++ wsX50)
def wsX5_goesOn : List Cond := .code yX5_goesOn cX5_goesOn 2 (some .boolean) :: ([.fieldLink RX5 47 "SignOnHouseModel" "thrown" "I", .fieldLink RX5 37 "SignOnHouseModel" "over" "[Z", .methodLink RX5 103 yX5_isSession, .instanceMethod yX5_isSession, .selects RX5 yX5_isSession yX5_isSession, .initialized RX5, .code yX5_isSession cX5_isSession 2 (some .boolean), .fieldLink RX5 94 "SignOnHouseModel" "sessions" "I", .methodLink RX5 51 yX5_in, .static yX5_in, .code yX5_in cX5_in 3 (some .boolean)] ++ wsX50)
def wsX5_changeKeys_r1 : List Cond := [Cond.fieldLink RX5 47 "SignOnHouseModel" "thrown" "I", Cond.fieldLink RX5 85 "SignOnHouseModel" "key" "I", Cond.fieldLink RX5 82 "SignOnHouseModel" "now" "I", Cond.fieldLink RX5 88 "SignOnHouseModel" "taken" "I", Cond.methodLink RX5 51 yX5_in, Cond.static yX5_in, Cond.initialized RX5, Cond.code yX5_in cX5_in 3 (some .boolean), Cond.methodLink RX5 73 yX5_fails, Cond.instanceMethod yX5_fails, Cond.selects RX5 yX5_fails yX5_fails, Cond.code yX5_fails cX5_fails 2 (some .int), Cond.methodLink RX5 106 yX5_sweeps, Cond.instanceMethod yX5_sweeps, Cond.selects RX5 yX5_sweeps yX5_sweeps, Cond.code yX5_sweeps cX5_sweeps 4 (some .int), Cond.fieldLink RX5 94 "SignOnHouseModel" "sessions" "I", Cond.fieldLink RX5 37 "SignOnHouseModel" "over" "[Z", Cond.methodLink RX5 97 yX5_ends, Cond.instanceMethod yX5_ends, Cond.selects RX5 yX5_ends yX5_ends, Cond.code yX5_ends cX5_ends 2 (some .boolean), Cond.fieldLink RX5 34 "SignOnHouseModel" "used" "[I", Cond.fieldLink RX5 31 "SignOnHouseModel" "since" "[I"]
def wsX5_changeKeys_r2 : List Cond := [Cond.fieldLink RX5 19 "SignOnHouseModel" "risk" "[I", Cond.fieldLink RX5 25 "SignOnHouseModel" "who" "[I", Cond.fieldLink RX5 28 "SignOnHouseModel" "signed" "[I", Cond.methodLink RX5 91 yX5_isKey, Cond.instanceMethod yX5_isKey, Cond.selects RX5 yX5_isKey yX5_isKey, Cond.code yX5_isKey cX5_isKey 2 (some .boolean)]
def wsX5_changeKeys : List Cond := .code yX5_changeKeys cX5_changeKeys 3 (some .int) :: ((wsX5_changeKeys_r1 ++ wsX5_changeKeys_r2) ++ wsX50)
def wsX5_isTaken : List Cond := .code yX5_isTaken cX5_isTaken 2 (some .boolean) :: ([.fieldLink RX5 85 "SignOnHouseModel" "key" "I", .fieldLink RX5 47 "SignOnHouseModel" "thrown" "I", .methodLink RX5 51 yX5_in, .static yX5_in, .initialized RX5, .code yX5_in cX5_in 3 (some .boolean), .methodLink RX5 91 yX5_isKey, .instanceMethod yX5_isKey, .selects RX5 yX5_isKey yX5_isKey, .code yX5_isKey cX5_isKey 2 (some .boolean), .fieldLink RX5 82 "SignOnHouseModel" "now" "I", .fieldLink RX5 88 "SignOnHouseModel" "taken" "I"] ++ wsX50)
def wsX5_pass_r1 : List Cond := [Cond.fieldLink RX5 47 "SignOnHouseModel" "thrown" "I", Cond.fieldLink RX5 82 "SignOnHouseModel" "now" "I", Cond.methodLink RX5 51 yX5_in, Cond.static yX5_in, Cond.initialized RX5, Cond.code yX5_in cX5_in 3 (some .boolean), Cond.methodLink RX5 73 yX5_fails, Cond.instanceMethod yX5_fails, Cond.selects RX5 yX5_fails yX5_fails, Cond.code yX5_fails cX5_fails 2 (some .int), Cond.methodLink RX5 106 yX5_sweeps, Cond.instanceMethod yX5_sweeps, Cond.selects RX5 yX5_sweeps yX5_sweeps, Cond.code yX5_sweeps cX5_sweeps 4 (some .int), Cond.fieldLink RX5 94 "SignOnHouseModel" "sessions" "I", Cond.fieldLink RX5 37 "SignOnHouseModel" "over" "[Z", Cond.methodLink RX5 97 yX5_ends, Cond.instanceMethod yX5_ends, Cond.selects RX5 yX5_ends yX5_ends, Cond.code yX5_ends cX5_ends 2 (some .boolean), Cond.fieldLink RX5 34 "SignOnHouseModel" "used" "[I", Cond.fieldLink RX5 31 "SignOnHouseModel" "since" "[I", Cond.fieldLink RX5 19 "SignOnHouseModel" "risk" "[I", Cond.fieldLink RX5 25 "SignOnHouseModel" "who" "[I"]
def wsX5_pass_r2 : List Cond := [Cond.fieldLink RX5 28 "SignOnHouseModel" "signed" "[I", Cond.methodLink RX5 91 yX5_isKey, Cond.instanceMethod yX5_isKey, Cond.selects RX5 yX5_isKey yX5_isKey, Cond.code yX5_isKey cX5_isKey 2 (some .boolean), Cond.fieldLink RX5 85 "SignOnHouseModel" "key" "I", Cond.fieldLink RX5 88 "SignOnHouseModel" "taken" "I"]
def wsX5_pass : List Cond := .code yX5_pass cX5_pass 2 (some .int) :: ((wsX5_pass_r1 ++ wsX5_pass_r2) ++ wsX50)
def wsX5_now : List Cond := .code yX5_now cX5_now 1 (some .int) :: ([.fieldLink RX5 47 "SignOnHouseModel" "thrown" "I", .fieldLink RX5 82 "SignOnHouseModel" "now" "I"] ++ wsX50)
def wsX5_serves : List Cond := .code yX5_serves cX5_serves 3 (some .boolean) :: ([.fieldLink RX5 19 "SignOnHouseModel" "risk" "[I", .methodLink RX5 79 yX5_finds, .instanceMethod yX5_finds, .selects RX5 yX5_finds yX5_finds, .initialized RX5, .code yX5_finds cX5_finds 6 (some .boolean), .fieldLink RX5 16 "SignOnHouseModel" "roles" "[I", .methodLink RX5 76 yX5_belongs, .instanceMethod yX5_belongs, .selects RX5 yX5_belongs yX5_belongs, .code yX5_belongs cX5_belongs 6 (some .boolean), .fieldLink RX5 7 "SignOnHouseModel" "people" "[I", .methodLink RX5 66 yX5_within, .instanceMethod yX5_within, .selects RX5 yX5_within yX5_within, .code yX5_within cX5_within 5 (some .int), .fieldLink RX5 13 "SignOnHouseModel" "groups" "[I", .methodLink RX5 55 yX5_has, .static yX5_has, .code yX5_has cX5_has 2 (some .boolean)] ++ wsX50)
def wsX5_breakGlass_r1 : List Cond := [Cond.fieldLink RX5 47 "SignOnHouseModel" "thrown" "I", Cond.fieldLink RX5 22 "SignOnHouseModel" "glass" "[I", Cond.fieldLink RX5 82 "SignOnHouseModel" "now" "I", Cond.methodLink RX5 63 yX5_isPerson, Cond.static yX5_isPerson, Cond.initialized RX5, Cond.code yX5_isPerson cX5_isPerson 1 (some .boolean), Cond.methodLink RX5 51 yX5_in, Cond.static yX5_in, Cond.code yX5_in cX5_in 3 (some .boolean), Cond.methodLink RX5 70 yX5_isRole, Cond.static yX5_isRole, Cond.code yX5_isRole cX5_isRole 1 (some .boolean), Cond.methodLink RX5 73 yX5_fails, Cond.instanceMethod yX5_fails, Cond.selects RX5 yX5_fails yX5_fails, Cond.code yX5_fails cX5_fails 2 (some .int), Cond.methodLink RX5 110 yX5_serves, Cond.instanceMethod yX5_serves, Cond.selects RX5 yX5_serves yX5_serves, Cond.code yX5_serves cX5_serves 3 (some .boolean), Cond.fieldLink RX5 19 "SignOnHouseModel" "risk" "[I", Cond.methodLink RX5 79 yX5_finds, Cond.instanceMethod yX5_finds]
def wsX5_breakGlass_r2 : List Cond := [Cond.selects RX5 yX5_finds yX5_finds, Cond.code yX5_finds cX5_finds 6 (some .boolean), Cond.fieldLink RX5 16 "SignOnHouseModel" "roles" "[I", Cond.methodLink RX5 76 yX5_belongs, Cond.instanceMethod yX5_belongs, Cond.selects RX5 yX5_belongs yX5_belongs, Cond.code yX5_belongs cX5_belongs 6 (some .boolean), Cond.fieldLink RX5 7 "SignOnHouseModel" "people" "[I", Cond.methodLink RX5 66 yX5_within, Cond.instanceMethod yX5_within, Cond.selects RX5 yX5_within yX5_within, Cond.code yX5_within cX5_within 5 (some .int), Cond.fieldLink RX5 13 "SignOnHouseModel" "groups" "[I", Cond.methodLink RX5 55 yX5_has, Cond.static yX5_has, Cond.code yX5_has cX5_has 2 (some .boolean)]
def wsX5_breakGlass : List Cond := .code yX5_breakGlass cX5_breakGlass 5 (some .int) :: ((wsX5_breakGlass_r1 ++ wsX5_breakGlass_r2) ++ wsX50)
def wsX5_keeps : List Cond := .code yX5_keeps cX5_keeps 3 (some .boolean) :: ([.fieldLink RX5 44 "SignOnHouseModel" "kept" "[I", .fieldLink RX5 82 "SignOnHouseModel" "now" "I", .fieldLink RX5 41 "SignOnHouseModel" "cache" "[I"] ++ wsX50)
def wsX5_drops : List Cond := .code yX5_drops cX5_drops 3 none :: ([.fieldLink RX5 44 "SignOnHouseModel" "kept" "[I", .methodLink RX5 113 yX5_keeps, .instanceMethod yX5_keeps, .selects RX5 yX5_keeps yX5_keeps, .initialized RX5, .code yX5_keeps cX5_keeps 3 (some .boolean), .fieldLink RX5 82 "SignOnHouseModel" "now" "I", .fieldLink RX5 41 "SignOnHouseModel" "cache" "[I"] ++ wsX50)
def wsX5_setCache : List Cond := .code yX5_setCache cX5_setCache 4 (some .int) :: ([.fieldLink RX5 47 "SignOnHouseModel" "thrown" "I", .fieldLink RX5 41 "SignOnHouseModel" "cache" "[I", .methodLink RX5 116 yX5_isApp, .static yX5_isApp, .initialized RX5, .code yX5_isApp cX5_isApp 1 (some .boolean), .methodLink RX5 51 yX5_in, .static yX5_in, .code yX5_in cX5_in 3 (some .boolean), .methodLink RX5 73 yX5_fails, .instanceMethod yX5_fails, .selects RX5 yX5_fails yX5_fails, .code yX5_fails cX5_fails 2 (some .int), .methodLink RX5 119 yX5_drops, .instanceMethod yX5_drops, .selects RX5 yX5_drops yX5_drops, .code yX5_drops cX5_drops 3 none, .fieldLink RX5 44 "SignOnHouseModel" "kept" "[I", .methodLink RX5 113 yX5_keeps, .instanceMethod yX5_keeps, .selects RX5 yX5_keeps yX5_keeps, .code yX5_keeps cX5_keeps 3 (some .boolean), .fieldLink RX5 82 "SignOnHouseModel" "now" "I"] ++ wsX50)
def wsX5_decide_r1 : List Cond := [Cond.fieldLink RX5 47 "SignOnHouseModel" "thrown" "I", Cond.fieldLink RX5 37 "SignOnHouseModel" "over" "[Z", Cond.fieldLink RX5 34 "SignOnHouseModel" "used" "[I", Cond.fieldLink RX5 82 "SignOnHouseModel" "now" "I", Cond.fieldLink RX5 25 "SignOnHouseModel" "who" "[I", Cond.fieldLink RX5 44 "SignOnHouseModel" "kept" "[I", Cond.methodLink RX5 116 yX5_isApp, Cond.static yX5_isApp, Cond.initialized RX5, Cond.code yX5_isApp cX5_isApp 1 (some .boolean), Cond.methodLink RX5 51 yX5_in, Cond.static yX5_in, Cond.code yX5_in cX5_in 3 (some .boolean), Cond.methodLink RX5 70 yX5_isRole, Cond.static yX5_isRole, Cond.code yX5_isRole cX5_isRole 1 (some .boolean), Cond.methodLink RX5 73 yX5_fails, Cond.instanceMethod yX5_fails, Cond.selects RX5 yX5_fails yX5_fails, Cond.code yX5_fails cX5_fails 2 (some .int), Cond.methodLink RX5 103 yX5_isSession, Cond.instanceMethod yX5_isSession, Cond.selects RX5 yX5_isSession yX5_isSession, Cond.code yX5_isSession cX5_isSession 2 (some .boolean)]
def wsX5_decide_r2 : List Cond := [Cond.fieldLink RX5 94 "SignOnHouseModel" "sessions" "I", Cond.methodLink RX5 113 yX5_keeps, Cond.instanceMethod yX5_keeps, Cond.selects RX5 yX5_keeps yX5_keeps, Cond.code yX5_keeps cX5_keeps 3 (some .boolean), Cond.fieldLink RX5 41 "SignOnHouseModel" "cache" "[I", Cond.methodLink RX5 100 yX5_lets, Cond.instanceMethod yX5_lets, Cond.selects RX5 yX5_lets yX5_lets, Cond.code yX5_lets cX5_lets 3 (some .boolean), Cond.fieldLink RX5 19 "SignOnHouseModel" "risk" "[I", Cond.fieldLink RX5 22 "SignOnHouseModel" "glass" "[I", Cond.methodLink RX5 79 yX5_finds, Cond.instanceMethod yX5_finds, Cond.selects RX5 yX5_finds yX5_finds, Cond.code yX5_finds cX5_finds 6 (some .boolean), Cond.fieldLink RX5 16 "SignOnHouseModel" "roles" "[I", Cond.methodLink RX5 76 yX5_belongs, Cond.instanceMethod yX5_belongs, Cond.selects RX5 yX5_belongs yX5_belongs, Cond.code yX5_belongs cX5_belongs 6 (some .boolean), Cond.fieldLink RX5 7 "SignOnHouseModel" "people" "[I", Cond.methodLink RX5 66 yX5_within, Cond.instanceMethod yX5_within]
def wsX5_decide_r3 : List Cond := [Cond.selects RX5 yX5_within yX5_within, Cond.code yX5_within cX5_within 5 (some .int), Cond.fieldLink RX5 13 "SignOnHouseModel" "groups" "[I", Cond.methodLink RX5 55 yX5_has, Cond.static yX5_has, Cond.code yX5_has cX5_has 2 (some .boolean)]
def wsX5_decide : List Cond := .code yX5_decide cX5_decide 5 (some .int) :: ((wsX5_decide_r1 ++ (wsX5_decide_r2 ++ wsX5_decide_r3)) ++ wsX50)
def wsX5_forget : List Cond := .code yX5_forget cX5_forget 6 (some .int) :: ([.fieldLink RX5 47 "SignOnHouseModel" "thrown" "I", .fieldLink RX5 44 "SignOnHouseModel" "kept" "[I", .methodLink RX5 116 yX5_isApp, .static yX5_isApp, .initialized RX5, .code yX5_isApp cX5_isApp 1 (some .boolean), .methodLink RX5 51 yX5_in, .static yX5_in, .code yX5_in cX5_in 3 (some .boolean), .methodLink RX5 63 yX5_isPerson, .static yX5_isPerson, .code yX5_isPerson cX5_isPerson 1 (some .boolean), .methodLink RX5 73 yX5_fails, .instanceMethod yX5_fails, .selects RX5 yX5_fails yX5_fails, .code yX5_fails cX5_fails 2 (some .int), .methodLink RX5 113 yX5_keeps, .instanceMethod yX5_keeps, .selects RX5 yX5_keeps yX5_keeps, .code yX5_keeps cX5_keeps 3 (some .boolean), .fieldLink RX5 82 "SignOnHouseModel" "now" "I", .fieldLink RX5 41 "SignOnHouseModel" "cache" "[I"] ++ wsX50)
def wsX5_stale_r1 : List Cond := [Cond.fieldLink RX5 47 "SignOnHouseModel" "thrown" "I", Cond.fieldLink RX5 44 "SignOnHouseModel" "kept" "[I", Cond.methodLink RX5 116 yX5_isApp, Cond.static yX5_isApp, Cond.initialized RX5, Cond.code yX5_isApp cX5_isApp 1 (some .boolean), Cond.methodLink RX5 51 yX5_in, Cond.static yX5_in, Cond.code yX5_in cX5_in 3 (some .boolean), Cond.methodLink RX5 73 yX5_fails, Cond.instanceMethod yX5_fails, Cond.selects RX5 yX5_fails yX5_fails, Cond.code yX5_fails cX5_fails 2 (some .int), Cond.methodLink RX5 113 yX5_keeps, Cond.instanceMethod yX5_keeps, Cond.selects RX5 yX5_keeps yX5_keeps, Cond.code yX5_keeps cX5_keeps 3 (some .boolean), Cond.fieldLink RX5 82 "SignOnHouseModel" "now" "I", Cond.fieldLink RX5 41 "SignOnHouseModel" "cache" "[I", Cond.methodLink RX5 100 yX5_lets, Cond.instanceMethod yX5_lets, Cond.selects RX5 yX5_lets yX5_lets, Cond.code yX5_lets cX5_lets 3 (some .boolean), Cond.fieldLink RX5 19 "SignOnHouseModel" "risk" "[I"]
def wsX5_stale_r2 : List Cond := [Cond.fieldLink RX5 22 "SignOnHouseModel" "glass" "[I", Cond.methodLink RX5 79 yX5_finds, Cond.instanceMethod yX5_finds, Cond.selects RX5 yX5_finds yX5_finds, Cond.code yX5_finds cX5_finds 6 (some .boolean), Cond.fieldLink RX5 16 "SignOnHouseModel" "roles" "[I", Cond.methodLink RX5 76 yX5_belongs, Cond.instanceMethod yX5_belongs, Cond.selects RX5 yX5_belongs yX5_belongs, Cond.code yX5_belongs cX5_belongs 6 (some .boolean), Cond.fieldLink RX5 7 "SignOnHouseModel" "people" "[I", Cond.methodLink RX5 66 yX5_within, Cond.instanceMethod yX5_within, Cond.selects RX5 yX5_within yX5_within, Cond.code yX5_within cX5_within 5 (some .int), Cond.fieldLink RX5 13 "SignOnHouseModel" "groups" "[I", Cond.methodLink RX5 55 yX5_has, Cond.static yX5_has, Cond.code yX5_has cX5_has 2 (some .boolean)]
def wsX5_stale : List Cond := .code yX5_stale cX5_stale 5 (some .int) :: ((wsX5_stale_r1 ++ wsX5_stale_r2) ++ wsX50)
def wsL_setPerson : List Cond := .codeWith yL_setPerson cL_setPerson 6 (some .int) [(0, 19, 22, 13)] :: ([.classLink RL 13 "java/lang/IllegalArgumentException", .methodLink RL 7 yX4_setPerson, .instanceMethod yX4_setPerson, .selects RX4 yX4_setPerson yX4_setPerson, .initialized RX4, .code yX4_setPerson cX4_setPerson 4 (some .boolean), .classLink RX4 52 "java/lang/IllegalArgumentException", .initialized "java/lang/IllegalArgumentException", .fieldLink RX4 10 "SignOnHouse" "groups" "LSignOnHouse$Groups;", .methodLink RX4 48 yX4_isOutside, .static yX4_isOutside, .code yX4_isOutside cX4_isOutside 2 (some .boolean), .methodLink RX4 59 yX1_placePerson, .instanceMethod yX1_placePerson, .selects RX1 yX1_placePerson yX1_placePerson, .initialized RX1, .code yX1_placePerson cX1_placePerson 5 (some .boolean), .fieldLink RX1 9 "SignOnHouse$Groups" "homesOfPerson" "[I", .methodLink RX1 24 yX1_contains, .static yX1_contains, .code yX1_contains cX1_contains 2 (some .boolean), .methodLink RX1 28 yX1_changed, .static yX1_changed, .code yX1_changed cX1_changed 3 (some .int)] ++ wsX40 ++ wsX10 ++ (vx_atS RX4 56 "java/lang/IllegalArgumentException" ["java/lang/RuntimeException", "java/lang/Exception"]).filter goodWord)
def wsL_setGroup_r1 : List Cond := [Cond.classLink RL 13 "java/lang/IllegalArgumentException", Cond.classLink RL 18 "java/lang/IllegalStateException", Cond.methodLink RL 15 yX4_setGroup, Cond.instanceMethod yX4_setGroup, Cond.selects RX4 yX4_setGroup yX4_setGroup, Cond.initialized RX4, Cond.code yX4_setGroup cX4_setGroup 4 (some .boolean), Cond.classLink RX4 52 "java/lang/IllegalArgumentException", Cond.initialized "java/lang/IllegalArgumentException", Cond.classLink RX4 70 "java/lang/IllegalStateException", Cond.initialized "java/lang/IllegalStateException", Cond.fieldLink RX4 10 "SignOnHouse" "groups" "LSignOnHouse$Groups;", Cond.methodLink RX4 48 yX4_isOutside, Cond.static yX4_isOutside, Cond.code yX4_isOutside cX4_isOutside 2 (some .boolean), Cond.methodLink RX4 67 yX1_isAround, Cond.instanceMethod yX1_isAround, Cond.selects RX1 yX1_isAround yX1_isAround, Cond.initialized RX1, Cond.code yX1_isAround cX1_isAround 3 (some .boolean), Cond.fieldLink RX1 15 "SignOnHouse$Groups" "homesOfGroup" "[I", Cond.methodLink RX1 36 yX1_allAround, Cond.instanceMethod yX1_allAround, Cond.selects RX1 yX1_allAround yX1_allAround]
def wsL_setGroup_r2 : List Cond := [Cond.code yX1_allAround cX1_allAround 4 (some .int), Cond.methodLink RX1 40 yX1_oneLinkFurther, Cond.instanceMethod yX1_oneLinkFurther, Cond.selects RX1 yX1_oneLinkFurther yX1_oneLinkFurther, Cond.code yX1_oneLinkFurther cX1_oneLinkFurther 4 (some .int), Cond.methodLink RX1 24 yX1_contains, Cond.static yX1_contains, Cond.code yX1_contains cX1_contains 2 (some .boolean), Cond.methodLink RX4 75 yX1_placeGroup, Cond.instanceMethod yX1_placeGroup, Cond.selects RX1 yX1_placeGroup yX1_placeGroup, Cond.code yX1_placeGroup cX1_placeGroup 5 (some .boolean), Cond.methodLink RX1 28 yX1_changed, Cond.static yX1_changed, Cond.code yX1_changed cX1_changed 3 (some .int)]
def wsL_setGroup : List Cond := .codeWith yL_setGroup cL_setGroup 6 (some .int) [(0, 19, 22, 13), (0, 19, 26, 18)] :: ((wsL_setGroup_r1 ++ wsL_setGroup_r2) ++ wsX40 ++ wsX10 ++ (vx_atS RX4 56 "java/lang/IllegalArgumentException" ["java/lang/RuntimeException", "java/lang/Exception"]).filter goodWord ++ (vx_atS RX4 74 "java/lang/IllegalStateException" ["java/lang/RuntimeException", "java/lang/Exception"]).filter goodWord)
def wsL_setRole_r1 : List Cond := [Cond.classLink RL 13 "java/lang/IllegalArgumentException", Cond.methodLink RL 20 yX4_setRole, Cond.instanceMethod yX4_setRole, Cond.selects RX4 yX4_setRole yX4_setRole, Cond.initialized RX4, Cond.code yX4_setRole cX4_setRole 4 (some .int), Cond.classLink RX4 52 "java/lang/IllegalArgumentException", Cond.initialized "java/lang/IllegalArgumentException", Cond.fieldLink RX4 10 "SignOnHouse" "groups" "LSignOnHouse$Groups;", Cond.methodLink RX4 48 yX4_isOutside, Cond.static yX4_isOutside, Cond.code yX4_isOutside cX4_isOutside 2 (some .boolean), Cond.methodLink RX4 82 yX1_giveRole, Cond.instanceMethod yX1_giveRole, Cond.selects RX1 yX1_giveRole yX1_giveRole, Cond.initialized RX1, Cond.code yX1_giveRole cX1_giveRole 5 (some .int), Cond.fieldLink RX1 18 "SignOnHouse$Groups" "grantedOfRole" "[I", Cond.fieldLink RX1 21 "SignOnHouse$Groups" "deniedOfRole" "[I", Cond.methodLink RX1 32 yX1_roleOf, Cond.instanceMethod yX1_roleOf, Cond.selects RX1 yX1_roleOf yX1_roleOf, Cond.code yX1_roleOf cX1_roleOf 3 (some .int), Cond.methodLink RX1 24 yX1_contains]
def wsL_setRole_r2 : List Cond := [Cond.static yX1_contains, Cond.code yX1_contains cX1_contains 2 (some .boolean), Cond.methodLink RX1 28 yX1_changed, Cond.static yX1_changed, Cond.code yX1_changed cX1_changed 3 (some .int)]
def wsL_setRole : List Cond := .codeWith yL_setRole cL_setRole 6 (some .int) [(0, 12, 15, 13)] :: ((wsL_setRole_r1 ++ wsL_setRole_r2) ++ wsX40 ++ wsX10 ++ (vx_atS RX4 56 "java/lang/IllegalArgumentException" ["java/lang/RuntimeException", "java/lang/Exception"]).filter goodWord)
def wsL_setRisk_r1 : List Cond := [Cond.classLink RL 13 "java/lang/IllegalArgumentException", Cond.methodLink RL 24 yX4_setRisk, Cond.instanceMethod yX4_setRisk, Cond.selects RX4 yX4_setRisk yX4_setRisk, Cond.initialized RX4, Cond.code yX4_setRisk cX4_setRisk 4 (some .int), Cond.classLink RX4 52 "java/lang/IllegalArgumentException", Cond.initialized "java/lang/IllegalArgumentException", Cond.fieldLink RX4 37 "SignOnHouse" "risks" "[I", Cond.fieldLink RX4 19 "SignOnHouse" "sessions" "LSignOnHouse$Sessions;", Cond.methodLink RX4 48 yX4_isOutside, Cond.static yX4_isOutside, Cond.code yX4_isOutside cX4_isOutside 2 (some .boolean), Cond.methodLink RX4 88 yX3_endAllOf, Cond.instanceMethod yX3_endAllOf, Cond.selects RX3 yX3_endAllOf yX3_endAllOf, Cond.initialized RX3, Cond.code yX3_endAllOf cX3_endAllOf 4 (some .int), Cond.fieldLink RX3 26 "SignOnHouse$Sessions" "count" "I", Cond.fieldLink RX3 22 "SignOnHouse$Sessions" "over" "[Z", Cond.fieldLink RX3 9 "SignOnHouse$Sessions" "people" "[I", Cond.methodLink RX3 30 yX3_end, Cond.instanceMethod yX3_end, Cond.selects RX3 yX3_end yX3_end]
def wsL_setRisk_r2 : List Cond := [Cond.code yX3_end cX3_end 2 none]
def wsL_setRisk : List Cond := .codeWith yL_setRisk cL_setRisk 5 (some .int) [(0, 10, 13, 13)] :: ((wsL_setRisk_r1 ++ wsL_setRisk_r2) ++ wsX40 ++ wsX30 ++ (vx_atS RX4 56 "java/lang/IllegalArgumentException" ["java/lang/RuntimeException", "java/lang/Exception"]).filter goodWord)
def wsL_isIn_r1 : List Cond := [Cond.classLink RL 13 "java/lang/IllegalArgumentException", Cond.methodLink RL 28 yX4_isIn, Cond.instanceMethod yX4_isIn, Cond.selects RX4 yX4_isIn yX4_isIn, Cond.initialized RX4, Cond.code yX4_isIn cX4_isIn 3 (some .boolean), Cond.classLink RX4 52 "java/lang/IllegalArgumentException", Cond.initialized "java/lang/IllegalArgumentException", Cond.fieldLink RX4 10 "SignOnHouse" "groups" "LSignOnHouse$Groups;", Cond.methodLink RX4 48 yX4_isOutside, Cond.static yX4_isOutside, Cond.code yX4_isOutside cX4_isOutside 2 (some .boolean), Cond.methodLink RX4 92 yX1_hasPerson, Cond.instanceMethod yX1_hasPerson, Cond.selects RX1 yX1_hasPerson yX1_hasPerson, Cond.initialized RX1, Cond.code yX1_hasPerson cX1_hasPerson 3 (some .boolean), Cond.fieldLink RX1 9 "SignOnHouse$Groups" "homesOfPerson" "[I", Cond.methodLink RX1 36 yX1_allAround, Cond.instanceMethod yX1_allAround, Cond.selects RX1 yX1_allAround yX1_allAround, Cond.code yX1_allAround cX1_allAround 4 (some .int), Cond.methodLink RX1 40 yX1_oneLinkFurther, Cond.instanceMethod yX1_oneLinkFurther]
def wsL_isIn_r2 : List Cond := [Cond.selects RX1 yX1_oneLinkFurther yX1_oneLinkFurther, Cond.code yX1_oneLinkFurther cX1_oneLinkFurther 4 (some .int), Cond.fieldLink RX1 15 "SignOnHouse$Groups" "homesOfGroup" "[I", Cond.methodLink RX1 24 yX1_contains, Cond.static yX1_contains, Cond.code yX1_contains cX1_contains 2 (some .boolean)]
def wsL_isIn : List Cond := .codeWith yL_isIn cL_isIn 5 (some .int) [(0, 17, 20, 13)] :: ((wsL_isIn_r1 ++ wsL_isIn_r2) ++ wsX40 ++ wsX10 ++ (vx_atS RX4 56 "java/lang/IllegalArgumentException" ["java/lang/RuntimeException", "java/lang/Exception"]).filter goodWord)
def wsL_allows_r1 : List Cond := [Cond.classLink RL 13 "java/lang/IllegalArgumentException", Cond.methodLink RL 32 yX4_allows, Cond.instanceMethod yX4_allows, Cond.selects RX4 yX4_allows yX4_allows, Cond.initialized RX4, Cond.code yX4_allows cX4_allows 3 (some .boolean), Cond.classLink RX4 52 "java/lang/IllegalArgumentException", Cond.initialized "java/lang/IllegalArgumentException", Cond.methodLink RX4 48 yX4_isOutside, Cond.static yX4_isOutside, Cond.code yX4_isOutside cX4_isOutside 2 (some .boolean), Cond.methodLink RX4 97 yX4_answerOfHouse, Cond.instanceMethod yX4_answerOfHouse, Cond.selects RX4 yX4_answerOfHouse yX4_answerOfHouse, Cond.code yX4_answerOfHouse cX4_answerOfHouse 4 (some .int), Cond.fieldLink RX4 10 "SignOnHouse" "groups" "LSignOnHouse$Groups;", Cond.methodLink RX4 103 yX4_isBarred, Cond.instanceMethod yX4_isBarred, Cond.selects RX4 yX4_isBarred yX4_isBarred, Cond.code yX4_isBarred cX4_isBarred 2 (some .boolean), Cond.fieldLink RX4 37 "SignOnHouse" "risks" "[I", Cond.methodLink RX4 202 yX1_anyGrants, Cond.instanceMethod yX1_anyGrants, Cond.selects RX1 yX1_anyGrants yX1_anyGrants]
def wsL_allows_r2 : List Cond := [Cond.initialized RX1, Cond.code yX1_anyGrants cX1_anyGrants 3 (some .boolean), Cond.fieldLink RX1 9 "SignOnHouse$Groups" "homesOfPerson" "[I", Cond.fieldLink RX1 18 "SignOnHouse$Groups" "grantedOfRole" "[I", Cond.methodLink RX1 36 yX1_allAround, Cond.instanceMethod yX1_allAround, Cond.selects RX1 yX1_allAround yX1_allAround, Cond.code yX1_allAround cX1_allAround 4 (some .int), Cond.methodLink RX1 40 yX1_oneLinkFurther, Cond.instanceMethod yX1_oneLinkFurther, Cond.selects RX1 yX1_oneLinkFurther yX1_oneLinkFurther, Cond.code yX1_oneLinkFurther cX1_oneLinkFurther 4 (some .int), Cond.fieldLink RX1 15 "SignOnHouse$Groups" "homesOfGroup" "[I", Cond.methodLink RX1 24 yX1_contains, Cond.static yX1_contains, Cond.code yX1_contains cX1_contains 2 (some .boolean), Cond.methodLink RX4 205 yX1_anyDenies, Cond.instanceMethod yX1_anyDenies, Cond.selects RX1 yX1_anyDenies yX1_anyDenies, Cond.code yX1_anyDenies cX1_anyDenies 3 (some .boolean), Cond.fieldLink RX1 21 "SignOnHouse$Groups" "deniedOfRole" "[I", Cond.methodLink RX4 208 yX4_holdsGlass, Cond.instanceMethod yX4_holdsGlass, Cond.selects RX4 yX4_holdsGlass yX4_holdsGlass]
def wsL_allows_r3 : List Cond := [Cond.code yX4_holdsGlass cX4_holdsGlass 3 (some .boolean), Cond.fieldLink RX4 44 "SignOnHouse" "minute" "I", Cond.fieldLink RX4 41 "SignOnHouse" "glassEnds" "[I"]
def wsL_allows : List Cond := .codeWith yL_allows cL_allows 5 (some .int) [(0, 17, 20, 13)] :: ((wsL_allows_r1 ++ (wsL_allows_r2 ++ wsL_allows_r3)) ++ wsX40 ++ wsX10 ++ (vx_atS RX4 56 "java/lang/IllegalArgumentException" ["java/lang/RuntimeException", "java/lang/Exception"]).filter goodWord)
def wsL_open_r1 : List Cond := [Cond.classLink RL 13 "java/lang/IllegalArgumentException", Cond.classLink RL 18 "java/lang/IllegalStateException", Cond.methodLink RL 35 yX4_open, Cond.instanceMethod yX4_open, Cond.selects RX4 yX4_open yX4_open, Cond.initialized RX4, Cond.code yX4_open cX4_open 2 (some .int), Cond.classLink RX4 52 "java/lang/IllegalArgumentException", Cond.initialized "java/lang/IllegalArgumentException", Cond.classLink RX4 70 "java/lang/IllegalStateException", Cond.initialized "java/lang/IllegalStateException", Cond.fieldLink RX4 19 "SignOnHouse" "sessions" "LSignOnHouse$Sessions;", Cond.fieldLink RX4 26 "SignOnHouse" "keys" "LSignOnHouse$Keys;", Cond.fieldLink RX4 44 "SignOnHouse" "minute" "I", Cond.methodLink RX4 48 yX4_isOutside, Cond.static yX4_isOutside, Cond.code yX4_isOutside cX4_isOutside 2 (some .boolean), Cond.methodLink RX4 103 yX4_isBarred, Cond.instanceMethod yX4_isBarred, Cond.selects RX4 yX4_isBarred yX4_isBarred, Cond.code yX4_isBarred cX4_isBarred 2 (some .boolean), Cond.fieldLink RX4 37 "SignOnHouse" "risks" "[I", Cond.methodLink RX4 109 yX3_areAllOpened, Cond.instanceMethod yX3_areAllOpened]
def wsL_open_r2 : List Cond := [Cond.selects RX3 yX3_areAllOpened yX3_areAllOpened, Cond.initialized RX3, Cond.code yX3_areAllOpened cX3_areAllOpened 1 (some .boolean), Cond.fieldLink RX3 26 "SignOnHouse$Sessions" "count" "I", Cond.methodLink RX4 115 yX2_signing, Cond.instanceMethod yX2_signing, Cond.selects RX2 yX2_signing yX2_signing, Cond.initialized RX2, Cond.code yX2_signing cX2_signing 1 (some .int), Cond.fieldLink RX2 7 "SignOnHouse$Keys" "signing" "I", Cond.methodLink RX4 119 yX3_add, Cond.instanceMethod yX3_add, Cond.selects RX3 yX3_add yX3_add, Cond.code yX3_add cX3_add 5 (some .int), Cond.fieldLink RX3 9 "SignOnHouse$Sessions" "people" "[I", Cond.fieldLink RX3 13 "SignOnHouse$Sessions" "signedWith" "[I", Cond.fieldLink RX3 16 "SignOnHouse$Sessions" "openedAt" "[I", Cond.fieldLink RX3 19 "SignOnHouse$Sessions" "usedAt" "[I"]
def wsL_open : List Cond := .codeWith yL_open cL_open 4 (some .int) [(0, 9, 12, 13), (0, 9, 15, 18)] :: ((wsL_open_r1 ++ wsL_open_r2) ++ wsX40 ++ wsX30 ++ wsX20 ++ (vx_atS RX4 56 "java/lang/IllegalArgumentException" ["java/lang/RuntimeException", "java/lang/Exception"]).filter goodWord ++ (vx_atS RX4 74 "java/lang/IllegalStateException" ["java/lang/RuntimeException", "java/lang/Exception"]).filter goodWord)
def wsL_close_r1 : List Cond := [Cond.classLink RL 42 "java/lang/IndexOutOfBoundsException", Cond.classLink RL 18 "java/lang/IllegalStateException", Cond.methodLink RL 39 yX4_close, Cond.instanceMethod yX4_close, Cond.selects RX4 yX4_close yX4_close, Cond.initialized RX4, Cond.code yX4_close cX4_close 2 (some .int), Cond.classLink RX4 125 "java/lang/IndexOutOfBoundsException", Cond.initialized "java/lang/IndexOutOfBoundsException", Cond.classLink RX4 70 "java/lang/IllegalStateException", Cond.initialized "java/lang/IllegalStateException", Cond.fieldLink RX4 19 "SignOnHouse" "sessions" "LSignOnHouse$Sessions;", Cond.fieldLink RX4 44 "SignOnHouse" "minute" "I", Cond.methodLink RX4 122 yX3_has, Cond.instanceMethod yX3_has, Cond.selects RX3 yX3_has yX3_has, Cond.initialized RX3, Cond.code yX3_has cX3_has 2 (some .boolean), Cond.fieldLink RX3 26 "SignOnHouse$Sessions" "count" "I", Cond.methodLink RX4 130 yX3_isOver, Cond.instanceMethod yX3_isOver, Cond.selects RX3 yX3_isOver yX3_isOver, Cond.code yX3_isOver cX3_isOver 2 (some .boolean), Cond.fieldLink RX3 22 "SignOnHouse$Sessions" "over" "[Z"]
def wsL_close_r2 : List Cond := [Cond.methodLink RX4 135 yX3_end, Cond.instanceMethod yX3_end, Cond.selects RX3 yX3_end yX3_end, Cond.code yX3_end cX3_end 2 none, Cond.methodLink RX4 139 yX3_age, Cond.instanceMethod yX3_age, Cond.selects RX3 yX3_age yX3_age, Cond.code yX3_age cX3_age 3 (some .int), Cond.fieldLink RX3 16 "SignOnHouse$Sessions" "openedAt" "[I"]
def wsL_close : List Cond := .codeWith yL_close cL_close 4 (some .int) [(0, 9, 12, 42), (0, 9, 15, 18)] :: ((wsL_close_r1 ++ wsL_close_r2) ++ wsX40 ++ wsX30 ++ (vx_atS RX4 129 "java/lang/IndexOutOfBoundsException" ["java/lang/RuntimeException", "java/lang/Exception"]).filter goodWord ++ (vx_atS RX4 74 "java/lang/IllegalStateException" ["java/lang/RuntimeException", "java/lang/Exception"]).filter goodWord)
def wsL_goesOn : List Cond := .codeWith yL_goesOn cL_goesOn 4 (some .int) [(0, 16, 19, 42)] :: ([.classLink RL 42 "java/lang/IndexOutOfBoundsException", .methodLink RL 44 yX4_goesOn, .instanceMethod yX4_goesOn, .selects RX4 yX4_goesOn yX4_goesOn, .initialized RX4, .code yX4_goesOn cX4_goesOn 2 (some .boolean), .classLink RX4 125 "java/lang/IndexOutOfBoundsException", .initialized "java/lang/IndexOutOfBoundsException", .fieldLink RX4 19 "SignOnHouse" "sessions" "LSignOnHouse$Sessions;", .methodLink RX4 122 yX3_has, .instanceMethod yX3_has, .selects RX3 yX3_has yX3_has, .initialized RX3, .code yX3_has cX3_has 2 (some .boolean), .fieldLink RX3 26 "SignOnHouse$Sessions" "count" "I", .methodLink RX4 130 yX3_isOver, .instanceMethod yX3_isOver, .selects RX3 yX3_isOver yX3_isOver, .code yX3_isOver cX3_isOver 2 (some .boolean), .fieldLink RX3 22 "SignOnHouse$Sessions" "over" "[Z"] ++ wsX40 ++ wsX30 ++ (vx_atS RX4 129 "java/lang/IndexOutOfBoundsException" ["java/lang/RuntimeException", "java/lang/Exception"]).filter goodWord)
def wsL_changeKeys_r1 : List Cond := [Cond.classLink RL 13 "java/lang/IllegalArgumentException", Cond.methodLink RL 48 yX4_changeKeys, Cond.instanceMethod yX4_changeKeys, Cond.selects RX4 yX4_changeKeys yX4_changeKeys, Cond.initialized RX4, Cond.code yX4_changeKeys cX4_changeKeys 2 (some .int), Cond.classLink RX4 52 "java/lang/IllegalArgumentException", Cond.initialized "java/lang/IllegalArgumentException", Cond.fieldLink RX4 26 "SignOnHouse" "keys" "LSignOnHouse$Keys;", Cond.fieldLink RX4 44 "SignOnHouse" "minute" "I", Cond.fieldLink RX4 19 "SignOnHouse" "sessions" "LSignOnHouse$Sessions;", Cond.fieldLink RX4 37 "SignOnHouse" "risks" "[I", Cond.methodLink RX4 144 yX2_signWithNext, Cond.instanceMethod yX2_signWithNext, Cond.selects RX2 yX2_signWithNext yX2_signWithNext, Cond.initialized RX2, Cond.code yX2_signWithNext cX2_signWithNext 2 none, Cond.fieldLink RX2 7 "SignOnHouse$Keys" "signing" "I", Cond.fieldLink RX2 13 "SignOnHouse$Keys" "endOfBefore" "I", Cond.methodLink RX4 147 yX3_endDue, Cond.instanceMethod yX3_endDue, Cond.selects RX3 yX3_endDue yX3_endDue, Cond.initialized RX3, Cond.code yX3_endDue cX3_endDue 6 (some .int)]
def wsL_changeKeys_r2 : List Cond := [Cond.fieldLink RX3 26 "SignOnHouse$Sessions" "count" "I", Cond.fieldLink RX3 22 "SignOnHouse$Sessions" "over" "[Z", Cond.fieldLink RX3 9 "SignOnHouse$Sessions" "people" "[I", Cond.methodLink RX3 34 yX3_isDue, Cond.instanceMethod yX3_isDue, Cond.selects RX3 yX3_isDue yX3_isDue, Cond.code yX3_isDue cX3_isDue 5 (some .boolean), Cond.fieldLink RX3 19 "SignOnHouse$Sessions" "usedAt" "[I", Cond.fieldLink RX3 13 "SignOnHouse$Sessions" "signedWith" "[I", Cond.methodLink RX3 38 yX3_age, Cond.instanceMethod yX3_age, Cond.selects RX3 yX3_age yX3_age, Cond.code yX3_age cX3_age 3 (some .int), Cond.fieldLink RX3 16 "SignOnHouse$Sessions" "openedAt" "[I", Cond.methodLink RX3 42 yX2_takes, Cond.instanceMethod yX2_takes, Cond.selects RX2 yX2_takes yX2_takes, Cond.code yX2_takes cX2_takes 3 (some .boolean), Cond.methodLink RX3 30 yX3_end, Cond.instanceMethod yX3_end, Cond.selects RX3 yX3_end yX3_end, Cond.code yX3_end cX3_end 2 none, Cond.methodLink RX4 115 yX2_signing, Cond.instanceMethod yX2_signing]
def wsL_changeKeys_r3 : List Cond := [Cond.selects RX2 yX2_signing yX2_signing, Cond.code yX2_signing cX2_signing 1 (some .int)]
def wsL_changeKeys : List Cond := .codeWith yL_changeKeys cL_changeKeys 4 (some .int) [(0, 9, 12, 13)] :: ((wsL_changeKeys_r1 ++ (wsL_changeKeys_r2 ++ wsL_changeKeys_r3)) ++ wsX40 ++ wsX20 ++ wsX30 ++ (vx_atS RX4 56 "java/lang/IllegalArgumentException" ["java/lang/RuntimeException", "java/lang/Exception"]).filter goodWord)
def wsL_isTaken : List Cond := .codeWith yL_isTaken cL_isTaken 4 (some .int) [(0, 16, 19, 13)] :: ([.classLink RL 13 "java/lang/IllegalArgumentException", .methodLink RL 51 yX4_isTaken, .instanceMethod yX4_isTaken, .selects RX4 yX4_isTaken yX4_isTaken, .initialized RX4, .code yX4_isTaken cX4_isTaken 2 (some .boolean), .classLink RX4 52 "java/lang/IllegalArgumentException", .initialized "java/lang/IllegalArgumentException", .fieldLink RX4 26 "SignOnHouse" "keys" "LSignOnHouse$Keys;", .fieldLink RX4 44 "SignOnHouse" "minute" "I", .methodLink RX4 115 yX2_signing, .instanceMethod yX2_signing, .selects RX2 yX2_signing yX2_signing, .initialized RX2, .code yX2_signing cX2_signing 1 (some .int), .fieldLink RX2 7 "SignOnHouse$Keys" "signing" "I", .methodLink RX4 153 yX2_takes, .instanceMethod yX2_takes, .selects RX2 yX2_takes yX2_takes, .code yX2_takes cX2_takes 3 (some .boolean), .fieldLink RX2 13 "SignOnHouse$Keys" "endOfBefore" "I"] ++ wsX40 ++ wsX20 ++ (vx_atS RX4 56 "java/lang/IllegalArgumentException" ["java/lang/RuntimeException", "java/lang/Exception"]).filter goodWord)
def wsL_pass_r1 : List Cond := [Cond.classLink RL 13 "java/lang/IllegalArgumentException", Cond.methodLink RL 54 yX4_pass, Cond.instanceMethod yX4_pass, Cond.selects RX4 yX4_pass yX4_pass, Cond.initialized RX4, Cond.code yX4_pass cX4_pass 2 (some .int), Cond.classLink RX4 52 "java/lang/IllegalArgumentException", Cond.initialized "java/lang/IllegalArgumentException", Cond.fieldLink RX4 44 "SignOnHouse" "minute" "I", Cond.fieldLink RX4 33 "SignOnHouse" "decisions" "LSignOnHouse$Decisions;", Cond.fieldLink RX4 19 "SignOnHouse" "sessions" "LSignOnHouse$Sessions;", Cond.fieldLink RX4 37 "SignOnHouse" "risks" "[I", Cond.fieldLink RX4 26 "SignOnHouse" "keys" "LSignOnHouse$Keys;", Cond.methodLink RX4 156 yX0_dropDueOfAll, Cond.instanceMethod yX0_dropDueOfAll, Cond.selects RX0 yX0_dropDueOfAll yX0_dropDueOfAll, Cond.initialized RX0, Cond.code yX0_dropDueOfAll cX0_dropDueOfAll 3 none, Cond.methodLink RX0 35 yX0_dropDue, Cond.instanceMethod yX0_dropDue, Cond.selects RX0 yX0_dropDue yX0_dropDue, Cond.code yX0_dropDue cX0_dropDue 5 none, Cond.fieldLink RX0 18 "SignOnHouse$Decisions" "keptSince" "[I", Cond.fieldLink RX0 9 "SignOnHouse$Decisions" "caches" "[I"]
def wsL_pass_r2 : List Cond := [Cond.fieldLink RX0 15 "SignOnHouse$Decisions" "answers" "[I", Cond.methodLink RX0 27 yX0_place, Cond.static yX0_place, Cond.code yX0_place cX0_place 3 (some .int), Cond.methodLink RX4 147 yX3_endDue, Cond.instanceMethod yX3_endDue, Cond.selects RX3 yX3_endDue yX3_endDue, Cond.initialized RX3, Cond.code yX3_endDue cX3_endDue 6 (some .int), Cond.fieldLink RX3 26 "SignOnHouse$Sessions" "count" "I", Cond.fieldLink RX3 22 "SignOnHouse$Sessions" "over" "[Z", Cond.fieldLink RX3 9 "SignOnHouse$Sessions" "people" "[I", Cond.methodLink RX3 34 yX3_isDue, Cond.instanceMethod yX3_isDue, Cond.selects RX3 yX3_isDue yX3_isDue, Cond.code yX3_isDue cX3_isDue 5 (some .boolean), Cond.fieldLink RX3 19 "SignOnHouse$Sessions" "usedAt" "[I", Cond.fieldLink RX3 13 "SignOnHouse$Sessions" "signedWith" "[I", Cond.methodLink RX3 38 yX3_age, Cond.instanceMethod yX3_age, Cond.selects RX3 yX3_age yX3_age, Cond.code yX3_age cX3_age 3 (some .int), Cond.fieldLink RX3 16 "SignOnHouse$Sessions" "openedAt" "[I", Cond.methodLink RX3 42 yX2_takes]
def wsL_pass_r3 : List Cond := [Cond.instanceMethod yX2_takes, Cond.selects RX2 yX2_takes yX2_takes, Cond.initialized RX2, Cond.code yX2_takes cX2_takes 3 (some .boolean), Cond.fieldLink RX2 7 "SignOnHouse$Keys" "signing" "I", Cond.fieldLink RX2 13 "SignOnHouse$Keys" "endOfBefore" "I", Cond.methodLink RX3 30 yX3_end, Cond.instanceMethod yX3_end, Cond.selects RX3 yX3_end yX3_end, Cond.code yX3_end cX3_end 2 none]
def wsL_pass : List Cond := .codeWith yL_pass cL_pass 4 (some .int) [(0, 9, 12, 13)] :: ((wsL_pass_r1 ++ (wsL_pass_r2 ++ wsL_pass_r3)) ++ wsX40 ++ wsX00 ++ wsX30 ++ wsX20 ++ (vx_atS RX4 56 "java/lang/IllegalArgumentException" ["java/lang/RuntimeException", "java/lang/Exception"]).filter goodWord)
def wsL_breakGlass_r1 : List Cond := [Cond.classLink RL 13 "java/lang/IllegalArgumentException", Cond.classLink RL 18 "java/lang/IllegalStateException", Cond.methodLink RL 57 yX4_breakGlass, Cond.instanceMethod yX4_breakGlass, Cond.selects RX4 yX4_breakGlass yX4_breakGlass, Cond.initialized RX4, Cond.code yX4_breakGlass cX4_breakGlass 6 (some .int), Cond.classLink RX4 52 "java/lang/IllegalArgumentException", Cond.initialized "java/lang/IllegalArgumentException", Cond.classLink RX4 70 "java/lang/IllegalStateException", Cond.initialized "java/lang/IllegalStateException", Cond.fieldLink RX4 44 "SignOnHouse" "minute" "I", Cond.fieldLink RX4 41 "SignOnHouse" "glassEnds" "[I", Cond.methodLink RX4 48 yX4_isOutside, Cond.static yX4_isOutside, Cond.code yX4_isOutside cX4_isOutside 2 (some .boolean), Cond.methodLink RX4 163 yX4_servesAsWitness, Cond.instanceMethod yX4_servesAsWitness, Cond.selects RX4 yX4_servesAsWitness yX4_servesAsWitness, Cond.code yX4_servesAsWitness cX4_servesAsWitness 3 (some .boolean), Cond.fieldLink RX4 10 "SignOnHouse" "groups" "LSignOnHouse$Groups;", Cond.methodLink RX4 103 yX4_isBarred, Cond.instanceMethod yX4_isBarred, Cond.selects RX4 yX4_isBarred yX4_isBarred]
def wsL_breakGlass_r2 : List Cond := [Cond.code yX4_isBarred cX4_isBarred 2 (some .boolean), Cond.fieldLink RX4 37 "SignOnHouse" "risks" "[I", Cond.methodLink RX4 202 yX1_anyGrants, Cond.instanceMethod yX1_anyGrants, Cond.selects RX1 yX1_anyGrants yX1_anyGrants, Cond.initialized RX1, Cond.code yX1_anyGrants cX1_anyGrants 3 (some .boolean), Cond.fieldLink RX1 9 "SignOnHouse$Groups" "homesOfPerson" "[I", Cond.fieldLink RX1 18 "SignOnHouse$Groups" "grantedOfRole" "[I", Cond.methodLink RX1 36 yX1_allAround, Cond.instanceMethod yX1_allAround, Cond.selects RX1 yX1_allAround yX1_allAround, Cond.code yX1_allAround cX1_allAround 4 (some .int), Cond.methodLink RX1 40 yX1_oneLinkFurther, Cond.instanceMethod yX1_oneLinkFurther, Cond.selects RX1 yX1_oneLinkFurther yX1_oneLinkFurther, Cond.code yX1_oneLinkFurther cX1_oneLinkFurther 4 (some .int), Cond.fieldLink RX1 15 "SignOnHouse$Groups" "homesOfGroup" "[I", Cond.methodLink RX1 24 yX1_contains, Cond.static yX1_contains, Cond.code yX1_contains cX1_contains 2 (some .boolean)]
def wsL_breakGlass : List Cond := .codeWith yL_breakGlass cL_breakGlass 7 (some .int) [(0, 14, 17, 13), (0, 14, 21, 18)] :: ((wsL_breakGlass_r1 ++ wsL_breakGlass_r2) ++ wsX40 ++ wsX10 ++ (vx_atS RX4 56 "java/lang/IllegalArgumentException" ["java/lang/RuntimeException", "java/lang/Exception"]).filter goodWord ++ (vx_atS RX4 74 "java/lang/IllegalStateException" ["java/lang/RuntimeException", "java/lang/Exception"]).filter goodWord)
def wsL_setCache_r1 : List Cond := [Cond.classLink RL 13 "java/lang/IllegalArgumentException", Cond.methodLink RL 61 yX4_setCache, Cond.instanceMethod yX4_setCache, Cond.selects RX4 yX4_setCache yX4_setCache, Cond.initialized RX4, Cond.code yX4_setCache cX4_setCache 4 (some .int), Cond.classLink RX4 52 "java/lang/IllegalArgumentException", Cond.initialized "java/lang/IllegalArgumentException", Cond.fieldLink RX4 33 "SignOnHouse" "decisions" "LSignOnHouse$Decisions;", Cond.fieldLink RX4 44 "SignOnHouse" "minute" "I", Cond.methodLink RX4 48 yX4_isOutside, Cond.static yX4_isOutside, Cond.code yX4_isOutside cX4_isOutside 2 (some .boolean), Cond.methodLink RX4 170 yX0_cacheOf, Cond.instanceMethod yX0_cacheOf, Cond.selects RX0 yX0_cacheOf yX0_cacheOf, Cond.initialized RX0, Cond.code yX0_cacheOf cX0_cacheOf 2 (some .int), Cond.fieldLink RX0 9 "SignOnHouse$Decisions" "caches" "[I", Cond.methodLink RX4 173 yX0_allowCache, Cond.instanceMethod yX0_allowCache, Cond.selects RX0 yX0_allowCache yX0_allowCache, Cond.code yX0_allowCache cX0_allowCache 3 none, Cond.methodLink RX4 177 yX0_dropDue]
def wsL_setCache_r2 : List Cond := [Cond.instanceMethod yX0_dropDue, Cond.selects RX0 yX0_dropDue yX0_dropDue, Cond.code yX0_dropDue cX0_dropDue 5 none, Cond.fieldLink RX0 18 "SignOnHouse$Decisions" "keptSince" "[I", Cond.fieldLink RX0 15 "SignOnHouse$Decisions" "answers" "[I", Cond.methodLink RX0 27 yX0_place, Cond.static yX0_place, Cond.code yX0_place cX0_place 3 (some .int)]
def wsL_setCache : List Cond := .codeWith yL_setCache cL_setCache 5 (some .int) [(0, 10, 13, 13)] :: ((wsL_setCache_r1 ++ wsL_setCache_r2) ++ wsX40 ++ wsX00 ++ (vx_atS RX4 56 "java/lang/IllegalArgumentException" ["java/lang/RuntimeException", "java/lang/Exception"]).filter goodWord)
def wsL_decide_r1 : List Cond := [Cond.classLink RL 13 "java/lang/IllegalArgumentException", Cond.classLink RL 42 "java/lang/IndexOutOfBoundsException", Cond.methodLink RL 64 yX4_decide, Cond.instanceMethod yX4_decide, Cond.selects RX4 yX4_decide yX4_decide, Cond.initialized RX4, Cond.code yX4_decide cX4_decide 4 (some .int), Cond.classLink RX4 52 "java/lang/IllegalArgumentException", Cond.initialized "java/lang/IllegalArgumentException", Cond.classLink RX4 125 "java/lang/IndexOutOfBoundsException", Cond.initialized "java/lang/IndexOutOfBoundsException", Cond.fieldLink RX4 19 "SignOnHouse" "sessions" "LSignOnHouse$Sessions;", Cond.fieldLink RX4 44 "SignOnHouse" "minute" "I", Cond.methodLink RX4 48 yX4_isOutside, Cond.static yX4_isOutside, Cond.code yX4_isOutside cX4_isOutside 2 (some .boolean), Cond.methodLink RX4 122 yX3_has, Cond.instanceMethod yX3_has, Cond.selects RX3 yX3_has yX3_has, Cond.initialized RX3, Cond.code yX3_has cX3_has 2 (some .boolean), Cond.fieldLink RX3 26 "SignOnHouse$Sessions" "count" "I", Cond.methodLink RX4 130 yX3_isOver, Cond.instanceMethod yX3_isOver]
def wsL_decide_r2 : List Cond := [Cond.selects RX3 yX3_isOver yX3_isOver, Cond.code yX3_isOver cX3_isOver 2 (some .boolean), Cond.fieldLink RX3 22 "SignOnHouse$Sessions" "over" "[Z", Cond.methodLink RX4 182 yX3_use, Cond.instanceMethod yX3_use, Cond.selects RX3 yX3_use yX3_use, Cond.code yX3_use cX3_use 3 none, Cond.fieldLink RX3 19 "SignOnHouse$Sessions" "usedAt" "[I", Cond.methodLink RX4 185 yX3_personOf, Cond.instanceMethod yX3_personOf, Cond.selects RX3 yX3_personOf yX3_personOf, Cond.code yX3_personOf cX3_personOf 2 (some .int), Cond.fieldLink RX3 9 "SignOnHouse$Sessions" "people" "[I", Cond.methodLink RX4 188 yX4_answerOfApp, Cond.instanceMethod yX4_answerOfApp, Cond.selects RX4 yX4_answerOfApp yX4_answerOfApp, Cond.code yX4_answerOfApp cX4_answerOfApp 5 (some .int), Cond.fieldLink RX4 33 "SignOnHouse" "decisions" "LSignOnHouse$Decisions;", Cond.methodLink RX4 211 yX0_areKept, Cond.instanceMethod yX0_areKept, Cond.selects RX0 yX0_areKept yX0_areKept, Cond.initialized RX0, Cond.code yX0_areKept cX0_areKept 4 (some .boolean), Cond.fieldLink RX0 15 "SignOnHouse$Decisions" "answers" "[I"]
def wsL_decide_r3 : List Cond := [Cond.methodLink RX0 27 yX0_place, Cond.static yX0_place, Cond.code yX0_place cX0_place 3 (some .int), Cond.methodLink RX4 214 yX0_answer, Cond.instanceMethod yX0_answer, Cond.selects RX0 yX0_answer yX0_answer, Cond.code yX0_answer cX0_answer 4 (some .int), Cond.methodLink RX4 97 yX4_answerOfHouse, Cond.instanceMethod yX4_answerOfHouse, Cond.selects RX4 yX4_answerOfHouse yX4_answerOfHouse, Cond.code yX4_answerOfHouse cX4_answerOfHouse 4 (some .int), Cond.fieldLink RX4 10 "SignOnHouse" "groups" "LSignOnHouse$Groups;", Cond.methodLink RX4 103 yX4_isBarred, Cond.instanceMethod yX4_isBarred, Cond.selects RX4 yX4_isBarred yX4_isBarred, Cond.code yX4_isBarred cX4_isBarred 2 (some .boolean), Cond.fieldLink RX4 37 "SignOnHouse" "risks" "[I", Cond.methodLink RX4 202 yX1_anyGrants, Cond.instanceMethod yX1_anyGrants, Cond.selects RX1 yX1_anyGrants yX1_anyGrants, Cond.initialized RX1, Cond.code yX1_anyGrants cX1_anyGrants 3 (some .boolean), Cond.fieldLink RX1 9 "SignOnHouse$Groups" "homesOfPerson" "[I", Cond.fieldLink RX1 18 "SignOnHouse$Groups" "grantedOfRole" "[I"]
def wsL_decide_r4 : List Cond := [Cond.methodLink RX1 36 yX1_allAround, Cond.instanceMethod yX1_allAround, Cond.selects RX1 yX1_allAround yX1_allAround, Cond.code yX1_allAround cX1_allAround 4 (some .int), Cond.methodLink RX1 40 yX1_oneLinkFurther, Cond.instanceMethod yX1_oneLinkFurther, Cond.selects RX1 yX1_oneLinkFurther yX1_oneLinkFurther, Cond.code yX1_oneLinkFurther cX1_oneLinkFurther 4 (some .int), Cond.fieldLink RX1 15 "SignOnHouse$Groups" "homesOfGroup" "[I", Cond.methodLink RX1 24 yX1_contains, Cond.static yX1_contains, Cond.code yX1_contains cX1_contains 2 (some .boolean), Cond.methodLink RX4 205 yX1_anyDenies, Cond.instanceMethod yX1_anyDenies, Cond.selects RX1 yX1_anyDenies yX1_anyDenies, Cond.code yX1_anyDenies cX1_anyDenies 3 (some .boolean), Cond.fieldLink RX1 21 "SignOnHouse$Groups" "deniedOfRole" "[I", Cond.methodLink RX4 208 yX4_holdsGlass, Cond.instanceMethod yX4_holdsGlass, Cond.selects RX4 yX4_holdsGlass yX4_holdsGlass, Cond.code yX4_holdsGlass cX4_holdsGlass 3 (some .boolean), Cond.fieldLink RX4 41 "SignOnHouse" "glassEnds" "[I", Cond.methodLink RX4 217 yX0_keep, Cond.instanceMethod yX0_keep]
def wsL_decide_r5 : List Cond := [Cond.selects RX0 yX0_keep yX0_keep, Cond.code yX0_keep cX0_keep 6 none, Cond.fieldLink RX0 9 "SignOnHouse$Decisions" "caches" "[I", Cond.fieldLink RX0 18 "SignOnHouse$Decisions" "keptSince" "[I"]
def wsL_decide : List Cond := .codeWith yL_decide cL_decide 6 (some .int) [(0, 12, 15, 13), (0, 12, 19, 42)] :: ((wsL_decide_r1 ++ (wsL_decide_r2 ++ (wsL_decide_r3 ++ (wsL_decide_r4 ++ wsL_decide_r5)))) ++ wsX40 ++ wsX30 ++ wsX00 ++ wsX10 ++ (vx_atS RX4 56 "java/lang/IllegalArgumentException" ["java/lang/RuntimeException", "java/lang/Exception"]).filter goodWord ++ (vx_atS RX4 129 "java/lang/IndexOutOfBoundsException" ["java/lang/RuntimeException", "java/lang/Exception"]).filter goodWord)
def wsL_forget_r1 : List Cond := [Cond.classLink RL 13 "java/lang/IllegalArgumentException", Cond.methodLink RL 67 yX4_forget, Cond.instanceMethod yX4_forget, Cond.selects RX4 yX4_forget yX4_forget, Cond.initialized RX4, Cond.code yX4_forget cX4_forget 3 (some .int), Cond.classLink RX4 52 "java/lang/IllegalArgumentException", Cond.initialized "java/lang/IllegalArgumentException", Cond.fieldLink RX4 33 "SignOnHouse" "decisions" "LSignOnHouse$Decisions;", Cond.methodLink RX4 48 yX4_isOutside, Cond.static yX4_isOutside, Cond.code yX4_isOutside cX4_isOutside 2 (some .boolean), Cond.methodLink RX4 193 yX0_dropAllOf, Cond.instanceMethod yX0_dropAllOf, Cond.selects RX0 yX0_dropAllOf yX0_dropAllOf, Cond.initialized RX0, Cond.code yX0_dropAllOf cX0_dropAllOf 5 (some .int), Cond.fieldLink RX0 15 "SignOnHouse$Decisions" "answers" "[I", Cond.methodLink RX0 31 yX0_areKept, Cond.instanceMethod yX0_areKept, Cond.selects RX0 yX0_areKept yX0_areKept, Cond.code yX0_areKept cX0_areKept 4 (some .boolean), Cond.methodLink RX0 27 yX0_place, Cond.static yX0_place]
def wsL_forget_r2 : List Cond := [Cond.code yX0_place cX0_place 3 (some .int)]
def wsL_forget : List Cond := .codeWith yL_forget cL_forget 5 (some .int) [(0, 10, 13, 13)] :: ((wsL_forget_r1 ++ wsL_forget_r2) ++ wsX40 ++ wsX00 ++ (vx_atS RX4 56 "java/lang/IllegalArgumentException" ["java/lang/RuntimeException", "java/lang/Exception"]).filter goodWord)
def wsL_stale_r1 : List Cond := [Cond.classLink RL 13 "java/lang/IllegalArgumentException", Cond.methodLink RL 70 yX4_stale, Cond.instanceMethod yX4_stale, Cond.selects RX4 yX4_stale yX4_stale, Cond.initialized RX4, Cond.code yX4_stale cX4_stale 5 (some .int), Cond.classLink RX4 52 "java/lang/IllegalArgumentException", Cond.initialized "java/lang/IllegalArgumentException", Cond.methodLink RX4 48 yX4_isOutside, Cond.static yX4_isOutside, Cond.code yX4_isOutside cX4_isOutside 2 (some .boolean), Cond.methodLink RX4 198 yX4_isStale, Cond.instanceMethod yX4_isStale, Cond.selects RX4 yX4_isStale yX4_isStale, Cond.code yX4_isStale cX4_isStale 4 (some .boolean), Cond.fieldLink RX4 33 "SignOnHouse" "decisions" "LSignOnHouse$Decisions;", Cond.methodLink RX4 211 yX0_areKept, Cond.instanceMethod yX0_areKept, Cond.selects RX0 yX0_areKept yX0_areKept, Cond.initialized RX0, Cond.code yX0_areKept cX0_areKept 4 (some .boolean), Cond.fieldLink RX0 15 "SignOnHouse$Decisions" "answers" "[I", Cond.methodLink RX0 27 yX0_place, Cond.static yX0_place]
def wsL_stale_r2 : List Cond := [Cond.code yX0_place cX0_place 3 (some .int), Cond.methodLink RX4 214 yX0_answer, Cond.instanceMethod yX0_answer, Cond.selects RX0 yX0_answer yX0_answer, Cond.code yX0_answer cX0_answer 4 (some .int), Cond.methodLink RX4 97 yX4_answerOfHouse, Cond.instanceMethod yX4_answerOfHouse, Cond.selects RX4 yX4_answerOfHouse yX4_answerOfHouse, Cond.code yX4_answerOfHouse cX4_answerOfHouse 4 (some .int), Cond.fieldLink RX4 10 "SignOnHouse" "groups" "LSignOnHouse$Groups;", Cond.methodLink RX4 103 yX4_isBarred, Cond.instanceMethod yX4_isBarred, Cond.selects RX4 yX4_isBarred yX4_isBarred, Cond.code yX4_isBarred cX4_isBarred 2 (some .boolean), Cond.fieldLink RX4 37 "SignOnHouse" "risks" "[I", Cond.methodLink RX4 202 yX1_anyGrants, Cond.instanceMethod yX1_anyGrants, Cond.selects RX1 yX1_anyGrants yX1_anyGrants, Cond.initialized RX1, Cond.code yX1_anyGrants cX1_anyGrants 3 (some .boolean), Cond.fieldLink RX1 9 "SignOnHouse$Groups" "homesOfPerson" "[I", Cond.fieldLink RX1 18 "SignOnHouse$Groups" "grantedOfRole" "[I", Cond.methodLink RX1 36 yX1_allAround, Cond.instanceMethod yX1_allAround]
def wsL_stale_r3 : List Cond := [Cond.selects RX1 yX1_allAround yX1_allAround, Cond.code yX1_allAround cX1_allAround 4 (some .int), Cond.methodLink RX1 40 yX1_oneLinkFurther, Cond.instanceMethod yX1_oneLinkFurther, Cond.selects RX1 yX1_oneLinkFurther yX1_oneLinkFurther, Cond.code yX1_oneLinkFurther cX1_oneLinkFurther 4 (some .int), Cond.fieldLink RX1 15 "SignOnHouse$Groups" "homesOfGroup" "[I", Cond.methodLink RX1 24 yX1_contains, Cond.static yX1_contains, Cond.code yX1_contains cX1_contains 2 (some .boolean), Cond.methodLink RX4 205 yX1_anyDenies, Cond.instanceMethod yX1_anyDenies, Cond.selects RX1 yX1_anyDenies yX1_anyDenies, Cond.code yX1_anyDenies cX1_anyDenies 3 (some .boolean), Cond.fieldLink RX1 21 "SignOnHouse$Groups" "deniedOfRole" "[I", Cond.methodLink RX4 208 yX4_holdsGlass, Cond.instanceMethod yX4_holdsGlass, Cond.selects RX4 yX4_holdsGlass yX4_holdsGlass, Cond.code yX4_holdsGlass cX4_holdsGlass 3 (some .boolean), Cond.fieldLink RX4 44 "SignOnHouse" "minute" "I", Cond.fieldLink RX4 41 "SignOnHouse" "glassEnds" "[I"]
def wsL_stale : List Cond := .codeWith yL_stale cL_stale 4 (some .int) [(0, 9, 12, 13)] :: ((wsL_stale_r1 ++ (wsL_stale_r2 ++ wsL_stale_r3)) ++ wsX40 ++ wsX00 ++ wsX10 ++ (vx_atS RX4 56 "java/lang/IllegalArgumentException" ["java/lang/RuntimeException", "java/lang/Exception"]).filter goodWord)
def wsL_law0_r1 : List Cond := [Cond.classLink RL 8 RX4, Cond.instantiable RX4 7, Cond.initialized RX4, Cond.classLink RL 74 RX5, Cond.instantiable RX5 17, Cond.initialized RX5, Cond.arrayClass .long, Cond.methodLink RL 73 yX4_init, Cond.instanceMethod yX4_init, Cond.code yX4_init cX4_init 1 none, Cond.methodLink RX4 1 objectInit, Cond.instanceMethod objectInit, Cond.code objectInit ⟨#[0xb1]⟩ 1 none, Cond.classLink RX4 7 RX1, Cond.instantiable RX1 4, Cond.initialized RX1, Cond.fieldLink RX4 10 "SignOnHouse" "groups" "LSignOnHouse$Groups;", Cond.classLink RX4 16 RX3, Cond.instantiable RX3 6, Cond.initialized RX3, Cond.fieldLink RX4 19 "SignOnHouse" "sessions" "LSignOnHouse$Sessions;", Cond.classLink RX4 23 RX2, Cond.instantiable RX2 2, Cond.initialized RX2]
def wsL_law0_r2 : List Cond := [Cond.fieldLink RX4 26 "SignOnHouse" "keys" "LSignOnHouse$Keys;", Cond.classLink RX4 30 RX0, Cond.instantiable RX0 3, Cond.initialized RX0, Cond.fieldLink RX4 33 "SignOnHouse" "decisions" "LSignOnHouse$Decisions;", Cond.arrayClass .int, Cond.fieldLink RX4 37 "SignOnHouse" "risks" "[I", Cond.fieldLink RX4 41 "SignOnHouse" "glassEnds" "[I", Cond.fieldLink RX4 44 "SignOnHouse" "minute" "I", Cond.methodLink RX4 9 yX1_init, Cond.instanceMethod yX1_init, Cond.code yX1_init cX1_init 1 none, Cond.methodLink RX1 3 objectInit, Cond.fieldLink RX1 9 "SignOnHouse$Groups" "homesOfPerson" "[I", Cond.fieldLink RX1 15 "SignOnHouse$Groups" "homesOfGroup" "[I", Cond.fieldLink RX1 18 "SignOnHouse$Groups" "grantedOfRole" "[I", Cond.fieldLink RX1 21 "SignOnHouse$Groups" "deniedOfRole" "[I", Cond.methodLink RX4 18 yX3_init, Cond.instanceMethod yX3_init, Cond.code yX3_init cX3_init 1 none, Cond.methodLink RX3 1 objectInit, Cond.fieldLink RX3 9 "SignOnHouse$Sessions" "people" "[I", Cond.fieldLink RX3 13 "SignOnHouse$Sessions" "signedWith" "[I", Cond.fieldLink RX3 16 "SignOnHouse$Sessions" "openedAt" "[I"]
def wsL_law0_r3 : List Cond := [Cond.fieldLink RX3 19 "SignOnHouse$Sessions" "usedAt" "[I", Cond.arrayClass .boolean, Cond.fieldLink RX3 22 "SignOnHouse$Sessions" "over" "[Z", Cond.fieldLink RX3 26 "SignOnHouse$Sessions" "count" "I", Cond.methodLink RX4 25 yX2_init, Cond.instanceMethod yX2_init, Cond.code yX2_init cX2_init 1 none, Cond.methodLink RX2 1 objectInit, Cond.fieldLink RX2 7 "SignOnHouse$Keys" "signing" "I", Cond.fieldLink RX2 13 "SignOnHouse$Keys" "endOfBefore" "I", Cond.methodLink RX4 32 yX0_init, Cond.instanceMethod yX0_init, Cond.code yX0_init cX0_init 1 none, Cond.methodLink RX0 3 objectInit, Cond.fieldLink RX0 9 "SignOnHouse$Decisions" "caches" "[I", Cond.fieldLink RX0 15 "SignOnHouse$Decisions" "answers" "[I", Cond.fieldLink RX0 18 "SignOnHouse$Decisions" "keptSince" "[I", Cond.methodLink RX0 21 yJ7_fill_53178, Cond.static yJ7_fill_53178, Cond.initialized RJ7, Cond.code yJ7_fill_53178 cJ7_fill_53178 4 none, Cond.methodLink RL 76 yX5_init, Cond.instanceMethod yX5_init, Cond.code yX5_init cX5_init 2 none]
def wsL_law0_r4 : List Cond := [Cond.methodLink RX5 1 objectInit, Cond.fieldLink RX5 7 "SignOnHouseModel" "people" "[I", Cond.fieldLink RX5 13 "SignOnHouseModel" "groups" "[I", Cond.fieldLink RX5 16 "SignOnHouseModel" "roles" "[I", Cond.fieldLink RX5 19 "SignOnHouseModel" "risk" "[I", Cond.fieldLink RX5 22 "SignOnHouseModel" "glass" "[I", Cond.fieldLink RX5 25 "SignOnHouseModel" "who" "[I", Cond.fieldLink RX5 28 "SignOnHouseModel" "signed" "[I", Cond.fieldLink RX5 31 "SignOnHouseModel" "since" "[I", Cond.fieldLink RX5 34 "SignOnHouseModel" "used" "[I", Cond.fieldLink RX5 37 "SignOnHouseModel" "over" "[Z", Cond.fieldLink RX5 41 "SignOnHouseModel" "cache" "[I", Cond.fieldLink RX5 44 "SignOnHouseModel" "kept" "[I", Cond.methodLink RL 77 yL_setPerson, Cond.static yL_setPerson, Cond.initialized RL, Cond.codeWith yL_setPerson cL_setPerson 6 (some .int) [(0, 19, 22, 13)], Cond.classLink RL 13 "java/lang/IllegalArgumentException", Cond.methodLink RL 7 yX4_setPerson, Cond.instanceMethod yX4_setPerson, Cond.selects RX4 yX4_setPerson yX4_setPerson, Cond.code yX4_setPerson cX4_setPerson 4 (some .boolean), Cond.classLink RX4 52 "java/lang/IllegalArgumentException", Cond.initialized "java/lang/IllegalArgumentException"]
def wsL_law0_r5 : List Cond := [Cond.methodLink RX4 48 yX4_isOutside, Cond.static yX4_isOutside, Cond.code yX4_isOutside cX4_isOutside 2 (some .boolean), Cond.methodLink RX4 59 yX1_placePerson, Cond.instanceMethod yX1_placePerson, Cond.selects RX1 yX1_placePerson yX1_placePerson, Cond.code yX1_placePerson cX1_placePerson 5 (some .boolean), Cond.methodLink RX1 24 yX1_contains, Cond.static yX1_contains, Cond.code yX1_contains cX1_contains 2 (some .boolean), Cond.methodLink RX1 28 yX1_changed, Cond.static yX1_changed, Cond.code yX1_changed cX1_changed 3 (some .int), Cond.methodLink RL 82 yX5_setPerson, Cond.instanceMethod yX5_setPerson, Cond.selects RX5 yX5_setPerson yX5_setPerson, Cond.code yX5_setPerson cX5_setPerson 5 (some .boolean), Cond.fieldLink RX5 47 "SignOnHouseModel" "thrown" "I", Cond.methodLink RX5 59 yX5_isGroup, Cond.static yX5_isGroup, Cond.code yX5_isGroup cX5_isGroup 1 (some .boolean), Cond.methodLink RX5 51 yX5_in, Cond.static yX5_in, Cond.code yX5_in cX5_in 3 (some .boolean)]
def wsL_law0_r6 : List Cond := [Cond.methodLink RX5 63 yX5_isPerson, Cond.static yX5_isPerson, Cond.code yX5_isPerson cX5_isPerson 1 (some .boolean), Cond.methodLink RX5 55 yX5_has, Cond.static yX5_has, Cond.code yX5_has cX5_has 2 (some .boolean), Cond.methodLink RL 83 yX5_thrown, Cond.instanceMethod yX5_thrown, Cond.selects RX5 yX5_thrown yX5_thrown, Cond.code yX5_thrown cX5_thrown 1 (some .int), Cond.methodLink RL 87 yL_setGroup, Cond.static yL_setGroup, Cond.codeWith yL_setGroup cL_setGroup 6 (some .int) [(0, 19, 22, 13), (0, 19, 26, 18)], Cond.classLink RL 18 "java/lang/IllegalStateException", Cond.methodLink RL 15 yX4_setGroup, Cond.instanceMethod yX4_setGroup, Cond.selects RX4 yX4_setGroup yX4_setGroup, Cond.code yX4_setGroup cX4_setGroup 4 (some .boolean), Cond.classLink RX4 70 "java/lang/IllegalStateException", Cond.initialized "java/lang/IllegalStateException", Cond.methodLink RX4 67 yX1_isAround, Cond.instanceMethod yX1_isAround, Cond.selects RX1 yX1_isAround yX1_isAround, Cond.code yX1_isAround cX1_isAround 3 (some .boolean)]
def wsL_law0_r7 : List Cond := [Cond.methodLink RX1 36 yX1_allAround, Cond.instanceMethod yX1_allAround, Cond.selects RX1 yX1_allAround yX1_allAround, Cond.code yX1_allAround cX1_allAround 4 (some .int), Cond.methodLink RX1 40 yX1_oneLinkFurther, Cond.instanceMethod yX1_oneLinkFurther, Cond.selects RX1 yX1_oneLinkFurther yX1_oneLinkFurther, Cond.code yX1_oneLinkFurther cX1_oneLinkFurther 4 (some .int), Cond.methodLink RX4 75 yX1_placeGroup, Cond.instanceMethod yX1_placeGroup, Cond.selects RX1 yX1_placeGroup yX1_placeGroup, Cond.code yX1_placeGroup cX1_placeGroup 5 (some .boolean), Cond.methodLink RL 89 yX5_setGroup, Cond.instanceMethod yX5_setGroup, Cond.selects RX5 yX5_setGroup yX5_setGroup, Cond.code yX5_setGroup cX5_setGroup 5 (some .boolean), Cond.methodLink RX5 66 yX5_within, Cond.instanceMethod yX5_within, Cond.selects RX5 yX5_within yX5_within, Cond.code yX5_within cX5_within 5 (some .int), Cond.methodLink RL 90 yL_setRole, Cond.static yL_setRole, Cond.codeWith yL_setRole cL_setRole 6 (some .int) [(0, 12, 15, 13)], Cond.methodLink RL 20 yX4_setRole]
def wsL_law0_r8 : List Cond := [Cond.instanceMethod yX4_setRole, Cond.selects RX4 yX4_setRole yX4_setRole, Cond.code yX4_setRole cX4_setRole 4 (some .int), Cond.methodLink RX4 82 yX1_giveRole, Cond.instanceMethod yX1_giveRole, Cond.selects RX1 yX1_giveRole yX1_giveRole, Cond.code yX1_giveRole cX1_giveRole 5 (some .int), Cond.methodLink RX1 32 yX1_roleOf, Cond.instanceMethod yX1_roleOf, Cond.selects RX1 yX1_roleOf yX1_roleOf, Cond.code yX1_roleOf cX1_roleOf 3 (some .int), Cond.methodLink RL 93 yX5_setRole, Cond.instanceMethod yX5_setRole, Cond.selects RX5 yX5_setRole yX5_setRole, Cond.code yX5_setRole cX5_setRole 5 (some .int), Cond.methodLink RX5 70 yX5_isRole, Cond.static yX5_isRole, Cond.code yX5_isRole cX5_isRole 1 (some .boolean), Cond.methodLink RX5 73 yX5_fails, Cond.instanceMethod yX5_fails, Cond.selects RX5 yX5_fails yX5_fails, Cond.code yX5_fails cX5_fails 2 (some .int), Cond.methodLink RL 94 yL_setRisk, Cond.static yL_setRisk]
def wsL_law0_r9 : List Cond := [Cond.codeWith yL_setRisk cL_setRisk 5 (some .int) [(0, 10, 13, 13)], Cond.methodLink RL 24 yX4_setRisk, Cond.instanceMethod yX4_setRisk, Cond.selects RX4 yX4_setRisk yX4_setRisk, Cond.code yX4_setRisk cX4_setRisk 4 (some .int), Cond.methodLink RX4 88 yX3_endAllOf, Cond.instanceMethod yX3_endAllOf, Cond.selects RX3 yX3_endAllOf yX3_endAllOf, Cond.code yX3_endAllOf cX3_endAllOf 4 (some .int), Cond.methodLink RX3 30 yX3_end, Cond.instanceMethod yX3_end, Cond.selects RX3 yX3_end yX3_end, Cond.code yX3_end cX3_end 2 none, Cond.methodLink RL 97 yX5_setRisk, Cond.instanceMethod yX5_setRisk, Cond.selects RX5 yX5_setRisk yX5_setRisk, Cond.code yX5_setRisk cX5_setRisk 6 (some .int), Cond.fieldLink RX5 94 "SignOnHouseModel" "sessions" "I", Cond.methodLink RL 98 yL_isIn, Cond.static yL_isIn, Cond.codeWith yL_isIn cL_isIn 5 (some .int) [(0, 17, 20, 13)], Cond.methodLink RL 28 yX4_isIn, Cond.instanceMethod yX4_isIn, Cond.selects RX4 yX4_isIn yX4_isIn]
def wsL_law0_r10 : List Cond := [Cond.code yX4_isIn cX4_isIn 3 (some .boolean), Cond.methodLink RX4 92 yX1_hasPerson, Cond.instanceMethod yX1_hasPerson, Cond.selects RX1 yX1_hasPerson yX1_hasPerson, Cond.code yX1_hasPerson cX1_hasPerson 3 (some .boolean), Cond.methodLink RL 100 yX5_isIn, Cond.instanceMethod yX5_isIn, Cond.selects RX5 yX5_isIn yX5_isIn, Cond.code yX5_isIn cX5_isIn 3 (some .boolean), Cond.methodLink RX5 76 yX5_belongs, Cond.instanceMethod yX5_belongs, Cond.selects RX5 yX5_belongs yX5_belongs, Cond.code yX5_belongs cX5_belongs 6 (some .boolean), Cond.methodLink RL 101 yL_allows, Cond.static yL_allows, Cond.codeWith yL_allows cL_allows 5 (some .int) [(0, 17, 20, 13)], Cond.methodLink RL 32 yX4_allows, Cond.instanceMethod yX4_allows, Cond.selects RX4 yX4_allows yX4_allows, Cond.code yX4_allows cX4_allows 3 (some .boolean), Cond.methodLink RX4 97 yX4_answerOfHouse, Cond.instanceMethod yX4_answerOfHouse, Cond.selects RX4 yX4_answerOfHouse yX4_answerOfHouse, Cond.code yX4_answerOfHouse cX4_answerOfHouse 4 (some .int)]
def wsL_law0_r11 : List Cond := [Cond.methodLink RX4 103 yX4_isBarred, Cond.instanceMethod yX4_isBarred, Cond.selects RX4 yX4_isBarred yX4_isBarred, Cond.code yX4_isBarred cX4_isBarred 2 (some .boolean), Cond.methodLink RX4 202 yX1_anyGrants, Cond.instanceMethod yX1_anyGrants, Cond.selects RX1 yX1_anyGrants yX1_anyGrants, Cond.code yX1_anyGrants cX1_anyGrants 3 (some .boolean), Cond.methodLink RX4 205 yX1_anyDenies, Cond.instanceMethod yX1_anyDenies, Cond.selects RX1 yX1_anyDenies yX1_anyDenies, Cond.code yX1_anyDenies cX1_anyDenies 3 (some .boolean), Cond.methodLink RX4 208 yX4_holdsGlass, Cond.instanceMethod yX4_holdsGlass, Cond.selects RX4 yX4_holdsGlass yX4_holdsGlass, Cond.code yX4_holdsGlass cX4_holdsGlass 3 (some .boolean), Cond.methodLink RL 103 yX5_allows, Cond.instanceMethod yX5_allows, Cond.selects RX5 yX5_allows yX5_allows, Cond.code yX5_allows cX5_allows 3 (some .boolean), Cond.methodLink RX5 100 yX5_lets, Cond.instanceMethod yX5_lets, Cond.selects RX5 yX5_lets yX5_lets, Cond.code yX5_lets cX5_lets 3 (some .boolean)]
def wsL_law0_r12 : List Cond := [Cond.fieldLink RX5 82 "SignOnHouseModel" "now" "I", Cond.methodLink RX5 79 yX5_finds, Cond.instanceMethod yX5_finds, Cond.selects RX5 yX5_finds yX5_finds, Cond.code yX5_finds cX5_finds 6 (some .boolean), Cond.methodLink RL 104 yL_open, Cond.static yL_open, Cond.codeWith yL_open cL_open 4 (some .int) [(0, 9, 12, 13), (0, 9, 15, 18)], Cond.methodLink RL 35 yX4_open, Cond.instanceMethod yX4_open, Cond.selects RX4 yX4_open yX4_open, Cond.code yX4_open cX4_open 2 (some .int), Cond.methodLink RX4 109 yX3_areAllOpened, Cond.instanceMethod yX3_areAllOpened, Cond.selects RX3 yX3_areAllOpened yX3_areAllOpened, Cond.code yX3_areAllOpened cX3_areAllOpened 1 (some .boolean), Cond.methodLink RX4 115 yX2_signing, Cond.instanceMethod yX2_signing, Cond.selects RX2 yX2_signing yX2_signing, Cond.code yX2_signing cX2_signing 1 (some .int), Cond.methodLink RX4 119 yX3_add, Cond.instanceMethod yX3_add, Cond.selects RX3 yX3_add yX3_add, Cond.code yX3_add cX3_add 5 (some .int)]
def wsL_law0_r13 : List Cond := [Cond.methodLink RL 107 yX5_open, Cond.instanceMethod yX5_open, Cond.selects RX5 yX5_open yX5_open, Cond.code yX5_open cX5_open 2 (some .int), Cond.fieldLink RX5 85 "SignOnHouseModel" "key" "I", Cond.methodLink RL 108 yL_close, Cond.static yL_close, Cond.codeWith yL_close cL_close 4 (some .int) [(0, 9, 12, 42), (0, 9, 15, 18)], Cond.classLink RL 42 "java/lang/IndexOutOfBoundsException", Cond.methodLink RL 39 yX4_close, Cond.instanceMethod yX4_close, Cond.selects RX4 yX4_close yX4_close, Cond.code yX4_close cX4_close 2 (some .int), Cond.classLink RX4 125 "java/lang/IndexOutOfBoundsException", Cond.initialized "java/lang/IndexOutOfBoundsException", Cond.methodLink RX4 122 yX3_has, Cond.instanceMethod yX3_has, Cond.selects RX3 yX3_has yX3_has, Cond.code yX3_has cX3_has 2 (some .boolean), Cond.methodLink RX4 130 yX3_isOver, Cond.instanceMethod yX3_isOver, Cond.selects RX3 yX3_isOver yX3_isOver, Cond.code yX3_isOver cX3_isOver 2 (some .boolean), Cond.methodLink RX4 135 yX3_end]
def wsL_law0_r14 : List Cond := [Cond.methodLink RX4 139 yX3_age, Cond.instanceMethod yX3_age, Cond.selects RX3 yX3_age yX3_age, Cond.code yX3_age cX3_age 3 (some .int), Cond.methodLink RL 110 yX5_close, Cond.instanceMethod yX5_close, Cond.selects RX5 yX5_close yX5_close, Cond.code yX5_close cX5_close 2 (some .int), Cond.methodLink RX5 103 yX5_isSession, Cond.instanceMethod yX5_isSession, Cond.selects RX5 yX5_isSession yX5_isSession, Cond.code yX5_isSession cX5_isSession 2 (some .boolean), Cond.methodLink RL 111 yL_goesOn, Cond.static yL_goesOn, Cond.codeWith yL_goesOn cL_goesOn 4 (some .int) [(0, 16, 19, 42)], Cond.methodLink RL 44 yX4_goesOn, Cond.instanceMethod yX4_goesOn, Cond.selects RX4 yX4_goesOn yX4_goesOn, Cond.code yX4_goesOn cX4_goesOn 2 (some .boolean), Cond.methodLink RL 113 yX5_goesOn, Cond.instanceMethod yX5_goesOn, Cond.selects RX5 yX5_goesOn yX5_goesOn, Cond.code yX5_goesOn cX5_goesOn 2 (some .boolean), Cond.methodLink RL 114 yL_changeKeys]
def wsL_law0_r15 : List Cond := [Cond.static yL_changeKeys, Cond.codeWith yL_changeKeys cL_changeKeys 4 (some .int) [(0, 9, 12, 13)], Cond.methodLink RL 48 yX4_changeKeys, Cond.instanceMethod yX4_changeKeys, Cond.selects RX4 yX4_changeKeys yX4_changeKeys, Cond.code yX4_changeKeys cX4_changeKeys 2 (some .int), Cond.methodLink RX4 144 yX2_signWithNext, Cond.instanceMethod yX2_signWithNext, Cond.selects RX2 yX2_signWithNext yX2_signWithNext, Cond.code yX2_signWithNext cX2_signWithNext 2 none, Cond.methodLink RX4 147 yX3_endDue, Cond.instanceMethod yX3_endDue, Cond.selects RX3 yX3_endDue yX3_endDue, Cond.code yX3_endDue cX3_endDue 6 (some .int), Cond.methodLink RX3 34 yX3_isDue, Cond.instanceMethod yX3_isDue, Cond.selects RX3 yX3_isDue yX3_isDue, Cond.code yX3_isDue cX3_isDue 5 (some .boolean), Cond.methodLink RX3 38 yX3_age, Cond.methodLink RX3 42 yX2_takes, Cond.instanceMethod yX2_takes, Cond.selects RX2 yX2_takes yX2_takes, Cond.code yX2_takes cX2_takes 3 (some .boolean), Cond.methodLink RL 116 yX5_changeKeys]
def wsL_law0_r16 : List Cond := [Cond.instanceMethod yX5_changeKeys, Cond.selects RX5 yX5_changeKeys yX5_changeKeys, Cond.code yX5_changeKeys cX5_changeKeys 3 (some .int), Cond.fieldLink RX5 88 "SignOnHouseModel" "taken" "I", Cond.methodLink RX5 106 yX5_sweeps, Cond.instanceMethod yX5_sweeps, Cond.selects RX5 yX5_sweeps yX5_sweeps, Cond.code yX5_sweeps cX5_sweeps 4 (some .int), Cond.methodLink RX5 97 yX5_ends, Cond.instanceMethod yX5_ends, Cond.selects RX5 yX5_ends yX5_ends, Cond.code yX5_ends cX5_ends 2 (some .boolean), Cond.methodLink RX5 91 yX5_isKey, Cond.instanceMethod yX5_isKey, Cond.selects RX5 yX5_isKey yX5_isKey, Cond.code yX5_isKey cX5_isKey 2 (some .boolean), Cond.methodLink RL 117 yL_isTaken, Cond.static yL_isTaken, Cond.codeWith yL_isTaken cL_isTaken 4 (some .int) [(0, 16, 19, 13)], Cond.methodLink RL 51 yX4_isTaken, Cond.instanceMethod yX4_isTaken, Cond.selects RX4 yX4_isTaken yX4_isTaken, Cond.code yX4_isTaken cX4_isTaken 2 (some .boolean), Cond.methodLink RX4 153 yX2_takes]
def wsL_law0_r17 : List Cond := [Cond.methodLink RL 119 yX5_isTaken, Cond.instanceMethod yX5_isTaken, Cond.selects RX5 yX5_isTaken yX5_isTaken, Cond.code yX5_isTaken cX5_isTaken 2 (some .boolean), Cond.methodLink RL 120 yL_pass, Cond.static yL_pass, Cond.codeWith yL_pass cL_pass 4 (some .int) [(0, 9, 12, 13)], Cond.methodLink RL 54 yX4_pass, Cond.instanceMethod yX4_pass, Cond.selects RX4 yX4_pass yX4_pass, Cond.code yX4_pass cX4_pass 2 (some .int), Cond.methodLink RX4 156 yX0_dropDueOfAll, Cond.instanceMethod yX0_dropDueOfAll, Cond.selects RX0 yX0_dropDueOfAll yX0_dropDueOfAll, Cond.code yX0_dropDueOfAll cX0_dropDueOfAll 3 none, Cond.methodLink RX0 35 yX0_dropDue, Cond.instanceMethod yX0_dropDue, Cond.selects RX0 yX0_dropDue yX0_dropDue, Cond.code yX0_dropDue cX0_dropDue 5 none, Cond.methodLink RX0 27 yX0_place, Cond.static yX0_place, Cond.code yX0_place cX0_place 3 (some .int), Cond.methodLink RL 122 yX5_pass, Cond.instanceMethod yX5_pass]
def wsL_law0_r18 : List Cond := [Cond.selects RX5 yX5_pass yX5_pass, Cond.code yX5_pass cX5_pass 2 (some .int), Cond.methodLink RL 123 yX4_now, Cond.instanceMethod yX4_now, Cond.selects RX4 yX4_now yX4_now, Cond.code yX4_now cX4_now 1 (some .int), Cond.methodLink RL 126 yX5_now, Cond.instanceMethod yX5_now, Cond.selects RX5 yX5_now yX5_now, Cond.code yX5_now cX5_now 1 (some .int), Cond.methodLink RL 127 yL_breakGlass, Cond.static yL_breakGlass, Cond.codeWith yL_breakGlass cL_breakGlass 7 (some .int) [(0, 14, 17, 13), (0, 14, 21, 18)], Cond.methodLink RL 57 yX4_breakGlass, Cond.instanceMethod yX4_breakGlass, Cond.selects RX4 yX4_breakGlass yX4_breakGlass, Cond.code yX4_breakGlass cX4_breakGlass 6 (some .int), Cond.methodLink RX4 163 yX4_servesAsWitness, Cond.instanceMethod yX4_servesAsWitness, Cond.selects RX4 yX4_servesAsWitness yX4_servesAsWitness, Cond.code yX4_servesAsWitness cX4_servesAsWitness 3 (some .boolean), Cond.methodLink RL 130 yX5_breakGlass, Cond.instanceMethod yX5_breakGlass, Cond.selects RX5 yX5_breakGlass yX5_breakGlass]
def wsL_law0_r19 : List Cond := [Cond.code yX5_breakGlass cX5_breakGlass 5 (some .int), Cond.methodLink RX5 110 yX5_serves, Cond.instanceMethod yX5_serves, Cond.selects RX5 yX5_serves yX5_serves, Cond.code yX5_serves cX5_serves 3 (some .boolean), Cond.methodLink RL 131 yL_setCache, Cond.static yL_setCache, Cond.codeWith yL_setCache cL_setCache 5 (some .int) [(0, 10, 13, 13)], Cond.methodLink RL 61 yX4_setCache, Cond.instanceMethod yX4_setCache, Cond.selects RX4 yX4_setCache yX4_setCache, Cond.code yX4_setCache cX4_setCache 4 (some .int), Cond.methodLink RX4 170 yX0_cacheOf, Cond.instanceMethod yX0_cacheOf, Cond.selects RX0 yX0_cacheOf yX0_cacheOf, Cond.code yX0_cacheOf cX0_cacheOf 2 (some .int), Cond.methodLink RX4 173 yX0_allowCache, Cond.instanceMethod yX0_allowCache, Cond.selects RX0 yX0_allowCache yX0_allowCache, Cond.code yX0_allowCache cX0_allowCache 3 none, Cond.methodLink RX4 177 yX0_dropDue, Cond.methodLink RL 133 yX5_setCache, Cond.instanceMethod yX5_setCache, Cond.selects RX5 yX5_setCache yX5_setCache]
def wsL_law0_r20 : List Cond := [Cond.code yX5_setCache cX5_setCache 4 (some .int), Cond.methodLink RX5 116 yX5_isApp, Cond.static yX5_isApp, Cond.code yX5_isApp cX5_isApp 1 (some .boolean), Cond.methodLink RX5 119 yX5_drops, Cond.instanceMethod yX5_drops, Cond.selects RX5 yX5_drops yX5_drops, Cond.code yX5_drops cX5_drops 3 none, Cond.methodLink RX5 113 yX5_keeps, Cond.instanceMethod yX5_keeps, Cond.selects RX5 yX5_keeps yX5_keeps, Cond.code yX5_keeps cX5_keeps 3 (some .boolean), Cond.methodLink RL 134 yL_decide, Cond.static yL_decide, Cond.codeWith yL_decide cL_decide 6 (some .int) [(0, 12, 15, 13), (0, 12, 19, 42)], Cond.methodLink RL 64 yX4_decide, Cond.instanceMethod yX4_decide, Cond.selects RX4 yX4_decide yX4_decide, Cond.code yX4_decide cX4_decide 4 (some .int), Cond.methodLink RX4 182 yX3_use, Cond.instanceMethod yX3_use, Cond.selects RX3 yX3_use yX3_use, Cond.code yX3_use cX3_use 3 none, Cond.methodLink RX4 185 yX3_personOf]
def wsL_law0_r21 : List Cond := [Cond.instanceMethod yX3_personOf, Cond.selects RX3 yX3_personOf yX3_personOf, Cond.code yX3_personOf cX3_personOf 2 (some .int), Cond.methodLink RX4 188 yX4_answerOfApp, Cond.instanceMethod yX4_answerOfApp, Cond.selects RX4 yX4_answerOfApp yX4_answerOfApp, Cond.code yX4_answerOfApp cX4_answerOfApp 5 (some .int), Cond.methodLink RX4 211 yX0_areKept, Cond.instanceMethod yX0_areKept, Cond.selects RX0 yX0_areKept yX0_areKept, Cond.code yX0_areKept cX0_areKept 4 (some .boolean), Cond.methodLink RX4 214 yX0_answer, Cond.instanceMethod yX0_answer, Cond.selects RX0 yX0_answer yX0_answer, Cond.code yX0_answer cX0_answer 4 (some .int), Cond.methodLink RX4 217 yX0_keep, Cond.instanceMethod yX0_keep, Cond.selects RX0 yX0_keep yX0_keep, Cond.code yX0_keep cX0_keep 6 none, Cond.methodLink RL 136 yX5_decide, Cond.instanceMethod yX5_decide, Cond.selects RX5 yX5_decide yX5_decide, Cond.code yX5_decide cX5_decide 5 (some .int), Cond.methodLink RL 137 yL_forget]
def wsL_law0_r22 : List Cond := [Cond.static yL_forget, Cond.codeWith yL_forget cL_forget 5 (some .int) [(0, 10, 13, 13)], Cond.methodLink RL 67 yX4_forget, Cond.instanceMethod yX4_forget, Cond.selects RX4 yX4_forget yX4_forget, Cond.code yX4_forget cX4_forget 3 (some .int), Cond.methodLink RX4 193 yX0_dropAllOf, Cond.instanceMethod yX0_dropAllOf, Cond.selects RX0 yX0_dropAllOf yX0_dropAllOf, Cond.code yX0_dropAllOf cX0_dropAllOf 5 (some .int), Cond.methodLink RX0 31 yX0_areKept, Cond.methodLink RL 139 yX5_forget, Cond.instanceMethod yX5_forget, Cond.selects RX5 yX5_forget yX5_forget, Cond.code yX5_forget cX5_forget 6 (some .int), Cond.methodLink RL 140 yL_stale, Cond.static yL_stale, Cond.codeWith yL_stale cL_stale 4 (some .int) [(0, 9, 12, 13)], Cond.methodLink RL 70 yX4_stale, Cond.instanceMethod yX4_stale, Cond.selects RX4 yX4_stale yX4_stale, Cond.code yX4_stale cX4_stale 5 (some .int), Cond.methodLink RX4 198 yX4_isStale, Cond.instanceMethod yX4_isStale]
def wsL_law0_r23 : List Cond := [Cond.selects RX4 yX4_isStale yX4_isStale, Cond.code yX4_isStale cX4_isStale 4 (some .boolean), Cond.methodLink RL 142 yX5_stale, Cond.instanceMethod yX5_stale, Cond.selects RX5 yX5_stale yX5_stale, Cond.code yX5_stale cX5_stale 5 (some .int)]
def wsL_law0 : List Cond := (wsL_law0_r1 ++ (wsL_law0_r2 ++ (wsL_law0_r3 ++ (wsL_law0_r4 ++ (wsL_law0_r5 ++ (wsL_law0_r6 ++ (wsL_law0_r7 ++ (wsL_law0_r8 ++ (wsL_law0_r9 ++ (wsL_law0_r10 ++ (wsL_law0_r11 ++ (wsL_law0_r12 ++ (wsL_law0_r13 ++ (wsL_law0_r14 ++ (wsL_law0_r15 ++ (wsL_law0_r16 ++ (wsL_law0_r17 ++ (wsL_law0_r18 ++ (wsL_law0_r19 ++ (wsL_law0_r20 ++ (wsL_law0_r21 ++ (wsL_law0_r22 ++ wsL_law0_r23)))))))))))))))))))))) ++ wsX40 ++ wsX50 ++ wsX10 ++ wsX30 ++ wsX20 ++ wsX00 ++ ([] : List Cond)
def wsL_law : List Cond := wsL_law0 ++ (vx_atS RX4 56 "java/lang/IllegalArgumentException" ["java/lang/RuntimeException", "java/lang/Exception"]).filter goodWord ++ (vx_atS RX4 74 "java/lang/IllegalStateException" ["java/lang/RuntimeException", "java/lang/Exception"]).filter goodWord ++ (vx_atS RX4 129 "java/lang/IndexOutOfBoundsException" ["java/lang/RuntimeException", "java/lang/Exception"]).filter goodWord
end
section
set_option maxRecDepth 20000 in
theorem wsL_law_in0_r1 : ∀ w ∈ wsL_law0_r1, w ∈ lw_tbl := fun w h => (goodIn_p wsL_law0_r1 [41, 44] (by decide +kernel) (by decide +kernel) w h).1
set_option maxRecDepth 20000 in
theorem wsL_law_in0_r2 : ∀ w ∈ wsL_law0_r2, w ∈ lw_tbl := fun w h => (goodIn_p wsL_law0_r2 [49, 69] (by decide +kernel) (by decide +kernel) w h).1
set_option maxRecDepth 20000 in
theorem wsL_law_in0_r3 : ∀ w ∈ wsL_law0_r3, w ∈ lw_tbl := fun w h => (goodIn_p wsL_law0_r3 [95, 108, 112, 563] (by decide +kernel) (by decide +kernel) w h).1
set_option maxRecDepth 20000 in
theorem wsL_law_in0_r4 : ∀ w ∈ wsL_law0_r4, w ∈ lw_tbl := fun w h => (goodIn_p wsL_law0_r4 [156] (by decide +kernel) (by decide +kernel) w h).1
set_option maxRecDepth 20000 in
theorem wsL_law_in0_r5 : ∀ w ∈ wsL_law0_r5, w ∈ lw_tbl := fun w h => (goodIn_p wsL_law0_r5 [159, 231, 234, 237, 624, 627, 630] (by decide +kernel) (by decide +kernel) w h).1
set_option maxRecDepth 20000 in
theorem wsL_law_in0_r6 : ∀ w ∈ wsL_law0_r6, w ∈ lw_tbl := fun w h => (goodIn_p wsL_law0_r6 [633, 636, 620, 245, 251] (by decide +kernel) (by decide +kernel) w h).1
set_option maxRecDepth 20000 in
theorem wsL_law_in0_r7 : ∀ w ∈ wsL_law0_r7, w ∈ lw_tbl := fun w h => (goodIn_p wsL_law0_r7 [255, 259, 279, 640, 644] (by decide +kernel) (by decide +kernel) w h).1
set_option maxRecDepth 20000 in
theorem wsL_law_in0_r8 : ∀ w ∈ wsL_law0_r8, w ∈ lw_tbl := fun w h => (goodIn_p wsL_law0_r8 [286, 292, 296, 648, 651, 655] (by decide +kernel) (by decide +kernel) w h).1
set_option maxRecDepth 20000 in
theorem wsL_law_in0_r9 : ∀ w ∈ wsL_law0_r9, w ∈ lw_tbl := fun w h => (goodIn_p wsL_law0_r9 [303, 308, 312, 659] (by decide +kernel) (by decide +kernel) w h).1
set_option maxRecDepth 20000 in
theorem wsL_law_in0_r10 : ∀ w ∈ wsL_law0_r10, w ∈ lw_tbl := fun w h => (goodIn_p wsL_law0_r10 [319, 323, 663, 667, 330, 335] (by decide +kernel) (by decide +kernel) w h).1
set_option maxRecDepth 20000 in
theorem wsL_law_in0_r11 : ∀ w ∈ wsL_law0_r11, w ∈ lw_tbl := fun w h => (goodIn_p wsL_law0_r11 [339, 343, 347, 351, 671, 675] (by decide +kernel) (by decide +kernel) w h).1
set_option maxRecDepth 20000 in
theorem wsL_law_in0_r12 : ∀ w ∈ wsL_law0_r12, w ∈ lw_tbl := fun w h => (goodIn_p wsL_law0_r12 [679, 358, 364, 369, 373] (by decide +kernel) (by decide +kernel) w h).1
end
section
set_option maxRecDepth 20000 in
theorem wsL_law_in0_r13 : ∀ w ∈ wsL_law0_r13, w ∈ lw_tbl := fun w h => (goodIn_p wsL_law0_r13 [683, 381, 385, 405] (by decide +kernel) (by decide +kernel) w h).1
set_option maxRecDepth 20000 in
theorem wsL_law_in0_r14 : ∀ w ∈ wsL_law0_r14, w ∈ lw_tbl := fun w h => (goodIn_p wsL_law0_r14 [411, 687, 691, 418, 695] (by decide +kernel) (by decide +kernel) w h).1
set_option maxRecDepth 20000 in
theorem wsL_law_in0_r15 : ∀ w ∈ wsL_law0_r15, w ∈ lw_tbl := fun w h => (goodIn_p wsL_law0_r15 [425, 430, 434, 438, 443] (by decide +kernel) (by decide +kernel) w h).1
set_option maxRecDepth 20000 in
theorem wsL_law_in0_r16 : ∀ w ∈ wsL_law0_r16, w ∈ lw_tbl := fun w h => (goodIn_p wsL_law0_r16 [699, 703, 707, 711, 450] (by decide +kernel) (by decide +kernel) w h).1
set_option maxRecDepth 20000 in
theorem wsL_law_in0_r17 : ∀ w ∈ wsL_law0_r17, w ∈ lw_tbl := fun w h => (goodIn_p wsL_law0_r17 [715, 459, 463, 467, 470] (by decide +kernel) (by decide +kernel) w h).1
set_option maxRecDepth 20000 in
theorem wsL_law_in0_r18 : ∀ w ∈ wsL_law0_r18, w ∈ lw_tbl := fun w h => (goodIn_p wsL_law0_r18 [719, 148, 723, 477, 483] (by decide +kernel) (by decide +kernel) w h).1
set_option maxRecDepth 20000 in
theorem wsL_law_in0_r19 : ∀ w ∈ wsL_law0_r19, w ∈ lw_tbl := fun w h => (goodIn_p wsL_law0_r19 [727, 731, 491, 496, 500] (by decide +kernel) (by decide +kernel) w h).1
set_option maxRecDepth 20000 in
theorem wsL_law_in0_r20 : ∀ w ∈ wsL_law0_r20, w ∈ lw_tbl := fun w h => (goodIn_p wsL_law0_r20 [735, 738, 742, 746, 508, 513] (by decide +kernel) (by decide +kernel) w h).1
set_option maxRecDepth 20000 in
theorem wsL_law_in0_r21 : ∀ w ∈ wsL_law0_r21, w ∈ lw_tbl := fun w h => (goodIn_p wsL_law0_r21 [517, 521, 525, 529, 533, 750] (by decide +kernel) (by decide +kernel) w h).1
set_option maxRecDepth 20000 in
theorem wsL_law_in0_r22 : ∀ w ∈ wsL_law0_r22, w ∈ lw_tbl := fun w h => (goodIn_p wsL_law0_r22 [540, 545, 754, 553] (by decide +kernel) (by decide +kernel) w h).1
set_option maxRecDepth 20000 in
theorem wsL_law_in0_r23 : ∀ w ∈ wsL_law0_r23, w ∈ lw_tbl := fun w h => (goodIn_p wsL_law0_r23 [558, 758] (by decide +kernel) (by decide +kernel) w h).1
theorem inq_wsX40 : ∀ w ∈ wsX40, w ∈ lw_tbl := by decide +kernel
theorem inq_wsX50 : ∀ w ∈ wsX50, w ∈ lw_tbl := by decide +kernel
theorem inq_wsX10 : ∀ w ∈ wsX10, w ∈ lw_tbl := by decide +kernel
theorem inq_wsX30 : ∀ w ∈ wsX30, w ∈ lw_tbl := by decide +kernel
theorem inq_wsX20 : ∀ w ∈ wsX20, w ∈ lw_tbl := by decide +kernel
theorem inq_wsX00 : ∀ w ∈ wsX00, w ∈ lw_tbl := by decide +kernel
set_option maxRecDepth 20000 in
theorem wsL_law_in0 : ∀ w ∈ wsL_law0, w ∈ lw_tbl := by
  intro w h
  unfold wsL_law0 at h
  rcases List.mem_append.mp h with h | h
  rotate_left
  · exact absurd h List.not_mem_nil
  rcases List.mem_append.mp h with h | h
  rotate_left
  · exact inq_wsX00 w h
  rcases List.mem_append.mp h with h | h
  rotate_left
  · exact inq_wsX20 w h
  rcases List.mem_append.mp h with h | h
  rotate_left
  · exact inq_wsX30 w h
  rcases List.mem_append.mp h with h | h
  rotate_left
  · exact inq_wsX10 w h
  rcases List.mem_append.mp h with h | h
  rotate_left
  · exact inq_wsX50 w h
  rcases List.mem_append.mp h with h | h
  rotate_left
  · exact inq_wsX40 w h
  rcases List.mem_append.mp h with h | h
  · exact wsL_law_in0_r1 w h
  rcases List.mem_append.mp h with h | h
  · exact wsL_law_in0_r2 w h
  rcases List.mem_append.mp h with h | h
  · exact wsL_law_in0_r3 w h
  rcases List.mem_append.mp h with h | h
  · exact wsL_law_in0_r4 w h
  rcases List.mem_append.mp h with h | h
  · exact wsL_law_in0_r5 w h
  rcases List.mem_append.mp h with h | h
  · exact wsL_law_in0_r6 w h
  rcases List.mem_append.mp h with h | h
  · exact wsL_law_in0_r7 w h
  rcases List.mem_append.mp h with h | h
  · exact wsL_law_in0_r8 w h
  rcases List.mem_append.mp h with h | h
  · exact wsL_law_in0_r9 w h
  rcases List.mem_append.mp h with h | h
  · exact wsL_law_in0_r10 w h
  rcases List.mem_append.mp h with h | h
  · exact wsL_law_in0_r11 w h
  rcases List.mem_append.mp h with h | h
  · exact wsL_law_in0_r12 w h
  rcases List.mem_append.mp h with h | h
  · exact wsL_law_in0_r13 w h
  rcases List.mem_append.mp h with h | h
  · exact wsL_law_in0_r14 w h
  rcases List.mem_append.mp h with h | h
  · exact wsL_law_in0_r15 w h
  rcases List.mem_append.mp h with h | h
  · exact wsL_law_in0_r16 w h
  rcases List.mem_append.mp h with h | h
  · exact wsL_law_in0_r17 w h
  rcases List.mem_append.mp h with h | h
  · exact wsL_law_in0_r18 w h
  rcases List.mem_append.mp h with h | h
  · exact wsL_law_in0_r19 w h
  rcases List.mem_append.mp h with h | h
  · exact wsL_law_in0_r20 w h
  rcases List.mem_append.mp h with h | h
  · exact wsL_law_in0_r21 w h
  rcases List.mem_append.mp h with h | h
  · exact wsL_law_in0_r22 w h
  exact wsL_law_in0_r23 w h
theorem wsL_law_x0 : ∀ w ∈ (vx_atS RX4 56 "java/lang/IllegalArgumentException" ["java/lang/RuntimeException", "java/lang/Exception"]).filter goodWord, w ∈ lw_tbl := by decide +kernel
theorem wsL_law_x1 : ∀ w ∈ (vx_atS RX4 74 "java/lang/IllegalStateException" ["java/lang/RuntimeException", "java/lang/Exception"]).filter goodWord, w ∈ lw_tbl := by decide +kernel
theorem wsL_law_x2 : ∀ w ∈ (vx_atS RX4 129 "java/lang/IndexOutOfBoundsException" ["java/lang/RuntimeException", "java/lang/Exception"]).filter goodWord, w ∈ lw_tbl := by decide +kernel
theorem wsL_law_in : ∀ w ∈ wsL_law, w ∈ lw_tbl := fun w h => (List.mem_append.mp h).elim (fun h => (List.mem_append.mp h).elim (fun h => (List.mem_append.mp h).elim (fun h => wsL_law_in0 w h) (fun h => wsL_law_x0 w h)) (fun h => wsL_law_x1 w h)) (fun h => wsL_law_x2 w h)
theorem inlX0 : ∀ w ∈ wsX00, w ∈ wsL_law := fun _ h => List.mem_append_left _ (List.mem_append_left _ (List.mem_append_left _ (List.mem_append_left _ (List.mem_append_right _ h))))
theorem inX0 : ∀ w ∈ wsX00, w ∈ lw_tbl := fun w h => wsL_law_in w (inlX0 w h)
theorem inlX1 : ∀ w ∈ wsX10, w ∈ wsL_law := fun _ h => List.mem_append_left _ (List.mem_append_left _ (List.mem_append_left _ (List.mem_append_left _ (List.mem_append_left _ (List.mem_append_left _ (List.mem_append_left _ (List.mem_append_right _ h)))))))
theorem inX1 : ∀ w ∈ wsX10, w ∈ lw_tbl := fun w h => wsL_law_in w (inlX1 w h)
theorem inlX2 : ∀ w ∈ wsX20, w ∈ wsL_law := fun _ h => List.mem_append_left _ (List.mem_append_left _ (List.mem_append_left _ (List.mem_append_left _ (List.mem_append_left _ (List.mem_append_right _ h)))))
theorem inX2 : ∀ w ∈ wsX20, w ∈ lw_tbl := fun w h => wsL_law_in w (inlX2 w h)
theorem inlX3 : ∀ w ∈ wsX30, w ∈ wsL_law := fun _ h => List.mem_append_left _ (List.mem_append_left _ (List.mem_append_left _ (List.mem_append_left _ (List.mem_append_left _ (List.mem_append_left _ (List.mem_append_right _ h))))))
theorem inX3 : ∀ w ∈ wsX30, w ∈ lw_tbl := fun w h => wsL_law_in w (inlX3 w h)
theorem inlX4 : ∀ w ∈ wsX40, w ∈ wsL_law := fun _ h => List.mem_append_left _ (List.mem_append_left _ (List.mem_append_left _ (List.mem_append_left _ (List.mem_append_left _ (List.mem_append_left _ (List.mem_append_left _ (List.mem_append_left _ (List.mem_append_left _ (List.mem_append_right _ h)))))))))
theorem inX4 : ∀ w ∈ wsX40, w ∈ lw_tbl := fun w h => wsL_law_in w (inlX4 w h)
theorem inlX5 : ∀ w ∈ wsX50, w ∈ wsL_law := fun _ h => List.mem_append_left _ (List.mem_append_left _ (List.mem_append_left _ (List.mem_append_left _ (List.mem_append_left _ (List.mem_append_left _ (List.mem_append_left _ (List.mem_append_left _ (List.mem_append_right _ h))))))))
theorem inX5 : ∀ w ∈ wsX50, w ∈ lw_tbl := fun w h => wsL_law_in w (inlX5 w h)
theorem inJx145de : ∀ w ∈ wsJx145de0, w ∈ lw_tbl := by decide +kernel
theorem inJ0 : ∀ w ∈ wsJ00, w ∈ lw_tbl := by decide +kernel
theorem inJ7 : ∀ w ∈ wsJ70, w ∈ lw_tbl := by decide +kernel
end
section
set_option maxRecDepth 20000 in
theorem ggX0_init_J7_fill_53178 : GoodIn wsX0_init wsJ7_fill_53178 := goodIn_r _ [11] (by decide +kernel) (by decide +kernel)
set_option maxRecDepth 20000 in
theorem gX0_init_J7_fill_53178 : GoodIn wsX0_init (va_wsS RX0 21 yJ7_fill_53178 wsJ7_fill_53178) := goodIn_app (goodIn_of _ (by decide +kernel)) ggX0_init_J7_fill_53178
theorem dX0_init_0 : decode cX0_init 0 = .ok (.aload_n 0, 1) := by decide +kernel
theorem dX0_init_1 : decode cX0_init 1 = .ok (.invokespecial 3, 3) := by decide +kernel
theorem dX0_init_4 : decode cX0_init 4 = .ok (.aload_n 0, 1) := by decide +kernel
theorem dX0_init_5 : decode cX0_init 5 = .ok (.iconst 4, 1) := by decide +kernel
theorem dX0_init_6 : decode cX0_init 6 = .ok (.newarray .int, 2) := by decide +kernel
theorem dX0_init_8 : decode cX0_init 8 = .ok (.putfield 9, 3) := by decide +kernel
theorem dX0_init_11 : decode cX0_init 11 = .ok (.aload_n 0, 1) := by decide +kernel
theorem dX0_init_12 : decode cX0_init 12 = .ok (.sipush 240, 3) := by decide +kernel
theorem dX0_init_15 : decode cX0_init 15 = .ok (.newarray .int, 2) := by decide +kernel
theorem dX0_init_17 : decode cX0_init 17 = .ok (.putfield 15, 3) := by decide +kernel
theorem dX0_init_20 : decode cX0_init 20 = .ok (.aload_n 0, 1) := by decide +kernel
theorem dX0_init_21 : decode cX0_init 21 = .ok (.sipush 240, 3) := by decide +kernel
theorem dX0_init_24 : decode cX0_init 24 = .ok (.newarray .int, 2) := by decide +kernel
theorem dX0_init_26 : decode cX0_init 26 = .ok (.putfield 18, 3) := by decide +kernel
theorem dX0_init_29 : decode cX0_init 29 = .ok (.aload_n 0, 1) := by decide +kernel
theorem dX0_init_30 : decode cX0_init 30 = .ok (.getfield 9, 3) := by decide +kernel
theorem dX0_init_33 : decode cX0_init 33 = .ok (.bipush 10, 2) := by decide +kernel
theorem dX0_init_35 : decode cX0_init 35 = .ok (.invokestatic 21, 3) := by decide +kernel
theorem dX0_init_38 : decode cX0_init 38 = .ok (.aload_n 0, 1) := by decide +kernel
theorem dX0_init_39 : decode cX0_init 39 = .ok (.getfield 15, 3) := by decide +kernel
theorem dX0_init_42 : decode cX0_init 42 = .ok (.iconst (-1), 1) := by decide +kernel
theorem dX0_init_43 : decode cX0_init 43 = .ok (.invokestatic 21, 3) := by decide +kernel
theorem dX0_init_46 : decode cX0_init 46 = .ok (.return_, 1) := by decide +kernel
theorem dX0_cacheOf_0 : decode cX0_cacheOf 0 = .ok (.aload_n 0, 1) := by decide +kernel
theorem dX0_cacheOf_1 : decode cX0_cacheOf 1 = .ok (.getfield 9, 3) := by decide +kernel
theorem dX0_cacheOf_4 : decode cX0_cacheOf 4 = .ok (.iload_n 1, 1) := by decide +kernel
theorem dX0_cacheOf_5 : decode cX0_cacheOf 5 = .ok (.iaload, 1) := by decide +kernel
theorem dX0_cacheOf_6 : decode cX0_cacheOf 6 = .ok (.ireturn, 1) := by decide +kernel
theorem dX0_allowCache_0 : decode cX0_allowCache 0 = .ok (.aload_n 0, 1) := by decide +kernel
theorem dX0_allowCache_1 : decode cX0_allowCache 1 = .ok (.getfield 9, 3) := by decide +kernel
theorem dX0_allowCache_4 : decode cX0_allowCache 4 = .ok (.iload_n 1, 1) := by decide +kernel
theorem dX0_allowCache_5 : decode cX0_allowCache 5 = .ok (.iload_n 2, 1) := by decide +kernel
theorem dX0_allowCache_6 : decode cX0_allowCache 6 = .ok (.iastore, 1) := by decide +kernel
theorem dX0_allowCache_7 : decode cX0_allowCache 7 = .ok (.return_, 1) := by decide +kernel
set_option maxRecDepth 20000 in
theorem ggX0_areKept_X0_place : GoodIn wsX0_areKept wsX0_place := goodIn_r _ [5] (by decide +kernel) (by decide +kernel)
set_option maxRecDepth 20000 in
theorem gX0_areKept_X0_place : GoodIn wsX0_areKept (va_wsS RX0 27 yX0_place wsX0_place) := goodIn_app (goodIn_of _ (by decide +kernel)) ggX0_areKept_X0_place
theorem dX0_areKept_0 : decode cX0_areKept 0 = .ok (.aload_n 0, 1) := by decide +kernel
theorem dX0_areKept_1 : decode cX0_areKept 1 = .ok (.getfield 15, 3) := by decide +kernel
theorem dX0_areKept_4 : decode cX0_areKept 4 = .ok (.iload_n 1, 1) := by decide +kernel
theorem dX0_areKept_5 : decode cX0_areKept 5 = .ok (.iload_n 2, 1) := by decide +kernel
theorem dX0_areKept_6 : decode cX0_areKept 6 = .ok (.iload_n 3, 1) := by decide +kernel
theorem dX0_areKept_7 : decode cX0_areKept 7 = .ok (.invokestatic 27, 3) := by decide +kernel
theorem dX0_areKept_10 : decode cX0_areKept 10 = .ok (.iaload, 1) := by decide +kernel
theorem dX0_areKept_11 : decode cX0_areKept 11 = .ok (.iconst (-1), 1) := by decide +kernel
theorem dX0_areKept_12 : decode cX0_areKept 12 = .ok (.if_icmp .eq 7, 3) := by decide +kernel
theorem dX0_areKept_15 : decode cX0_areKept 15 = .ok (.iconst 1, 1) := by decide +kernel
theorem dX0_areKept_16 : decode cX0_areKept 16 = .ok (.goto 4, 3) := by decide +kernel
theorem dX0_areKept_19 : decode cX0_areKept 19 = .ok (.iconst 0, 1) := by decide +kernel
theorem dX0_areKept_20 : decode cX0_areKept 20 = .ok (.ireturn, 1) := by decide +kernel
set_option maxRecDepth 20000 in
theorem ggX0_answer_X0_place : GoodIn wsX0_answer wsX0_place := goodIn_r _ [5] (by decide +kernel) (by decide +kernel)
set_option maxRecDepth 20000 in
theorem gX0_answer_X0_place : GoodIn wsX0_answer (va_wsS RX0 27 yX0_place wsX0_place) := goodIn_app (goodIn_of _ (by decide +kernel)) ggX0_answer_X0_place
theorem dX0_answer_0 : decode cX0_answer 0 = .ok (.aload_n 0, 1) := by decide +kernel
theorem dX0_answer_1 : decode cX0_answer 1 = .ok (.getfield 15, 3) := by decide +kernel
theorem dX0_answer_4 : decode cX0_answer 4 = .ok (.iload_n 1, 1) := by decide +kernel
theorem dX0_answer_5 : decode cX0_answer 5 = .ok (.iload_n 2, 1) := by decide +kernel
theorem dX0_answer_6 : decode cX0_answer 6 = .ok (.iload_n 3, 1) := by decide +kernel
theorem dX0_answer_7 : decode cX0_answer 7 = .ok (.invokestatic 27, 3) := by decide +kernel
theorem dX0_answer_10 : decode cX0_answer 10 = .ok (.iaload, 1) := by decide +kernel
theorem dX0_answer_11 : decode cX0_answer 11 = .ok (.ireturn, 1) := by decide +kernel
set_option maxRecDepth 20000 in
theorem ggX0_keep_X0_place : GoodIn wsX0_keep wsX0_place := goodIn_r _ [7] (by decide +kernel) (by decide +kernel)
set_option maxRecDepth 20000 in
theorem gX0_keep_X0_place : GoodIn wsX0_keep (va_wsS RX0 27 yX0_place wsX0_place) := goodIn_app (goodIn_of _ (by decide +kernel)) ggX0_keep_X0_place
theorem dX0_keep_0 : decode cX0_keep 0 = .ok (.aload_n 0, 1) := by decide +kernel
theorem dX0_keep_1 : decode cX0_keep 1 = .ok (.getfield 9, 3) := by decide +kernel
theorem dX0_keep_4 : decode cX0_keep 4 = .ok (.iload_n 1, 1) := by decide +kernel
theorem dX0_keep_5 : decode cX0_keep 5 = .ok (.iaload, 1) := by decide +kernel
theorem dX0_keep_6 : decode cX0_keep 6 = .ok (.ifCond .ne 4, 3) := by decide +kernel
theorem dX0_keep_9 : decode cX0_keep 9 = .ok (.return_, 1) := by decide +kernel
theorem dX0_keep_10 : decode cX0_keep 10 = .ok (.aload_n 0, 1) := by decide +kernel
theorem dX0_keep_11 : decode cX0_keep 11 = .ok (.getfield 15, 3) := by decide +kernel
theorem dX0_keep_14 : decode cX0_keep 14 = .ok (.iload_n 1, 1) := by decide +kernel
theorem dX0_keep_15 : decode cX0_keep 15 = .ok (.iload_n 2, 1) := by decide +kernel
theorem dX0_keep_16 : decode cX0_keep 16 = .ok (.iload_n 3, 1) := by decide +kernel
theorem dX0_keep_17 : decode cX0_keep 17 = .ok (.invokestatic 27, 3) := by decide +kernel
theorem dX0_keep_20 : decode cX0_keep 20 = .ok (.iload 4, 2) := by decide +kernel
theorem dX0_keep_22 : decode cX0_keep 22 = .ok (.iastore, 1) := by decide +kernel
theorem dX0_keep_23 : decode cX0_keep 23 = .ok (.aload_n 0, 1) := by decide +kernel
theorem dX0_keep_24 : decode cX0_keep 24 = .ok (.getfield 18, 3) := by decide +kernel
theorem dX0_keep_27 : decode cX0_keep 27 = .ok (.iload_n 1, 1) := by decide +kernel
theorem dX0_keep_28 : decode cX0_keep 28 = .ok (.iload_n 2, 1) := by decide +kernel
theorem dX0_keep_29 : decode cX0_keep 29 = .ok (.iload_n 3, 1) := by decide +kernel
theorem dX0_keep_30 : decode cX0_keep 30 = .ok (.invokestatic 27, 3) := by decide +kernel
theorem dX0_keep_33 : decode cX0_keep 33 = .ok (.iload 5, 2) := by decide +kernel
theorem dX0_keep_35 : decode cX0_keep 35 = .ok (.iastore, 1) := by decide +kernel
theorem dX0_keep_36 : decode cX0_keep 36 = .ok (.return_, 1) := by decide +kernel
set_option maxRecDepth 20000 in
theorem ggX0_dropAllOf_X0_areKept : GoodIn wsX0_dropAllOf wsX0_areKept := goodIn_r _ [6, 1, 7, 8, 5, 9, 10, 11, 12] (by decide +kernel) (by decide +kernel)
set_option maxRecDepth 20000 in
theorem gX0_dropAllOf_X0_areKept : GoodIn wsX0_dropAllOf (wsV RX0 31 RX0 yX0_areKept wsX0_areKept) := goodIn_app (goodIn_of _ (by decide +kernel)) ggX0_dropAllOf_X0_areKept
set_option maxRecDepth 20000 in
theorem ggX0_dropAllOf_X0_place : GoodIn wsX0_dropAllOf wsX0_place := goodIn_r _ [9] (by decide +kernel) (by decide +kernel)
set_option maxRecDepth 20000 in
theorem gX0_dropAllOf_X0_place : GoodIn wsX0_dropAllOf (va_wsS RX0 27 yX0_place wsX0_place) := goodIn_app (goodIn_of _ (by decide +kernel)) ggX0_dropAllOf_X0_place
theorem dX0_dropAllOf_0 : decode cX0_dropAllOf 0 = .ok (.iconst 0, 1) := by decide +kernel
theorem dX0_dropAllOf_1 : decode cX0_dropAllOf 1 = .ok (.istore_n 3, 1) := by decide +kernel
theorem dX0_dropAllOf_2 : decode cX0_dropAllOf 2 = .ok (.iconst 0, 1) := by decide +kernel
theorem dX0_dropAllOf_3 : decode cX0_dropAllOf 3 = .ok (.istore 4, 2) := by decide +kernel
theorem dX0_dropAllOf_5 : decode cX0_dropAllOf 5 = .ok (.iload 4, 2) := by decide +kernel
theorem dX0_dropAllOf_7 : decode cX0_dropAllOf 7 = .ok (.bipush 6, 2) := by decide +kernel
theorem dX0_dropAllOf_9 : decode cX0_dropAllOf 9 = .ok (.if_icmp .ge 36, 3) := by decide +kernel
theorem dX0_dropAllOf_12 : decode cX0_dropAllOf 12 = .ok (.aload_n 0, 1) := by decide +kernel
theorem dX0_dropAllOf_13 : decode cX0_dropAllOf 13 = .ok (.iload_n 1, 1) := by decide +kernel
theorem dX0_dropAllOf_14 : decode cX0_dropAllOf 14 = .ok (.iload_n 2, 1) := by decide +kernel
theorem dX0_dropAllOf_15 : decode cX0_dropAllOf 15 = .ok (.iload 4, 2) := by decide +kernel
theorem dX0_dropAllOf_17 : decode cX0_dropAllOf 17 = .ok (.invokevirtual 31, 3) := by decide +kernel
theorem dX0_dropAllOf_20 : decode cX0_dropAllOf 20 = .ok (.ifCond .eq 19, 3) := by decide +kernel
theorem dX0_dropAllOf_23 : decode cX0_dropAllOf 23 = .ok (.aload_n 0, 1) := by decide +kernel
theorem dX0_dropAllOf_24 : decode cX0_dropAllOf 24 = .ok (.getfield 15, 3) := by decide +kernel
theorem dX0_dropAllOf_27 : decode cX0_dropAllOf 27 = .ok (.iload_n 1, 1) := by decide +kernel
theorem dX0_dropAllOf_28 : decode cX0_dropAllOf 28 = .ok (.iload_n 2, 1) := by decide +kernel
theorem dX0_dropAllOf_29 : decode cX0_dropAllOf 29 = .ok (.iload 4, 2) := by decide +kernel
theorem dX0_dropAllOf_31 : decode cX0_dropAllOf 31 = .ok (.invokestatic 27, 3) := by decide +kernel
theorem dX0_dropAllOf_34 : decode cX0_dropAllOf 34 = .ok (.iconst (-1), 1) := by decide +kernel
theorem dX0_dropAllOf_35 : decode cX0_dropAllOf 35 = .ok (.iastore, 1) := by decide +kernel
theorem dX0_dropAllOf_36 : decode cX0_dropAllOf 36 = .ok (.iinc 3 1, 3) := by decide +kernel
theorem dX0_dropAllOf_39 : decode cX0_dropAllOf 39 = .ok (.iinc 4 1, 3) := by decide +kernel
theorem dX0_dropAllOf_42 : decode cX0_dropAllOf 42 = .ok (.goto (-37), 3) := by decide +kernel
theorem dX0_dropAllOf_45 : decode cX0_dropAllOf 45 = .ok (.iload_n 3, 1) := by decide +kernel
theorem dX0_dropAllOf_46 : decode cX0_dropAllOf 46 = .ok (.ireturn, 1) := by decide +kernel
set_option maxRecDepth 20000 in
theorem ggX0_dropDueOfAll_X0_dropDue : GoodIn wsX0_dropDueOfAll wsX0_dropDue := goodIn_r _ [5, 6, 7, 8, 9, 10, 4, 11, 12, 13, 14] (by decide +kernel) (by decide +kernel)
set_option maxRecDepth 20000 in
theorem gX0_dropDueOfAll_X0_dropDue : GoodIn wsX0_dropDueOfAll (wsV RX0 35 RX0 yX0_dropDue wsX0_dropDue) := goodIn_app (goodIn_of _ (by decide +kernel)) ggX0_dropDueOfAll_X0_dropDue
theorem dX0_dropDueOfAll_0 : decode cX0_dropDueOfAll 0 = .ok (.iconst 0, 1) := by decide +kernel
theorem dX0_dropDueOfAll_1 : decode cX0_dropDueOfAll 1 = .ok (.istore_n 2, 1) := by decide +kernel
theorem dX0_dropDueOfAll_2 : decode cX0_dropDueOfAll 2 = .ok (.iload_n 2, 1) := by decide +kernel
theorem dX0_dropDueOfAll_3 : decode cX0_dropDueOfAll 3 = .ok (.iconst 4, 1) := by decide +kernel
theorem dX0_dropDueOfAll_4 : decode cX0_dropDueOfAll 4 = .ok (.if_icmp .ge 15, 3) := by decide +kernel
theorem dX0_dropDueOfAll_7 : decode cX0_dropDueOfAll 7 = .ok (.aload_n 0, 1) := by decide +kernel
theorem dX0_dropDueOfAll_8 : decode cX0_dropDueOfAll 8 = .ok (.iload_n 2, 1) := by decide +kernel
theorem dX0_dropDueOfAll_9 : decode cX0_dropDueOfAll 9 = .ok (.iload_n 1, 1) := by decide +kernel
theorem dX0_dropDueOfAll_10 : decode cX0_dropDueOfAll 10 = .ok (.invokevirtual 35, 3) := by decide +kernel
theorem dX0_dropDueOfAll_13 : decode cX0_dropDueOfAll 13 = .ok (.iinc 2 1, 3) := by decide +kernel
theorem dX0_dropDueOfAll_16 : decode cX0_dropDueOfAll 16 = .ok (.goto (-14), 3) := by decide +kernel
theorem dX0_dropDueOfAll_19 : decode cX0_dropDueOfAll 19 = .ok (.return_, 1) := by decide +kernel
set_option maxRecDepth 20000 in
theorem ggX0_dropDue_X0_place : GoodIn wsX0_dropDue wsX0_place := goodIn_r _ [7] (by decide +kernel) (by decide +kernel)
set_option maxRecDepth 20000 in
theorem gX0_dropDue_X0_place : GoodIn wsX0_dropDue (va_wsS RX0 27 yX0_place wsX0_place) := goodIn_app (goodIn_of _ (by decide +kernel)) ggX0_dropDue_X0_place
theorem dX0_dropDue_0 : decode cX0_dropDue 0 = .ok (.iload_n 1, 1) := by decide +kernel
theorem dX0_dropDue_1 : decode cX0_dropDue 1 = .ok (.iconst 0, 1) := by decide +kernel
theorem dX0_dropDue_2 : decode cX0_dropDue 2 = .ok (.iconst 0, 1) := by decide +kernel
theorem dX0_dropDue_3 : decode cX0_dropDue 3 = .ok (.invokestatic 27, 3) := by decide +kernel
theorem dX0_dropDue_6 : decode cX0_dropDue 6 = .ok (.istore_n 3, 1) := by decide +kernel
theorem dX0_dropDue_7 : decode cX0_dropDue 7 = .ok (.iload_n 3, 1) := by decide +kernel
theorem dX0_dropDue_8 : decode cX0_dropDue 8 = .ok (.istore 4, 2) := by decide +kernel
theorem dX0_dropDue_10 : decode cX0_dropDue 10 = .ok (.iload 4, 2) := by decide +kernel
theorem dX0_dropDue_12 : decode cX0_dropDue 12 = .ok (.iload_n 3, 1) := by decide +kernel
theorem dX0_dropDue_13 : decode cX0_dropDue 13 = .ok (.bipush 60, 2) := by decide +kernel
theorem dX0_dropDue_15 : decode cX0_dropDue 15 = .ok (.iadd, 1) := by decide +kernel
theorem dX0_dropDue_16 : decode cX0_dropDue 16 = .ok (.if_icmp .ge 35, 3) := by decide +kernel
theorem dX0_dropDue_19 : decode cX0_dropDue 19 = .ok (.iload_n 2, 1) := by decide +kernel
theorem dX0_dropDue_20 : decode cX0_dropDue 20 = .ok (.aload_n 0, 1) := by decide +kernel
theorem dX0_dropDue_21 : decode cX0_dropDue 21 = .ok (.getfield 18, 3) := by decide +kernel
theorem dX0_dropDue_24 : decode cX0_dropDue 24 = .ok (.iload 4, 2) := by decide +kernel
theorem dX0_dropDue_26 : decode cX0_dropDue 26 = .ok (.iaload, 1) := by decide +kernel
theorem dX0_dropDue_27 : decode cX0_dropDue 27 = .ok (.isub, 1) := by decide +kernel
theorem dX0_dropDue_28 : decode cX0_dropDue 28 = .ok (.aload_n 0, 1) := by decide +kernel
theorem dX0_dropDue_29 : decode cX0_dropDue 29 = .ok (.getfield 9, 3) := by decide +kernel
theorem dX0_dropDue_32 : decode cX0_dropDue 32 = .ok (.iload_n 1, 1) := by decide +kernel
theorem dX0_dropDue_33 : decode cX0_dropDue 33 = .ok (.iaload, 1) := by decide +kernel
theorem dX0_dropDue_34 : decode cX0_dropDue 34 = .ok (.if_icmp .lt 11, 3) := by decide +kernel
theorem dX0_dropDue_37 : decode cX0_dropDue 37 = .ok (.aload_n 0, 1) := by decide +kernel
theorem dX0_dropDue_38 : decode cX0_dropDue 38 = .ok (.getfield 15, 3) := by decide +kernel
theorem dX0_dropDue_41 : decode cX0_dropDue 41 = .ok (.iload 4, 2) := by decide +kernel
theorem dX0_dropDue_43 : decode cX0_dropDue 43 = .ok (.iconst (-1), 1) := by decide +kernel
theorem dX0_dropDue_44 : decode cX0_dropDue 44 = .ok (.iastore, 1) := by decide +kernel
theorem dX0_dropDue_45 : decode cX0_dropDue 45 = .ok (.iinc 4 1, 3) := by decide +kernel
theorem dX0_dropDue_48 : decode cX0_dropDue 48 = .ok (.goto (-38), 3) := by decide +kernel
theorem dX0_dropDue_51 : decode cX0_dropDue 51 = .ok (.return_, 1) := by decide +kernel
theorem dX0_place_0 : decode cX0_place 0 = .ok (.iload_n 0, 1) := by decide +kernel
theorem dX0_place_1 : decode cX0_place 1 = .ok (.bipush 60, 2) := by decide +kernel
theorem dX0_place_3 : decode cX0_place 3 = .ok (.imul, 1) := by decide +kernel
theorem dX0_place_4 : decode cX0_place 4 = .ok (.iload_n 1, 1) := by decide +kernel
theorem dX0_place_5 : decode cX0_place 5 = .ok (.bipush 6, 2) := by decide +kernel
theorem dX0_place_7 : decode cX0_place 7 = .ok (.imul, 1) := by decide +kernel
theorem dX0_place_8 : decode cX0_place 8 = .ok (.iadd, 1) := by decide +kernel
theorem dX0_place_9 : decode cX0_place 9 = .ok (.iload_n 2, 1) := by decide +kernel
theorem dX0_place_10 : decode cX0_place 10 = .ok (.iadd, 1) := by decide +kernel
theorem dX0_place_11 : decode cX0_place 11 = .ok (.ireturn, 1) := by decide +kernel
theorem dX1_init_0 : decode cX1_init 0 = .ok (.aload_n 0, 1) := by decide +kernel
theorem dX1_init_1 : decode cX1_init 1 = .ok (.invokespecial 3, 3) := by decide +kernel
theorem dX1_init_4 : decode cX1_init 4 = .ok (.aload_n 0, 1) := by decide +kernel
theorem dX1_init_5 : decode cX1_init 5 = .ok (.bipush 10, 2) := by decide +kernel
theorem dX1_init_7 : decode cX1_init 7 = .ok (.newarray .int, 2) := by decide +kernel
theorem dX1_init_9 : decode cX1_init 9 = .ok (.putfield 9, 3) := by decide +kernel
theorem dX1_init_12 : decode cX1_init 12 = .ok (.aload_n 0, 1) := by decide +kernel
theorem dX1_init_13 : decode cX1_init 13 = .ok (.bipush 8, 2) := by decide +kernel
theorem dX1_init_15 : decode cX1_init 15 = .ok (.newarray .int, 2) := by decide +kernel
theorem dX1_init_17 : decode cX1_init 17 = .ok (.putfield 15, 3) := by decide +kernel
theorem dX1_init_20 : decode cX1_init 20 = .ok (.aload_n 0, 1) := by decide +kernel
theorem dX1_init_21 : decode cX1_init 21 = .ok (.bipush 6, 2) := by decide +kernel
theorem dX1_init_23 : decode cX1_init 23 = .ok (.newarray .int, 2) := by decide +kernel
theorem dX1_init_25 : decode cX1_init 25 = .ok (.putfield 18, 3) := by decide +kernel
theorem dX1_init_28 : decode cX1_init 28 = .ok (.aload_n 0, 1) := by decide +kernel
theorem dX1_init_29 : decode cX1_init 29 = .ok (.bipush 6, 2) := by decide +kernel
theorem dX1_init_31 : decode cX1_init 31 = .ok (.newarray .int, 2) := by decide +kernel
theorem dX1_init_33 : decode cX1_init 33 = .ok (.putfield 21, 3) := by decide +kernel
theorem dX1_init_36 : decode cX1_init 36 = .ok (.return_, 1) := by decide +kernel
set_option maxRecDepth 20000 in
theorem ggX1_placePerson_X1_contains : GoodIn wsX1_placePerson wsX1_contains := goodIn_r _ [5] (by decide +kernel) (by decide +kernel)
set_option maxRecDepth 20000 in
theorem gX1_placePerson_X1_contains : GoodIn wsX1_placePerson (va_wsS RX1 24 yX1_contains wsX1_contains) := goodIn_app (goodIn_of _ (by decide +kernel)) ggX1_placePerson_X1_contains
set_option maxRecDepth 20000 in
theorem ggX1_placePerson_X1_changed : GoodIn wsX1_placePerson wsX1_changed := goodIn_r _ [8] (by decide +kernel) (by decide +kernel)
set_option maxRecDepth 20000 in
theorem gX1_placePerson_X1_changed : GoodIn wsX1_placePerson (va_wsS RX1 28 yX1_changed wsX1_changed) := goodIn_app (goodIn_of _ (by decide +kernel)) ggX1_placePerson_X1_changed
theorem dX1_placePerson_0 : decode cX1_placePerson 0 = .ok (.aload_n 0, 1) := by decide +kernel
theorem dX1_placePerson_1 : decode cX1_placePerson 1 = .ok (.getfield 9, 3) := by decide +kernel
theorem dX1_placePerson_4 : decode cX1_placePerson 4 = .ok (.iload_n 2, 1) := by decide +kernel
theorem dX1_placePerson_5 : decode cX1_placePerson 5 = .ok (.iaload, 1) := by decide +kernel
theorem dX1_placePerson_6 : decode cX1_placePerson 6 = .ok (.iload_n 1, 1) := by decide +kernel
theorem dX1_placePerson_7 : decode cX1_placePerson 7 = .ok (.invokestatic 24, 3) := by decide +kernel
theorem dX1_placePerson_10 : decode cX1_placePerson 10 = .ok (.istore 4, 2) := by decide +kernel
theorem dX1_placePerson_12 : decode cX1_placePerson 12 = .ok (.aload_n 0, 1) := by decide +kernel
theorem dX1_placePerson_13 : decode cX1_placePerson 13 = .ok (.getfield 9, 3) := by decide +kernel
theorem dX1_placePerson_16 : decode cX1_placePerson 16 = .ok (.iload_n 2, 1) := by decide +kernel
theorem dX1_placePerson_17 : decode cX1_placePerson 17 = .ok (.aload_n 0, 1) := by decide +kernel
theorem dX1_placePerson_18 : decode cX1_placePerson 18 = .ok (.getfield 9, 3) := by decide +kernel
theorem dX1_placePerson_21 : decode cX1_placePerson 21 = .ok (.iload_n 2, 1) := by decide +kernel
theorem dX1_placePerson_22 : decode cX1_placePerson 22 = .ok (.iaload, 1) := by decide +kernel
theorem dX1_placePerson_23 : decode cX1_placePerson 23 = .ok (.iload_n 1, 1) := by decide +kernel
theorem dX1_placePerson_24 : decode cX1_placePerson 24 = .ok (.iload_n 3, 1) := by decide +kernel
theorem dX1_placePerson_25 : decode cX1_placePerson 25 = .ok (.invokestatic 28, 3) := by decide +kernel
theorem dX1_placePerson_28 : decode cX1_placePerson 28 = .ok (.iastore, 1) := by decide +kernel
theorem dX1_placePerson_29 : decode cX1_placePerson 29 = .ok (.iload 4, 2) := by decide +kernel
theorem dX1_placePerson_31 : decode cX1_placePerson 31 = .ok (.ireturn, 1) := by decide +kernel
set_option maxRecDepth 20000 in
theorem ggX1_placeGroup_X1_contains : GoodIn wsX1_placeGroup wsX1_contains := goodIn_r _ [5] (by decide +kernel) (by decide +kernel)
set_option maxRecDepth 20000 in
theorem gX1_placeGroup_X1_contains : GoodIn wsX1_placeGroup (va_wsS RX1 24 yX1_contains wsX1_contains) := goodIn_app (goodIn_of _ (by decide +kernel)) ggX1_placeGroup_X1_contains
set_option maxRecDepth 20000 in
theorem ggX1_placeGroup_X1_changed : GoodIn wsX1_placeGroup wsX1_changed := goodIn_r _ [8] (by decide +kernel) (by decide +kernel)
set_option maxRecDepth 20000 in
theorem gX1_placeGroup_X1_changed : GoodIn wsX1_placeGroup (va_wsS RX1 28 yX1_changed wsX1_changed) := goodIn_app (goodIn_of _ (by decide +kernel)) ggX1_placeGroup_X1_changed
theorem dX1_placeGroup_0 : decode cX1_placeGroup 0 = .ok (.aload_n 0, 1) := by decide +kernel
theorem dX1_placeGroup_1 : decode cX1_placeGroup 1 = .ok (.getfield 15, 3) := by decide +kernel
theorem dX1_placeGroup_4 : decode cX1_placeGroup 4 = .ok (.iload_n 2, 1) := by decide +kernel
theorem dX1_placeGroup_5 : decode cX1_placeGroup 5 = .ok (.iaload, 1) := by decide +kernel
theorem dX1_placeGroup_6 : decode cX1_placeGroup 6 = .ok (.iload_n 1, 1) := by decide +kernel
theorem dX1_placeGroup_7 : decode cX1_placeGroup 7 = .ok (.invokestatic 24, 3) := by decide +kernel
theorem dX1_placeGroup_10 : decode cX1_placeGroup 10 = .ok (.istore 4, 2) := by decide +kernel
theorem dX1_placeGroup_12 : decode cX1_placeGroup 12 = .ok (.aload_n 0, 1) := by decide +kernel
theorem dX1_placeGroup_13 : decode cX1_placeGroup 13 = .ok (.getfield 15, 3) := by decide +kernel
theorem dX1_placeGroup_16 : decode cX1_placeGroup 16 = .ok (.iload_n 2, 1) := by decide +kernel
theorem dX1_placeGroup_17 : decode cX1_placeGroup 17 = .ok (.aload_n 0, 1) := by decide +kernel
theorem dX1_placeGroup_18 : decode cX1_placeGroup 18 = .ok (.getfield 15, 3) := by decide +kernel
theorem dX1_placeGroup_21 : decode cX1_placeGroup 21 = .ok (.iload_n 2, 1) := by decide +kernel
theorem dX1_placeGroup_22 : decode cX1_placeGroup 22 = .ok (.iaload, 1) := by decide +kernel
theorem dX1_placeGroup_23 : decode cX1_placeGroup 23 = .ok (.iload_n 1, 1) := by decide +kernel
theorem dX1_placeGroup_24 : decode cX1_placeGroup 24 = .ok (.iload_n 3, 1) := by decide +kernel
theorem dX1_placeGroup_25 : decode cX1_placeGroup 25 = .ok (.invokestatic 28, 3) := by decide +kernel
theorem dX1_placeGroup_28 : decode cX1_placeGroup 28 = .ok (.iastore, 1) := by decide +kernel
theorem dX1_placeGroup_29 : decode cX1_placeGroup 29 = .ok (.iload 4, 2) := by decide +kernel
theorem dX1_placeGroup_31 : decode cX1_placeGroup 31 = .ok (.ireturn, 1) := by decide +kernel
set_option maxRecDepth 20000 in
theorem ggX1_giveRole_X1_roleOf : GoodIn wsX1_giveRole wsX1_roleOf := goodIn_r _ [7, 1, 2, 8, 9, 6, 10, 14, 15, 16, 17] (by decide +kernel) (by decide +kernel)
set_option maxRecDepth 20000 in
theorem gX1_giveRole_X1_roleOf : GoodIn wsX1_giveRole (wsV RX1 32 RX1 yX1_roleOf wsX1_roleOf) := goodIn_app (goodIn_of _ (by decide +kernel)) ggX1_giveRole_X1_roleOf
set_option maxRecDepth 20000 in
theorem ggX1_giveRole_X1_changed : GoodIn wsX1_giveRole wsX1_changed := goodIn_r _ [13] (by decide +kernel) (by decide +kernel)
set_option maxRecDepth 20000 in
theorem gX1_giveRole_X1_changed : GoodIn wsX1_giveRole (va_wsS RX1 28 yX1_changed wsX1_changed) := goodIn_app (goodIn_of _ (by decide +kernel)) ggX1_giveRole_X1_changed
theorem dX1_giveRole_0 : decode cX1_giveRole 0 = .ok (.aload_n 0, 1) := by decide +kernel
theorem dX1_giveRole_1 : decode cX1_giveRole 1 = .ok (.iload_n 1, 1) := by decide +kernel
theorem dX1_giveRole_2 : decode cX1_giveRole 2 = .ok (.iload_n 2, 1) := by decide +kernel
theorem dX1_giveRole_3 : decode cX1_giveRole 3 = .ok (.invokevirtual 32, 3) := by decide +kernel
theorem dX1_giveRole_6 : decode cX1_giveRole 6 = .ok (.istore 4, 2) := by decide +kernel
theorem dX1_giveRole_8 : decode cX1_giveRole 8 = .ok (.aload_n 0, 1) := by decide +kernel
theorem dX1_giveRole_9 : decode cX1_giveRole 9 = .ok (.getfield 18, 3) := by decide +kernel
theorem dX1_giveRole_12 : decode cX1_giveRole 12 = .ok (.iload_n 2, 1) := by decide +kernel
theorem dX1_giveRole_13 : decode cX1_giveRole 13 = .ok (.aload_n 0, 1) := by decide +kernel
theorem dX1_giveRole_14 : decode cX1_giveRole 14 = .ok (.getfield 18, 3) := by decide +kernel
theorem dX1_giveRole_17 : decode cX1_giveRole 17 = .ok (.iload_n 2, 1) := by decide +kernel
theorem dX1_giveRole_18 : decode cX1_giveRole 18 = .ok (.iaload, 1) := by decide +kernel
theorem dX1_giveRole_19 : decode cX1_giveRole 19 = .ok (.iload_n 1, 1) := by decide +kernel
theorem dX1_giveRole_20 : decode cX1_giveRole 20 = .ok (.iload_n 3, 1) := by decide +kernel
theorem dX1_giveRole_21 : decode cX1_giveRole 21 = .ok (.iconst 1, 1) := by decide +kernel
theorem dX1_giveRole_22 : decode cX1_giveRole 22 = .ok (.if_icmp .ne 7, 3) := by decide +kernel
theorem dX1_giveRole_25 : decode cX1_giveRole 25 = .ok (.iconst 1, 1) := by decide +kernel
theorem dX1_giveRole_26 : decode cX1_giveRole 26 = .ok (.goto 4, 3) := by decide +kernel
theorem dX1_giveRole_29 : decode cX1_giveRole 29 = .ok (.iconst 0, 1) := by decide +kernel
theorem dX1_giveRole_30 : decode cX1_giveRole 30 = .ok (.invokestatic 28, 3) := by decide +kernel
theorem dX1_giveRole_33 : decode cX1_giveRole 33 = .ok (.iastore, 1) := by decide +kernel
theorem dX1_giveRole_34 : decode cX1_giveRole 34 = .ok (.aload_n 0, 1) := by decide +kernel
theorem dX1_giveRole_35 : decode cX1_giveRole 35 = .ok (.getfield 21, 3) := by decide +kernel
theorem dX1_giveRole_38 : decode cX1_giveRole 38 = .ok (.iload_n 2, 1) := by decide +kernel
theorem dX1_giveRole_39 : decode cX1_giveRole 39 = .ok (.aload_n 0, 1) := by decide +kernel
theorem dX1_giveRole_40 : decode cX1_giveRole 40 = .ok (.getfield 21, 3) := by decide +kernel
theorem dX1_giveRole_43 : decode cX1_giveRole 43 = .ok (.iload_n 2, 1) := by decide +kernel
theorem dX1_giveRole_44 : decode cX1_giveRole 44 = .ok (.iaload, 1) := by decide +kernel
theorem dX1_giveRole_45 : decode cX1_giveRole 45 = .ok (.iload_n 1, 1) := by decide +kernel
theorem dX1_giveRole_46 : decode cX1_giveRole 46 = .ok (.iload_n 3, 1) := by decide +kernel
theorem dX1_giveRole_47 : decode cX1_giveRole 47 = .ok (.iconst 2, 1) := by decide +kernel
theorem dX1_giveRole_48 : decode cX1_giveRole 48 = .ok (.if_icmp .ne 7, 3) := by decide +kernel
theorem dX1_giveRole_51 : decode cX1_giveRole 51 = .ok (.iconst 1, 1) := by decide +kernel
theorem dX1_giveRole_52 : decode cX1_giveRole 52 = .ok (.goto 4, 3) := by decide +kernel
theorem dX1_giveRole_55 : decode cX1_giveRole 55 = .ok (.iconst 0, 1) := by decide +kernel
theorem dX1_giveRole_56 : decode cX1_giveRole 56 = .ok (.invokestatic 28, 3) := by decide +kernel
theorem dX1_giveRole_59 : decode cX1_giveRole 59 = .ok (.iastore, 1) := by decide +kernel
theorem dX1_giveRole_60 : decode cX1_giveRole 60 = .ok (.iload 4, 2) := by decide +kernel
theorem dX1_giveRole_62 : decode cX1_giveRole 62 = .ok (.ireturn, 1) := by decide +kernel
set_option maxRecDepth 20000 in
theorem ggX1_hasPerson_X1_allAround : GoodIn wsX1_hasPerson wsX1_allAround := goodIn_r _ [6, 7, 8, 9, 5, 10, 11, 12, 13, 14, 15, 16, 17, 18] (by decide +kernel) (by decide +kernel)
set_option maxRecDepth 20000 in
theorem gX1_hasPerson_X1_allAround : GoodIn wsX1_hasPerson (wsV RX1 36 RX1 yX1_allAround wsX1_allAround) := goodIn_app (goodIn_of _ (by decide +kernel)) ggX1_hasPerson_X1_allAround
set_option maxRecDepth 20000 in
theorem ggX1_hasPerson_X1_contains : GoodIn wsX1_hasPerson wsX1_contains := goodIn_r _ [14] (by decide +kernel) (by decide +kernel)
set_option maxRecDepth 20000 in
theorem gX1_hasPerson_X1_contains : GoodIn wsX1_hasPerson (va_wsS RX1 24 yX1_contains wsX1_contains) := goodIn_app (goodIn_of _ (by decide +kernel)) ggX1_hasPerson_X1_contains
theorem dX1_hasPerson_0 : decode cX1_hasPerson 0 = .ok (.aload_n 0, 1) := by decide +kernel
theorem dX1_hasPerson_1 : decode cX1_hasPerson 1 = .ok (.aload_n 0, 1) := by decide +kernel
theorem dX1_hasPerson_2 : decode cX1_hasPerson 2 = .ok (.getfield 9, 3) := by decide +kernel
theorem dX1_hasPerson_5 : decode cX1_hasPerson 5 = .ok (.iload_n 2, 1) := by decide +kernel
theorem dX1_hasPerson_6 : decode cX1_hasPerson 6 = .ok (.iaload, 1) := by decide +kernel
theorem dX1_hasPerson_7 : decode cX1_hasPerson 7 = .ok (.invokevirtual 36, 3) := by decide +kernel
theorem dX1_hasPerson_10 : decode cX1_hasPerson 10 = .ok (.iload_n 1, 1) := by decide +kernel
theorem dX1_hasPerson_11 : decode cX1_hasPerson 11 = .ok (.invokestatic 24, 3) := by decide +kernel
theorem dX1_hasPerson_14 : decode cX1_hasPerson 14 = .ok (.ireturn, 1) := by decide +kernel
set_option maxRecDepth 20000 in
theorem ggX1_isAround_X1_allAround : GoodIn wsX1_isAround wsX1_allAround := goodIn_r _ [6, 7, 8, 9, 5, 10, 1, 11, 12, 13, 14, 15, 16, 17] (by decide +kernel) (by decide +kernel)
set_option maxRecDepth 20000 in
theorem gX1_isAround_X1_allAround : GoodIn wsX1_isAround (wsV RX1 36 RX1 yX1_allAround wsX1_allAround) := goodIn_app (goodIn_of _ (by decide +kernel)) ggX1_isAround_X1_allAround
set_option maxRecDepth 20000 in
theorem ggX1_isAround_X1_contains : GoodIn wsX1_isAround wsX1_contains := goodIn_r _ [13] (by decide +kernel) (by decide +kernel)
set_option maxRecDepth 20000 in
theorem gX1_isAround_X1_contains : GoodIn wsX1_isAround (va_wsS RX1 24 yX1_contains wsX1_contains) := goodIn_app (goodIn_of _ (by decide +kernel)) ggX1_isAround_X1_contains
theorem dX1_isAround_0 : decode cX1_isAround 0 = .ok (.aload_n 0, 1) := by decide +kernel
theorem dX1_isAround_1 : decode cX1_isAround 1 = .ok (.aload_n 0, 1) := by decide +kernel
theorem dX1_isAround_2 : decode cX1_isAround 2 = .ok (.getfield 15, 3) := by decide +kernel
theorem dX1_isAround_5 : decode cX1_isAround 5 = .ok (.iload_n 2, 1) := by decide +kernel
theorem dX1_isAround_6 : decode cX1_isAround 6 = .ok (.iaload, 1) := by decide +kernel
theorem dX1_isAround_7 : decode cX1_isAround 7 = .ok (.invokevirtual 36, 3) := by decide +kernel
theorem dX1_isAround_10 : decode cX1_isAround 10 = .ok (.iload_n 1, 1) := by decide +kernel
theorem dX1_isAround_11 : decode cX1_isAround 11 = .ok (.invokestatic 24, 3) := by decide +kernel
theorem dX1_isAround_14 : decode cX1_isAround 14 = .ok (.ireturn, 1) := by decide +kernel
set_option maxRecDepth 20000 in
theorem ggX1_anyGrants_X1_allAround : GoodIn wsX1_anyGrants wsX1_allAround := goodIn_r _ [7, 8, 9, 10, 6, 11, 12, 13, 14, 15, 16, 17, 18, 19] (by decide +kernel) (by decide +kernel)
set_option maxRecDepth 20000 in
theorem gX1_anyGrants_X1_allAround : GoodIn wsX1_anyGrants (wsV RX1 36 RX1 yX1_allAround wsX1_allAround) := goodIn_app (goodIn_of _ (by decide +kernel)) ggX1_anyGrants_X1_allAround
theorem dX1_anyGrants_0 : decode cX1_anyGrants 0 = .ok (.aload_n 0, 1) := by decide +kernel
theorem dX1_anyGrants_1 : decode cX1_anyGrants 1 = .ok (.aload_n 0, 1) := by decide +kernel
theorem dX1_anyGrants_2 : decode cX1_anyGrants 2 = .ok (.getfield 9, 3) := by decide +kernel
theorem dX1_anyGrants_5 : decode cX1_anyGrants 5 = .ok (.iload_n 1, 1) := by decide +kernel
theorem dX1_anyGrants_6 : decode cX1_anyGrants 6 = .ok (.iaload, 1) := by decide +kernel
theorem dX1_anyGrants_7 : decode cX1_anyGrants 7 = .ok (.invokevirtual 36, 3) := by decide +kernel
theorem dX1_anyGrants_10 : decode cX1_anyGrants 10 = .ok (.aload_n 0, 1) := by decide +kernel
theorem dX1_anyGrants_11 : decode cX1_anyGrants 11 = .ok (.getfield 18, 3) := by decide +kernel
theorem dX1_anyGrants_14 : decode cX1_anyGrants 14 = .ok (.iload_n 2, 1) := by decide +kernel
theorem dX1_anyGrants_15 : decode cX1_anyGrants 15 = .ok (.iaload, 1) := by decide +kernel
theorem dX1_anyGrants_16 : decode cX1_anyGrants 16 = .ok (.iand, 1) := by decide +kernel
theorem dX1_anyGrants_17 : decode cX1_anyGrants 17 = .ok (.ifCond .eq 7, 3) := by decide +kernel
theorem dX1_anyGrants_20 : decode cX1_anyGrants 20 = .ok (.iconst 1, 1) := by decide +kernel
theorem dX1_anyGrants_21 : decode cX1_anyGrants 21 = .ok (.goto 4, 3) := by decide +kernel
theorem dX1_anyGrants_24 : decode cX1_anyGrants 24 = .ok (.iconst 0, 1) := by decide +kernel
theorem dX1_anyGrants_25 : decode cX1_anyGrants 25 = .ok (.ireturn, 1) := by decide +kernel
set_option maxRecDepth 20000 in
theorem ggX1_anyDenies_X1_allAround : GoodIn wsX1_anyDenies wsX1_allAround := goodIn_r _ [7, 8, 9, 10, 6, 11, 12, 13, 14, 15, 16, 17, 18, 19] (by decide +kernel) (by decide +kernel)
set_option maxRecDepth 20000 in
theorem gX1_anyDenies_X1_allAround : GoodIn wsX1_anyDenies (wsV RX1 36 RX1 yX1_allAround wsX1_allAround) := goodIn_app (goodIn_of _ (by decide +kernel)) ggX1_anyDenies_X1_allAround
theorem dX1_anyDenies_0 : decode cX1_anyDenies 0 = .ok (.aload_n 0, 1) := by decide +kernel
theorem dX1_anyDenies_1 : decode cX1_anyDenies 1 = .ok (.aload_n 0, 1) := by decide +kernel
theorem dX1_anyDenies_2 : decode cX1_anyDenies 2 = .ok (.getfield 9, 3) := by decide +kernel
theorem dX1_anyDenies_5 : decode cX1_anyDenies 5 = .ok (.iload_n 1, 1) := by decide +kernel
theorem dX1_anyDenies_6 : decode cX1_anyDenies 6 = .ok (.iaload, 1) := by decide +kernel
theorem dX1_anyDenies_7 : decode cX1_anyDenies 7 = .ok (.invokevirtual 36, 3) := by decide +kernel
theorem dX1_anyDenies_10 : decode cX1_anyDenies 10 = .ok (.aload_n 0, 1) := by decide +kernel
theorem dX1_anyDenies_11 : decode cX1_anyDenies 11 = .ok (.getfield 21, 3) := by decide +kernel
theorem dX1_anyDenies_14 : decode cX1_anyDenies 14 = .ok (.iload_n 2, 1) := by decide +kernel
theorem dX1_anyDenies_15 : decode cX1_anyDenies 15 = .ok (.iaload, 1) := by decide +kernel
theorem dX1_anyDenies_16 : decode cX1_anyDenies 16 = .ok (.iand, 1) := by decide +kernel
theorem dX1_anyDenies_17 : decode cX1_anyDenies 17 = .ok (.ifCond .eq 7, 3) := by decide +kernel
theorem dX1_anyDenies_20 : decode cX1_anyDenies 20 = .ok (.iconst 1, 1) := by decide +kernel
theorem dX1_anyDenies_21 : decode cX1_anyDenies 21 = .ok (.goto 4, 3) := by decide +kernel
theorem dX1_anyDenies_24 : decode cX1_anyDenies 24 = .ok (.iconst 0, 1) := by decide +kernel
theorem dX1_anyDenies_25 : decode cX1_anyDenies 25 = .ok (.ireturn, 1) := by decide +kernel
set_option maxRecDepth 20000 in
theorem ggX1_roleOf_X1_contains : GoodIn wsX1_roleOf wsX1_contains := goodIn_r _ [6] (by decide +kernel) (by decide +kernel)
set_option maxRecDepth 20000 in
theorem gX1_roleOf_X1_contains : GoodIn wsX1_roleOf (va_wsS RX1 24 yX1_contains wsX1_contains) := goodIn_app (goodIn_of _ (by decide +kernel)) ggX1_roleOf_X1_contains
theorem dX1_roleOf_0 : decode cX1_roleOf 0 = .ok (.aload_n 0, 1) := by decide +kernel
theorem dX1_roleOf_1 : decode cX1_roleOf 1 = .ok (.getfield 18, 3) := by decide +kernel
theorem dX1_roleOf_4 : decode cX1_roleOf 4 = .ok (.iload_n 2, 1) := by decide +kernel
theorem dX1_roleOf_5 : decode cX1_roleOf 5 = .ok (.iaload, 1) := by decide +kernel
theorem dX1_roleOf_6 : decode cX1_roleOf 6 = .ok (.iload_n 1, 1) := by decide +kernel
theorem dX1_roleOf_7 : decode cX1_roleOf 7 = .ok (.invokestatic 24, 3) := by decide +kernel
theorem dX1_roleOf_10 : decode cX1_roleOf 10 = .ok (.ifCond .eq 5, 3) := by decide +kernel
theorem dX1_roleOf_13 : decode cX1_roleOf 13 = .ok (.iconst 1, 1) := by decide +kernel
theorem dX1_roleOf_14 : decode cX1_roleOf 14 = .ok (.ireturn, 1) := by decide +kernel
theorem dX1_roleOf_15 : decode cX1_roleOf 15 = .ok (.aload_n 0, 1) := by decide +kernel
theorem dX1_roleOf_16 : decode cX1_roleOf 16 = .ok (.getfield 21, 3) := by decide +kernel
theorem dX1_roleOf_19 : decode cX1_roleOf 19 = .ok (.iload_n 2, 1) := by decide +kernel
theorem dX1_roleOf_20 : decode cX1_roleOf 20 = .ok (.iaload, 1) := by decide +kernel
theorem dX1_roleOf_21 : decode cX1_roleOf 21 = .ok (.iload_n 1, 1) := by decide +kernel
theorem dX1_roleOf_22 : decode cX1_roleOf 22 = .ok (.invokestatic 24, 3) := by decide +kernel
theorem dX1_roleOf_25 : decode cX1_roleOf 25 = .ok (.ifCond .eq 7, 3) := by decide +kernel
theorem dX1_roleOf_28 : decode cX1_roleOf 28 = .ok (.iconst 2, 1) := by decide +kernel
theorem dX1_roleOf_29 : decode cX1_roleOf 29 = .ok (.goto 4, 3) := by decide +kernel
theorem dX1_roleOf_32 : decode cX1_roleOf 32 = .ok (.iconst 0, 1) := by decide +kernel
theorem dX1_roleOf_33 : decode cX1_roleOf 33 = .ok (.ireturn, 1) := by decide +kernel
set_option maxRecDepth 20000 in
theorem ggX1_allAround_X1_oneLinkFurther : GoodIn wsX1_allAround wsX1_oneLinkFurther := goodIn_r _ [5, 6, 7, 8, 4, 9, 10, 11, 12, 13] (by decide +kernel) (by decide +kernel)
set_option maxRecDepth 20000 in
theorem gX1_allAround_X1_oneLinkFurther : GoodIn wsX1_allAround (wsV RX1 40 RX1 yX1_oneLinkFurther wsX1_oneLinkFurther) := goodIn_app (goodIn_of _ (by decide +kernel)) ggX1_allAround_X1_oneLinkFurther
theorem dX1_allAround_0 : decode cX1_allAround 0 = .ok (.iload_n 1, 1) := by decide +kernel
theorem dX1_allAround_1 : decode cX1_allAround 1 = .ok (.istore_n 2, 1) := by decide +kernel
theorem dX1_allAround_2 : decode cX1_allAround 2 = .ok (.iconst 0, 1) := by decide +kernel
theorem dX1_allAround_3 : decode cX1_allAround 3 = .ok (.istore_n 3, 1) := by decide +kernel
theorem dX1_allAround_4 : decode cX1_allAround 4 = .ok (.iload_n 3, 1) := by decide +kernel
theorem dX1_allAround_5 : decode cX1_allAround 5 = .ok (.bipush 8, 2) := by decide +kernel
theorem dX1_allAround_7 : decode cX1_allAround 7 = .ok (.if_icmp .ge 15, 3) := by decide +kernel
theorem dX1_allAround_10 : decode cX1_allAround 10 = .ok (.aload_n 0, 1) := by decide +kernel
theorem dX1_allAround_11 : decode cX1_allAround 11 = .ok (.iload_n 2, 1) := by decide +kernel
theorem dX1_allAround_12 : decode cX1_allAround 12 = .ok (.invokevirtual 40, 3) := by decide +kernel
theorem dX1_allAround_15 : decode cX1_allAround 15 = .ok (.istore_n 2, 1) := by decide +kernel
theorem dX1_allAround_16 : decode cX1_allAround 16 = .ok (.iinc 3 1, 3) := by decide +kernel
theorem dX1_allAround_19 : decode cX1_allAround 19 = .ok (.goto (-15), 3) := by decide +kernel
theorem dX1_allAround_22 : decode cX1_allAround 22 = .ok (.iload_n 2, 1) := by decide +kernel
theorem dX1_allAround_23 : decode cX1_allAround 23 = .ok (.ireturn, 1) := by decide +kernel
set_option maxRecDepth 20000 in
theorem ggX1_oneLinkFurther_X1_contains : GoodIn wsX1_oneLinkFurther wsX1_contains := goodIn_r _ [5] (by decide +kernel) (by decide +kernel)
set_option maxRecDepth 20000 in
theorem gX1_oneLinkFurther_X1_contains : GoodIn wsX1_oneLinkFurther (va_wsS RX1 24 yX1_contains wsX1_contains) := goodIn_app (goodIn_of _ (by decide +kernel)) ggX1_oneLinkFurther_X1_contains
theorem dX1_oneLinkFurther_0 : decode cX1_oneLinkFurther 0 = .ok (.iload_n 1, 1) := by decide +kernel
theorem dX1_oneLinkFurther_1 : decode cX1_oneLinkFurther 1 = .ok (.istore_n 2, 1) := by decide +kernel
theorem dX1_oneLinkFurther_2 : decode cX1_oneLinkFurther 2 = .ok (.iconst 0, 1) := by decide +kernel
theorem dX1_oneLinkFurther_3 : decode cX1_oneLinkFurther 3 = .ok (.istore_n 3, 1) := by decide +kernel
theorem dX1_oneLinkFurther_4 : decode cX1_oneLinkFurther 4 = .ok (.iload_n 3, 1) := by decide +kernel
theorem dX1_oneLinkFurther_5 : decode cX1_oneLinkFurther 5 = .ok (.bipush 8, 2) := by decide +kernel
theorem dX1_oneLinkFurther_7 : decode cX1_oneLinkFurther 7 = .ok (.if_icmp .ge 26, 3) := by decide +kernel
theorem dX1_oneLinkFurther_10 : decode cX1_oneLinkFurther 10 = .ok (.iload_n 1, 1) := by decide +kernel
theorem dX1_oneLinkFurther_11 : decode cX1_oneLinkFurther 11 = .ok (.iload_n 3, 1) := by decide +kernel
theorem dX1_oneLinkFurther_12 : decode cX1_oneLinkFurther 12 = .ok (.invokestatic 24, 3) := by decide +kernel
theorem dX1_oneLinkFurther_15 : decode cX1_oneLinkFurther 15 = .ok (.ifCond .eq 12, 3) := by decide +kernel
theorem dX1_oneLinkFurther_18 : decode cX1_oneLinkFurther 18 = .ok (.iload_n 2, 1) := by decide +kernel
theorem dX1_oneLinkFurther_19 : decode cX1_oneLinkFurther 19 = .ok (.aload_n 0, 1) := by decide +kernel
theorem dX1_oneLinkFurther_20 : decode cX1_oneLinkFurther 20 = .ok (.getfield 15, 3) := by decide +kernel
theorem dX1_oneLinkFurther_23 : decode cX1_oneLinkFurther 23 = .ok (.iload_n 3, 1) := by decide +kernel
theorem dX1_oneLinkFurther_24 : decode cX1_oneLinkFurther 24 = .ok (.iaload, 1) := by decide +kernel
theorem dX1_oneLinkFurther_25 : decode cX1_oneLinkFurther 25 = .ok (.ior, 1) := by decide +kernel
theorem dX1_oneLinkFurther_26 : decode cX1_oneLinkFurther 26 = .ok (.istore_n 2, 1) := by decide +kernel
theorem dX1_oneLinkFurther_27 : decode cX1_oneLinkFurther 27 = .ok (.iinc 3 1, 3) := by decide +kernel
theorem dX1_oneLinkFurther_30 : decode cX1_oneLinkFurther 30 = .ok (.goto (-26), 3) := by decide +kernel
theorem dX1_oneLinkFurther_33 : decode cX1_oneLinkFurther 33 = .ok (.iload_n 2, 1) := by decide +kernel
theorem dX1_oneLinkFurther_34 : decode cX1_oneLinkFurther 34 = .ok (.ireturn, 1) := by decide +kernel
theorem dX1_contains_0 : decode cX1_contains 0 = .ok (.iload_n 0, 1) := by decide +kernel
theorem dX1_contains_1 : decode cX1_contains 1 = .ok (.iload_n 1, 1) := by decide +kernel
theorem dX1_contains_2 : decode cX1_contains 2 = .ok (.ishr, 1) := by decide +kernel
theorem dX1_contains_3 : decode cX1_contains 3 = .ok (.iconst 1, 1) := by decide +kernel
theorem dX1_contains_4 : decode cX1_contains 4 = .ok (.iand, 1) := by decide +kernel
theorem dX1_contains_5 : decode cX1_contains 5 = .ok (.iconst 1, 1) := by decide +kernel
theorem dX1_contains_6 : decode cX1_contains 6 = .ok (.if_icmp .ne 7, 3) := by decide +kernel
theorem dX1_contains_9 : decode cX1_contains 9 = .ok (.iconst 1, 1) := by decide +kernel
theorem dX1_contains_10 : decode cX1_contains 10 = .ok (.goto 4, 3) := by decide +kernel
theorem dX1_contains_13 : decode cX1_contains 13 = .ok (.iconst 0, 1) := by decide +kernel
theorem dX1_contains_14 : decode cX1_contains 14 = .ok (.ireturn, 1) := by decide +kernel
theorem dX1_changed_0 : decode cX1_changed 0 = .ok (.iload_n 2, 1) := by decide +kernel
theorem dX1_changed_1 : decode cX1_changed 1 = .ok (.ifCond .eq 11, 3) := by decide +kernel
theorem dX1_changed_4 : decode cX1_changed 4 = .ok (.iload_n 0, 1) := by decide +kernel
theorem dX1_changed_5 : decode cX1_changed 5 = .ok (.iconst 1, 1) := by decide +kernel
theorem dX1_changed_6 : decode cX1_changed 6 = .ok (.iload_n 1, 1) := by decide +kernel
theorem dX1_changed_7 : decode cX1_changed 7 = .ok (.ishl, 1) := by decide +kernel
theorem dX1_changed_8 : decode cX1_changed 8 = .ok (.ior, 1) := by decide +kernel
theorem dX1_changed_9 : decode cX1_changed 9 = .ok (.goto 10, 3) := by decide +kernel
theorem dX1_changed_12 : decode cX1_changed 12 = .ok (.iload_n 0, 1) := by decide +kernel
theorem dX1_changed_13 : decode cX1_changed 13 = .ok (.iconst 1, 1) := by decide +kernel
theorem dX1_changed_14 : decode cX1_changed 14 = .ok (.iload_n 1, 1) := by decide +kernel
theorem dX1_changed_15 : decode cX1_changed 15 = .ok (.ishl, 1) := by decide +kernel
theorem dX1_changed_16 : decode cX1_changed 16 = .ok (.iconst (-1), 1) := by decide +kernel
theorem dX1_changed_17 : decode cX1_changed 17 = .ok (.ixor, 1) := by decide +kernel
theorem dX1_changed_18 : decode cX1_changed 18 = .ok (.iand, 1) := by decide +kernel
theorem dX1_changed_19 : decode cX1_changed 19 = .ok (.ireturn, 1) := by decide +kernel
theorem dX2_init_0 : decode cX2_init 0 = .ok (.aload_n 0, 1) := by decide +kernel
theorem dX2_init_1 : decode cX2_init 1 = .ok (.invokespecial 1, 3) := by decide +kernel
theorem dX2_init_4 : decode cX2_init 4 = .ok (.aload_n 0, 1) := by decide +kernel
theorem dX2_init_5 : decode cX2_init 5 = .ok (.iconst 0, 1) := by decide +kernel
theorem dX2_init_6 : decode cX2_init 6 = .ok (.putfield 7, 3) := by decide +kernel
theorem dX2_init_9 : decode cX2_init 9 = .ok (.aload_n 0, 1) := by decide +kernel
theorem dX2_init_10 : decode cX2_init 10 = .ok (.iconst 0, 1) := by decide +kernel
theorem dX2_init_11 : decode cX2_init 11 = .ok (.putfield 13, 3) := by decide +kernel
theorem dX2_init_14 : decode cX2_init 14 = .ok (.return_, 1) := by decide +kernel
theorem dX2_signing_0 : decode cX2_signing 0 = .ok (.aload_n 0, 1) := by decide +kernel
theorem dX2_signing_1 : decode cX2_signing 1 = .ok (.getfield 7, 3) := by decide +kernel
theorem dX2_signing_4 : decode cX2_signing 4 = .ok (.ireturn, 1) := by decide +kernel
theorem dX2_signWithNext_0 : decode cX2_signWithNext 0 = .ok (.aload_n 0, 1) := by decide +kernel
theorem dX2_signWithNext_1 : decode cX2_signWithNext 1 = .ok (.dup, 1) := by decide +kernel
theorem dX2_signWithNext_2 : decode cX2_signWithNext 2 = .ok (.getfield 7, 3) := by decide +kernel
theorem dX2_signWithNext_5 : decode cX2_signWithNext 5 = .ok (.iconst 1, 1) := by decide +kernel
theorem dX2_signWithNext_6 : decode cX2_signWithNext 6 = .ok (.iadd, 1) := by decide +kernel
theorem dX2_signWithNext_7 : decode cX2_signWithNext 7 = .ok (.putfield 7, 3) := by decide +kernel
theorem dX2_signWithNext_10 : decode cX2_signWithNext 10 = .ok (.aload_n 0, 1) := by decide +kernel
theorem dX2_signWithNext_11 : decode cX2_signWithNext 11 = .ok (.iload_n 1, 1) := by decide +kernel
theorem dX2_signWithNext_12 : decode cX2_signWithNext 12 = .ok (.putfield 13, 3) := by decide +kernel
theorem dX2_signWithNext_15 : decode cX2_signWithNext 15 = .ok (.return_, 1) := by decide +kernel
theorem dX2_takes_0 : decode cX2_takes 0 = .ok (.iload_n 1, 1) := by decide +kernel
theorem dX2_takes_1 : decode cX2_takes 1 = .ok (.aload_n 0, 1) := by decide +kernel
theorem dX2_takes_2 : decode cX2_takes 2 = .ok (.getfield 7, 3) := by decide +kernel
theorem dX2_takes_5 : decode cX2_takes 5 = .ok (.if_icmp .eq 21, 3) := by decide +kernel
theorem dX2_takes_8 : decode cX2_takes 8 = .ok (.iload_n 1, 1) := by decide +kernel
theorem dX2_takes_9 : decode cX2_takes 9 = .ok (.aload_n 0, 1) := by decide +kernel
theorem dX2_takes_10 : decode cX2_takes 10 = .ok (.getfield 7, 3) := by decide +kernel
theorem dX2_takes_13 : decode cX2_takes 13 = .ok (.iconst 1, 1) := by decide +kernel
theorem dX2_takes_14 : decode cX2_takes 14 = .ok (.isub, 1) := by decide +kernel
theorem dX2_takes_15 : decode cX2_takes 15 = .ok (.if_icmp .ne 15, 3) := by decide +kernel
theorem dX2_takes_18 : decode cX2_takes 18 = .ok (.iload_n 2, 1) := by decide +kernel
theorem dX2_takes_19 : decode cX2_takes 19 = .ok (.aload_n 0, 1) := by decide +kernel
theorem dX2_takes_20 : decode cX2_takes 20 = .ok (.getfield 13, 3) := by decide +kernel
theorem dX2_takes_23 : decode cX2_takes 23 = .ok (.if_icmp .ge 7, 3) := by decide +kernel
theorem dX2_takes_26 : decode cX2_takes 26 = .ok (.iconst 1, 1) := by decide +kernel
theorem dX2_takes_27 : decode cX2_takes 27 = .ok (.goto 4, 3) := by decide +kernel
theorem dX2_takes_30 : decode cX2_takes 30 = .ok (.iconst 0, 1) := by decide +kernel
theorem dX2_takes_31 : decode cX2_takes 31 = .ok (.ireturn, 1) := by decide +kernel
theorem dX3_init_0 : decode cX3_init 0 = .ok (.aload_n 0, 1) := by decide +kernel
theorem dX3_init_1 : decode cX3_init 1 = .ok (.invokespecial 1, 3) := by decide +kernel
theorem dX3_init_4 : decode cX3_init 4 = .ok (.aload_n 0, 1) := by decide +kernel
theorem dX3_init_5 : decode cX3_init 5 = .ok (.bipush 30, 2) := by decide +kernel
theorem dX3_init_7 : decode cX3_init 7 = .ok (.newarray .int, 2) := by decide +kernel
theorem dX3_init_9 : decode cX3_init 9 = .ok (.putfield 9, 3) := by decide +kernel
theorem dX3_init_12 : decode cX3_init 12 = .ok (.aload_n 0, 1) := by decide +kernel
theorem dX3_init_13 : decode cX3_init 13 = .ok (.bipush 30, 2) := by decide +kernel
theorem dX3_init_15 : decode cX3_init 15 = .ok (.newarray .int, 2) := by decide +kernel
theorem dX3_init_17 : decode cX3_init 17 = .ok (.putfield 13, 3) := by decide +kernel
theorem dX3_init_20 : decode cX3_init 20 = .ok (.aload_n 0, 1) := by decide +kernel
theorem dX3_init_21 : decode cX3_init 21 = .ok (.bipush 30, 2) := by decide +kernel
theorem dX3_init_23 : decode cX3_init 23 = .ok (.newarray .int, 2) := by decide +kernel
theorem dX3_init_25 : decode cX3_init 25 = .ok (.putfield 16, 3) := by decide +kernel
theorem dX3_init_28 : decode cX3_init 28 = .ok (.aload_n 0, 1) := by decide +kernel
theorem dX3_init_29 : decode cX3_init 29 = .ok (.bipush 30, 2) := by decide +kernel
theorem dX3_init_31 : decode cX3_init 31 = .ok (.newarray .int, 2) := by decide +kernel
theorem dX3_init_33 : decode cX3_init 33 = .ok (.putfield 19, 3) := by decide +kernel
theorem dX3_init_36 : decode cX3_init 36 = .ok (.aload_n 0, 1) := by decide +kernel
theorem dX3_init_37 : decode cX3_init 37 = .ok (.bipush 30, 2) := by decide +kernel
theorem dX3_init_39 : decode cX3_init 39 = .ok (.newarray .boolean, 2) := by decide +kernel
theorem dX3_init_41 : decode cX3_init 41 = .ok (.putfield 22, 3) := by decide +kernel
theorem dX3_init_44 : decode cX3_init 44 = .ok (.aload_n 0, 1) := by decide +kernel
theorem dX3_init_45 : decode cX3_init 45 = .ok (.iconst 0, 1) := by decide +kernel
theorem dX3_init_46 : decode cX3_init 46 = .ok (.putfield 26, 3) := by decide +kernel
theorem dX3_init_49 : decode cX3_init 49 = .ok (.return_, 1) := by decide +kernel
theorem dX3_areAllOpened_0 : decode cX3_areAllOpened 0 = .ok (.aload_n 0, 1) := by decide +kernel
theorem dX3_areAllOpened_1 : decode cX3_areAllOpened 1 = .ok (.getfield 26, 3) := by decide +kernel
theorem dX3_areAllOpened_4 : decode cX3_areAllOpened 4 = .ok (.bipush 30, 2) := by decide +kernel
theorem dX3_areAllOpened_6 : decode cX3_areAllOpened 6 = .ok (.if_icmp .lt 7, 3) := by decide +kernel
theorem dX3_areAllOpened_9 : decode cX3_areAllOpened 9 = .ok (.iconst 1, 1) := by decide +kernel
theorem dX3_areAllOpened_10 : decode cX3_areAllOpened 10 = .ok (.goto 4, 3) := by decide +kernel
theorem dX3_areAllOpened_13 : decode cX3_areAllOpened 13 = .ok (.iconst 0, 1) := by decide +kernel
theorem dX3_areAllOpened_14 : decode cX3_areAllOpened 14 = .ok (.ireturn, 1) := by decide +kernel
theorem dX3_has_0 : decode cX3_has 0 = .ok (.iload_n 1, 1) := by decide +kernel
theorem dX3_has_1 : decode cX3_has 1 = .ok (.ifCond .lt 15, 3) := by decide +kernel
theorem dX3_has_4 : decode cX3_has 4 = .ok (.iload_n 1, 1) := by decide +kernel
theorem dX3_has_5 : decode cX3_has 5 = .ok (.aload_n 0, 1) := by decide +kernel
theorem dX3_has_6 : decode cX3_has 6 = .ok (.getfield 26, 3) := by decide +kernel
theorem dX3_has_9 : decode cX3_has 9 = .ok (.if_icmp .ge 7, 3) := by decide +kernel
theorem dX3_has_12 : decode cX3_has 12 = .ok (.iconst 1, 1) := by decide +kernel
theorem dX3_has_13 : decode cX3_has 13 = .ok (.goto 4, 3) := by decide +kernel
theorem dX3_has_16 : decode cX3_has 16 = .ok (.iconst 0, 1) := by decide +kernel
theorem dX3_has_17 : decode cX3_has 17 = .ok (.ireturn, 1) := by decide +kernel
theorem dX3_add_0 : decode cX3_add 0 = .ok (.aload_n 0, 1) := by decide +kernel
theorem dX3_add_1 : decode cX3_add 1 = .ok (.getfield 26, 3) := by decide +kernel
theorem dX3_add_4 : decode cX3_add 4 = .ok (.istore 4, 2) := by decide +kernel
theorem dX3_add_6 : decode cX3_add 6 = .ok (.aload_n 0, 1) := by decide +kernel
theorem dX3_add_7 : decode cX3_add 7 = .ok (.getfield 9, 3) := by decide +kernel
theorem dX3_add_10 : decode cX3_add 10 = .ok (.iload 4, 2) := by decide +kernel
theorem dX3_add_12 : decode cX3_add 12 = .ok (.iload_n 1, 1) := by decide +kernel
theorem dX3_add_13 : decode cX3_add 13 = .ok (.iastore, 1) := by decide +kernel
theorem dX3_add_14 : decode cX3_add 14 = .ok (.aload_n 0, 1) := by decide +kernel
theorem dX3_add_15 : decode cX3_add 15 = .ok (.getfield 13, 3) := by decide +kernel
theorem dX3_add_18 : decode cX3_add 18 = .ok (.iload 4, 2) := by decide +kernel
theorem dX3_add_20 : decode cX3_add 20 = .ok (.iload_n 2, 1) := by decide +kernel
theorem dX3_add_21 : decode cX3_add 21 = .ok (.iastore, 1) := by decide +kernel
theorem dX3_add_22 : decode cX3_add 22 = .ok (.aload_n 0, 1) := by decide +kernel
theorem dX3_add_23 : decode cX3_add 23 = .ok (.getfield 16, 3) := by decide +kernel
theorem dX3_add_26 : decode cX3_add 26 = .ok (.iload 4, 2) := by decide +kernel
theorem dX3_add_28 : decode cX3_add 28 = .ok (.iload_n 3, 1) := by decide +kernel
theorem dX3_add_29 : decode cX3_add 29 = .ok (.iastore, 1) := by decide +kernel
theorem dX3_add_30 : decode cX3_add 30 = .ok (.aload_n 0, 1) := by decide +kernel
theorem dX3_add_31 : decode cX3_add 31 = .ok (.getfield 19, 3) := by decide +kernel
theorem dX3_add_34 : decode cX3_add 34 = .ok (.iload 4, 2) := by decide +kernel
theorem dX3_add_36 : decode cX3_add 36 = .ok (.iload_n 3, 1) := by decide +kernel
theorem dX3_add_37 : decode cX3_add 37 = .ok (.iastore, 1) := by decide +kernel
theorem dX3_add_38 : decode cX3_add 38 = .ok (.aload_n 0, 1) := by decide +kernel
theorem dX3_add_39 : decode cX3_add 39 = .ok (.dup, 1) := by decide +kernel
theorem dX3_add_40 : decode cX3_add 40 = .ok (.getfield 26, 3) := by decide +kernel
theorem dX3_add_43 : decode cX3_add 43 = .ok (.iconst 1, 1) := by decide +kernel
theorem dX3_add_44 : decode cX3_add 44 = .ok (.iadd, 1) := by decide +kernel
theorem dX3_add_45 : decode cX3_add 45 = .ok (.putfield 26, 3) := by decide +kernel
theorem dX3_add_48 : decode cX3_add 48 = .ok (.iload 4, 2) := by decide +kernel
theorem dX3_add_50 : decode cX3_add 50 = .ok (.ireturn, 1) := by decide +kernel
theorem dX3_isOver_0 : decode cX3_isOver 0 = .ok (.aload_n 0, 1) := by decide +kernel
theorem dX3_isOver_1 : decode cX3_isOver 1 = .ok (.getfield 22, 3) := by decide +kernel
theorem dX3_isOver_4 : decode cX3_isOver 4 = .ok (.iload_n 1, 1) := by decide +kernel
theorem dX3_isOver_5 : decode cX3_isOver 5 = .ok (.baload, 1) := by decide +kernel
theorem dX3_isOver_6 : decode cX3_isOver 6 = .ok (.ireturn, 1) := by decide +kernel
theorem dX3_end_0 : decode cX3_end 0 = .ok (.aload_n 0, 1) := by decide +kernel
theorem dX3_end_1 : decode cX3_end 1 = .ok (.getfield 22, 3) := by decide +kernel
theorem dX3_end_4 : decode cX3_end 4 = .ok (.iload_n 1, 1) := by decide +kernel
theorem dX3_end_5 : decode cX3_end 5 = .ok (.iconst 1, 1) := by decide +kernel
theorem dX3_end_6 : decode cX3_end 6 = .ok (.bastore, 1) := by decide +kernel
theorem dX3_end_7 : decode cX3_end 7 = .ok (.return_, 1) := by decide +kernel
theorem dX3_use_0 : decode cX3_use 0 = .ok (.aload_n 0, 1) := by decide +kernel
theorem dX3_use_1 : decode cX3_use 1 = .ok (.getfield 19, 3) := by decide +kernel
theorem dX3_use_4 : decode cX3_use 4 = .ok (.iload_n 1, 1) := by decide +kernel
theorem dX3_use_5 : decode cX3_use 5 = .ok (.iload_n 2, 1) := by decide +kernel
theorem dX3_use_6 : decode cX3_use 6 = .ok (.iastore, 1) := by decide +kernel
theorem dX3_use_7 : decode cX3_use 7 = .ok (.return_, 1) := by decide +kernel
theorem dX3_personOf_0 : decode cX3_personOf 0 = .ok (.aload_n 0, 1) := by decide +kernel
theorem dX3_personOf_1 : decode cX3_personOf 1 = .ok (.getfield 9, 3) := by decide +kernel
theorem dX3_personOf_4 : decode cX3_personOf 4 = .ok (.iload_n 1, 1) := by decide +kernel
theorem dX3_personOf_5 : decode cX3_personOf 5 = .ok (.iaload, 1) := by decide +kernel
theorem dX3_personOf_6 : decode cX3_personOf 6 = .ok (.ireturn, 1) := by decide +kernel
theorem dX3_age_0 : decode cX3_age 0 = .ok (.iload_n 2, 1) := by decide +kernel
theorem dX3_age_1 : decode cX3_age 1 = .ok (.aload_n 0, 1) := by decide +kernel
theorem dX3_age_2 : decode cX3_age 2 = .ok (.getfield 16, 3) := by decide +kernel
theorem dX3_age_5 : decode cX3_age 5 = .ok (.iload_n 1, 1) := by decide +kernel
theorem dX3_age_6 : decode cX3_age 6 = .ok (.iaload, 1) := by decide +kernel
theorem dX3_age_7 : decode cX3_age 7 = .ok (.isub, 1) := by decide +kernel
theorem dX3_age_8 : decode cX3_age 8 = .ok (.ireturn, 1) := by decide +kernel
set_option maxRecDepth 20000 in
theorem ggX3_endAllOf_X3_end : GoodIn wsX3_endAllOf wsX3_end := goodIn_r _ [8, 2, 9, 10, 11, 12, 13, 14] (by decide +kernel) (by decide +kernel)
set_option maxRecDepth 20000 in
theorem gX3_endAllOf_X3_end : GoodIn wsX3_endAllOf (wsV RX3 30 RX3 yX3_end wsX3_end) := goodIn_app (goodIn_of _ (by decide +kernel)) ggX3_endAllOf_X3_end
theorem dX3_endAllOf_0 : decode cX3_endAllOf 0 = .ok (.iconst 0, 1) := by decide +kernel
theorem dX3_endAllOf_1 : decode cX3_endAllOf 1 = .ok (.istore_n 2, 1) := by decide +kernel
theorem dX3_endAllOf_2 : decode cX3_endAllOf 2 = .ok (.iconst 0, 1) := by decide +kernel
theorem dX3_endAllOf_3 : decode cX3_endAllOf 3 = .ok (.istore_n 3, 1) := by decide +kernel
theorem dX3_endAllOf_4 : decode cX3_endAllOf 4 = .ok (.iload_n 3, 1) := by decide +kernel
theorem dX3_endAllOf_5 : decode cX3_endAllOf 5 = .ok (.aload_n 0, 1) := by decide +kernel
theorem dX3_endAllOf_6 : decode cX3_endAllOf 6 = .ok (.getfield 26, 3) := by decide +kernel
theorem dX3_endAllOf_9 : decode cX3_endAllOf 9 = .ok (.if_icmp .ge 36, 3) := by decide +kernel
theorem dX3_endAllOf_12 : decode cX3_endAllOf 12 = .ok (.aload_n 0, 1) := by decide +kernel
theorem dX3_endAllOf_13 : decode cX3_endAllOf 13 = .ok (.getfield 22, 3) := by decide +kernel
theorem dX3_endAllOf_16 : decode cX3_endAllOf 16 = .ok (.iload_n 3, 1) := by decide +kernel
theorem dX3_endAllOf_17 : decode cX3_endAllOf 17 = .ok (.baload, 1) := by decide +kernel
theorem dX3_endAllOf_18 : decode cX3_endAllOf 18 = .ok (.ifCond .ne 21, 3) := by decide +kernel
theorem dX3_endAllOf_21 : decode cX3_endAllOf 21 = .ok (.aload_n 0, 1) := by decide +kernel
theorem dX3_endAllOf_22 : decode cX3_endAllOf 22 = .ok (.getfield 9, 3) := by decide +kernel
theorem dX3_endAllOf_25 : decode cX3_endAllOf 25 = .ok (.iload_n 3, 1) := by decide +kernel
theorem dX3_endAllOf_26 : decode cX3_endAllOf 26 = .ok (.iaload, 1) := by decide +kernel
theorem dX3_endAllOf_27 : decode cX3_endAllOf 27 = .ok (.iload_n 1, 1) := by decide +kernel
theorem dX3_endAllOf_28 : decode cX3_endAllOf 28 = .ok (.if_icmp .ne 11, 3) := by decide +kernel
theorem dX3_endAllOf_31 : decode cX3_endAllOf 31 = .ok (.aload_n 0, 1) := by decide +kernel
theorem dX3_endAllOf_32 : decode cX3_endAllOf 32 = .ok (.iload_n 3, 1) := by decide +kernel
theorem dX3_endAllOf_33 : decode cX3_endAllOf 33 = .ok (.invokevirtual 30, 3) := by decide +kernel
theorem dX3_endAllOf_36 : decode cX3_endAllOf 36 = .ok (.iinc 2 1, 3) := by decide +kernel
theorem dX3_endAllOf_39 : decode cX3_endAllOf 39 = .ok (.iinc 3 1, 3) := by decide +kernel
theorem dX3_endAllOf_42 : decode cX3_endAllOf 42 = .ok (.goto (-38), 3) := by decide +kernel
theorem dX3_endAllOf_45 : decode cX3_endAllOf 45 = .ok (.iload_n 2, 1) := by decide +kernel
theorem dX3_endAllOf_46 : decode cX3_endAllOf 46 = .ok (.ireturn, 1) := by decide +kernel
set_option maxRecDepth 20000 in
theorem ggX3_endDue_X3_isDue : GoodIn wsX3_endDue wsX3_isDue := goodIn_r _ [8, 9, 10, 11, 12, 13, 7, 14, 15, 16, 17, 18, 19, 20, 21, 22, 27, 28, 29, 30, 31, 32, 33, 34] (by decide +kernel) (by decide +kernel)
set_option maxRecDepth 20000 in
theorem gX3_endDue_X3_isDue : GoodIn wsX3_endDue (wsV RX3 34 RX3 yX3_isDue wsX3_isDue) := goodIn_app (goodIn_of _ (by decide +kernel)) ggX3_endDue_X3_isDue
set_option maxRecDepth 20000 in
theorem ggX3_endDue_X3_end : GoodIn wsX3_endDue wsX3_end := goodIn_r _ [26, 2, 27, 28, 29, 30, 31, 32] (by decide +kernel) (by decide +kernel)
set_option maxRecDepth 20000 in
theorem gX3_endDue_X3_end : GoodIn wsX3_endDue (wsV RX3 30 RX3 yX3_end wsX3_end) := goodIn_app (goodIn_of _ (by decide +kernel)) ggX3_endDue_X3_end
theorem dX3_endDue_0 : decode cX3_endDue 0 = .ok (.iconst 0, 1) := by decide +kernel
theorem dX3_endDue_1 : decode cX3_endDue 1 = .ok (.istore 4, 2) := by decide +kernel
theorem dX3_endDue_3 : decode cX3_endDue 3 = .ok (.iconst 0, 1) := by decide +kernel
theorem dX3_endDue_4 : decode cX3_endDue 4 = .ok (.istore 5, 2) := by decide +kernel
theorem dX3_endDue_6 : decode cX3_endDue 6 = .ok (.iload 5, 2) := by decide +kernel
theorem dX3_endDue_8 : decode cX3_endDue 8 = .ok (.aload_n 0, 1) := by decide +kernel
theorem dX3_endDue_9 : decode cX3_endDue 9 = .ok (.getfield 26, 3) := by decide +kernel
theorem dX3_endDue_12 : decode cX3_endDue 12 = .ok (.if_icmp .ge 48, 3) := by decide +kernel
theorem dX3_endDue_15 : decode cX3_endDue 15 = .ok (.aload_n 0, 1) := by decide +kernel
theorem dX3_endDue_16 : decode cX3_endDue 16 = .ok (.getfield 22, 3) := by decide +kernel
theorem dX3_endDue_19 : decode cX3_endDue 19 = .ok (.iload 5, 2) := by decide +kernel
theorem dX3_endDue_21 : decode cX3_endDue 21 = .ok (.baload, 1) := by decide +kernel
theorem dX3_endDue_22 : decode cX3_endDue 22 = .ok (.ifCond .ne 32, 3) := by decide +kernel
theorem dX3_endDue_25 : decode cX3_endDue 25 = .ok (.aload_n 0, 1) := by decide +kernel
theorem dX3_endDue_26 : decode cX3_endDue 26 = .ok (.iload 5, 2) := by decide +kernel
theorem dX3_endDue_28 : decode cX3_endDue 28 = .ok (.iload_n 1, 1) := by decide +kernel
theorem dX3_endDue_29 : decode cX3_endDue 29 = .ok (.aload_n 2, 1) := by decide +kernel
theorem dX3_endDue_30 : decode cX3_endDue 30 = .ok (.aload_n 0, 1) := by decide +kernel
theorem dX3_endDue_31 : decode cX3_endDue 31 = .ok (.getfield 9, 3) := by decide +kernel
theorem dX3_endDue_34 : decode cX3_endDue 34 = .ok (.iload 5, 2) := by decide +kernel
theorem dX3_endDue_36 : decode cX3_endDue 36 = .ok (.iaload, 1) := by decide +kernel
theorem dX3_endDue_37 : decode cX3_endDue 37 = .ok (.iaload, 1) := by decide +kernel
theorem dX3_endDue_38 : decode cX3_endDue 38 = .ok (.aload_n 3, 1) := by decide +kernel
theorem dX3_endDue_39 : decode cX3_endDue 39 = .ok (.invokevirtual 34, 3) := by decide +kernel
theorem dX3_endDue_42 : decode cX3_endDue 42 = .ok (.ifCond .eq 12, 3) := by decide +kernel
theorem dX3_endDue_45 : decode cX3_endDue 45 = .ok (.aload_n 0, 1) := by decide +kernel
theorem dX3_endDue_46 : decode cX3_endDue 46 = .ok (.iload 5, 2) := by decide +kernel
theorem dX3_endDue_48 : decode cX3_endDue 48 = .ok (.invokevirtual 30, 3) := by decide +kernel
theorem dX3_endDue_51 : decode cX3_endDue 51 = .ok (.iinc 4 1, 3) := by decide +kernel
theorem dX3_endDue_54 : decode cX3_endDue 54 = .ok (.iinc 5 1, 3) := by decide +kernel
theorem dX3_endDue_57 : decode cX3_endDue 57 = .ok (.goto (-51), 3) := by decide +kernel
theorem dX3_endDue_60 : decode cX3_endDue 60 = .ok (.iload 4, 2) := by decide +kernel
theorem dX3_endDue_62 : decode cX3_endDue 62 = .ok (.ireturn, 1) := by decide +kernel
set_option maxRecDepth 20000 in
theorem ggX3_isDue_X3_age : GoodIn wsX3_isDue wsX3_age := goodIn_r _ [7, 8, 16, 17, 18, 19, 20, 21] (by decide +kernel) (by decide +kernel)
set_option maxRecDepth 20000 in
theorem gX3_isDue_X3_age : GoodIn wsX3_isDue (wsV RX3 38 RX3 yX3_age wsX3_age) := goodIn_app (goodIn_of _ (by decide +kernel)) ggX3_isDue_X3_age
end
section
set_option maxRecDepth 20000 in
theorem ggX3_isDue_X2_takes : GoodIn wsX3_isDue wsX2_takes := goodIn_r _ [13, 14, 15, 22, 23] (by decide +kernel) (by decide +kernel)
set_option maxRecDepth 20000 in
theorem gX3_isDue_X2_takes : GoodIn wsX3_isDue (wsV RX3 42 RX2 yX2_takes wsX2_takes) := goodIn_app (goodIn_of _ (by decide +kernel)) ggX3_isDue_X2_takes
theorem dX3_isDue_0 : decode cX3_isDue 0 = .ok (.iload_n 2, 1) := by decide +kernel
theorem dX3_isDue_1 : decode cX3_isDue 1 = .ok (.aload_n 0, 1) := by decide +kernel
theorem dX3_isDue_2 : decode cX3_isDue 2 = .ok (.getfield 19, 3) := by decide +kernel
theorem dX3_isDue_5 : decode cX3_isDue 5 = .ok (.iload_n 1, 1) := by decide +kernel
theorem dX3_isDue_6 : decode cX3_isDue 6 = .ok (.iaload, 1) := by decide +kernel
theorem dX3_isDue_7 : decode cX3_isDue 7 = .ok (.isub, 1) := by decide +kernel
theorem dX3_isDue_8 : decode cX3_isDue 8 = .ok (.bipush 30, 2) := by decide +kernel
theorem dX3_isDue_10 : decode cX3_isDue 10 = .ok (.if_icmp .ge 35, 3) := by decide +kernel
theorem dX3_isDue_13 : decode cX3_isDue 13 = .ok (.aload_n 0, 1) := by decide +kernel
theorem dX3_isDue_14 : decode cX3_isDue 14 = .ok (.iload_n 1, 1) := by decide +kernel
theorem dX3_isDue_15 : decode cX3_isDue 15 = .ok (.iload_n 2, 1) := by decide +kernel
theorem dX3_isDue_16 : decode cX3_isDue 16 = .ok (.invokevirtual 38, 3) := by decide +kernel
theorem dX3_isDue_19 : decode cX3_isDue 19 = .ok (.sipush 240, 3) := by decide +kernel
theorem dX3_isDue_22 : decode cX3_isDue 22 = .ok (.bipush 60, 2) := by decide +kernel
theorem dX3_isDue_24 : decode cX3_isDue 24 = .ok (.iload_n 3, 1) := by decide +kernel
theorem dX3_isDue_25 : decode cX3_isDue 25 = .ok (.imul, 1) := by decide +kernel
theorem dX3_isDue_26 : decode cX3_isDue 26 = .ok (.isub, 1) := by decide +kernel
theorem dX3_isDue_27 : decode cX3_isDue 27 = .ok (.if_icmp .ge 18, 3) := by decide +kernel
theorem dX3_isDue_30 : decode cX3_isDue 30 = .ok (.aload 4, 2) := by decide +kernel
theorem dX3_isDue_32 : decode cX3_isDue 32 = .ok (.aload_n 0, 1) := by decide +kernel
theorem dX3_isDue_33 : decode cX3_isDue 33 = .ok (.getfield 13, 3) := by decide +kernel
theorem dX3_isDue_36 : decode cX3_isDue 36 = .ok (.iload_n 1, 1) := by decide +kernel
theorem dX3_isDue_37 : decode cX3_isDue 37 = .ok (.iaload, 1) := by decide +kernel
theorem dX3_isDue_38 : decode cX3_isDue 38 = .ok (.iload_n 2, 1) := by decide +kernel
theorem dX3_isDue_39 : decode cX3_isDue 39 = .ok (.invokevirtual 42, 3) := by decide +kernel
theorem dX3_isDue_42 : decode cX3_isDue 42 = .ok (.ifCond .ne 7, 3) := by decide +kernel
theorem dX3_isDue_45 : decode cX3_isDue 45 = .ok (.iconst 1, 1) := by decide +kernel
theorem dX3_isDue_46 : decode cX3_isDue 46 = .ok (.goto 4, 3) := by decide +kernel
theorem dX3_isDue_49 : decode cX3_isDue 49 = .ok (.iconst 0, 1) := by decide +kernel
theorem dX3_isDue_50 : decode cX3_isDue 50 = .ok (.ireturn, 1) := by decide +kernel
set_option maxRecDepth 20000 in
theorem ggX4_init_X1_init : GoodIn wsX4_init wsX1_init := goodIn_r _ [26, 27, 2, 3, 20, 28, 29, 30, 31, 60, 61, 62, 63] (by decide +kernel) (by decide +kernel)
set_option maxRecDepth 20000 in
theorem gX4_init_X1_init : GoodIn wsX4_init (wsX1_init) := ggX4_init_X1_init
set_option maxRecDepth 20000 in
theorem ggX4_init_X3_init : GoodIn wsX4_init wsX3_init := goodIn_r _ [34, 35, 2, 3, 20, 36, 37, 38, 39, 40, 41, 42, 71, 72, 73, 74, 75, 76] (by decide +kernel) (by decide +kernel)
set_option maxRecDepth 20000 in
theorem gX4_init_X3_init : GoodIn wsX4_init (wsX3_init) := ggX4_init_X3_init
set_option maxRecDepth 20000 in
theorem ggX4_init_X2_init : GoodIn wsX4_init wsX2_init := goodIn_r _ [45, 46, 2, 3, 47, 48, 77, 78] (by decide +kernel) (by decide +kernel)
set_option maxRecDepth 20000 in
theorem gX4_init_X2_init : GoodIn wsX4_init (wsX2_init) := ggX4_init_X2_init
set_option maxRecDepth 20000 in
theorem ggX4_init_X0_init : GoodIn wsX4_init wsX0_init := goodIn_r _ [51, 52, 2, 3, 20, 53, 54, 55, 56, 57, 58, 59, 79, 80, 81] (by decide +kernel) (by decide +kernel)
set_option maxRecDepth 20000 in
theorem gX4_init_X0_init : GoodIn wsX4_init (wsX0_init) := ggX4_init_X0_init
theorem dX4_init_0 : decode cX4_init 0 = .ok (.aload_n 0, 1) := by decide +kernel
theorem dX4_init_1 : decode cX4_init 1 = .ok (.invokespecial 1, 3) := by decide +kernel
theorem dX4_init_4 : decode cX4_init 4 = .ok (.aload_n 0, 1) := by decide +kernel
theorem dX4_init_5 : decode cX4_init 5 = .ok (.new 7, 3) := by decide +kernel
theorem dX4_init_8 : decode cX4_init 8 = .ok (.dup, 1) := by decide +kernel
theorem dX4_init_9 : decode cX4_init 9 = .ok (.invokespecial 9, 3) := by decide +kernel
theorem dX4_init_12 : decode cX4_init 12 = .ok (.putfield 10, 3) := by decide +kernel
theorem dX4_init_15 : decode cX4_init 15 = .ok (.aload_n 0, 1) := by decide +kernel
theorem dX4_init_16 : decode cX4_init 16 = .ok (.new 16, 3) := by decide +kernel
theorem dX4_init_19 : decode cX4_init 19 = .ok (.dup, 1) := by decide +kernel
theorem dX4_init_20 : decode cX4_init 20 = .ok (.invokespecial 18, 3) := by decide +kernel
theorem dX4_init_23 : decode cX4_init 23 = .ok (.putfield 19, 3) := by decide +kernel
theorem dX4_init_26 : decode cX4_init 26 = .ok (.aload_n 0, 1) := by decide +kernel
theorem dX4_init_27 : decode cX4_init 27 = .ok (.new 23, 3) := by decide +kernel
theorem dX4_init_30 : decode cX4_init 30 = .ok (.dup, 1) := by decide +kernel
theorem dX4_init_31 : decode cX4_init 31 = .ok (.invokespecial 25, 3) := by decide +kernel
theorem dX4_init_34 : decode cX4_init 34 = .ok (.putfield 26, 3) := by decide +kernel
theorem dX4_init_37 : decode cX4_init 37 = .ok (.aload_n 0, 1) := by decide +kernel
theorem dX4_init_38 : decode cX4_init 38 = .ok (.new 30, 3) := by decide +kernel
theorem dX4_init_41 : decode cX4_init 41 = .ok (.dup, 1) := by decide +kernel
theorem dX4_init_42 : decode cX4_init 42 = .ok (.invokespecial 32, 3) := by decide +kernel
theorem dX4_init_45 : decode cX4_init 45 = .ok (.putfield 33, 3) := by decide +kernel
theorem dX4_init_48 : decode cX4_init 48 = .ok (.aload_n 0, 1) := by decide +kernel
theorem dX4_init_49 : decode cX4_init 49 = .ok (.bipush 10, 2) := by decide +kernel
theorem dX4_init_51 : decode cX4_init 51 = .ok (.newarray .int, 2) := by decide +kernel
theorem dX4_init_53 : decode cX4_init 53 = .ok (.putfield 37, 3) := by decide +kernel
theorem dX4_init_56 : decode cX4_init 56 = .ok (.aload_n 0, 1) := by decide +kernel
theorem dX4_init_57 : decode cX4_init 57 = .ok (.bipush 60, 2) := by decide +kernel
theorem dX4_init_59 : decode cX4_init 59 = .ok (.newarray .int, 2) := by decide +kernel
theorem dX4_init_61 : decode cX4_init 61 = .ok (.putfield 41, 3) := by decide +kernel
theorem dX4_init_64 : decode cX4_init 64 = .ok (.aload_n 0, 1) := by decide +kernel
theorem dX4_init_65 : decode cX4_init 65 = .ok (.iconst 0, 1) := by decide +kernel
theorem dX4_init_66 : decode cX4_init 66 = .ok (.putfield 44, 3) := by decide +kernel
theorem dX4_init_69 : decode cX4_init 69 = .ok (.return_, 1) := by decide +kernel
set_option maxRecDepth 20000 in
theorem ggX4_setPerson_X4_isOutside : GoodIn wsX4_setPerson wsX4_isOutside := goodIn_r _ [7] (by decide +kernel) (by decide +kernel)
set_option maxRecDepth 20000 in
theorem gX4_setPerson_X4_isOutside : GoodIn wsX4_setPerson (va_wsS RX4 48 yX4_isOutside wsX4_isOutside) := goodIn_app (goodIn_of _ (by decide +kernel)) ggX4_setPerson_X4_isOutside
set_option maxRecDepth 20000 in
theorem ggX4_setPerson_X1_placePerson : GoodIn wsX4_setPerson wsX1_placePerson := goodIn_r _ [12, 13, 14, 15, 11, 16, 17, 18, 19, 27, 28, 29, 30] (by decide +kernel) (by decide +kernel)
set_option maxRecDepth 20000 in
theorem gX4_setPerson_X1_placePerson : GoodIn wsX4_setPerson (wsV RX4 59 RX1 yX1_placePerson wsX1_placePerson) := goodIn_app (goodIn_of _ (by decide +kernel)) ggX4_setPerson_X1_placePerson
theorem dX4_setPerson_0 : decode cX4_setPerson 0 = .ok (.iload_n 1, 1) := by decide +kernel
theorem dX4_setPerson_1 : decode cX4_setPerson 1 = .ok (.bipush 8, 2) := by decide +kernel
theorem dX4_setPerson_3 : decode cX4_setPerson 3 = .ok (.invokestatic 48, 3) := by decide +kernel
theorem dX4_setPerson_6 : decode cX4_setPerson 6 = .ok (.ifCond .ne 12, 3) := by decide +kernel
theorem dX4_setPerson_9 : decode cX4_setPerson 9 = .ok (.iload_n 2, 1) := by decide +kernel
theorem dX4_setPerson_10 : decode cX4_setPerson 10 = .ok (.bipush 10, 2) := by decide +kernel
theorem dX4_setPerson_12 : decode cX4_setPerson 12 = .ok (.invokestatic 48, 3) := by decide +kernel
theorem dX4_setPerson_15 : decode cX4_setPerson 15 = .ok (.ifCond .eq 13, 3) := by decide +kernel
theorem dX4_setPerson_18 : decode cX4_setPerson 18 = .ok (.new 52, 3) := by decide +kernel
theorem dX4_setPerson_21 : decode cX4_setPerson 21 = .ok (.dup, 1) := by decide +kernel
theorem dX4_setPerson_22 : decode cX4_setPerson 22 = .ok (.ldc 54, 2) := by decide +kernel
theorem dX4_setPerson_24 : decode cX4_setPerson 24 = .ok (.invokespecial 56, 3) := by decide +kernel
theorem dX4_setPerson_27 : decode cX4_setPerson 27 = .ok (.athrow, 1) := by decide +kernel
theorem dX4_setPerson_28 : decode cX4_setPerson 28 = .ok (.aload_n 0, 1) := by decide +kernel
theorem dX4_setPerson_29 : decode cX4_setPerson 29 = .ok (.getfield 10, 3) := by decide +kernel
theorem dX4_setPerson_32 : decode cX4_setPerson 32 = .ok (.iload_n 1, 1) := by decide +kernel
theorem dX4_setPerson_33 : decode cX4_setPerson 33 = .ok (.iload_n 2, 1) := by decide +kernel
theorem dX4_setPerson_34 : decode cX4_setPerson 34 = .ok (.iload_n 3, 1) := by decide +kernel
theorem dX4_setPerson_35 : decode cX4_setPerson 35 = .ok (.invokevirtual 59, 3) := by decide +kernel
theorem dX4_setPerson_38 : decode cX4_setPerson 38 = .ok (.ireturn, 1) := by decide +kernel
set_option maxRecDepth 20000 in
theorem ggX4_setGroup_X4_isOutside : GoodIn wsX4_setGroup wsX4_isOutside := goodIn_r _ [9] (by decide +kernel) (by decide +kernel)
set_option maxRecDepth 20000 in
theorem gX4_setGroup_X4_isOutside : GoodIn wsX4_setGroup (va_wsS RX4 48 yX4_isOutside wsX4_isOutside) := goodIn_app (goodIn_of _ (by decide +kernel)) ggX4_setGroup_X4_isOutside
set_option maxRecDepth 20000 in
theorem ggX4_setGroup_X1_isAround : GoodIn wsX4_setGroup wsX1_isAround := goodIn_r _ [14, 15, 16, 17, 18, 13, 19, 20, 21, 22, 23, 24, 25, 26, 41, 42, 43, 44] (by decide +kernel) (by decide +kernel)
set_option maxRecDepth 20000 in
theorem gX4_setGroup_X1_isAround : GoodIn wsX4_setGroup (wsV RX4 67 RX1 yX1_isAround wsX1_isAround) := goodIn_app (goodIn_of _ (by decide +kernel)) ggX4_setGroup_X1_isAround
set_option maxRecDepth 20000 in
theorem ggX4_setGroup_X1_placeGroup : GoodIn wsX4_setGroup wsX1_placeGroup := goodIn_r _ [30, 15, 24, 25, 13, 26, 31, 32, 33, 41, 42, 43, 44] (by decide +kernel) (by decide +kernel)
set_option maxRecDepth 20000 in
theorem gX4_setGroup_X1_placeGroup : GoodIn wsX4_setGroup (wsV RX4 75 RX1 yX1_placeGroup wsX1_placeGroup) := goodIn_app (goodIn_of _ (by decide +kernel)) ggX4_setGroup_X1_placeGroup
theorem dX4_setGroup_0 : decode cX4_setGroup 0 = .ok (.iload_n 1, 1) := by decide +kernel
theorem dX4_setGroup_1 : decode cX4_setGroup 1 = .ok (.bipush 8, 2) := by decide +kernel
theorem dX4_setGroup_3 : decode cX4_setGroup 3 = .ok (.invokestatic 48, 3) := by decide +kernel
theorem dX4_setGroup_6 : decode cX4_setGroup 6 = .ok (.ifCond .ne 12, 3) := by decide +kernel
theorem dX4_setGroup_9 : decode cX4_setGroup 9 = .ok (.iload_n 2, 1) := by decide +kernel
theorem dX4_setGroup_10 : decode cX4_setGroup 10 = .ok (.bipush 8, 2) := by decide +kernel
theorem dX4_setGroup_12 : decode cX4_setGroup 12 = .ok (.invokestatic 48, 3) := by decide +kernel
theorem dX4_setGroup_15 : decode cX4_setGroup 15 = .ok (.ifCond .eq 13, 3) := by decide +kernel
theorem dX4_setGroup_18 : decode cX4_setGroup 18 = .ok (.new 52, 3) := by decide +kernel
theorem dX4_setGroup_21 : decode cX4_setGroup 21 = .ok (.dup, 1) := by decide +kernel
theorem dX4_setGroup_22 : decode cX4_setGroup 22 = .ok (.ldc 63, 2) := by decide +kernel
theorem dX4_setGroup_24 : decode cX4_setGroup 24 = .ok (.invokespecial 56, 3) := by decide +kernel
theorem dX4_setGroup_27 : decode cX4_setGroup 27 = .ok (.athrow, 1) := by decide +kernel
theorem dX4_setGroup_28 : decode cX4_setGroup 28 = .ok (.iload_n 1, 1) := by decide +kernel
theorem dX4_setGroup_29 : decode cX4_setGroup 29 = .ok (.iload_n 2, 1) := by decide +kernel
theorem dX4_setGroup_30 : decode cX4_setGroup 30 = .ok (.if_icmp .ne 13, 3) := by decide +kernel
theorem dX4_setGroup_33 : decode cX4_setGroup 33 = .ok (.new 52, 3) := by decide +kernel
theorem dX4_setGroup_36 : decode cX4_setGroup 36 = .ok (.dup, 1) := by decide +kernel
theorem dX4_setGroup_37 : decode cX4_setGroup 37 = .ok (.ldc 65, 2) := by decide +kernel
theorem dX4_setGroup_39 : decode cX4_setGroup 39 = .ok (.invokespecial 56, 3) := by decide +kernel
theorem dX4_setGroup_42 : decode cX4_setGroup 42 = .ok (.athrow, 1) := by decide +kernel
theorem dX4_setGroup_43 : decode cX4_setGroup 43 = .ok (.iload_n 3, 1) := by decide +kernel
theorem dX4_setGroup_44 : decode cX4_setGroup 44 = .ok (.ifCond .eq 25, 3) := by decide +kernel
theorem dX4_setGroup_47 : decode cX4_setGroup 47 = .ok (.aload_n 0, 1) := by decide +kernel
theorem dX4_setGroup_48 : decode cX4_setGroup 48 = .ok (.getfield 10, 3) := by decide +kernel
theorem dX4_setGroup_51 : decode cX4_setGroup 51 = .ok (.iload_n 2, 1) := by decide +kernel
theorem dX4_setGroup_52 : decode cX4_setGroup 52 = .ok (.iload_n 1, 1) := by decide +kernel
theorem dX4_setGroup_53 : decode cX4_setGroup 53 = .ok (.invokevirtual 67, 3) := by decide +kernel
theorem dX4_setGroup_56 : decode cX4_setGroup 56 = .ok (.ifCond .eq 13, 3) := by decide +kernel
theorem dX4_setGroup_59 : decode cX4_setGroup 59 = .ok (.new 70, 3) := by decide +kernel
theorem dX4_setGroup_62 : decode cX4_setGroup 62 = .ok (.dup, 1) := by decide +kernel
theorem dX4_setGroup_63 : decode cX4_setGroup 63 = .ok (.ldc 72, 2) := by decide +kernel
theorem dX4_setGroup_65 : decode cX4_setGroup 65 = .ok (.invokespecial 74, 3) := by decide +kernel
theorem dX4_setGroup_68 : decode cX4_setGroup 68 = .ok (.athrow, 1) := by decide +kernel
theorem dX4_setGroup_69 : decode cX4_setGroup 69 = .ok (.aload_n 0, 1) := by decide +kernel
theorem dX4_setGroup_70 : decode cX4_setGroup 70 = .ok (.getfield 10, 3) := by decide +kernel
theorem dX4_setGroup_73 : decode cX4_setGroup 73 = .ok (.iload_n 1, 1) := by decide +kernel
theorem dX4_setGroup_74 : decode cX4_setGroup 74 = .ok (.iload_n 2, 1) := by decide +kernel
theorem dX4_setGroup_75 : decode cX4_setGroup 75 = .ok (.iload_n 3, 1) := by decide +kernel
theorem dX4_setGroup_76 : decode cX4_setGroup 76 = .ok (.invokevirtual 75, 3) := by decide +kernel
theorem dX4_setGroup_79 : decode cX4_setGroup 79 = .ok (.ireturn, 1) := by decide +kernel
set_option maxRecDepth 20000 in
theorem ggX4_setRole_X4_isOutside : GoodIn wsX4_setRole wsX4_isOutside := goodIn_r _ [7] (by decide +kernel) (by decide +kernel)
set_option maxRecDepth 20000 in
theorem gX4_setRole_X4_isOutside : GoodIn wsX4_setRole (va_wsS RX4 48 yX4_isOutside wsX4_isOutside) := goodIn_app (goodIn_of _ (by decide +kernel)) ggX4_setRole_X4_isOutside
set_option maxRecDepth 20000 in
theorem ggX4_setRole_X1_giveRole : GoodIn wsX4_setRole wsX1_giveRole := goodIn_r _ [12, 13, 14, 15, 16, 17, 11, 18, 19, 20, 21, 22, 23, 24, 32, 33, 34, 35] (by decide +kernel) (by decide +kernel)
set_option maxRecDepth 20000 in
theorem gX4_setRole_X1_giveRole : GoodIn wsX4_setRole (wsV RX4 82 RX1 yX1_giveRole wsX1_giveRole) := goodIn_app (goodIn_of _ (by decide +kernel)) ggX4_setRole_X1_giveRole
theorem dX4_setRole_0 : decode cX4_setRole 0 = .ok (.iload_n 1, 1) := by decide +kernel
theorem dX4_setRole_1 : decode cX4_setRole 1 = .ok (.bipush 8, 2) := by decide +kernel
theorem dX4_setRole_3 : decode cX4_setRole 3 = .ok (.invokestatic 48, 3) := by decide +kernel
theorem dX4_setRole_6 : decode cX4_setRole 6 = .ok (.ifCond .ne 12, 3) := by decide +kernel
theorem dX4_setRole_9 : decode cX4_setRole 9 = .ok (.iload_n 2, 1) := by decide +kernel
theorem dX4_setRole_10 : decode cX4_setRole 10 = .ok (.bipush 6, 2) := by decide +kernel
theorem dX4_setRole_12 : decode cX4_setRole 12 = .ok (.invokestatic 48, 3) := by decide +kernel
theorem dX4_setRole_15 : decode cX4_setRole 15 = .ok (.ifCond .eq 13, 3) := by decide +kernel
theorem dX4_setRole_18 : decode cX4_setRole 18 = .ok (.new 52, 3) := by decide +kernel
theorem dX4_setRole_21 : decode cX4_setRole 21 = .ok (.dup, 1) := by decide +kernel
theorem dX4_setRole_22 : decode cX4_setRole 22 = .ok (.ldc 78, 2) := by decide +kernel
theorem dX4_setRole_24 : decode cX4_setRole 24 = .ok (.invokespecial 56, 3) := by decide +kernel
theorem dX4_setRole_27 : decode cX4_setRole 27 = .ok (.athrow, 1) := by decide +kernel
theorem dX4_setRole_28 : decode cX4_setRole 28 = .ok (.iload_n 3, 1) := by decide +kernel
theorem dX4_setRole_29 : decode cX4_setRole 29 = .ok (.ifCond .lt 8, 3) := by decide +kernel
theorem dX4_setRole_32 : decode cX4_setRole 32 = .ok (.iload_n 3, 1) := by decide +kernel
theorem dX4_setRole_33 : decode cX4_setRole 33 = .ok (.iconst 2, 1) := by decide +kernel
theorem dX4_setRole_34 : decode cX4_setRole 34 = .ok (.if_icmp .le 13, 3) := by decide +kernel
theorem dX4_setRole_37 : decode cX4_setRole 37 = .ok (.new 52, 3) := by decide +kernel
theorem dX4_setRole_40 : decode cX4_setRole 40 = .ok (.dup, 1) := by decide +kernel
theorem dX4_setRole_41 : decode cX4_setRole 41 = .ok (.ldc 80, 2) := by decide +kernel
theorem dX4_setRole_43 : decode cX4_setRole 43 = .ok (.invokespecial 56, 3) := by decide +kernel
theorem dX4_setRole_46 : decode cX4_setRole 46 = .ok (.athrow, 1) := by decide +kernel
theorem dX4_setRole_47 : decode cX4_setRole 47 = .ok (.aload_n 0, 1) := by decide +kernel
theorem dX4_setRole_48 : decode cX4_setRole 48 = .ok (.getfield 10, 3) := by decide +kernel
theorem dX4_setRole_51 : decode cX4_setRole 51 = .ok (.iload_n 1, 1) := by decide +kernel
theorem dX4_setRole_52 : decode cX4_setRole 52 = .ok (.iload_n 2, 1) := by decide +kernel
theorem dX4_setRole_53 : decode cX4_setRole 53 = .ok (.iload_n 3, 1) := by decide +kernel
theorem dX4_setRole_54 : decode cX4_setRole 54 = .ok (.invokevirtual 82, 3) := by decide +kernel
theorem dX4_setRole_57 : decode cX4_setRole 57 = .ok (.ireturn, 1) := by decide +kernel
set_option maxRecDepth 20000 in
theorem ggX4_setRisk_X4_isOutside : GoodIn wsX4_setRisk wsX4_isOutside := goodIn_r _ [8] (by decide +kernel) (by decide +kernel)
set_option maxRecDepth 20000 in
theorem gX4_setRisk_X4_isOutside : GoodIn wsX4_setRisk (va_wsS RX4 48 yX4_isOutside wsX4_isOutside) := goodIn_app (goodIn_of _ (by decide +kernel)) ggX4_setRisk_X4_isOutside
set_option maxRecDepth 20000 in
theorem ggX4_setRisk_X3_endAllOf : GoodIn wsX4_setRisk wsX3_endAllOf := goodIn_r _ [13, 14, 15, 16, 17, 18, 19, 12, 20, 28, 29, 30, 31, 32, 33] (by decide +kernel) (by decide +kernel)
set_option maxRecDepth 20000 in
theorem gX4_setRisk_X3_endAllOf : GoodIn wsX4_setRisk (wsV RX4 88 RX3 yX3_endAllOf wsX3_endAllOf) := goodIn_app (goodIn_of _ (by decide +kernel)) ggX4_setRisk_X3_endAllOf
theorem dX4_setRisk_0 : decode cX4_setRisk 0 = .ok (.iload_n 1, 1) := by decide +kernel
theorem dX4_setRisk_1 : decode cX4_setRisk 1 = .ok (.bipush 10, 2) := by decide +kernel
theorem dX4_setRisk_3 : decode cX4_setRisk 3 = .ok (.invokestatic 48, 3) := by decide +kernel
theorem dX4_setRisk_6 : decode cX4_setRisk 6 = .ok (.ifCond .ne 12, 3) := by decide +kernel
theorem dX4_setRisk_9 : decode cX4_setRisk 9 = .ok (.iload_n 2, 1) := by decide +kernel
theorem dX4_setRisk_10 : decode cX4_setRisk 10 = .ok (.ifCond .lt 8, 3) := by decide +kernel
theorem dX4_setRisk_13 : decode cX4_setRisk 13 = .ok (.iload_n 2, 1) := by decide +kernel
theorem dX4_setRisk_14 : decode cX4_setRisk 14 = .ok (.iconst 3, 1) := by decide +kernel
theorem dX4_setRisk_15 : decode cX4_setRisk 15 = .ok (.if_icmp .le 13, 3) := by decide +kernel
theorem dX4_setRisk_18 : decode cX4_setRisk 18 = .ok (.new 52, 3) := by decide +kernel
theorem dX4_setRisk_21 : decode cX4_setRisk 21 = .ok (.dup, 1) := by decide +kernel
theorem dX4_setRisk_22 : decode cX4_setRisk 22 = .ok (.ldc 86, 2) := by decide +kernel
theorem dX4_setRisk_24 : decode cX4_setRisk 24 = .ok (.invokespecial 56, 3) := by decide +kernel
theorem dX4_setRisk_27 : decode cX4_setRisk 27 = .ok (.athrow, 1) := by decide +kernel
theorem dX4_setRisk_28 : decode cX4_setRisk 28 = .ok (.iload_n 2, 1) := by decide +kernel
theorem dX4_setRisk_29 : decode cX4_setRisk 29 = .ok (.aload_n 0, 1) := by decide +kernel
theorem dX4_setRisk_30 : decode cX4_setRisk 30 = .ok (.getfield 37, 3) := by decide +kernel
theorem dX4_setRisk_33 : decode cX4_setRisk 33 = .ok (.iload_n 1, 1) := by decide +kernel
theorem dX4_setRisk_34 : decode cX4_setRisk 34 = .ok (.iaload, 1) := by decide +kernel
theorem dX4_setRisk_35 : decode cX4_setRisk 35 = .ok (.if_icmp .le 7, 3) := by decide +kernel
theorem dX4_setRisk_38 : decode cX4_setRisk 38 = .ok (.iconst 1, 1) := by decide +kernel
theorem dX4_setRisk_39 : decode cX4_setRisk 39 = .ok (.goto 4, 3) := by decide +kernel
theorem dX4_setRisk_42 : decode cX4_setRisk 42 = .ok (.iconst 0, 1) := by decide +kernel
theorem dX4_setRisk_43 : decode cX4_setRisk 43 = .ok (.istore_n 3, 1) := by decide +kernel
theorem dX4_setRisk_44 : decode cX4_setRisk 44 = .ok (.aload_n 0, 1) := by decide +kernel
theorem dX4_setRisk_45 : decode cX4_setRisk 45 = .ok (.getfield 37, 3) := by decide +kernel
theorem dX4_setRisk_48 : decode cX4_setRisk 48 = .ok (.iload_n 1, 1) := by decide +kernel
theorem dX4_setRisk_49 : decode cX4_setRisk 49 = .ok (.iload_n 2, 1) := by decide +kernel
theorem dX4_setRisk_50 : decode cX4_setRisk 50 = .ok (.iastore, 1) := by decide +kernel
theorem dX4_setRisk_51 : decode cX4_setRisk 51 = .ok (.iload_n 3, 1) := by decide +kernel
theorem dX4_setRisk_52 : decode cX4_setRisk 52 = .ok (.ifCond .eq 14, 3) := by decide +kernel
theorem dX4_setRisk_55 : decode cX4_setRisk 55 = .ok (.aload_n 0, 1) := by decide +kernel
theorem dX4_setRisk_56 : decode cX4_setRisk 56 = .ok (.getfield 19, 3) := by decide +kernel
theorem dX4_setRisk_59 : decode cX4_setRisk 59 = .ok (.iload_n 1, 1) := by decide +kernel
theorem dX4_setRisk_60 : decode cX4_setRisk 60 = .ok (.invokevirtual 88, 3) := by decide +kernel
theorem dX4_setRisk_63 : decode cX4_setRisk 63 = .ok (.goto 4, 3) := by decide +kernel
theorem dX4_setRisk_66 : decode cX4_setRisk 66 = .ok (.iconst 0, 1) := by decide +kernel
theorem dX4_setRisk_67 : decode cX4_setRisk 67 = .ok (.ireturn, 1) := by decide +kernel
set_option maxRecDepth 20000 in
theorem ggX4_isIn_X4_isOutside : GoodIn wsX4_isIn wsX4_isOutside := goodIn_r _ [7] (by decide +kernel) (by decide +kernel)
set_option maxRecDepth 20000 in
theorem gX4_isIn_X4_isOutside : GoodIn wsX4_isIn (va_wsS RX4 48 yX4_isOutside wsX4_isOutside) := goodIn_app (goodIn_of _ (by decide +kernel)) ggX4_isIn_X4_isOutside
set_option maxRecDepth 20000 in
theorem ggX4_isIn_X1_hasPerson : GoodIn wsX4_isIn wsX1_hasPerson := goodIn_r _ [12, 13, 14, 15, 16, 11, 17, 18, 19, 20, 21, 22, 23, 24, 25, 33, 34, 35, 36] (by decide +kernel) (by decide +kernel)
set_option maxRecDepth 20000 in
theorem gX4_isIn_X1_hasPerson : GoodIn wsX4_isIn (wsV RX4 92 RX1 yX1_hasPerson wsX1_hasPerson) := goodIn_app (goodIn_of _ (by decide +kernel)) ggX4_isIn_X1_hasPerson
theorem dX4_isIn_0 : decode cX4_isIn 0 = .ok (.iload_n 1, 1) := by decide +kernel
theorem dX4_isIn_1 : decode cX4_isIn 1 = .ok (.bipush 8, 2) := by decide +kernel
theorem dX4_isIn_3 : decode cX4_isIn 3 = .ok (.invokestatic 48, 3) := by decide +kernel
theorem dX4_isIn_6 : decode cX4_isIn 6 = .ok (.ifCond .ne 12, 3) := by decide +kernel
theorem dX4_isIn_9 : decode cX4_isIn 9 = .ok (.iload_n 2, 1) := by decide +kernel
theorem dX4_isIn_10 : decode cX4_isIn 10 = .ok (.bipush 10, 2) := by decide +kernel
theorem dX4_isIn_12 : decode cX4_isIn 12 = .ok (.invokestatic 48, 3) := by decide +kernel
theorem dX4_isIn_15 : decode cX4_isIn 15 = .ok (.ifCond .eq 13, 3) := by decide +kernel
theorem dX4_isIn_18 : decode cX4_isIn 18 = .ok (.new 52, 3) := by decide +kernel
theorem dX4_isIn_21 : decode cX4_isIn 21 = .ok (.dup, 1) := by decide +kernel
theorem dX4_isIn_22 : decode cX4_isIn 22 = .ok (.ldc 54, 2) := by decide +kernel
theorem dX4_isIn_24 : decode cX4_isIn 24 = .ok (.invokespecial 56, 3) := by decide +kernel
theorem dX4_isIn_27 : decode cX4_isIn 27 = .ok (.athrow, 1) := by decide +kernel
theorem dX4_isIn_28 : decode cX4_isIn 28 = .ok (.aload_n 0, 1) := by decide +kernel
theorem dX4_isIn_29 : decode cX4_isIn 29 = .ok (.getfield 10, 3) := by decide +kernel
theorem dX4_isIn_32 : decode cX4_isIn 32 = .ok (.iload_n 1, 1) := by decide +kernel
theorem dX4_isIn_33 : decode cX4_isIn 33 = .ok (.iload_n 2, 1) := by decide +kernel
theorem dX4_isIn_34 : decode cX4_isIn 34 = .ok (.invokevirtual 92, 3) := by decide +kernel
theorem dX4_isIn_37 : decode cX4_isIn 37 = .ok (.ireturn, 1) := by decide +kernel
set_option maxRecDepth 20000 in
theorem ggX4_allows_X4_isOutside : GoodIn wsX4_allows wsX4_isOutside := goodIn_r _ [6] (by decide +kernel) (by decide +kernel)
set_option maxRecDepth 20000 in
theorem gX4_allows_X4_isOutside : GoodIn wsX4_allows (va_wsS RX4 48 yX4_isOutside wsX4_isOutside) := goodIn_app (goodIn_of _ (by decide +kernel)) ggX4_allows_X4_isOutside
set_option maxRecDepth 20000 in
theorem ggX4_allows_X4_answerOfHouse : GoodIn wsX4_allows wsX4_answerOfHouse := goodIn_r _ [10, 11, 12, 13, 14, 5, 15, 16, 17, 18, 19, 20, 21, 22, 23, 24, 25, 26, 27, 28, 29, 30, 31, 32, 33, 34, 35, 36, 37, 38, 39, 40, 41, 42, 43, 44, 45, 46, 47, 48, 49, 50, 51, 52, 53, 54, 55, 56, 57] (by decide +kernel) (by decide +kernel)
set_option maxRecDepth 20000 in
theorem gX4_allows_X4_answerOfHouse : GoodIn wsX4_allows (wsV RX4 97 RX4 yX4_answerOfHouse wsX4_answerOfHouse) := goodIn_app (goodIn_of _ (by decide +kernel)) ggX4_allows_X4_answerOfHouse
theorem dX4_allows_0 : decode cX4_allows 0 = .ok (.iload_n 1, 1) := by decide +kernel
theorem dX4_allows_1 : decode cX4_allows 1 = .ok (.bipush 10, 2) := by decide +kernel
theorem dX4_allows_3 : decode cX4_allows 3 = .ok (.invokestatic 48, 3) := by decide +kernel
theorem dX4_allows_6 : decode cX4_allows 6 = .ok (.ifCond .ne 12, 3) := by decide +kernel
theorem dX4_allows_9 : decode cX4_allows 9 = .ok (.iload_n 2, 1) := by decide +kernel
theorem dX4_allows_10 : decode cX4_allows 10 = .ok (.bipush 6, 2) := by decide +kernel
theorem dX4_allows_12 : decode cX4_allows 12 = .ok (.invokestatic 48, 3) := by decide +kernel
theorem dX4_allows_15 : decode cX4_allows 15 = .ok (.ifCond .eq 13, 3) := by decide +kernel
theorem dX4_allows_18 : decode cX4_allows 18 = .ok (.new 52, 3) := by decide +kernel
theorem dX4_allows_21 : decode cX4_allows 21 = .ok (.dup, 1) := by decide +kernel
theorem dX4_allows_22 : decode cX4_allows 22 = .ok (.ldc 95, 2) := by decide +kernel
theorem dX4_allows_24 : decode cX4_allows 24 = .ok (.invokespecial 56, 3) := by decide +kernel
theorem dX4_allows_27 : decode cX4_allows 27 = .ok (.athrow, 1) := by decide +kernel
theorem dX4_allows_28 : decode cX4_allows 28 = .ok (.aload_n 0, 1) := by decide +kernel
theorem dX4_allows_29 : decode cX4_allows 29 = .ok (.iload_n 1, 1) := by decide +kernel
theorem dX4_allows_30 : decode cX4_allows 30 = .ok (.iload_n 2, 1) := by decide +kernel
theorem dX4_allows_31 : decode cX4_allows 31 = .ok (.invokevirtual 97, 3) := by decide +kernel
theorem dX4_allows_34 : decode cX4_allows 34 = .ok (.ifCond .ne 7, 3) := by decide +kernel
theorem dX4_allows_37 : decode cX4_allows 37 = .ok (.iconst 1, 1) := by decide +kernel
theorem dX4_allows_38 : decode cX4_allows 38 = .ok (.goto 4, 3) := by decide +kernel
theorem dX4_allows_41 : decode cX4_allows 41 = .ok (.iconst 0, 1) := by decide +kernel
theorem dX4_allows_42 : decode cX4_allows 42 = .ok (.ireturn, 1) := by decide +kernel
set_option maxRecDepth 20000 in
theorem ggX4_open_X4_isOutside : GoodIn wsX4_open wsX4_isOutside := goodIn_r _ [11] (by decide +kernel) (by decide +kernel)
set_option maxRecDepth 20000 in
theorem gX4_open_X4_isOutside : GoodIn wsX4_open (va_wsS RX4 48 yX4_isOutside wsX4_isOutside) := goodIn_app (goodIn_of _ (by decide +kernel)) ggX4_open_X4_isOutside
set_option maxRecDepth 20000 in
theorem ggX4_open_X4_isBarred : GoodIn wsX4_open wsX4_isBarred := goodIn_r _ [15, 16, 37, 38, 39, 40, 41, 42, 43] (by decide +kernel) (by decide +kernel)
set_option maxRecDepth 20000 in
theorem gX4_open_X4_isBarred : GoodIn wsX4_open (wsV RX4 103 RX4 yX4_isBarred wsX4_isBarred) := goodIn_app (goodIn_of _ (by decide +kernel)) ggX4_open_X4_isBarred
set_option maxRecDepth 20000 in
theorem ggX4_open_X3_areAllOpened : GoodIn wsX4_open wsX3_areAllOpened := goodIn_r _ [21, 22, 44, 45, 46, 47, 48, 49] (by decide +kernel) (by decide +kernel)
set_option maxRecDepth 20000 in
theorem gX4_open_X3_areAllOpened : GoodIn wsX4_open (wsV RX4 109 RX3 yX3_areAllOpened wsX3_areAllOpened) := goodIn_app (goodIn_of _ (by decide +kernel)) ggX4_open_X3_areAllOpened
set_option maxRecDepth 20000 in
theorem ggX4_open_X2_signing : GoodIn wsX4_open wsX2_signing := goodIn_r _ [27, 28, 50, 51] (by decide +kernel) (by decide +kernel)
set_option maxRecDepth 20000 in
theorem gX4_open_X2_signing : GoodIn wsX4_open (wsV RX4 115 RX2 yX2_signing wsX2_signing) := goodIn_app (goodIn_of _ (by decide +kernel)) ggX4_open_X2_signing
set_option maxRecDepth 20000 in
theorem ggX4_open_X3_add : GoodIn wsX4_open wsX3_add := goodIn_r _ [32, 22, 33, 34, 35, 36, 44, 45, 46, 47, 48, 49] (by decide +kernel) (by decide +kernel)
set_option maxRecDepth 20000 in
theorem gX4_open_X3_add : GoodIn wsX4_open (wsV RX4 119 RX3 yX3_add wsX3_add) := goodIn_app (goodIn_of _ (by decide +kernel)) ggX4_open_X3_add
theorem dX4_open_0 : decode cX4_open 0 = .ok (.iload_n 1, 1) := by decide +kernel
theorem dX4_open_1 : decode cX4_open 1 = .ok (.bipush 10, 2) := by decide +kernel
theorem dX4_open_3 : decode cX4_open 3 = .ok (.invokestatic 48, 3) := by decide +kernel
theorem dX4_open_6 : decode cX4_open 6 = .ok (.ifCond .eq 13, 3) := by decide +kernel
theorem dX4_open_9 : decode cX4_open 9 = .ok (.new 52, 3) := by decide +kernel
theorem dX4_open_12 : decode cX4_open 12 = .ok (.dup, 1) := by decide +kernel
theorem dX4_open_13 : decode cX4_open 13 = .ok (.ldc 101, 2) := by decide +kernel
theorem dX4_open_15 : decode cX4_open 15 = .ok (.invokespecial 56, 3) := by decide +kernel
theorem dX4_open_18 : decode cX4_open 18 = .ok (.athrow, 1) := by decide +kernel
theorem dX4_open_19 : decode cX4_open 19 = .ok (.aload_n 0, 1) := by decide +kernel
theorem dX4_open_20 : decode cX4_open 20 = .ok (.iload_n 1, 1) := by decide +kernel
theorem dX4_open_21 : decode cX4_open 21 = .ok (.invokevirtual 103, 3) := by decide +kernel
theorem dX4_open_24 : decode cX4_open 24 = .ok (.ifCond .eq 13, 3) := by decide +kernel
theorem dX4_open_27 : decode cX4_open 27 = .ok (.new 70, 3) := by decide +kernel
theorem dX4_open_30 : decode cX4_open 30 = .ok (.dup, 1) := by decide +kernel
theorem dX4_open_31 : decode cX4_open 31 = .ok (.ldc 107, 2) := by decide +kernel
theorem dX4_open_33 : decode cX4_open 33 = .ok (.invokespecial 74, 3) := by decide +kernel
theorem dX4_open_36 : decode cX4_open 36 = .ok (.athrow, 1) := by decide +kernel
theorem dX4_open_37 : decode cX4_open 37 = .ok (.aload_n 0, 1) := by decide +kernel
theorem dX4_open_38 : decode cX4_open 38 = .ok (.getfield 19, 3) := by decide +kernel
theorem dX4_open_41 : decode cX4_open 41 = .ok (.invokevirtual 109, 3) := by decide +kernel
theorem dX4_open_44 : decode cX4_open 44 = .ok (.ifCond .eq 13, 3) := by decide +kernel
theorem dX4_open_47 : decode cX4_open 47 = .ok (.new 70, 3) := by decide +kernel
theorem dX4_open_50 : decode cX4_open 50 = .ok (.dup, 1) := by decide +kernel
theorem dX4_open_51 : decode cX4_open 51 = .ok (.ldc 113, 2) := by decide +kernel
theorem dX4_open_53 : decode cX4_open 53 = .ok (.invokespecial 74, 3) := by decide +kernel
theorem dX4_open_56 : decode cX4_open 56 = .ok (.athrow, 1) := by decide +kernel
theorem dX4_open_57 : decode cX4_open 57 = .ok (.aload_n 0, 1) := by decide +kernel
theorem dX4_open_58 : decode cX4_open 58 = .ok (.getfield 19, 3) := by decide +kernel
theorem dX4_open_61 : decode cX4_open 61 = .ok (.iload_n 1, 1) := by decide +kernel
theorem dX4_open_62 : decode cX4_open 62 = .ok (.aload_n 0, 1) := by decide +kernel
theorem dX4_open_63 : decode cX4_open 63 = .ok (.getfield 26, 3) := by decide +kernel
theorem dX4_open_66 : decode cX4_open 66 = .ok (.invokevirtual 115, 3) := by decide +kernel
theorem dX4_open_69 : decode cX4_open 69 = .ok (.aload_n 0, 1) := by decide +kernel
theorem dX4_open_70 : decode cX4_open 70 = .ok (.getfield 44, 3) := by decide +kernel
theorem dX4_open_73 : decode cX4_open 73 = .ok (.invokevirtual 119, 3) := by decide +kernel
theorem dX4_open_76 : decode cX4_open 76 = .ok (.ireturn, 1) := by decide +kernel
set_option maxRecDepth 20000 in
theorem ggX4_close_X3_has : GoodIn wsX4_close wsX3_has := goodIn_r _ [11, 12, 34, 35, 36, 37, 38, 39] (by decide +kernel) (by decide +kernel)
set_option maxRecDepth 20000 in
theorem gX4_close_X3_has : GoodIn wsX4_close (wsV RX4 122 RX3 yX3_has wsX3_has) := goodIn_app (goodIn_of _ (by decide +kernel)) ggX4_close_X3_has
set_option maxRecDepth 20000 in
theorem ggX4_close_X3_isOver : GoodIn wsX4_close wsX3_isOver := goodIn_r _ [16, 17, 34, 35, 36, 37, 38, 39] (by decide +kernel) (by decide +kernel)
set_option maxRecDepth 20000 in
theorem gX4_close_X3_isOver : GoodIn wsX4_close (wsV RX4 130 RX3 yX3_isOver wsX3_isOver) := goodIn_app (goodIn_of _ (by decide +kernel)) ggX4_close_X3_isOver
set_option maxRecDepth 20000 in
theorem ggX4_close_X3_end : GoodIn wsX4_close wsX3_end := goodIn_r _ [21, 17, 34, 35, 36, 37, 38, 39] (by decide +kernel) (by decide +kernel)
set_option maxRecDepth 20000 in
theorem gX4_close_X3_end : GoodIn wsX4_close (wsV RX4 135 RX3 yX3_end wsX3_end) := goodIn_app (goodIn_of _ (by decide +kernel)) ggX4_close_X3_end
set_option maxRecDepth 20000 in
theorem ggX4_close_X3_age : GoodIn wsX4_close wsX3_age := goodIn_r _ [25, 26, 34, 35, 36, 37, 38, 39] (by decide +kernel) (by decide +kernel)
set_option maxRecDepth 20000 in
theorem gX4_close_X3_age : GoodIn wsX4_close (wsV RX4 139 RX3 yX3_age wsX3_age) := goodIn_app (goodIn_of _ (by decide +kernel)) ggX4_close_X3_age
theorem dX4_close_0 : decode cX4_close 0 = .ok (.aload_n 0, 1) := by decide +kernel
theorem dX4_close_1 : decode cX4_close 1 = .ok (.getfield 19, 3) := by decide +kernel
theorem dX4_close_4 : decode cX4_close 4 = .ok (.iload_n 1, 1) := by decide +kernel
theorem dX4_close_5 : decode cX4_close 5 = .ok (.invokevirtual 122, 3) := by decide +kernel
theorem dX4_close_8 : decode cX4_close 8 = .ok (.ifCond .ne 13, 3) := by decide +kernel
theorem dX4_close_11 : decode cX4_close 11 = .ok (.new 125, 3) := by decide +kernel
theorem dX4_close_14 : decode cX4_close 14 = .ok (.dup, 1) := by decide +kernel
theorem dX4_close_15 : decode cX4_close 15 = .ok (.ldc 127, 2) := by decide +kernel
theorem dX4_close_17 : decode cX4_close 17 = .ok (.invokespecial 129, 3) := by decide +kernel
theorem dX4_close_20 : decode cX4_close 20 = .ok (.athrow, 1) := by decide +kernel
theorem dX4_close_21 : decode cX4_close 21 = .ok (.aload_n 0, 1) := by decide +kernel
theorem dX4_close_22 : decode cX4_close 22 = .ok (.getfield 19, 3) := by decide +kernel
theorem dX4_close_25 : decode cX4_close 25 = .ok (.iload_n 1, 1) := by decide +kernel
theorem dX4_close_26 : decode cX4_close 26 = .ok (.invokevirtual 130, 3) := by decide +kernel
theorem dX4_close_29 : decode cX4_close 29 = .ok (.ifCond .eq 13, 3) := by decide +kernel
theorem dX4_close_32 : decode cX4_close 32 = .ok (.new 70, 3) := by decide +kernel
theorem dX4_close_35 : decode cX4_close 35 = .ok (.dup, 1) := by decide +kernel
theorem dX4_close_36 : decode cX4_close 36 = .ok (.ldc 133, 2) := by decide +kernel
theorem dX4_close_38 : decode cX4_close 38 = .ok (.invokespecial 74, 3) := by decide +kernel
theorem dX4_close_41 : decode cX4_close 41 = .ok (.athrow, 1) := by decide +kernel
theorem dX4_close_42 : decode cX4_close 42 = .ok (.aload_n 0, 1) := by decide +kernel
theorem dX4_close_43 : decode cX4_close 43 = .ok (.getfield 19, 3) := by decide +kernel
theorem dX4_close_46 : decode cX4_close 46 = .ok (.iload_n 1, 1) := by decide +kernel
theorem dX4_close_47 : decode cX4_close 47 = .ok (.invokevirtual 135, 3) := by decide +kernel
theorem dX4_close_50 : decode cX4_close 50 = .ok (.aload_n 0, 1) := by decide +kernel
theorem dX4_close_51 : decode cX4_close 51 = .ok (.getfield 19, 3) := by decide +kernel
theorem dX4_close_54 : decode cX4_close 54 = .ok (.iload_n 1, 1) := by decide +kernel
theorem dX4_close_55 : decode cX4_close 55 = .ok (.aload_n 0, 1) := by decide +kernel
theorem dX4_close_56 : decode cX4_close 56 = .ok (.getfield 44, 3) := by decide +kernel
theorem dX4_close_59 : decode cX4_close 59 = .ok (.invokevirtual 139, 3) := by decide +kernel
theorem dX4_close_62 : decode cX4_close 62 = .ok (.ireturn, 1) := by decide +kernel
set_option maxRecDepth 20000 in
theorem ggX4_goesOn_X3_has : GoodIn wsX4_goesOn wsX3_has := goodIn_r _ [8, 9, 22, 23, 24, 25, 26, 27] (by decide +kernel) (by decide +kernel)
set_option maxRecDepth 20000 in
theorem gX4_goesOn_X3_has : GoodIn wsX4_goesOn (wsV RX4 122 RX3 yX3_has wsX3_has) := goodIn_app (goodIn_of _ (by decide +kernel)) ggX4_goesOn_X3_has
set_option maxRecDepth 20000 in
theorem ggX4_goesOn_X3_isOver : GoodIn wsX4_goesOn wsX3_isOver := goodIn_r _ [13, 14, 22, 23, 24, 25, 26, 27] (by decide +kernel) (by decide +kernel)
set_option maxRecDepth 20000 in
theorem gX4_goesOn_X3_isOver : GoodIn wsX4_goesOn (wsV RX4 130 RX3 yX3_isOver wsX3_isOver) := goodIn_app (goodIn_of _ (by decide +kernel)) ggX4_goesOn_X3_isOver
theorem dX4_goesOn_0 : decode cX4_goesOn 0 = .ok (.aload_n 0, 1) := by decide +kernel
theorem dX4_goesOn_1 : decode cX4_goesOn 1 = .ok (.getfield 19, 3) := by decide +kernel
theorem dX4_goesOn_4 : decode cX4_goesOn 4 = .ok (.iload_n 1, 1) := by decide +kernel
theorem dX4_goesOn_5 : decode cX4_goesOn 5 = .ok (.invokevirtual 122, 3) := by decide +kernel
theorem dX4_goesOn_8 : decode cX4_goesOn 8 = .ok (.ifCond .ne 13, 3) := by decide +kernel
theorem dX4_goesOn_11 : decode cX4_goesOn 11 = .ok (.new 125, 3) := by decide +kernel
theorem dX4_goesOn_14 : decode cX4_goesOn 14 = .ok (.dup, 1) := by decide +kernel
theorem dX4_goesOn_15 : decode cX4_goesOn 15 = .ok (.ldc 127, 2) := by decide +kernel
theorem dX4_goesOn_17 : decode cX4_goesOn 17 = .ok (.invokespecial 129, 3) := by decide +kernel
theorem dX4_goesOn_20 : decode cX4_goesOn 20 = .ok (.athrow, 1) := by decide +kernel
theorem dX4_goesOn_21 : decode cX4_goesOn 21 = .ok (.aload_n 0, 1) := by decide +kernel
theorem dX4_goesOn_22 : decode cX4_goesOn 22 = .ok (.getfield 19, 3) := by decide +kernel
theorem dX4_goesOn_25 : decode cX4_goesOn 25 = .ok (.iload_n 1, 1) := by decide +kernel
theorem dX4_goesOn_26 : decode cX4_goesOn 26 = .ok (.invokevirtual 130, 3) := by decide +kernel
theorem dX4_goesOn_29 : decode cX4_goesOn 29 = .ok (.ifCond .ne 7, 3) := by decide +kernel
theorem dX4_goesOn_32 : decode cX4_goesOn 32 = .ok (.iconst 1, 1) := by decide +kernel
theorem dX4_goesOn_33 : decode cX4_goesOn 33 = .ok (.goto 4, 3) := by decide +kernel
theorem dX4_goesOn_36 : decode cX4_goesOn 36 = .ok (.iconst 0, 1) := by decide +kernel
theorem dX4_goesOn_37 : decode cX4_goesOn 37 = .ok (.ireturn, 1) := by decide +kernel
set_option maxRecDepth 20000 in
theorem ggX4_changeKeys_X2_signWithNext : GoodIn wsX4_changeKeys wsX2_signWithNext := goodIn_r _ [11, 12, 13, 52, 53] (by decide +kernel) (by decide +kernel)
set_option maxRecDepth 20000 in
theorem gX4_changeKeys_X2_signWithNext : GoodIn wsX4_changeKeys (wsV RX4 144 RX2 yX2_signWithNext wsX2_signWithNext) := goodIn_app (goodIn_of _ (by decide +kernel)) ggX4_changeKeys_X2_signWithNext
set_option maxRecDepth 20000 in
theorem ggX4_changeKeys_X3_endDue : GoodIn wsX4_changeKeys wsX3_endDue := goodIn_r _ [18, 19, 20, 21, 22, 23, 24, 17, 25, 26, 27, 28, 29, 30, 31, 32, 33, 34, 35, 10, 36, 12, 13, 37, 38, 39, 40, 54, 55, 56, 57, 58, 59, 52, 53] (by decide +kernel) (by decide +kernel)
set_option maxRecDepth 20000 in
theorem gX4_changeKeys_X3_endDue : GoodIn wsX4_changeKeys (wsV RX4 147 RX3 yX3_endDue wsX3_endDue) := goodIn_app (goodIn_of _ (by decide +kernel)) ggX4_changeKeys_X3_endDue
set_option maxRecDepth 20000 in
theorem ggX4_changeKeys_X2_signing : GoodIn wsX4_changeKeys wsX2_signing := goodIn_r _ [44, 12, 52, 53] (by decide +kernel) (by decide +kernel)
set_option maxRecDepth 20000 in
theorem gX4_changeKeys_X2_signing : GoodIn wsX4_changeKeys (wsV RX4 115 RX2 yX2_signing wsX2_signing) := goodIn_app (goodIn_of _ (by decide +kernel)) ggX4_changeKeys_X2_signing
theorem dX4_changeKeys_0 : decode cX4_changeKeys 0 = .ok (.iload_n 1, 1) := by decide +kernel
theorem dX4_changeKeys_1 : decode cX4_changeKeys 1 = .ok (.ifCond .lt 10, 3) := by decide +kernel
theorem dX4_changeKeys_4 : decode cX4_changeKeys 4 = .ok (.iload_n 1, 1) := by decide +kernel
theorem dX4_changeKeys_5 : decode cX4_changeKeys 5 = .ok (.sipush 300, 3) := by decide +kernel
theorem dX4_changeKeys_8 : decode cX4_changeKeys 8 = .ok (.if_icmp .le 13, 3) := by decide +kernel
theorem dX4_changeKeys_11 : decode cX4_changeKeys 11 = .ok (.new 52, 3) := by decide +kernel
theorem dX4_changeKeys_14 : decode cX4_changeKeys 14 = .ok (.dup, 1) := by decide +kernel
theorem dX4_changeKeys_15 : decode cX4_changeKeys 15 = .ok (.ldc 142, 2) := by decide +kernel
theorem dX4_changeKeys_17 : decode cX4_changeKeys 17 = .ok (.invokespecial 56, 3) := by decide +kernel
theorem dX4_changeKeys_20 : decode cX4_changeKeys 20 = .ok (.athrow, 1) := by decide +kernel
theorem dX4_changeKeys_21 : decode cX4_changeKeys 21 = .ok (.aload_n 0, 1) := by decide +kernel
theorem dX4_changeKeys_22 : decode cX4_changeKeys 22 = .ok (.getfield 26, 3) := by decide +kernel
theorem dX4_changeKeys_25 : decode cX4_changeKeys 25 = .ok (.aload_n 0, 1) := by decide +kernel
theorem dX4_changeKeys_26 : decode cX4_changeKeys 26 = .ok (.getfield 44, 3) := by decide +kernel
theorem dX4_changeKeys_29 : decode cX4_changeKeys 29 = .ok (.iload_n 1, 1) := by decide +kernel
theorem dX4_changeKeys_30 : decode cX4_changeKeys 30 = .ok (.iadd, 1) := by decide +kernel
theorem dX4_changeKeys_31 : decode cX4_changeKeys 31 = .ok (.invokevirtual 144, 3) := by decide +kernel
theorem dX4_changeKeys_34 : decode cX4_changeKeys 34 = .ok (.aload_n 0, 1) := by decide +kernel
theorem dX4_changeKeys_35 : decode cX4_changeKeys 35 = .ok (.getfield 19, 3) := by decide +kernel
theorem dX4_changeKeys_38 : decode cX4_changeKeys 38 = .ok (.aload_n 0, 1) := by decide +kernel
theorem dX4_changeKeys_39 : decode cX4_changeKeys 39 = .ok (.getfield 44, 3) := by decide +kernel
theorem dX4_changeKeys_42 : decode cX4_changeKeys 42 = .ok (.aload_n 0, 1) := by decide +kernel
theorem dX4_changeKeys_43 : decode cX4_changeKeys 43 = .ok (.getfield 37, 3) := by decide +kernel
theorem dX4_changeKeys_46 : decode cX4_changeKeys 46 = .ok (.aload_n 0, 1) := by decide +kernel
theorem dX4_changeKeys_47 : decode cX4_changeKeys 47 = .ok (.getfield 26, 3) := by decide +kernel
theorem dX4_changeKeys_50 : decode cX4_changeKeys 50 = .ok (.invokevirtual 147, 3) := by decide +kernel
theorem dX4_changeKeys_53 : decode cX4_changeKeys 53 = .ok (.pop, 1) := by decide +kernel
theorem dX4_changeKeys_54 : decode cX4_changeKeys 54 = .ok (.aload_n 0, 1) := by decide +kernel
theorem dX4_changeKeys_55 : decode cX4_changeKeys 55 = .ok (.getfield 26, 3) := by decide +kernel
theorem dX4_changeKeys_58 : decode cX4_changeKeys 58 = .ok (.invokevirtual 115, 3) := by decide +kernel
theorem dX4_changeKeys_61 : decode cX4_changeKeys 61 = .ok (.ireturn, 1) := by decide +kernel
set_option maxRecDepth 20000 in
theorem ggX4_isTaken_X2_signing : GoodIn wsX4_isTaken wsX2_signing := goodIn_r _ [9, 10, 23, 24] (by decide +kernel) (by decide +kernel)
set_option maxRecDepth 20000 in
theorem gX4_isTaken_X2_signing : GoodIn wsX4_isTaken (wsV RX4 115 RX2 yX2_signing wsX2_signing) := goodIn_app (goodIn_of _ (by decide +kernel)) ggX4_isTaken_X2_signing
set_option maxRecDepth 20000 in
theorem ggX4_isTaken_X2_takes : GoodIn wsX4_isTaken wsX2_takes := goodIn_r _ [14, 10, 15, 23, 24] (by decide +kernel) (by decide +kernel)
set_option maxRecDepth 20000 in
theorem gX4_isTaken_X2_takes : GoodIn wsX4_isTaken (wsV RX4 153 RX2 yX2_takes wsX2_takes) := goodIn_app (goodIn_of _ (by decide +kernel)) ggX4_isTaken_X2_takes
theorem dX4_isTaken_0 : decode cX4_isTaken 0 = .ok (.iload_n 1, 1) := by decide +kernel
theorem dX4_isTaken_1 : decode cX4_isTaken 1 = .ok (.ifCond .lt 14, 3) := by decide +kernel
theorem dX4_isTaken_4 : decode cX4_isTaken 4 = .ok (.iload_n 1, 1) := by decide +kernel
theorem dX4_isTaken_5 : decode cX4_isTaken 5 = .ok (.aload_n 0, 1) := by decide +kernel
theorem dX4_isTaken_6 : decode cX4_isTaken 6 = .ok (.getfield 26, 3) := by decide +kernel
theorem dX4_isTaken_9 : decode cX4_isTaken 9 = .ok (.invokevirtual 115, 3) := by decide +kernel
theorem dX4_isTaken_12 : decode cX4_isTaken 12 = .ok (.if_icmp .le 13, 3) := by decide +kernel
theorem dX4_isTaken_15 : decode cX4_isTaken 15 = .ok (.new 52, 3) := by decide +kernel
theorem dX4_isTaken_18 : decode cX4_isTaken 18 = .ok (.dup, 1) := by decide +kernel
theorem dX4_isTaken_19 : decode cX4_isTaken 19 = .ok (.ldc 151, 2) := by decide +kernel
theorem dX4_isTaken_21 : decode cX4_isTaken 21 = .ok (.invokespecial 56, 3) := by decide +kernel
theorem dX4_isTaken_24 : decode cX4_isTaken 24 = .ok (.athrow, 1) := by decide +kernel
theorem dX4_isTaken_25 : decode cX4_isTaken 25 = .ok (.aload_n 0, 1) := by decide +kernel
theorem dX4_isTaken_26 : decode cX4_isTaken 26 = .ok (.getfield 26, 3) := by decide +kernel
theorem dX4_isTaken_29 : decode cX4_isTaken 29 = .ok (.iload_n 1, 1) := by decide +kernel
theorem dX4_isTaken_30 : decode cX4_isTaken 30 = .ok (.aload_n 0, 1) := by decide +kernel
theorem dX4_isTaken_31 : decode cX4_isTaken 31 = .ok (.getfield 44, 3) := by decide +kernel
theorem dX4_isTaken_34 : decode cX4_isTaken 34 = .ok (.invokevirtual 153, 3) := by decide +kernel
theorem dX4_isTaken_37 : decode cX4_isTaken 37 = .ok (.ireturn, 1) := by decide +kernel
set_option maxRecDepth 20000 in
theorem ggX4_pass_X0_dropDueOfAll : GoodIn wsX4_pass wsX0_dropDueOfAll := goodIn_r _ [12, 13, 14, 15, 11, 16, 17, 18, 19, 20, 21, 22, 60, 61, 62] (by decide +kernel) (by decide +kernel)
set_option maxRecDepth 20000 in
theorem gX4_pass_X0_dropDueOfAll : GoodIn wsX4_pass (wsV RX4 156 RX0 yX0_dropDueOfAll wsX0_dropDueOfAll) := goodIn_app (goodIn_of _ (by decide +kernel)) ggX4_pass_X0_dropDueOfAll
set_option maxRecDepth 20000 in
theorem ggX4_pass_X3_endDue : GoodIn wsX4_pass wsX3_endDue := goodIn_r _ [27, 28, 29, 30, 31, 32, 33, 26, 34, 35, 36, 37, 38, 39, 40, 41, 42, 43, 44, 45, 46, 47, 48, 49, 50, 51, 52, 63, 64, 65, 66, 67, 68, 69, 70] (by decide +kernel) (by decide +kernel)
set_option maxRecDepth 20000 in
theorem gX4_pass_X3_endDue : GoodIn wsX4_pass (wsV RX4 147 RX3 yX3_endDue wsX3_endDue) := goodIn_app (goodIn_of _ (by decide +kernel)) ggX4_pass_X3_endDue
theorem dX4_pass_0 : decode cX4_pass 0 = .ok (.iload_n 1, 1) := by decide +kernel
theorem dX4_pass_1 : decode cX4_pass 1 = .ok (.iconst 1, 1) := by decide +kernel
theorem dX4_pass_2 : decode cX4_pass 2 = .ok (.if_icmp .lt 10, 3) := by decide +kernel
theorem dX4_pass_5 : decode cX4_pass 5 = .ok (.iload_n 1, 1) := by decide +kernel
theorem dX4_pass_6 : decode cX4_pass 6 = .ok (.sipush 300, 3) := by decide +kernel
theorem dX4_pass_9 : decode cX4_pass 9 = .ok (.if_icmp .le 13, 3) := by decide +kernel
theorem dX4_pass_12 : decode cX4_pass 12 = .ok (.new 52, 3) := by decide +kernel
theorem dX4_pass_15 : decode cX4_pass 15 = .ok (.dup, 1) := by decide +kernel
theorem dX4_pass_16 : decode cX4_pass 16 = .ok (.ldc 142, 2) := by decide +kernel
theorem dX4_pass_18 : decode cX4_pass 18 = .ok (.invokespecial 56, 3) := by decide +kernel
theorem dX4_pass_21 : decode cX4_pass 21 = .ok (.athrow, 1) := by decide +kernel
theorem dX4_pass_22 : decode cX4_pass 22 = .ok (.aload_n 0, 1) := by decide +kernel
theorem dX4_pass_23 : decode cX4_pass 23 = .ok (.dup, 1) := by decide +kernel
theorem dX4_pass_24 : decode cX4_pass 24 = .ok (.getfield 44, 3) := by decide +kernel
theorem dX4_pass_27 : decode cX4_pass 27 = .ok (.iload_n 1, 1) := by decide +kernel
theorem dX4_pass_28 : decode cX4_pass 28 = .ok (.iadd, 1) := by decide +kernel
theorem dX4_pass_29 : decode cX4_pass 29 = .ok (.putfield 44, 3) := by decide +kernel
theorem dX4_pass_32 : decode cX4_pass 32 = .ok (.aload_n 0, 1) := by decide +kernel
theorem dX4_pass_33 : decode cX4_pass 33 = .ok (.getfield 33, 3) := by decide +kernel
theorem dX4_pass_36 : decode cX4_pass 36 = .ok (.aload_n 0, 1) := by decide +kernel
theorem dX4_pass_37 : decode cX4_pass 37 = .ok (.getfield 44, 3) := by decide +kernel
theorem dX4_pass_40 : decode cX4_pass 40 = .ok (.invokevirtual 156, 3) := by decide +kernel
theorem dX4_pass_43 : decode cX4_pass 43 = .ok (.aload_n 0, 1) := by decide +kernel
theorem dX4_pass_44 : decode cX4_pass 44 = .ok (.getfield 19, 3) := by decide +kernel
theorem dX4_pass_47 : decode cX4_pass 47 = .ok (.aload_n 0, 1) := by decide +kernel
theorem dX4_pass_48 : decode cX4_pass 48 = .ok (.getfield 44, 3) := by decide +kernel
theorem dX4_pass_51 : decode cX4_pass 51 = .ok (.aload_n 0, 1) := by decide +kernel
theorem dX4_pass_52 : decode cX4_pass 52 = .ok (.getfield 37, 3) := by decide +kernel
theorem dX4_pass_55 : decode cX4_pass 55 = .ok (.aload_n 0, 1) := by decide +kernel
theorem dX4_pass_56 : decode cX4_pass 56 = .ok (.getfield 26, 3) := by decide +kernel
theorem dX4_pass_59 : decode cX4_pass 59 = .ok (.invokevirtual 147, 3) := by decide +kernel
theorem dX4_pass_62 : decode cX4_pass 62 = .ok (.ireturn, 1) := by decide +kernel
theorem dX4_now_0 : decode cX4_now 0 = .ok (.aload_n 0, 1) := by decide +kernel
theorem dX4_now_1 : decode cX4_now 1 = .ok (.getfield 44, 3) := by decide +kernel
theorem dX4_now_4 : decode cX4_now 4 = .ok (.ireturn, 1) := by decide +kernel
set_option maxRecDepth 20000 in
theorem ggX4_breakGlass_X4_isOutside : GoodIn wsX4_breakGlass wsX4_isOutside := goodIn_r _ [10] (by decide +kernel) (by decide +kernel)
set_option maxRecDepth 20000 in
theorem gX4_breakGlass_X4_isOutside : GoodIn wsX4_breakGlass (va_wsS RX4 48 yX4_isOutside wsX4_isOutside) := goodIn_app (goodIn_of _ (by decide +kernel)) ggX4_breakGlass_X4_isOutside
set_option maxRecDepth 20000 in
theorem ggX4_breakGlass_X4_servesAsWitness : GoodIn wsX4_breakGlass wsX4_servesAsWitness := goodIn_r _ [14, 15, 16, 17, 18, 9, 19, 20, 21, 22, 23, 24, 25, 26, 27, 28, 29, 30, 31, 32, 33, 34, 35, 36, 37, 38, 39, 40, 41, 42, 43, 44, 45, 46, 47, 48, 49, 50] (by decide +kernel) (by decide +kernel)
set_option maxRecDepth 20000 in
theorem gX4_breakGlass_X4_servesAsWitness : GoodIn wsX4_breakGlass (wsV RX4 163 RX4 yX4_servesAsWitness wsX4_servesAsWitness) := goodIn_app (goodIn_of _ (by decide +kernel)) ggX4_breakGlass_X4_servesAsWitness
theorem dX4_breakGlass_0 : decode cX4_breakGlass 0 = .ok (.iload_n 1, 1) := by decide +kernel
theorem dX4_breakGlass_1 : decode cX4_breakGlass 1 = .ok (.bipush 10, 2) := by decide +kernel
theorem dX4_breakGlass_3 : decode cX4_breakGlass 3 = .ok (.invokestatic 48, 3) := by decide +kernel
theorem dX4_breakGlass_6 : decode cX4_breakGlass 6 = .ok (.ifCond .ne 12, 3) := by decide +kernel
theorem dX4_breakGlass_9 : decode cX4_breakGlass 9 = .ok (.iload_n 2, 1) := by decide +kernel
theorem dX4_breakGlass_10 : decode cX4_breakGlass 10 = .ok (.bipush 6, 2) := by decide +kernel
theorem dX4_breakGlass_12 : decode cX4_breakGlass 12 = .ok (.invokestatic 48, 3) := by decide +kernel
theorem dX4_breakGlass_15 : decode cX4_breakGlass 15 = .ok (.ifCond .eq 13, 3) := by decide +kernel
theorem dX4_breakGlass_18 : decode cX4_breakGlass 18 = .ok (.new 52, 3) := by decide +kernel
theorem dX4_breakGlass_21 : decode cX4_breakGlass 21 = .ok (.dup, 1) := by decide +kernel
theorem dX4_breakGlass_22 : decode cX4_breakGlass 22 = .ok (.ldc 95, 2) := by decide +kernel
theorem dX4_breakGlass_24 : decode cX4_breakGlass 24 = .ok (.invokespecial 56, 3) := by decide +kernel
theorem dX4_breakGlass_27 : decode cX4_breakGlass 27 = .ok (.athrow, 1) := by decide +kernel
theorem dX4_breakGlass_28 : decode cX4_breakGlass 28 = .ok (.iload_n 3, 1) := by decide +kernel
theorem dX4_breakGlass_29 : decode cX4_breakGlass 29 = .ok (.bipush 10, 2) := by decide +kernel
theorem dX4_breakGlass_31 : decode cX4_breakGlass 31 = .ok (.invokestatic 48, 3) := by decide +kernel
theorem dX4_breakGlass_34 : decode cX4_breakGlass 34 = .ok (.ifCond .ne 13, 3) := by decide +kernel
theorem dX4_breakGlass_37 : decode cX4_breakGlass 37 = .ok (.iload 4, 2) := by decide +kernel
theorem dX4_breakGlass_39 : decode cX4_breakGlass 39 = .ok (.bipush 10, 2) := by decide +kernel
theorem dX4_breakGlass_41 : decode cX4_breakGlass 41 = .ok (.invokestatic 48, 3) := by decide +kernel
theorem dX4_breakGlass_44 : decode cX4_breakGlass 44 = .ok (.ifCond .eq 13, 3) := by decide +kernel
theorem dX4_breakGlass_47 : decode cX4_breakGlass 47 = .ok (.new 52, 3) := by decide +kernel
theorem dX4_breakGlass_50 : decode cX4_breakGlass 50 = .ok (.dup, 1) := by decide +kernel
theorem dX4_breakGlass_51 : decode cX4_breakGlass 51 = .ok (.ldc 159, 2) := by decide +kernel
theorem dX4_breakGlass_53 : decode cX4_breakGlass 53 = .ok (.invokespecial 56, 3) := by decide +kernel
theorem dX4_breakGlass_56 : decode cX4_breakGlass 56 = .ok (.athrow, 1) := by decide +kernel
theorem dX4_breakGlass_57 : decode cX4_breakGlass 57 = .ok (.iload_n 1, 1) := by decide +kernel
theorem dX4_breakGlass_58 : decode cX4_breakGlass 58 = .ok (.iload_n 3, 1) := by decide +kernel
theorem dX4_breakGlass_59 : decode cX4_breakGlass 59 = .ok (.if_icmp .eq 15, 3) := by decide +kernel
theorem dX4_breakGlass_62 : decode cX4_breakGlass 62 = .ok (.iload_n 1, 1) := by decide +kernel
theorem dX4_breakGlass_63 : decode cX4_breakGlass 63 = .ok (.iload 4, 2) := by decide +kernel
theorem dX4_breakGlass_65 : decode cX4_breakGlass 65 = .ok (.if_icmp .eq 9, 3) := by decide +kernel
theorem dX4_breakGlass_68 : decode cX4_breakGlass 68 = .ok (.iload_n 3, 1) := by decide +kernel
theorem dX4_breakGlass_69 : decode cX4_breakGlass 69 = .ok (.iload 4, 2) := by decide +kernel
theorem dX4_breakGlass_71 : decode cX4_breakGlass 71 = .ok (.if_icmp .ne 13, 3) := by decide +kernel
theorem dX4_breakGlass_74 : decode cX4_breakGlass 74 = .ok (.new 52, 3) := by decide +kernel
theorem dX4_breakGlass_77 : decode cX4_breakGlass 77 = .ok (.dup, 1) := by decide +kernel
theorem dX4_breakGlass_78 : decode cX4_breakGlass 78 = .ok (.ldc 161, 2) := by decide +kernel
theorem dX4_breakGlass_80 : decode cX4_breakGlass 80 = .ok (.invokespecial 56, 3) := by decide +kernel
theorem dX4_breakGlass_83 : decode cX4_breakGlass 83 = .ok (.athrow, 1) := by decide +kernel
theorem dX4_breakGlass_84 : decode cX4_breakGlass 84 = .ok (.aload_n 0, 1) := by decide +kernel
theorem dX4_breakGlass_85 : decode cX4_breakGlass 85 = .ok (.iload_n 3, 1) := by decide +kernel
theorem dX4_breakGlass_86 : decode cX4_breakGlass 86 = .ok (.iload_n 2, 1) := by decide +kernel
theorem dX4_breakGlass_87 : decode cX4_breakGlass 87 = .ok (.invokevirtual 163, 3) := by decide +kernel
theorem dX4_breakGlass_90 : decode cX4_breakGlass 90 = .ok (.ifCond .eq 13, 3) := by decide +kernel
theorem dX4_breakGlass_93 : decode cX4_breakGlass 93 = .ok (.aload_n 0, 1) := by decide +kernel
theorem dX4_breakGlass_94 : decode cX4_breakGlass 94 = .ok (.iload 4, 2) := by decide +kernel
theorem dX4_breakGlass_96 : decode cX4_breakGlass 96 = .ok (.iload_n 2, 1) := by decide +kernel
theorem dX4_breakGlass_97 : decode cX4_breakGlass 97 = .ok (.invokevirtual 163, 3) := by decide +kernel
theorem dX4_breakGlass_100 : decode cX4_breakGlass 100 = .ok (.ifCond .ne 13, 3) := by decide +kernel
theorem dX4_breakGlass_103 : decode cX4_breakGlass 103 = .ok (.new 70, 3) := by decide +kernel
theorem dX4_breakGlass_106 : decode cX4_breakGlass 106 = .ok (.dup, 1) := by decide +kernel
theorem dX4_breakGlass_107 : decode cX4_breakGlass 107 = .ok (.ldc 166, 2) := by decide +kernel
theorem dX4_breakGlass_109 : decode cX4_breakGlass 109 = .ok (.invokespecial 74, 3) := by decide +kernel
theorem dX4_breakGlass_112 : decode cX4_breakGlass 112 = .ok (.athrow, 1) := by decide +kernel
theorem dX4_breakGlass_113 : decode cX4_breakGlass 113 = .ok (.aload_n 0, 1) := by decide +kernel
theorem dX4_breakGlass_114 : decode cX4_breakGlass 114 = .ok (.getfield 44, 3) := by decide +kernel
theorem dX4_breakGlass_117 : decode cX4_breakGlass 117 = .ok (.bipush 60, 2) := by decide +kernel
theorem dX4_breakGlass_119 : decode cX4_breakGlass 119 = .ok (.iadd, 1) := by decide +kernel
theorem dX4_breakGlass_120 : decode cX4_breakGlass 120 = .ok (.istore 5, 2) := by decide +kernel
theorem dX4_breakGlass_122 : decode cX4_breakGlass 122 = .ok (.aload_n 0, 1) := by decide +kernel
theorem dX4_breakGlass_123 : decode cX4_breakGlass 123 = .ok (.getfield 41, 3) := by decide +kernel
theorem dX4_breakGlass_126 : decode cX4_breakGlass 126 = .ok (.iload_n 1, 1) := by decide +kernel
theorem dX4_breakGlass_127 : decode cX4_breakGlass 127 = .ok (.bipush 6, 2) := by decide +kernel
theorem dX4_breakGlass_129 : decode cX4_breakGlass 129 = .ok (.imul, 1) := by decide +kernel
theorem dX4_breakGlass_130 : decode cX4_breakGlass 130 = .ok (.iload_n 2, 1) := by decide +kernel
theorem dX4_breakGlass_131 : decode cX4_breakGlass 131 = .ok (.iadd, 1) := by decide +kernel
theorem dX4_breakGlass_132 : decode cX4_breakGlass 132 = .ok (.iload 5, 2) := by decide +kernel
theorem dX4_breakGlass_134 : decode cX4_breakGlass 134 = .ok (.iastore, 1) := by decide +kernel
theorem dX4_breakGlass_135 : decode cX4_breakGlass 135 = .ok (.iload 5, 2) := by decide +kernel
theorem dX4_breakGlass_137 : decode cX4_breakGlass 137 = .ok (.ireturn, 1) := by decide +kernel
set_option maxRecDepth 20000 in
theorem ggX4_setCache_X4_isOutside : GoodIn wsX4_setCache wsX4_isOutside := goodIn_r _ [8] (by decide +kernel) (by decide +kernel)
set_option maxRecDepth 20000 in
theorem gX4_setCache_X4_isOutside : GoodIn wsX4_setCache (va_wsS RX4 48 yX4_isOutside wsX4_isOutside) := goodIn_app (goodIn_of _ (by decide +kernel)) ggX4_setCache_X4_isOutside
set_option maxRecDepth 20000 in
theorem ggX4_setCache_X0_cacheOf : GoodIn wsX4_setCache wsX0_cacheOf := goodIn_r _ [13, 14, 35, 36, 37] (by decide +kernel) (by decide +kernel)
set_option maxRecDepth 20000 in
theorem gX4_setCache_X0_cacheOf : GoodIn wsX4_setCache (wsV RX4 170 RX0 yX0_cacheOf wsX0_cacheOf) := goodIn_app (goodIn_of _ (by decide +kernel)) ggX4_setCache_X0_cacheOf
set_option maxRecDepth 20000 in
theorem ggX4_setCache_X0_allowCache : GoodIn wsX4_setCache wsX0_allowCache := goodIn_r _ [18, 14, 35, 36, 37] (by decide +kernel) (by decide +kernel)
set_option maxRecDepth 20000 in
theorem gX4_setCache_X0_allowCache : GoodIn wsX4_setCache (wsV RX4 173 RX0 yX0_allowCache wsX0_allowCache) := goodIn_app (goodIn_of _ (by decide +kernel)) ggX4_setCache_X0_allowCache
set_option maxRecDepth 20000 in
theorem ggX4_setCache_X0_dropDue : GoodIn wsX4_setCache wsX0_dropDue := goodIn_r _ [22, 23, 14, 24, 25, 26, 12, 27, 35, 36, 37] (by decide +kernel) (by decide +kernel)
set_option maxRecDepth 20000 in
theorem gX4_setCache_X0_dropDue : GoodIn wsX4_setCache (wsV RX4 177 RX0 yX0_dropDue wsX0_dropDue) := goodIn_app (goodIn_of _ (by decide +kernel)) ggX4_setCache_X0_dropDue
theorem dX4_setCache_0 : decode cX4_setCache 0 = .ok (.iload_n 1, 1) := by decide +kernel
theorem dX4_setCache_1 : decode cX4_setCache 1 = .ok (.iconst 4, 1) := by decide +kernel
theorem dX4_setCache_2 : decode cX4_setCache 2 = .ok (.invokestatic 48, 3) := by decide +kernel
theorem dX4_setCache_5 : decode cX4_setCache 5 = .ok (.ifCond .ne 13, 3) := by decide +kernel
theorem dX4_setCache_8 : decode cX4_setCache 8 = .ok (.iload_n 2, 1) := by decide +kernel
theorem dX4_setCache_9 : decode cX4_setCache 9 = .ok (.ifCond .lt 9, 3) := by decide +kernel
theorem dX4_setCache_12 : decode cX4_setCache 12 = .ok (.iload_n 2, 1) := by decide +kernel
theorem dX4_setCache_13 : decode cX4_setCache 13 = .ok (.bipush 60, 2) := by decide +kernel
theorem dX4_setCache_15 : decode cX4_setCache 15 = .ok (.if_icmp .le 13, 3) := by decide +kernel
theorem dX4_setCache_18 : decode cX4_setCache 18 = .ok (.new 52, 3) := by decide +kernel
theorem dX4_setCache_21 : decode cX4_setCache 21 = .ok (.dup, 1) := by decide +kernel
theorem dX4_setCache_22 : decode cX4_setCache 22 = .ok (.ldc 168, 2) := by decide +kernel
theorem dX4_setCache_24 : decode cX4_setCache 24 = .ok (.invokespecial 56, 3) := by decide +kernel
theorem dX4_setCache_27 : decode cX4_setCache 27 = .ok (.athrow, 1) := by decide +kernel
theorem dX4_setCache_28 : decode cX4_setCache 28 = .ok (.aload_n 0, 1) := by decide +kernel
theorem dX4_setCache_29 : decode cX4_setCache 29 = .ok (.getfield 33, 3) := by decide +kernel
theorem dX4_setCache_32 : decode cX4_setCache 32 = .ok (.iload_n 1, 1) := by decide +kernel
theorem dX4_setCache_33 : decode cX4_setCache 33 = .ok (.invokevirtual 170, 3) := by decide +kernel
theorem dX4_setCache_36 : decode cX4_setCache 36 = .ok (.istore_n 3, 1) := by decide +kernel
theorem dX4_setCache_37 : decode cX4_setCache 37 = .ok (.aload_n 0, 1) := by decide +kernel
theorem dX4_setCache_38 : decode cX4_setCache 38 = .ok (.getfield 33, 3) := by decide +kernel
theorem dX4_setCache_41 : decode cX4_setCache 41 = .ok (.iload_n 1, 1) := by decide +kernel
theorem dX4_setCache_42 : decode cX4_setCache 42 = .ok (.iload_n 2, 1) := by decide +kernel
theorem dX4_setCache_43 : decode cX4_setCache 43 = .ok (.invokevirtual 173, 3) := by decide +kernel
theorem dX4_setCache_46 : decode cX4_setCache 46 = .ok (.aload_n 0, 1) := by decide +kernel
theorem dX4_setCache_47 : decode cX4_setCache 47 = .ok (.getfield 33, 3) := by decide +kernel
theorem dX4_setCache_50 : decode cX4_setCache 50 = .ok (.iload_n 1, 1) := by decide +kernel
theorem dX4_setCache_51 : decode cX4_setCache 51 = .ok (.aload_n 0, 1) := by decide +kernel
theorem dX4_setCache_52 : decode cX4_setCache 52 = .ok (.getfield 44, 3) := by decide +kernel
theorem dX4_setCache_55 : decode cX4_setCache 55 = .ok (.invokevirtual 177, 3) := by decide +kernel
theorem dX4_setCache_58 : decode cX4_setCache 58 = .ok (.iload_n 3, 1) := by decide +kernel
theorem dX4_setCache_59 : decode cX4_setCache 59 = .ok (.ireturn, 1) := by decide +kernel
set_option maxRecDepth 20000 in
theorem ggX4_decide_X4_isOutside : GoodIn wsX4_decide wsX4_isOutside := goodIn_r _ [10] (by decide +kernel) (by decide +kernel)
set_option maxRecDepth 20000 in
theorem gX4_decide_X4_isOutside : GoodIn wsX4_decide (va_wsS RX4 48 yX4_isOutside wsX4_isOutside) := goodIn_app (goodIn_of _ (by decide +kernel)) ggX4_decide_X4_isOutside
set_option maxRecDepth 20000 in
theorem ggX4_decide_X3_has : GoodIn wsX4_decide wsX3_has := goodIn_r _ [15, 16, 102, 103, 104, 105, 106, 107] (by decide +kernel) (by decide +kernel)
set_option maxRecDepth 20000 in
theorem gX4_decide_X3_has : GoodIn wsX4_decide (wsV RX4 122 RX3 yX3_has wsX3_has) := goodIn_app (goodIn_of _ (by decide +kernel)) ggX4_decide_X3_has
set_option maxRecDepth 20000 in
theorem ggX4_decide_X3_isOver : GoodIn wsX4_decide wsX3_isOver := goodIn_r _ [20, 21, 102, 103, 104, 105, 106, 107] (by decide +kernel) (by decide +kernel)
set_option maxRecDepth 20000 in
theorem gX4_decide_X3_isOver : GoodIn wsX4_decide (wsV RX4 130 RX3 yX3_isOver wsX3_isOver) := goodIn_app (goodIn_of _ (by decide +kernel)) ggX4_decide_X3_isOver
set_option maxRecDepth 20000 in
theorem ggX4_decide_X3_use : GoodIn wsX4_decide wsX3_use := goodIn_r _ [25, 26, 102, 103, 104, 105, 106, 107] (by decide +kernel) (by decide +kernel)
set_option maxRecDepth 20000 in
theorem gX4_decide_X3_use : GoodIn wsX4_decide (wsV RX4 182 RX3 yX3_use wsX3_use) := goodIn_app (goodIn_of _ (by decide +kernel)) ggX4_decide_X3_use
set_option maxRecDepth 20000 in
theorem ggX4_decide_X3_personOf : GoodIn wsX4_decide wsX3_personOf := goodIn_r _ [30, 31, 102, 103, 104, 105, 106, 107] (by decide +kernel) (by decide +kernel)
set_option maxRecDepth 20000 in
theorem gX4_decide_X3_personOf : GoodIn wsX4_decide (wsV RX4 185 RX3 yX3_personOf wsX3_personOf) := goodIn_app (goodIn_of _ (by decide +kernel)) ggX4_decide_X3_personOf
set_option maxRecDepth 20000 in
theorem ggX4_decide_X4_answerOfApp : GoodIn wsX4_decide wsX4_answerOfApp := goodIn_r _ [35, 36, 6, 37, 38, 39, 40, 41, 42, 43, 44, 45, 46, 47, 48, 49, 50, 51, 52, 9, 53, 54, 55, 56, 57, 58, 59, 60, 61, 62, 63, 64, 65, 66, 67, 68, 69, 70, 71, 72, 73, 74, 75, 76, 77, 78, 79, 80, 81, 82, 83, 84, 85, 86, 87, 88, 89, 90, 91, 92, 93, 94, 95, 96, 97, 98, 99, 100, 101, 108, 109, 110, 111, 112, 113, 114] (by decide +kernel) (by decide +kernel)
set_option maxRecDepth 20000 in
theorem gX4_decide_X4_answerOfApp : GoodIn wsX4_decide (wsV RX4 188 RX4 yX4_answerOfApp wsX4_answerOfApp) := goodIn_app (goodIn_of _ (by decide +kernel)) ggX4_decide_X4_answerOfApp
end
section
theorem dX4_decide_0 : decode cX4_decide 0 = .ok (.iload_n 1, 1) := by decide +kernel
theorem dX4_decide_1 : decode cX4_decide 1 = .ok (.iconst 4, 1) := by decide +kernel
theorem dX4_decide_2 : decode cX4_decide 2 = .ok (.invokestatic 48, 3) := by decide +kernel
theorem dX4_decide_5 : decode cX4_decide 5 = .ok (.ifCond .ne 12, 3) := by decide +kernel
theorem dX4_decide_8 : decode cX4_decide 8 = .ok (.iload_n 3, 1) := by decide +kernel
theorem dX4_decide_9 : decode cX4_decide 9 = .ok (.bipush 6, 2) := by decide +kernel
theorem dX4_decide_11 : decode cX4_decide 11 = .ok (.invokestatic 48, 3) := by decide +kernel
theorem dX4_decide_14 : decode cX4_decide 14 = .ok (.ifCond .eq 13, 3) := by decide +kernel
theorem dX4_decide_17 : decode cX4_decide 17 = .ok (.new 52, 3) := by decide +kernel
theorem dX4_decide_20 : decode cX4_decide 20 = .ok (.dup, 1) := by decide +kernel
theorem dX4_decide_21 : decode cX4_decide 21 = .ok (.ldc 180, 2) := by decide +kernel
theorem dX4_decide_23 : decode cX4_decide 23 = .ok (.invokespecial 56, 3) := by decide +kernel
theorem dX4_decide_26 : decode cX4_decide 26 = .ok (.athrow, 1) := by decide +kernel
theorem dX4_decide_27 : decode cX4_decide 27 = .ok (.aload_n 0, 1) := by decide +kernel
theorem dX4_decide_28 : decode cX4_decide 28 = .ok (.getfield 19, 3) := by decide +kernel
theorem dX4_decide_31 : decode cX4_decide 31 = .ok (.iload_n 2, 1) := by decide +kernel
theorem dX4_decide_32 : decode cX4_decide 32 = .ok (.invokevirtual 122, 3) := by decide +kernel
theorem dX4_decide_35 : decode cX4_decide 35 = .ok (.ifCond .ne 13, 3) := by decide +kernel
theorem dX4_decide_38 : decode cX4_decide 38 = .ok (.new 125, 3) := by decide +kernel
theorem dX4_decide_41 : decode cX4_decide 41 = .ok (.dup, 1) := by decide +kernel
theorem dX4_decide_42 : decode cX4_decide 42 = .ok (.ldc 127, 2) := by decide +kernel
theorem dX4_decide_44 : decode cX4_decide 44 = .ok (.invokespecial 129, 3) := by decide +kernel
theorem dX4_decide_47 : decode cX4_decide 47 = .ok (.athrow, 1) := by decide +kernel
theorem dX4_decide_48 : decode cX4_decide 48 = .ok (.aload_n 0, 1) := by decide +kernel
theorem dX4_decide_49 : decode cX4_decide 49 = .ok (.getfield 19, 3) := by decide +kernel
theorem dX4_decide_52 : decode cX4_decide 52 = .ok (.iload_n 2, 1) := by decide +kernel
theorem dX4_decide_53 : decode cX4_decide 53 = .ok (.invokevirtual 130, 3) := by decide +kernel
theorem dX4_decide_56 : decode cX4_decide 56 = .ok (.ifCond .eq 5, 3) := by decide +kernel
theorem dX4_decide_59 : decode cX4_decide 59 = .ok (.iconst 2, 1) := by decide +kernel
theorem dX4_decide_60 : decode cX4_decide 60 = .ok (.ireturn, 1) := by decide +kernel
theorem dX4_decide_61 : decode cX4_decide 61 = .ok (.aload_n 0, 1) := by decide +kernel
theorem dX4_decide_62 : decode cX4_decide 62 = .ok (.getfield 19, 3) := by decide +kernel
theorem dX4_decide_65 : decode cX4_decide 65 = .ok (.iload_n 2, 1) := by decide +kernel
theorem dX4_decide_66 : decode cX4_decide 66 = .ok (.aload_n 0, 1) := by decide +kernel
theorem dX4_decide_67 : decode cX4_decide 67 = .ok (.getfield 44, 3) := by decide +kernel
theorem dX4_decide_70 : decode cX4_decide 70 = .ok (.invokevirtual 182, 3) := by decide +kernel
theorem dX4_decide_73 : decode cX4_decide 73 = .ok (.aload_n 0, 1) := by decide +kernel
theorem dX4_decide_74 : decode cX4_decide 74 = .ok (.iload_n 1, 1) := by decide +kernel
theorem dX4_decide_75 : decode cX4_decide 75 = .ok (.aload_n 0, 1) := by decide +kernel
theorem dX4_decide_76 : decode cX4_decide 76 = .ok (.getfield 19, 3) := by decide +kernel
theorem dX4_decide_79 : decode cX4_decide 79 = .ok (.iload_n 2, 1) := by decide +kernel
theorem dX4_decide_80 : decode cX4_decide 80 = .ok (.invokevirtual 185, 3) := by decide +kernel
theorem dX4_decide_83 : decode cX4_decide 83 = .ok (.iload_n 3, 1) := by decide +kernel
theorem dX4_decide_84 : decode cX4_decide 84 = .ok (.invokevirtual 188, 3) := by decide +kernel
theorem dX4_decide_87 : decode cX4_decide 87 = .ok (.ireturn, 1) := by decide +kernel
set_option maxRecDepth 20000 in
theorem ggX4_forget_X4_isOutside : GoodIn wsX4_forget wsX4_isOutside := goodIn_r _ [7] (by decide +kernel) (by decide +kernel)
set_option maxRecDepth 20000 in
theorem gX4_forget_X4_isOutside : GoodIn wsX4_forget (va_wsS RX4 48 yX4_isOutside wsX4_isOutside) := goodIn_app (goodIn_of _ (by decide +kernel)) ggX4_forget_X4_isOutside
set_option maxRecDepth 20000 in
theorem ggX4_forget_X0_dropAllOf : GoodIn wsX4_forget wsX0_dropAllOf := goodIn_r _ [12, 13, 14, 15, 16, 11, 17, 18, 19, 20, 28, 29, 30] (by decide +kernel) (by decide +kernel)
set_option maxRecDepth 20000 in
theorem gX4_forget_X0_dropAllOf : GoodIn wsX4_forget (wsV RX4 193 RX0 yX0_dropAllOf wsX0_dropAllOf) := goodIn_app (goodIn_of _ (by decide +kernel)) ggX4_forget_X0_dropAllOf
theorem dX4_forget_0 : decode cX4_forget 0 = .ok (.iload_n 1, 1) := by decide +kernel
theorem dX4_forget_1 : decode cX4_forget 1 = .ok (.iconst 4, 1) := by decide +kernel
theorem dX4_forget_2 : decode cX4_forget 2 = .ok (.invokestatic 48, 3) := by decide +kernel
theorem dX4_forget_5 : decode cX4_forget 5 = .ok (.ifCond .ne 12, 3) := by decide +kernel
theorem dX4_forget_8 : decode cX4_forget 8 = .ok (.iload_n 2, 1) := by decide +kernel
theorem dX4_forget_9 : decode cX4_forget 9 = .ok (.bipush 10, 2) := by decide +kernel
theorem dX4_forget_11 : decode cX4_forget 11 = .ok (.invokestatic 48, 3) := by decide +kernel
theorem dX4_forget_14 : decode cX4_forget 14 = .ok (.ifCond .eq 13, 3) := by decide +kernel
theorem dX4_forget_17 : decode cX4_forget 17 = .ok (.new 52, 3) := by decide +kernel
theorem dX4_forget_20 : decode cX4_forget 20 = .ok (.dup, 1) := by decide +kernel
theorem dX4_forget_21 : decode cX4_forget 21 = .ok (.ldc 191, 2) := by decide +kernel
theorem dX4_forget_23 : decode cX4_forget 23 = .ok (.invokespecial 56, 3) := by decide +kernel
theorem dX4_forget_26 : decode cX4_forget 26 = .ok (.athrow, 1) := by decide +kernel
theorem dX4_forget_27 : decode cX4_forget 27 = .ok (.aload_n 0, 1) := by decide +kernel
theorem dX4_forget_28 : decode cX4_forget 28 = .ok (.getfield 33, 3) := by decide +kernel
theorem dX4_forget_31 : decode cX4_forget 31 = .ok (.iload_n 1, 1) := by decide +kernel
theorem dX4_forget_32 : decode cX4_forget 32 = .ok (.iload_n 2, 1) := by decide +kernel
theorem dX4_forget_33 : decode cX4_forget 33 = .ok (.invokevirtual 193, 3) := by decide +kernel
theorem dX4_forget_36 : decode cX4_forget 36 = .ok (.ireturn, 1) := by decide +kernel
set_option maxRecDepth 20000 in
theorem ggX4_stale_X4_isOutside : GoodIn wsX4_stale wsX4_isOutside := goodIn_r _ [6] (by decide +kernel) (by decide +kernel)
set_option maxRecDepth 20000 in
theorem gX4_stale_X4_isOutside : GoodIn wsX4_stale (va_wsS RX4 48 yX4_isOutside wsX4_isOutside) := goodIn_app (goodIn_of _ (by decide +kernel)) ggX4_stale_X4_isOutside
set_option maxRecDepth 20000 in
theorem ggX4_stale_X4_isStale : GoodIn wsX4_stale wsX4_isStale := goodIn_r _ [10, 11, 12, 13, 14, 15, 16, 17, 18, 19, 20, 21, 22, 23, 24, 25, 26, 27, 5, 28, 29, 30, 31, 32, 33, 34, 35, 36, 37, 38, 39, 40, 41, 42, 43, 44, 45, 46, 47, 48, 49, 50, 51, 52, 53, 54, 55, 56, 57, 58, 59, 60, 61, 62, 63, 64, 65, 66, 67, 68, 69, 70, 71, 72, 73, 74, 75, 76, 77, 78] (by decide +kernel) (by decide +kernel)
set_option maxRecDepth 20000 in
theorem gX4_stale_X4_isStale : GoodIn wsX4_stale (wsV RX4 198 RX4 yX4_isStale wsX4_isStale) := goodIn_app (goodIn_of _ (by decide +kernel)) ggX4_stale_X4_isStale
theorem dX4_stale_0 : decode cX4_stale 0 = .ok (.iload_n 1, 1) := by decide +kernel
theorem dX4_stale_1 : decode cX4_stale 1 = .ok (.iconst 4, 1) := by decide +kernel
theorem dX4_stale_2 : decode cX4_stale 2 = .ok (.invokestatic 48, 3) := by decide +kernel
theorem dX4_stale_5 : decode cX4_stale 5 = .ok (.ifCond .eq 13, 3) := by decide +kernel
theorem dX4_stale_8 : decode cX4_stale 8 = .ok (.new 52, 3) := by decide +kernel
theorem dX4_stale_11 : decode cX4_stale 11 = .ok (.dup, 1) := by decide +kernel
theorem dX4_stale_12 : decode cX4_stale 12 = .ok (.ldc 196, 2) := by decide +kernel
theorem dX4_stale_14 : decode cX4_stale 14 = .ok (.invokespecial 56, 3) := by decide +kernel
theorem dX4_stale_17 : decode cX4_stale 17 = .ok (.athrow, 1) := by decide +kernel
theorem dX4_stale_18 : decode cX4_stale 18 = .ok (.iconst 0, 1) := by decide +kernel
theorem dX4_stale_19 : decode cX4_stale 19 = .ok (.istore_n 2, 1) := by decide +kernel
theorem dX4_stale_20 : decode cX4_stale 20 = .ok (.iconst 0, 1) := by decide +kernel
theorem dX4_stale_21 : decode cX4_stale 21 = .ok (.istore_n 3, 1) := by decide +kernel
theorem dX4_stale_22 : decode cX4_stale 22 = .ok (.iload_n 3, 1) := by decide +kernel
theorem dX4_stale_23 : decode cX4_stale 23 = .ok (.bipush 10, 2) := by decide +kernel
theorem dX4_stale_25 : decode cX4_stale 25 = .ok (.if_icmp .ge 39, 3) := by decide +kernel
theorem dX4_stale_28 : decode cX4_stale 28 = .ok (.iconst 0, 1) := by decide +kernel
theorem dX4_stale_29 : decode cX4_stale 29 = .ok (.istore 4, 2) := by decide +kernel
theorem dX4_stale_31 : decode cX4_stale 31 = .ok (.iload 4, 2) := by decide +kernel
theorem dX4_stale_33 : decode cX4_stale 33 = .ok (.bipush 6, 2) := by decide +kernel
theorem dX4_stale_35 : decode cX4_stale 35 = .ok (.if_icmp .ge 23, 3) := by decide +kernel
theorem dX4_stale_38 : decode cX4_stale 38 = .ok (.aload_n 0, 1) := by decide +kernel
theorem dX4_stale_39 : decode cX4_stale 39 = .ok (.iload_n 1, 1) := by decide +kernel
theorem dX4_stale_40 : decode cX4_stale 40 = .ok (.iload_n 3, 1) := by decide +kernel
theorem dX4_stale_41 : decode cX4_stale 41 = .ok (.iload 4, 2) := by decide +kernel
theorem dX4_stale_43 : decode cX4_stale 43 = .ok (.invokevirtual 198, 3) := by decide +kernel
theorem dX4_stale_46 : decode cX4_stale 46 = .ok (.ifCond .eq 6, 3) := by decide +kernel
theorem dX4_stale_49 : decode cX4_stale 49 = .ok (.iinc 2 1, 3) := by decide +kernel
theorem dX4_stale_52 : decode cX4_stale 52 = .ok (.iinc 4 1, 3) := by decide +kernel
theorem dX4_stale_55 : decode cX4_stale 55 = .ok (.goto (-24), 3) := by decide +kernel
theorem dX4_stale_58 : decode cX4_stale 58 = .ok (.iinc 3 1, 3) := by decide +kernel
theorem dX4_stale_61 : decode cX4_stale 61 = .ok (.goto (-39), 3) := by decide +kernel
theorem dX4_stale_64 : decode cX4_stale 64 = .ok (.iload_n 2, 1) := by decide +kernel
theorem dX4_stale_65 : decode cX4_stale 65 = .ok (.ireturn, 1) := by decide +kernel
theorem dX4_isOutside_0 : decode cX4_isOutside 0 = .ok (.iload_n 0, 1) := by decide +kernel
theorem dX4_isOutside_1 : decode cX4_isOutside 1 = .ok (.ifCond .lt 8, 3) := by decide +kernel
theorem dX4_isOutside_4 : decode cX4_isOutside 4 = .ok (.iload_n 0, 1) := by decide +kernel
theorem dX4_isOutside_5 : decode cX4_isOutside 5 = .ok (.iload_n 1, 1) := by decide +kernel
theorem dX4_isOutside_6 : decode cX4_isOutside 6 = .ok (.if_icmp .lt 7, 3) := by decide +kernel
theorem dX4_isOutside_9 : decode cX4_isOutside 9 = .ok (.iconst 1, 1) := by decide +kernel
theorem dX4_isOutside_10 : decode cX4_isOutside 10 = .ok (.goto 4, 3) := by decide +kernel
theorem dX4_isOutside_13 : decode cX4_isOutside 13 = .ok (.iconst 0, 1) := by decide +kernel
theorem dX4_isOutside_14 : decode cX4_isOutside 14 = .ok (.ireturn, 1) := by decide +kernel
theorem dX4_isBarred_0 : decode cX4_isBarred 0 = .ok (.aload_n 0, 1) := by decide +kernel
theorem dX4_isBarred_1 : decode cX4_isBarred 1 = .ok (.getfield 37, 3) := by decide +kernel
theorem dX4_isBarred_4 : decode cX4_isBarred 4 = .ok (.iload_n 1, 1) := by decide +kernel
theorem dX4_isBarred_5 : decode cX4_isBarred 5 = .ok (.iaload, 1) := by decide +kernel
theorem dX4_isBarred_6 : decode cX4_isBarred 6 = .ok (.iconst 3, 1) := by decide +kernel
theorem dX4_isBarred_7 : decode cX4_isBarred 7 = .ok (.if_icmp .ne 7, 3) := by decide +kernel
theorem dX4_isBarred_10 : decode cX4_isBarred 10 = .ok (.iconst 1, 1) := by decide +kernel
theorem dX4_isBarred_11 : decode cX4_isBarred 11 = .ok (.goto 4, 3) := by decide +kernel
theorem dX4_isBarred_14 : decode cX4_isBarred 14 = .ok (.iconst 0, 1) := by decide +kernel
theorem dX4_isBarred_15 : decode cX4_isBarred 15 = .ok (.ireturn, 1) := by decide +kernel
theorem dX4_holdsGlass_0 : decode cX4_holdsGlass 0 = .ok (.aload_n 0, 1) := by decide +kernel
theorem dX4_holdsGlass_1 : decode cX4_holdsGlass 1 = .ok (.getfield 44, 3) := by decide +kernel
theorem dX4_holdsGlass_4 : decode cX4_holdsGlass 4 = .ok (.aload_n 0, 1) := by decide +kernel
theorem dX4_holdsGlass_5 : decode cX4_holdsGlass 5 = .ok (.getfield 41, 3) := by decide +kernel
theorem dX4_holdsGlass_8 : decode cX4_holdsGlass 8 = .ok (.iload_n 1, 1) := by decide +kernel
theorem dX4_holdsGlass_9 : decode cX4_holdsGlass 9 = .ok (.bipush 6, 2) := by decide +kernel
theorem dX4_holdsGlass_11 : decode cX4_holdsGlass 11 = .ok (.imul, 1) := by decide +kernel
theorem dX4_holdsGlass_12 : decode cX4_holdsGlass 12 = .ok (.iload_n 2, 1) := by decide +kernel
theorem dX4_holdsGlass_13 : decode cX4_holdsGlass 13 = .ok (.iadd, 1) := by decide +kernel
theorem dX4_holdsGlass_14 : decode cX4_holdsGlass 14 = .ok (.iaload, 1) := by decide +kernel
theorem dX4_holdsGlass_15 : decode cX4_holdsGlass 15 = .ok (.if_icmp .ge 7, 3) := by decide +kernel
theorem dX4_holdsGlass_18 : decode cX4_holdsGlass 18 = .ok (.iconst 1, 1) := by decide +kernel
theorem dX4_holdsGlass_19 : decode cX4_holdsGlass 19 = .ok (.goto 4, 3) := by decide +kernel
theorem dX4_holdsGlass_22 : decode cX4_holdsGlass 22 = .ok (.iconst 0, 1) := by decide +kernel
theorem dX4_holdsGlass_23 : decode cX4_holdsGlass 23 = .ok (.ireturn, 1) := by decide +kernel
set_option maxRecDepth 20000 in
theorem ggX4_servesAsWitness_X4_isBarred : GoodIn wsX4_servesAsWitness wsX4_isBarred := goodIn_r _ [6, 7, 27, 28, 29, 30, 31, 32, 33] (by decide +kernel) (by decide +kernel)
set_option maxRecDepth 20000 in
theorem gX4_servesAsWitness_X4_isBarred : GoodIn wsX4_servesAsWitness (wsV RX4 103 RX4 yX4_isBarred wsX4_isBarred) := goodIn_app (goodIn_of _ (by decide +kernel)) ggX4_servesAsWitness_X4_isBarred
set_option maxRecDepth 20000 in
theorem ggX4_servesAsWitness_X1_anyGrants : GoodIn wsX4_servesAsWitness wsX1_anyGrants := goodIn_r _ [12, 13, 14, 15, 16, 17, 11, 18, 19, 20, 21, 22, 23, 24, 25, 26, 34, 35, 36, 37] (by decide +kernel) (by decide +kernel)
set_option maxRecDepth 20000 in
theorem gX4_servesAsWitness_X1_anyGrants : GoodIn wsX4_servesAsWitness (wsV RX4 202 RX1 yX1_anyGrants wsX1_anyGrants) := goodIn_app (goodIn_of _ (by decide +kernel)) ggX4_servesAsWitness_X1_anyGrants
theorem dX4_servesAsWitness_0 : decode cX4_servesAsWitness 0 = .ok (.aload_n 0, 1) := by decide +kernel
theorem dX4_servesAsWitness_1 : decode cX4_servesAsWitness 1 = .ok (.iload_n 1, 1) := by decide +kernel
theorem dX4_servesAsWitness_2 : decode cX4_servesAsWitness 2 = .ok (.invokevirtual 103, 3) := by decide +kernel
theorem dX4_servesAsWitness_5 : decode cX4_servesAsWitness 5 = .ok (.ifCond .ne 19, 3) := by decide +kernel
theorem dX4_servesAsWitness_8 : decode cX4_servesAsWitness 8 = .ok (.aload_n 0, 1) := by decide +kernel
theorem dX4_servesAsWitness_9 : decode cX4_servesAsWitness 9 = .ok (.getfield 10, 3) := by decide +kernel
theorem dX4_servesAsWitness_12 : decode cX4_servesAsWitness 12 = .ok (.iload_n 1, 1) := by decide +kernel
theorem dX4_servesAsWitness_13 : decode cX4_servesAsWitness 13 = .ok (.iload_n 2, 1) := by decide +kernel
theorem dX4_servesAsWitness_14 : decode cX4_servesAsWitness 14 = .ok (.invokevirtual 202, 3) := by decide +kernel
theorem dX4_servesAsWitness_17 : decode cX4_servesAsWitness 17 = .ok (.ifCond .eq 7, 3) := by decide +kernel
theorem dX4_servesAsWitness_20 : decode cX4_servesAsWitness 20 = .ok (.iconst 1, 1) := by decide +kernel
theorem dX4_servesAsWitness_21 : decode cX4_servesAsWitness 21 = .ok (.goto 4, 3) := by decide +kernel
theorem dX4_servesAsWitness_24 : decode cX4_servesAsWitness 24 = .ok (.iconst 0, 1) := by decide +kernel
theorem dX4_servesAsWitness_25 : decode cX4_servesAsWitness 25 = .ok (.ireturn, 1) := by decide +kernel
set_option maxRecDepth 20000 in
theorem ggX4_answerOfHouse_X4_isBarred : GoodIn wsX4_answerOfHouse wsX4_isBarred := goodIn_r _ [6, 7, 38, 39, 40, 41, 42, 43, 44] (by decide +kernel) (by decide +kernel)
set_option maxRecDepth 20000 in
theorem gX4_answerOfHouse_X4_isBarred : GoodIn wsX4_answerOfHouse (wsV RX4 103 RX4 yX4_isBarred wsX4_isBarred) := goodIn_app (goodIn_of _ (by decide +kernel)) ggX4_answerOfHouse_X4_isBarred
set_option maxRecDepth 20000 in
theorem ggX4_answerOfHouse_X1_anyGrants : GoodIn wsX4_answerOfHouse wsX1_anyGrants := goodIn_r _ [12, 13, 14, 15, 16, 17, 11, 18, 19, 20, 21, 22, 23, 24, 25, 26, 45, 46, 47, 48] (by decide +kernel) (by decide +kernel)
set_option maxRecDepth 20000 in
theorem gX4_answerOfHouse_X1_anyGrants : GoodIn wsX4_answerOfHouse (wsV RX4 202 RX1 yX1_anyGrants wsX1_anyGrants) := goodIn_app (goodIn_of _ (by decide +kernel)) ggX4_answerOfHouse_X1_anyGrants
set_option maxRecDepth 20000 in
theorem ggX4_answerOfHouse_X1_anyDenies : GoodIn wsX4_answerOfHouse wsX1_anyDenies := goodIn_r _ [30, 13, 31, 15, 16, 17, 11, 18, 19, 20, 21, 22, 23, 24, 25, 26, 45, 46, 47, 48] (by decide +kernel) (by decide +kernel)
set_option maxRecDepth 20000 in
theorem gX4_answerOfHouse_X1_anyDenies : GoodIn wsX4_answerOfHouse (wsV RX4 205 RX1 yX1_anyDenies wsX1_anyDenies) := goodIn_app (goodIn_of _ (by decide +kernel)) ggX4_answerOfHouse_X1_anyDenies
set_option maxRecDepth 20000 in
theorem ggX4_answerOfHouse_X4_holdsGlass : GoodIn wsX4_answerOfHouse wsX4_holdsGlass := goodIn_r _ [35, 36, 37, 38, 39, 40, 41, 42, 43, 44] (by decide +kernel) (by decide +kernel)
set_option maxRecDepth 20000 in
theorem gX4_answerOfHouse_X4_holdsGlass : GoodIn wsX4_answerOfHouse (wsV RX4 208 RX4 yX4_holdsGlass wsX4_holdsGlass) := goodIn_app (goodIn_of _ (by decide +kernel)) ggX4_answerOfHouse_X4_holdsGlass
theorem dX4_answerOfHouse_0 : decode cX4_answerOfHouse 0 = .ok (.aload_n 0, 1) := by decide +kernel
theorem dX4_answerOfHouse_1 : decode cX4_answerOfHouse 1 = .ok (.iload_n 1, 1) := by decide +kernel
theorem dX4_answerOfHouse_2 : decode cX4_answerOfHouse 2 = .ok (.invokevirtual 103, 3) := by decide +kernel
theorem dX4_answerOfHouse_5 : decode cX4_answerOfHouse 5 = .ok (.ifCond .eq 5, 3) := by decide +kernel
theorem dX4_answerOfHouse_8 : decode cX4_answerOfHouse 8 = .ok (.iconst 1, 1) := by decide +kernel
theorem dX4_answerOfHouse_9 : decode cX4_answerOfHouse 9 = .ok (.ireturn, 1) := by decide +kernel
theorem dX4_answerOfHouse_10 : decode cX4_answerOfHouse 10 = .ok (.aload_n 0, 1) := by decide +kernel
theorem dX4_answerOfHouse_11 : decode cX4_answerOfHouse 11 = .ok (.getfield 10, 3) := by decide +kernel
theorem dX4_answerOfHouse_14 : decode cX4_answerOfHouse 14 = .ok (.iload_n 1, 1) := by decide +kernel
theorem dX4_answerOfHouse_15 : decode cX4_answerOfHouse 15 = .ok (.iload_n 2, 1) := by decide +kernel
theorem dX4_answerOfHouse_16 : decode cX4_answerOfHouse 16 = .ok (.invokevirtual 202, 3) := by decide +kernel
theorem dX4_answerOfHouse_19 : decode cX4_answerOfHouse 19 = .ok (.ifCond .eq 19, 3) := by decide +kernel
theorem dX4_answerOfHouse_22 : decode cX4_answerOfHouse 22 = .ok (.aload_n 0, 1) := by decide +kernel
theorem dX4_answerOfHouse_23 : decode cX4_answerOfHouse 23 = .ok (.getfield 10, 3) := by decide +kernel
theorem dX4_answerOfHouse_26 : decode cX4_answerOfHouse 26 = .ok (.iload_n 1, 1) := by decide +kernel
theorem dX4_answerOfHouse_27 : decode cX4_answerOfHouse 27 = .ok (.iload_n 2, 1) := by decide +kernel
theorem dX4_answerOfHouse_28 : decode cX4_answerOfHouse 28 = .ok (.invokevirtual 205, 3) := by decide +kernel
theorem dX4_answerOfHouse_31 : decode cX4_answerOfHouse 31 = .ok (.ifCond .ne 7, 3) := by decide +kernel
theorem dX4_answerOfHouse_34 : decode cX4_answerOfHouse 34 = .ok (.iconst 1, 1) := by decide +kernel
theorem dX4_answerOfHouse_35 : decode cX4_answerOfHouse 35 = .ok (.goto 4, 3) := by decide +kernel
theorem dX4_answerOfHouse_38 : decode cX4_answerOfHouse 38 = .ok (.iconst 0, 1) := by decide +kernel
theorem dX4_answerOfHouse_39 : decode cX4_answerOfHouse 39 = .ok (.istore_n 3, 1) := by decide +kernel
theorem dX4_answerOfHouse_40 : decode cX4_answerOfHouse 40 = .ok (.iload_n 3, 1) := by decide +kernel
theorem dX4_answerOfHouse_41 : decode cX4_answerOfHouse 41 = .ok (.ifCond .ne 12, 3) := by decide +kernel
theorem dX4_answerOfHouse_44 : decode cX4_answerOfHouse 44 = .ok (.aload_n 0, 1) := by decide +kernel
theorem dX4_answerOfHouse_45 : decode cX4_answerOfHouse 45 = .ok (.iload_n 1, 1) := by decide +kernel
theorem dX4_answerOfHouse_46 : decode cX4_answerOfHouse 46 = .ok (.iload_n 2, 1) := by decide +kernel
theorem dX4_answerOfHouse_47 : decode cX4_answerOfHouse 47 = .ok (.invokevirtual 208, 3) := by decide +kernel
theorem dX4_answerOfHouse_50 : decode cX4_answerOfHouse 50 = .ok (.ifCond .eq 7, 3) := by decide +kernel
theorem dX4_answerOfHouse_53 : decode cX4_answerOfHouse 53 = .ok (.iconst 0, 1) := by decide +kernel
theorem dX4_answerOfHouse_54 : decode cX4_answerOfHouse 54 = .ok (.goto 4, 3) := by decide +kernel
theorem dX4_answerOfHouse_57 : decode cX4_answerOfHouse 57 = .ok (.iconst 1, 1) := by decide +kernel
theorem dX4_answerOfHouse_58 : decode cX4_answerOfHouse 58 = .ok (.ireturn, 1) := by decide +kernel
set_option maxRecDepth 20000 in
theorem ggX4_answerOfApp_X0_areKept : GoodIn wsX4_answerOfApp wsX0_areKept := goodIn_r _ [7, 8, 9, 10, 6, 11, 69, 70, 71] (by decide +kernel) (by decide +kernel)
set_option maxRecDepth 20000 in
theorem gX4_answerOfApp_X0_areKept : GoodIn wsX4_answerOfApp (wsV RX4 211 RX0 yX0_areKept wsX0_areKept) := goodIn_app (goodIn_of _ (by decide +kernel)) ggX4_answerOfApp_X0_areKept
set_option maxRecDepth 20000 in
theorem ggX4_answerOfApp_X0_answer : GoodIn wsX4_answerOfApp wsX0_answer := goodIn_r _ [15, 8, 9, 10, 6, 11, 69, 70, 71] (by decide +kernel) (by decide +kernel)
set_option maxRecDepth 20000 in
theorem gX4_answerOfApp_X0_answer : GoodIn wsX4_answerOfApp (wsV RX4 214 RX0 yX0_answer wsX0_answer) := goodIn_app (goodIn_of _ (by decide +kernel)) ggX4_answerOfApp_X0_answer
set_option maxRecDepth 20000 in
theorem ggX4_answerOfApp_X4_answerOfHouse : GoodIn wsX4_answerOfApp wsX4_answerOfHouse := goodIn_r _ [20, 21, 22, 23, 24, 19, 25, 26, 27, 28, 29, 30, 31, 32, 33, 34, 35, 36, 37, 38, 39, 40, 41, 42, 43, 44, 45, 46, 47, 48, 49, 50, 51, 52, 53, 54, 2, 55, 62, 63, 64, 65, 66, 67, 68, 72, 73, 74, 75] (by decide +kernel) (by decide +kernel)
set_option maxRecDepth 20000 in
theorem gX4_answerOfApp_X4_answerOfHouse : GoodIn wsX4_answerOfApp (wsV RX4 97 RX4 yX4_answerOfHouse wsX4_answerOfHouse) := goodIn_app (goodIn_of _ (by decide +kernel)) ggX4_answerOfApp_X4_answerOfHouse
set_option maxRecDepth 20000 in
theorem ggX4_answerOfApp_X0_keep : GoodIn wsX4_answerOfApp wsX0_keep := goodIn_r _ [59, 60, 8, 61, 9, 10, 6, 11, 69, 70, 71] (by decide +kernel) (by decide +kernel)
set_option maxRecDepth 20000 in
theorem gX4_answerOfApp_X0_keep : GoodIn wsX4_answerOfApp (wsV RX4 217 RX0 yX0_keep wsX0_keep) := goodIn_app (goodIn_of _ (by decide +kernel)) ggX4_answerOfApp_X0_keep
theorem dX4_answerOfApp_0 : decode cX4_answerOfApp 0 = .ok (.aload_n 0, 1) := by decide +kernel
theorem dX4_answerOfApp_1 : decode cX4_answerOfApp 1 = .ok (.getfield 33, 3) := by decide +kernel
theorem dX4_answerOfApp_4 : decode cX4_answerOfApp 4 = .ok (.iload_n 1, 1) := by decide +kernel
theorem dX4_answerOfApp_5 : decode cX4_answerOfApp 5 = .ok (.iload_n 2, 1) := by decide +kernel
theorem dX4_answerOfApp_6 : decode cX4_answerOfApp 6 = .ok (.iload_n 3, 1) := by decide +kernel
theorem dX4_answerOfApp_7 : decode cX4_answerOfApp 7 = .ok (.invokevirtual 211, 3) := by decide +kernel
theorem dX4_answerOfApp_10 : decode cX4_answerOfApp 10 = .ok (.ifCond .eq 14, 3) := by decide +kernel
theorem dX4_answerOfApp_13 : decode cX4_answerOfApp 13 = .ok (.aload_n 0, 1) := by decide +kernel
theorem dX4_answerOfApp_14 : decode cX4_answerOfApp 14 = .ok (.getfield 33, 3) := by decide +kernel
theorem dX4_answerOfApp_17 : decode cX4_answerOfApp 17 = .ok (.iload_n 1, 1) := by decide +kernel
theorem dX4_answerOfApp_18 : decode cX4_answerOfApp 18 = .ok (.iload_n 2, 1) := by decide +kernel
theorem dX4_answerOfApp_19 : decode cX4_answerOfApp 19 = .ok (.iload_n 3, 1) := by decide +kernel
theorem dX4_answerOfApp_20 : decode cX4_answerOfApp 20 = .ok (.invokevirtual 214, 3) := by decide +kernel
theorem dX4_answerOfApp_23 : decode cX4_answerOfApp 23 = .ok (.ireturn, 1) := by decide +kernel
theorem dX4_answerOfApp_24 : decode cX4_answerOfApp 24 = .ok (.aload_n 0, 1) := by decide +kernel
theorem dX4_answerOfApp_25 : decode cX4_answerOfApp 25 = .ok (.iload_n 2, 1) := by decide +kernel
theorem dX4_answerOfApp_26 : decode cX4_answerOfApp 26 = .ok (.iload_n 3, 1) := by decide +kernel
theorem dX4_answerOfApp_27 : decode cX4_answerOfApp 27 = .ok (.invokevirtual 97, 3) := by decide +kernel
theorem dX4_answerOfApp_30 : decode cX4_answerOfApp 30 = .ok (.istore 4, 2) := by decide +kernel
theorem dX4_answerOfApp_32 : decode cX4_answerOfApp 32 = .ok (.aload_n 0, 1) := by decide +kernel
theorem dX4_answerOfApp_33 : decode cX4_answerOfApp 33 = .ok (.getfield 33, 3) := by decide +kernel
theorem dX4_answerOfApp_36 : decode cX4_answerOfApp 36 = .ok (.iload_n 1, 1) := by decide +kernel
theorem dX4_answerOfApp_37 : decode cX4_answerOfApp 37 = .ok (.iload_n 2, 1) := by decide +kernel
theorem dX4_answerOfApp_38 : decode cX4_answerOfApp 38 = .ok (.iload_n 3, 1) := by decide +kernel
theorem dX4_answerOfApp_39 : decode cX4_answerOfApp 39 = .ok (.iload 4, 2) := by decide +kernel
theorem dX4_answerOfApp_41 : decode cX4_answerOfApp 41 = .ok (.aload_n 0, 1) := by decide +kernel
theorem dX4_answerOfApp_42 : decode cX4_answerOfApp 42 = .ok (.getfield 44, 3) := by decide +kernel
theorem dX4_answerOfApp_45 : decode cX4_answerOfApp 45 = .ok (.invokevirtual 217, 3) := by decide +kernel
theorem dX4_answerOfApp_48 : decode cX4_answerOfApp 48 = .ok (.iload 4, 2) := by decide +kernel
theorem dX4_answerOfApp_50 : decode cX4_answerOfApp 50 = .ok (.ireturn, 1) := by decide +kernel
set_option maxRecDepth 20000 in
theorem ggX4_isStale_X0_areKept : GoodIn wsX4_isStale wsX0_areKept := goodIn_r _ [6, 7, 8, 9, 5, 10, 63, 64, 65] (by decide +kernel) (by decide +kernel)
set_option maxRecDepth 20000 in
theorem gX4_isStale_X0_areKept : GoodIn wsX4_isStale (wsV RX4 211 RX0 yX0_areKept wsX0_areKept) := goodIn_app (goodIn_of _ (by decide +kernel)) ggX4_isStale_X0_areKept
set_option maxRecDepth 20000 in
theorem ggX4_isStale_X0_answer : GoodIn wsX4_isStale wsX0_answer := goodIn_r _ [14, 7, 8, 9, 5, 10, 63, 64, 65] (by decide +kernel) (by decide +kernel)
set_option maxRecDepth 20000 in
theorem gX4_isStale_X0_answer : GoodIn wsX4_isStale (wsV RX4 214 RX0 yX0_answer wsX0_answer) := goodIn_app (goodIn_of _ (by decide +kernel)) ggX4_isStale_X0_answer
set_option maxRecDepth 20000 in
theorem ggX4_isStale_X4_answerOfHouse : GoodIn wsX4_isStale wsX4_answerOfHouse := goodIn_r _ [19, 20, 21, 22, 23, 18, 24, 25, 26, 27, 28, 29, 30, 31, 32, 33, 34, 35, 36, 37, 38, 39, 40, 41, 42, 43, 44, 45, 46, 47, 48, 49, 50, 51, 52, 53, 54, 55, 56, 57, 58, 59, 60, 61, 62, 66, 67, 68, 69] (by decide +kernel) (by decide +kernel)
set_option maxRecDepth 20000 in
theorem gX4_isStale_X4_answerOfHouse : GoodIn wsX4_isStale (wsV RX4 97 RX4 yX4_answerOfHouse wsX4_answerOfHouse) := goodIn_app (goodIn_of _ (by decide +kernel)) ggX4_isStale_X4_answerOfHouse
theorem dX4_isStale_0 : decode cX4_isStale 0 = .ok (.aload_n 0, 1) := by decide +kernel
theorem dX4_isStale_1 : decode cX4_isStale 1 = .ok (.getfield 33, 3) := by decide +kernel
theorem dX4_isStale_4 : decode cX4_isStale 4 = .ok (.iload_n 1, 1) := by decide +kernel
theorem dX4_isStale_5 : decode cX4_isStale 5 = .ok (.iload_n 2, 1) := by decide +kernel
theorem dX4_isStale_6 : decode cX4_isStale 6 = .ok (.iload_n 3, 1) := by decide +kernel
theorem dX4_isStale_7 : decode cX4_isStale 7 = .ok (.invokevirtual 211, 3) := by decide +kernel
theorem dX4_isStale_10 : decode cX4_isStale 10 = .ok (.ifCond .eq 26, 3) := by decide +kernel
theorem dX4_isStale_13 : decode cX4_isStale 13 = .ok (.aload_n 0, 1) := by decide +kernel
theorem dX4_isStale_14 : decode cX4_isStale 14 = .ok (.getfield 33, 3) := by decide +kernel
theorem dX4_isStale_17 : decode cX4_isStale 17 = .ok (.iload_n 1, 1) := by decide +kernel
theorem dX4_isStale_18 : decode cX4_isStale 18 = .ok (.iload_n 2, 1) := by decide +kernel
theorem dX4_isStale_19 : decode cX4_isStale 19 = .ok (.iload_n 3, 1) := by decide +kernel
theorem dX4_isStale_20 : decode cX4_isStale 20 = .ok (.invokevirtual 214, 3) := by decide +kernel
theorem dX4_isStale_23 : decode cX4_isStale 23 = .ok (.aload_n 0, 1) := by decide +kernel
theorem dX4_isStale_24 : decode cX4_isStale 24 = .ok (.iload_n 2, 1) := by decide +kernel
theorem dX4_isStale_25 : decode cX4_isStale 25 = .ok (.iload_n 3, 1) := by decide +kernel
theorem dX4_isStale_26 : decode cX4_isStale 26 = .ok (.invokevirtual 97, 3) := by decide +kernel
theorem dX4_isStale_29 : decode cX4_isStale 29 = .ok (.if_icmp .eq 7, 3) := by decide +kernel
theorem dX4_isStale_32 : decode cX4_isStale 32 = .ok (.iconst 1, 1) := by decide +kernel
theorem dX4_isStale_33 : decode cX4_isStale 33 = .ok (.goto 4, 3) := by decide +kernel
theorem dX4_isStale_36 : decode cX4_isStale 36 = .ok (.iconst 0, 1) := by decide +kernel
theorem dX4_isStale_37 : decode cX4_isStale 37 = .ok (.ireturn, 1) := by decide +kernel
theorem dX5_init_0 : decode cX5_init 0 = .ok (.aload_n 0, 1) := by decide +kernel
theorem dX5_init_1 : decode cX5_init 1 = .ok (.invokespecial 1, 3) := by decide +kernel
theorem dX5_init_4 : decode cX5_init 4 = .ok (.aload_n 0, 1) := by decide +kernel
theorem dX5_init_5 : decode cX5_init 5 = .ok (.bipush 8, 2) := by decide +kernel
theorem dX5_init_7 : decode cX5_init 7 = .ok (.newarray .int, 2) := by decide +kernel
theorem dX5_init_9 : decode cX5_init 9 = .ok (.putfield 7, 3) := by decide +kernel
theorem dX5_init_12 : decode cX5_init 12 = .ok (.aload_n 0, 1) := by decide +kernel
theorem dX5_init_13 : decode cX5_init 13 = .ok (.bipush 8, 2) := by decide +kernel
theorem dX5_init_15 : decode cX5_init 15 = .ok (.newarray .int, 2) := by decide +kernel
theorem dX5_init_17 : decode cX5_init 17 = .ok (.putfield 13, 3) := by decide +kernel
theorem dX5_init_20 : decode cX5_init 20 = .ok (.aload_n 0, 1) := by decide +kernel
theorem dX5_init_21 : decode cX5_init 21 = .ok (.bipush 48, 2) := by decide +kernel
theorem dX5_init_23 : decode cX5_init 23 = .ok (.newarray .int, 2) := by decide +kernel
theorem dX5_init_25 : decode cX5_init 25 = .ok (.putfield 16, 3) := by decide +kernel
theorem dX5_init_28 : decode cX5_init 28 = .ok (.aload_n 0, 1) := by decide +kernel
theorem dX5_init_29 : decode cX5_init 29 = .ok (.bipush 10, 2) := by decide +kernel
theorem dX5_init_31 : decode cX5_init 31 = .ok (.newarray .int, 2) := by decide +kernel
theorem dX5_init_33 : decode cX5_init 33 = .ok (.putfield 19, 3) := by decide +kernel
theorem dX5_init_36 : decode cX5_init 36 = .ok (.aload_n 0, 1) := by decide +kernel
theorem dX5_init_37 : decode cX5_init 37 = .ok (.bipush 60, 2) := by decide +kernel
theorem dX5_init_39 : decode cX5_init 39 = .ok (.newarray .int, 2) := by decide +kernel
theorem dX5_init_41 : decode cX5_init 41 = .ok (.putfield 22, 3) := by decide +kernel
theorem dX5_init_44 : decode cX5_init 44 = .ok (.aload_n 0, 1) := by decide +kernel
theorem dX5_init_45 : decode cX5_init 45 = .ok (.bipush 30, 2) := by decide +kernel
theorem dX5_init_47 : decode cX5_init 47 = .ok (.newarray .int, 2) := by decide +kernel
theorem dX5_init_49 : decode cX5_init 49 = .ok (.putfield 25, 3) := by decide +kernel
theorem dX5_init_52 : decode cX5_init 52 = .ok (.aload_n 0, 1) := by decide +kernel
theorem dX5_init_53 : decode cX5_init 53 = .ok (.bipush 30, 2) := by decide +kernel
theorem dX5_init_55 : decode cX5_init 55 = .ok (.newarray .int, 2) := by decide +kernel
theorem dX5_init_57 : decode cX5_init 57 = .ok (.putfield 28, 3) := by decide +kernel
theorem dX5_init_60 : decode cX5_init 60 = .ok (.aload_n 0, 1) := by decide +kernel
theorem dX5_init_61 : decode cX5_init 61 = .ok (.bipush 30, 2) := by decide +kernel
theorem dX5_init_63 : decode cX5_init 63 = .ok (.newarray .int, 2) := by decide +kernel
theorem dX5_init_65 : decode cX5_init 65 = .ok (.putfield 31, 3) := by decide +kernel
theorem dX5_init_68 : decode cX5_init 68 = .ok (.aload_n 0, 1) := by decide +kernel
theorem dX5_init_69 : decode cX5_init 69 = .ok (.bipush 30, 2) := by decide +kernel
theorem dX5_init_71 : decode cX5_init 71 = .ok (.newarray .int, 2) := by decide +kernel
theorem dX5_init_73 : decode cX5_init 73 = .ok (.putfield 34, 3) := by decide +kernel
theorem dX5_init_76 : decode cX5_init 76 = .ok (.aload_n 0, 1) := by decide +kernel
theorem dX5_init_77 : decode cX5_init 77 = .ok (.bipush 30, 2) := by decide +kernel
theorem dX5_init_79 : decode cX5_init 79 = .ok (.newarray .boolean, 2) := by decide +kernel
theorem dX5_init_81 : decode cX5_init 81 = .ok (.putfield 37, 3) := by decide +kernel
theorem dX5_init_84 : decode cX5_init 84 = .ok (.aload_n 0, 1) := by decide +kernel
theorem dX5_init_85 : decode cX5_init 85 = .ok (.iconst 4, 1) := by decide +kernel
theorem dX5_init_86 : decode cX5_init 86 = .ok (.newarray .int, 2) := by decide +kernel
theorem dX5_init_88 : decode cX5_init 88 = .ok (.putfield 41, 3) := by decide +kernel
theorem dX5_init_91 : decode cX5_init 91 = .ok (.aload_n 0, 1) := by decide +kernel
theorem dX5_init_92 : decode cX5_init 92 = .ok (.sipush 240, 3) := by decide +kernel
theorem dX5_init_95 : decode cX5_init 95 = .ok (.newarray .int, 2) := by decide +kernel
theorem dX5_init_97 : decode cX5_init 97 = .ok (.putfield 44, 3) := by decide +kernel
theorem dX5_init_100 : decode cX5_init 100 = .ok (.iconst 0, 1) := by decide +kernel
theorem dX5_init_101 : decode cX5_init 101 = .ok (.istore_n 1, 1) := by decide +kernel
theorem dX5_init_102 : decode cX5_init 102 = .ok (.iload_n 1, 1) := by decide +kernel
theorem dX5_init_103 : decode cX5_init 103 = .ok (.iconst 4, 1) := by decide +kernel
theorem dX5_init_104 : decode cX5_init 104 = .ok (.if_icmp .ge 17, 3) := by decide +kernel
theorem dX5_init_107 : decode cX5_init 107 = .ok (.aload_n 0, 1) := by decide +kernel
theorem dX5_init_108 : decode cX5_init 108 = .ok (.getfield 41, 3) := by decide +kernel
theorem dX5_init_111 : decode cX5_init 111 = .ok (.iload_n 1, 1) := by decide +kernel
theorem dX5_init_112 : decode cX5_init 112 = .ok (.bipush 10, 2) := by decide +kernel
theorem dX5_init_114 : decode cX5_init 114 = .ok (.iastore, 1) := by decide +kernel
theorem dX5_init_115 : decode cX5_init 115 = .ok (.iinc 1 1, 3) := by decide +kernel
theorem dX5_init_118 : decode cX5_init 118 = .ok (.goto (-16), 3) := by decide +kernel
theorem dX5_init_121 : decode cX5_init 121 = .ok (.iconst 0, 1) := by decide +kernel
theorem dX5_init_122 : decode cX5_init 122 = .ok (.istore_n 1, 1) := by decide +kernel
theorem dX5_init_123 : decode cX5_init 123 = .ok (.iload_n 1, 1) := by decide +kernel
theorem dX5_init_124 : decode cX5_init 124 = .ok (.sipush 240, 3) := by decide +kernel
theorem dX5_init_127 : decode cX5_init 127 = .ok (.if_icmp .ge 16, 3) := by decide +kernel
theorem dX5_init_130 : decode cX5_init 130 = .ok (.aload_n 0, 1) := by decide +kernel
theorem dX5_init_131 : decode cX5_init 131 = .ok (.getfield 44, 3) := by decide +kernel
theorem dX5_init_134 : decode cX5_init 134 = .ok (.iload_n 1, 1) := by decide +kernel
theorem dX5_init_135 : decode cX5_init 135 = .ok (.iconst (-1), 1) := by decide +kernel
theorem dX5_init_136 : decode cX5_init 136 = .ok (.iastore, 1) := by decide +kernel
theorem dX5_init_137 : decode cX5_init 137 = .ok (.iinc 1 1, 3) := by decide +kernel
theorem dX5_init_140 : decode cX5_init 140 = .ok (.goto (-17), 3) := by decide +kernel
theorem dX5_init_143 : decode cX5_init 143 = .ok (.return_, 1) := by decide +kernel
theorem dX5_thrown_0 : decode cX5_thrown 0 = .ok (.aload_n 0, 1) := by decide +kernel
theorem dX5_thrown_1 : decode cX5_thrown 1 = .ok (.getfield 47, 3) := by decide +kernel
theorem dX5_thrown_4 : decode cX5_thrown 4 = .ok (.ireturn, 1) := by decide +kernel
theorem dX5_fails_0 : decode cX5_fails 0 = .ok (.aload_n 0, 1) := by decide +kernel
theorem dX5_fails_1 : decode cX5_fails 1 = .ok (.iload_n 1, 1) := by decide +kernel
theorem dX5_fails_2 : decode cX5_fails 2 = .ok (.putfield 47, 3) := by decide +kernel
theorem dX5_fails_5 : decode cX5_fails 5 = .ok (.iconst 0, 1) := by decide +kernel
theorem dX5_fails_6 : decode cX5_fails 6 = .ok (.ireturn, 1) := by decide +kernel
theorem dX5_in_0 : decode cX5_in 0 = .ok (.iload_n 0, 1) := by decide +kernel
theorem dX5_in_1 : decode cX5_in 1 = .ok (.iload_n 1, 1) := by decide +kernel
theorem dX5_in_2 : decode cX5_in 2 = .ok (.if_icmp .lt 12, 3) := by decide +kernel
theorem dX5_in_5 : decode cX5_in 5 = .ok (.iload_n 0, 1) := by decide +kernel
theorem dX5_in_6 : decode cX5_in 6 = .ok (.iload_n 2, 1) := by decide +kernel
theorem dX5_in_7 : decode cX5_in 7 = .ok (.if_icmp .gt 7, 3) := by decide +kernel
theorem dX5_in_10 : decode cX5_in 10 = .ok (.iconst 1, 1) := by decide +kernel
theorem dX5_in_11 : decode cX5_in 11 = .ok (.goto 4, 3) := by decide +kernel
theorem dX5_in_14 : decode cX5_in 14 = .ok (.iconst 0, 1) := by decide +kernel
theorem dX5_in_15 : decode cX5_in 15 = .ok (.ireturn, 1) := by decide +kernel
set_option maxRecDepth 20000 in
theorem ggX5_isPerson_X5_in : GoodIn wsX5_isPerson wsX5_in := goodIn_r _ [4] (by decide +kernel) (by decide +kernel)
set_option maxRecDepth 20000 in
theorem gX5_isPerson_X5_in : GoodIn wsX5_isPerson (va_wsS RX5 51 yX5_in wsX5_in) := goodIn_app (goodIn_of _ (by decide +kernel)) ggX5_isPerson_X5_in
theorem dX5_isPerson_0 : decode cX5_isPerson 0 = .ok (.iload_n 0, 1) := by decide +kernel
theorem dX5_isPerson_1 : decode cX5_isPerson 1 = .ok (.iconst 0, 1) := by decide +kernel
theorem dX5_isPerson_2 : decode cX5_isPerson 2 = .ok (.bipush 9, 2) := by decide +kernel
theorem dX5_isPerson_4 : decode cX5_isPerson 4 = .ok (.invokestatic 51, 3) := by decide +kernel
theorem dX5_isPerson_7 : decode cX5_isPerson 7 = .ok (.ireturn, 1) := by decide +kernel
set_option maxRecDepth 20000 in
theorem ggX5_isGroup_X5_in : GoodIn wsX5_isGroup wsX5_in := goodIn_r _ [4] (by decide +kernel) (by decide +kernel)
set_option maxRecDepth 20000 in
theorem gX5_isGroup_X5_in : GoodIn wsX5_isGroup (va_wsS RX5 51 yX5_in wsX5_in) := goodIn_app (goodIn_of _ (by decide +kernel)) ggX5_isGroup_X5_in
theorem dX5_isGroup_0 : decode cX5_isGroup 0 = .ok (.iload_n 0, 1) := by decide +kernel
theorem dX5_isGroup_1 : decode cX5_isGroup 1 = .ok (.iconst 0, 1) := by decide +kernel
theorem dX5_isGroup_2 : decode cX5_isGroup 2 = .ok (.bipush 7, 2) := by decide +kernel
theorem dX5_isGroup_4 : decode cX5_isGroup 4 = .ok (.invokestatic 51, 3) := by decide +kernel
theorem dX5_isGroup_7 : decode cX5_isGroup 7 = .ok (.ireturn, 1) := by decide +kernel
set_option maxRecDepth 20000 in
theorem ggX5_isRole_X5_in : GoodIn wsX5_isRole wsX5_in := goodIn_r _ [4] (by decide +kernel) (by decide +kernel)
set_option maxRecDepth 20000 in
theorem gX5_isRole_X5_in : GoodIn wsX5_isRole (va_wsS RX5 51 yX5_in wsX5_in) := goodIn_app (goodIn_of _ (by decide +kernel)) ggX5_isRole_X5_in
theorem dX5_isRole_0 : decode cX5_isRole 0 = .ok (.iload_n 0, 1) := by decide +kernel
theorem dX5_isRole_1 : decode cX5_isRole 1 = .ok (.iconst 0, 1) := by decide +kernel
theorem dX5_isRole_2 : decode cX5_isRole 2 = .ok (.iconst 5, 1) := by decide +kernel
theorem dX5_isRole_3 : decode cX5_isRole 3 = .ok (.invokestatic 51, 3) := by decide +kernel
theorem dX5_isRole_6 : decode cX5_isRole 6 = .ok (.ireturn, 1) := by decide +kernel
set_option maxRecDepth 20000 in
theorem ggX5_isApp_X5_in : GoodIn wsX5_isApp wsX5_in := goodIn_r _ [4] (by decide +kernel) (by decide +kernel)
set_option maxRecDepth 20000 in
theorem gX5_isApp_X5_in : GoodIn wsX5_isApp (va_wsS RX5 51 yX5_in wsX5_in) := goodIn_app (goodIn_of _ (by decide +kernel)) ggX5_isApp_X5_in
theorem dX5_isApp_0 : decode cX5_isApp 0 = .ok (.iload_n 0, 1) := by decide +kernel
theorem dX5_isApp_1 : decode cX5_isApp 1 = .ok (.iconst 0, 1) := by decide +kernel
theorem dX5_isApp_2 : decode cX5_isApp 2 = .ok (.iconst 3, 1) := by decide +kernel
theorem dX5_isApp_3 : decode cX5_isApp 3 = .ok (.invokestatic 51, 3) := by decide +kernel
theorem dX5_isApp_6 : decode cX5_isApp 6 = .ok (.ireturn, 1) := by decide +kernel
theorem dX5_has_0 : decode cX5_has 0 = .ok (.iload_n 0, 1) := by decide +kernel
theorem dX5_has_1 : decode cX5_has 1 = .ok (.iload_n 1, 1) := by decide +kernel
theorem dX5_has_2 : decode cX5_has 2 = .ok (.ishr, 1) := by decide +kernel
theorem dX5_has_3 : decode cX5_has 3 = .ok (.iconst 1, 1) := by decide +kernel
theorem dX5_has_4 : decode cX5_has 4 = .ok (.iand, 1) := by decide +kernel
theorem dX5_has_5 : decode cX5_has 5 = .ok (.iconst 1, 1) := by decide +kernel
theorem dX5_has_6 : decode cX5_has 6 = .ok (.if_icmp .ne 7, 3) := by decide +kernel
theorem dX5_has_9 : decode cX5_has 9 = .ok (.iconst 1, 1) := by decide +kernel
theorem dX5_has_10 : decode cX5_has 10 = .ok (.goto 4, 3) := by decide +kernel
theorem dX5_has_13 : decode cX5_has 13 = .ok (.iconst 0, 1) := by decide +kernel
theorem dX5_has_14 : decode cX5_has 14 = .ok (.ireturn, 1) := by decide +kernel
set_option maxRecDepth 20000 in
theorem ggX5_within_X5_has : GoodIn wsX5_within wsX5_has := goodIn_r _ [5] (by decide +kernel) (by decide +kernel)
set_option maxRecDepth 20000 in
theorem gX5_within_X5_has : GoodIn wsX5_within (va_wsS RX5 55 yX5_has wsX5_has) := goodIn_app (goodIn_of _ (by decide +kernel)) ggX5_within_X5_has
theorem dX5_within_0 : decode cX5_within 0 = .ok (.iconst 1, 1) := by decide +kernel
theorem dX5_within_1 : decode cX5_within 1 = .ok (.iload_n 1, 1) := by decide +kernel
theorem dX5_within_2 : decode cX5_within 2 = .ok (.ishl, 1) := by decide +kernel
theorem dX5_within_3 : decode cX5_within 3 = .ok (.istore_n 2, 1) := by decide +kernel
theorem dX5_within_4 : decode cX5_within 4 = .ok (.iconst 0, 1) := by decide +kernel
theorem dX5_within_5 : decode cX5_within 5 = .ok (.istore_n 3, 1) := by decide +kernel
theorem dX5_within_6 : decode cX5_within 6 = .ok (.iload_n 3, 1) := by decide +kernel
theorem dX5_within_7 : decode cX5_within 7 = .ok (.bipush 8, 2) := by decide +kernel
theorem dX5_within_9 : decode cX5_within 9 = .ok (.if_icmp .ge 48, 3) := by decide +kernel
theorem dX5_within_12 : decode cX5_within 12 = .ok (.iconst 0, 1) := by decide +kernel
theorem dX5_within_13 : decode cX5_within 13 = .ok (.istore 4, 2) := by decide +kernel
theorem dX5_within_15 : decode cX5_within 15 = .ok (.iload 4, 2) := by decide +kernel
theorem dX5_within_17 : decode cX5_within 17 = .ok (.bipush 8, 2) := by decide +kernel
theorem dX5_within_19 : decode cX5_within 19 = .ok (.if_icmp .ge 32, 3) := by decide +kernel
theorem dX5_within_22 : decode cX5_within 22 = .ok (.iload_n 2, 1) := by decide +kernel
theorem dX5_within_23 : decode cX5_within 23 = .ok (.iload_n 2, 1) := by decide +kernel
theorem dX5_within_24 : decode cX5_within 24 = .ok (.iload 4, 2) := by decide +kernel
theorem dX5_within_26 : decode cX5_within 26 = .ok (.invokestatic 55, 3) := by decide +kernel
theorem dX5_within_29 : decode cX5_within 29 = .ok (.ifCond .eq 13, 3) := by decide +kernel
theorem dX5_within_32 : decode cX5_within 32 = .ok (.aload_n 0, 1) := by decide +kernel
theorem dX5_within_33 : decode cX5_within 33 = .ok (.getfield 13, 3) := by decide +kernel
theorem dX5_within_36 : decode cX5_within 36 = .ok (.iload 4, 2) := by decide +kernel
theorem dX5_within_38 : decode cX5_within 38 = .ok (.iaload, 1) := by decide +kernel
theorem dX5_within_39 : decode cX5_within 39 = .ok (.goto 4, 3) := by decide +kernel
theorem dX5_within_42 : decode cX5_within 42 = .ok (.iconst 0, 1) := by decide +kernel
theorem dX5_within_43 : decode cX5_within 43 = .ok (.ior, 1) := by decide +kernel
theorem dX5_within_44 : decode cX5_within 44 = .ok (.istore_n 2, 1) := by decide +kernel
theorem dX5_within_45 : decode cX5_within 45 = .ok (.iinc 4 1, 3) := by decide +kernel
theorem dX5_within_48 : decode cX5_within 48 = .ok (.goto (-33), 3) := by decide +kernel
theorem dX5_within_51 : decode cX5_within 51 = .ok (.iinc 3 1, 3) := by decide +kernel
theorem dX5_within_54 : decode cX5_within 54 = .ok (.goto (-48), 3) := by decide +kernel
theorem dX5_within_57 : decode cX5_within 57 = .ok (.iload_n 2, 1) := by decide +kernel
theorem dX5_within_58 : decode cX5_within 58 = .ok (.ireturn, 1) := by decide +kernel
set_option maxRecDepth 20000 in
theorem ggX5_setPerson_X5_isGroup : GoodIn wsX5_setPerson wsX5_isGroup := goodIn_r _ [6, 7, 8, 5, 9] (by decide +kernel) (by decide +kernel)
set_option maxRecDepth 20000 in
theorem gX5_setPerson_X5_isGroup : GoodIn wsX5_setPerson (va_wsS RX5 59 yX5_isGroup wsX5_isGroup) := goodIn_app (goodIn_of _ (by decide +kernel)) ggX5_setPerson_X5_isGroup
set_option maxRecDepth 20000 in
theorem ggX5_setPerson_X5_isPerson : GoodIn wsX5_setPerson wsX5_isPerson := goodIn_r _ [12, 7, 8, 5, 9] (by decide +kernel) (by decide +kernel)
set_option maxRecDepth 20000 in
theorem gX5_setPerson_X5_isPerson : GoodIn wsX5_setPerson (va_wsS RX5 63 yX5_isPerson wsX5_isPerson) := goodIn_app (goodIn_of _ (by decide +kernel)) ggX5_setPerson_X5_isPerson
set_option maxRecDepth 20000 in
theorem ggX5_setPerson_X5_has : GoodIn wsX5_setPerson wsX5_has := goodIn_r _ [15] (by decide +kernel) (by decide +kernel)
set_option maxRecDepth 20000 in
theorem gX5_setPerson_X5_has : GoodIn wsX5_setPerson (va_wsS RX5 55 yX5_has wsX5_has) := goodIn_app (goodIn_of _ (by decide +kernel)) ggX5_setPerson_X5_has
theorem dX5_setPerson_0 : decode cX5_setPerson 0 = .ok (.aload_n 0, 1) := by decide +kernel
theorem dX5_setPerson_1 : decode cX5_setPerson 1 = .ok (.iload_n 1, 1) := by decide +kernel
theorem dX5_setPerson_2 : decode cX5_setPerson 2 = .ok (.invokestatic 59, 3) := by decide +kernel
theorem dX5_setPerson_5 : decode cX5_setPerson 5 = .ok (.ifCond .eq 14, 3) := by decide +kernel
theorem dX5_setPerson_8 : decode cX5_setPerson 8 = .ok (.iload_n 2, 1) := by decide +kernel
theorem dX5_setPerson_9 : decode cX5_setPerson 9 = .ok (.invokestatic 63, 3) := by decide +kernel
theorem dX5_setPerson_12 : decode cX5_setPerson 12 = .ok (.ifCond .eq 7, 3) := by decide +kernel
theorem dX5_setPerson_15 : decode cX5_setPerson 15 = .ok (.iconst 0, 1) := by decide +kernel
theorem dX5_setPerson_16 : decode cX5_setPerson 16 = .ok (.goto 4, 3) := by decide +kernel
theorem dX5_setPerson_19 : decode cX5_setPerson 19 = .ok (.iconst 1, 1) := by decide +kernel
theorem dX5_setPerson_20 : decode cX5_setPerson 20 = .ok (.putfield 47, 3) := by decide +kernel
theorem dX5_setPerson_23 : decode cX5_setPerson 23 = .ok (.aload_n 0, 1) := by decide +kernel
theorem dX5_setPerson_24 : decode cX5_setPerson 24 = .ok (.getfield 47, 3) := by decide +kernel
theorem dX5_setPerson_27 : decode cX5_setPerson 27 = .ok (.ifCond .le 5, 3) := by decide +kernel
theorem dX5_setPerson_30 : decode cX5_setPerson 30 = .ok (.iconst 0, 1) := by decide +kernel
theorem dX5_setPerson_31 : decode cX5_setPerson 31 = .ok (.ireturn, 1) := by decide +kernel
theorem dX5_setPerson_32 : decode cX5_setPerson 32 = .ok (.aload_n 0, 1) := by decide +kernel
theorem dX5_setPerson_33 : decode cX5_setPerson 33 = .ok (.getfield 7, 3) := by decide +kernel
theorem dX5_setPerson_36 : decode cX5_setPerson 36 = .ok (.iload_n 1, 1) := by decide +kernel
theorem dX5_setPerson_37 : decode cX5_setPerson 37 = .ok (.iaload, 1) := by decide +kernel
theorem dX5_setPerson_38 : decode cX5_setPerson 38 = .ok (.iload_n 2, 1) := by decide +kernel
theorem dX5_setPerson_39 : decode cX5_setPerson 39 = .ok (.invokestatic 55, 3) := by decide +kernel
theorem dX5_setPerson_42 : decode cX5_setPerson 42 = .ok (.istore 4, 2) := by decide +kernel
theorem dX5_setPerson_44 : decode cX5_setPerson 44 = .ok (.aload_n 0, 1) := by decide +kernel
theorem dX5_setPerson_45 : decode cX5_setPerson 45 = .ok (.getfield 7, 3) := by decide +kernel
theorem dX5_setPerson_48 : decode cX5_setPerson 48 = .ok (.iload_n 1, 1) := by decide +kernel
theorem dX5_setPerson_49 : decode cX5_setPerson 49 = .ok (.iload_n 3, 1) := by decide +kernel
theorem dX5_setPerson_50 : decode cX5_setPerson 50 = .ok (.ifCond .eq 16, 3) := by decide +kernel
theorem dX5_setPerson_53 : decode cX5_setPerson 53 = .ok (.aload_n 0, 1) := by decide +kernel
theorem dX5_setPerson_54 : decode cX5_setPerson 54 = .ok (.getfield 7, 3) := by decide +kernel
theorem dX5_setPerson_57 : decode cX5_setPerson 57 = .ok (.iload_n 1, 1) := by decide +kernel
theorem dX5_setPerson_58 : decode cX5_setPerson 58 = .ok (.iaload, 1) := by decide +kernel
theorem dX5_setPerson_59 : decode cX5_setPerson 59 = .ok (.iconst 1, 1) := by decide +kernel
theorem dX5_setPerson_60 : decode cX5_setPerson 60 = .ok (.iload_n 2, 1) := by decide +kernel
theorem dX5_setPerson_61 : decode cX5_setPerson 61 = .ok (.ishl, 1) := by decide +kernel
theorem dX5_setPerson_62 : decode cX5_setPerson 62 = .ok (.ior, 1) := by decide +kernel
theorem dX5_setPerson_63 : decode cX5_setPerson 63 = .ok (.goto 15, 3) := by decide +kernel
theorem dX5_setPerson_66 : decode cX5_setPerson 66 = .ok (.aload_n 0, 1) := by decide +kernel
theorem dX5_setPerson_67 : decode cX5_setPerson 67 = .ok (.getfield 7, 3) := by decide +kernel
theorem dX5_setPerson_70 : decode cX5_setPerson 70 = .ok (.iload_n 1, 1) := by decide +kernel
theorem dX5_setPerson_71 : decode cX5_setPerson 71 = .ok (.iaload, 1) := by decide +kernel
theorem dX5_setPerson_72 : decode cX5_setPerson 72 = .ok (.iconst 1, 1) := by decide +kernel
theorem dX5_setPerson_73 : decode cX5_setPerson 73 = .ok (.iload_n 2, 1) := by decide +kernel
theorem dX5_setPerson_74 : decode cX5_setPerson 74 = .ok (.ishl, 1) := by decide +kernel
theorem dX5_setPerson_75 : decode cX5_setPerson 75 = .ok (.iconst (-1), 1) := by decide +kernel
theorem dX5_setPerson_76 : decode cX5_setPerson 76 = .ok (.ixor, 1) := by decide +kernel
theorem dX5_setPerson_77 : decode cX5_setPerson 77 = .ok (.iand, 1) := by decide +kernel
theorem dX5_setPerson_78 : decode cX5_setPerson 78 = .ok (.iastore, 1) := by decide +kernel
theorem dX5_setPerson_79 : decode cX5_setPerson 79 = .ok (.iload 4, 2) := by decide +kernel
theorem dX5_setPerson_81 : decode cX5_setPerson 81 = .ok (.ireturn, 1) := by decide +kernel
set_option maxRecDepth 20000 in
theorem ggX5_setGroup_X5_isGroup : GoodIn wsX5_setGroup wsX5_isGroup := goodIn_r _ [6, 7, 8, 5, 9] (by decide +kernel) (by decide +kernel)
set_option maxRecDepth 20000 in
theorem gX5_setGroup_X5_isGroup : GoodIn wsX5_setGroup (va_wsS RX5 59 yX5_isGroup wsX5_isGroup) := goodIn_app (goodIn_of _ (by decide +kernel)) ggX5_setGroup_X5_isGroup
set_option maxRecDepth 20000 in
theorem ggX5_setGroup_X5_within : GoodIn wsX5_setGroup wsX5_within := goodIn_r _ [13, 2, 14, 15, 5, 16, 17, 18, 19, 20, 21, 22, 23, 24, 25, 26, 27, 28, 29, 30, 31, 32, 33] (by decide +kernel) (by decide +kernel)
set_option maxRecDepth 20000 in
theorem gX5_setGroup_X5_within : GoodIn wsX5_setGroup (wsV RX5 66 RX5 yX5_within wsX5_within) := goodIn_app (goodIn_of _ (by decide +kernel)) ggX5_setGroup_X5_within
set_option maxRecDepth 20000 in
theorem ggX5_setGroup_X5_has : GoodIn wsX5_setGroup wsX5_has := goodIn_r _ [16] (by decide +kernel) (by decide +kernel)
set_option maxRecDepth 20000 in
theorem gX5_setGroup_X5_has : GoodIn wsX5_setGroup (va_wsS RX5 55 yX5_has wsX5_has) := goodIn_app (goodIn_of _ (by decide +kernel)) ggX5_setGroup_X5_has
theorem dX5_setGroup_0 : decode cX5_setGroup 0 = .ok (.aload_n 0, 1) := by decide +kernel
theorem dX5_setGroup_1 : decode cX5_setGroup 1 = .ok (.iload_n 1, 1) := by decide +kernel
theorem dX5_setGroup_2 : decode cX5_setGroup 2 = .ok (.invokestatic 59, 3) := by decide +kernel
theorem dX5_setGroup_5 : decode cX5_setGroup 5 = .ok (.ifCond .eq 15, 3) := by decide +kernel
theorem dX5_setGroup_8 : decode cX5_setGroup 8 = .ok (.iload_n 2, 1) := by decide +kernel
theorem dX5_setGroup_9 : decode cX5_setGroup 9 = .ok (.invokestatic 59, 3) := by decide +kernel
theorem dX5_setGroup_12 : decode cX5_setGroup 12 = .ok (.ifCond .eq 8, 3) := by decide +kernel
theorem dX5_setGroup_15 : decode cX5_setGroup 15 = .ok (.iload_n 1, 1) := by decide +kernel
theorem dX5_setGroup_16 : decode cX5_setGroup 16 = .ok (.iload_n 2, 1) := by decide +kernel
theorem dX5_setGroup_17 : decode cX5_setGroup 17 = .ok (.if_icmp .ne 7, 3) := by decide +kernel
theorem dX5_setGroup_20 : decode cX5_setGroup 20 = .ok (.iconst 1, 1) := by decide +kernel
theorem dX5_setGroup_21 : decode cX5_setGroup 21 = .ok (.goto 24, 3) := by decide +kernel
theorem dX5_setGroup_24 : decode cX5_setGroup 24 = .ok (.iload_n 3, 1) := by decide +kernel
theorem dX5_setGroup_25 : decode cX5_setGroup 25 = .ok (.ifCond .eq 19, 3) := by decide +kernel
theorem dX5_setGroup_28 : decode cX5_setGroup 28 = .ok (.aload_n 0, 1) := by decide +kernel
theorem dX5_setGroup_29 : decode cX5_setGroup 29 = .ok (.iload_n 2, 1) := by decide +kernel
theorem dX5_setGroup_30 : decode cX5_setGroup 30 = .ok (.invokevirtual 66, 3) := by decide +kernel
theorem dX5_setGroup_33 : decode cX5_setGroup 33 = .ok (.iload_n 1, 1) := by decide +kernel
theorem dX5_setGroup_34 : decode cX5_setGroup 34 = .ok (.invokestatic 55, 3) := by decide +kernel
theorem dX5_setGroup_37 : decode cX5_setGroup 37 = .ok (.ifCond .eq 7, 3) := by decide +kernel
theorem dX5_setGroup_40 : decode cX5_setGroup 40 = .ok (.iconst 2, 1) := by decide +kernel
theorem dX5_setGroup_41 : decode cX5_setGroup 41 = .ok (.goto 4, 3) := by decide +kernel
theorem dX5_setGroup_44 : decode cX5_setGroup 44 = .ok (.iconst 0, 1) := by decide +kernel
theorem dX5_setGroup_45 : decode cX5_setGroup 45 = .ok (.putfield 47, 3) := by decide +kernel
theorem dX5_setGroup_48 : decode cX5_setGroup 48 = .ok (.aload_n 0, 1) := by decide +kernel
theorem dX5_setGroup_49 : decode cX5_setGroup 49 = .ok (.getfield 47, 3) := by decide +kernel
theorem dX5_setGroup_52 : decode cX5_setGroup 52 = .ok (.ifCond .le 5, 3) := by decide +kernel
theorem dX5_setGroup_55 : decode cX5_setGroup 55 = .ok (.iconst 0, 1) := by decide +kernel
theorem dX5_setGroup_56 : decode cX5_setGroup 56 = .ok (.ireturn, 1) := by decide +kernel
theorem dX5_setGroup_57 : decode cX5_setGroup 57 = .ok (.aload_n 0, 1) := by decide +kernel
theorem dX5_setGroup_58 : decode cX5_setGroup 58 = .ok (.getfield 13, 3) := by decide +kernel
theorem dX5_setGroup_61 : decode cX5_setGroup 61 = .ok (.iload_n 1, 1) := by decide +kernel
theorem dX5_setGroup_62 : decode cX5_setGroup 62 = .ok (.iaload, 1) := by decide +kernel
theorem dX5_setGroup_63 : decode cX5_setGroup 63 = .ok (.iload_n 2, 1) := by decide +kernel
theorem dX5_setGroup_64 : decode cX5_setGroup 64 = .ok (.invokestatic 55, 3) := by decide +kernel
theorem dX5_setGroup_67 : decode cX5_setGroup 67 = .ok (.istore 4, 2) := by decide +kernel
theorem dX5_setGroup_69 : decode cX5_setGroup 69 = .ok (.aload_n 0, 1) := by decide +kernel
theorem dX5_setGroup_70 : decode cX5_setGroup 70 = .ok (.getfield 13, 3) := by decide +kernel
theorem dX5_setGroup_73 : decode cX5_setGroup 73 = .ok (.iload_n 1, 1) := by decide +kernel
theorem dX5_setGroup_74 : decode cX5_setGroup 74 = .ok (.iload_n 3, 1) := by decide +kernel
theorem dX5_setGroup_75 : decode cX5_setGroup 75 = .ok (.ifCond .eq 16, 3) := by decide +kernel
theorem dX5_setGroup_78 : decode cX5_setGroup 78 = .ok (.aload_n 0, 1) := by decide +kernel
theorem dX5_setGroup_79 : decode cX5_setGroup 79 = .ok (.getfield 13, 3) := by decide +kernel
theorem dX5_setGroup_82 : decode cX5_setGroup 82 = .ok (.iload_n 1, 1) := by decide +kernel
theorem dX5_setGroup_83 : decode cX5_setGroup 83 = .ok (.iaload, 1) := by decide +kernel
theorem dX5_setGroup_84 : decode cX5_setGroup 84 = .ok (.iconst 1, 1) := by decide +kernel
theorem dX5_setGroup_85 : decode cX5_setGroup 85 = .ok (.iload_n 2, 1) := by decide +kernel
theorem dX5_setGroup_86 : decode cX5_setGroup 86 = .ok (.ishl, 1) := by decide +kernel
theorem dX5_setGroup_87 : decode cX5_setGroup 87 = .ok (.ior, 1) := by decide +kernel
theorem dX5_setGroup_88 : decode cX5_setGroup 88 = .ok (.goto 15, 3) := by decide +kernel
theorem dX5_setGroup_91 : decode cX5_setGroup 91 = .ok (.aload_n 0, 1) := by decide +kernel
theorem dX5_setGroup_92 : decode cX5_setGroup 92 = .ok (.getfield 13, 3) := by decide +kernel
theorem dX5_setGroup_95 : decode cX5_setGroup 95 = .ok (.iload_n 1, 1) := by decide +kernel
theorem dX5_setGroup_96 : decode cX5_setGroup 96 = .ok (.iaload, 1) := by decide +kernel
theorem dX5_setGroup_97 : decode cX5_setGroup 97 = .ok (.iconst 1, 1) := by decide +kernel
theorem dX5_setGroup_98 : decode cX5_setGroup 98 = .ok (.iload_n 2, 1) := by decide +kernel
theorem dX5_setGroup_99 : decode cX5_setGroup 99 = .ok (.ishl, 1) := by decide +kernel
theorem dX5_setGroup_100 : decode cX5_setGroup 100 = .ok (.iconst (-1), 1) := by decide +kernel
theorem dX5_setGroup_101 : decode cX5_setGroup 101 = .ok (.ixor, 1) := by decide +kernel
theorem dX5_setGroup_102 : decode cX5_setGroup 102 = .ok (.iand, 1) := by decide +kernel
theorem dX5_setGroup_103 : decode cX5_setGroup 103 = .ok (.iastore, 1) := by decide +kernel
theorem dX5_setGroup_104 : decode cX5_setGroup 104 = .ok (.iload 4, 2) := by decide +kernel
theorem dX5_setGroup_106 : decode cX5_setGroup 106 = .ok (.ireturn, 1) := by decide +kernel
set_option maxRecDepth 20000 in
theorem ggX5_setRole_X5_isGroup : GoodIn wsX5_setRole wsX5_isGroup := goodIn_r _ [6, 7, 8, 5, 9] (by decide +kernel) (by decide +kernel)
set_option maxRecDepth 20000 in
theorem gX5_setRole_X5_isGroup : GoodIn wsX5_setRole (va_wsS RX5 59 yX5_isGroup wsX5_isGroup) := goodIn_app (goodIn_of _ (by decide +kernel)) ggX5_setRole_X5_isGroup
set_option maxRecDepth 20000 in
theorem ggX5_setRole_X5_isRole : GoodIn wsX5_setRole wsX5_isRole := goodIn_r _ [12, 7, 8, 5, 9] (by decide +kernel) (by decide +kernel)
set_option maxRecDepth 20000 in
theorem gX5_setRole_X5_isRole : GoodIn wsX5_setRole (va_wsS RX5 70 yX5_isRole wsX5_isRole) := goodIn_app (goodIn_of _ (by decide +kernel)) ggX5_setRole_X5_isRole
set_option maxRecDepth 20000 in
theorem ggX5_setRole_X5_in : GoodIn wsX5_setRole wsX5_in := goodIn_r _ [9] (by decide +kernel) (by decide +kernel)
set_option maxRecDepth 20000 in
theorem gX5_setRole_X5_in : GoodIn wsX5_setRole (va_wsS RX5 51 yX5_in wsX5_in) := goodIn_app (goodIn_of _ (by decide +kernel)) ggX5_setRole_X5_in
set_option maxRecDepth 20000 in
theorem ggX5_setRole_X5_fails : GoodIn wsX5_setRole wsX5_fails := goodIn_r _ [16, 1, 17, 18, 19, 20, 21, 22, 23, 24, 25, 26, 27, 28, 29, 30, 31, 32, 33] (by decide +kernel) (by decide +kernel)
set_option maxRecDepth 20000 in
theorem gX5_setRole_X5_fails : GoodIn wsX5_setRole (wsV RX5 73 RX5 yX5_fails wsX5_fails) := goodIn_app (goodIn_of _ (by decide +kernel)) ggX5_setRole_X5_fails
theorem dX5_setRole_0 : decode cX5_setRole 0 = .ok (.aload_n 0, 1) := by decide +kernel
theorem dX5_setRole_1 : decode cX5_setRole 1 = .ok (.iconst 0, 1) := by decide +kernel
theorem dX5_setRole_2 : decode cX5_setRole 2 = .ok (.putfield 47, 3) := by decide +kernel
theorem dX5_setRole_5 : decode cX5_setRole 5 = .ok (.iload_n 1, 1) := by decide +kernel
theorem dX5_setRole_6 : decode cX5_setRole 6 = .ok (.invokestatic 59, 3) := by decide +kernel
theorem dX5_setRole_9 : decode cX5_setRole 9 = .ok (.ifCond .eq 19, 3) := by decide +kernel
theorem dX5_setRole_12 : decode cX5_setRole 12 = .ok (.iload_n 2, 1) := by decide +kernel
theorem dX5_setRole_13 : decode cX5_setRole 13 = .ok (.invokestatic 70, 3) := by decide +kernel
theorem dX5_setRole_16 : decode cX5_setRole 16 = .ok (.ifCond .eq 12, 3) := by decide +kernel
theorem dX5_setRole_19 : decode cX5_setRole 19 = .ok (.iload_n 3, 1) := by decide +kernel
theorem dX5_setRole_20 : decode cX5_setRole 20 = .ok (.iconst 0, 1) := by decide +kernel
theorem dX5_setRole_21 : decode cX5_setRole 21 = .ok (.iconst 2, 1) := by decide +kernel
theorem dX5_setRole_22 : decode cX5_setRole 22 = .ok (.invokestatic 51, 3) := by decide +kernel
theorem dX5_setRole_25 : decode cX5_setRole 25 = .ok (.ifCond .ne 9, 3) := by decide +kernel
theorem dX5_setRole_28 : decode cX5_setRole 28 = .ok (.aload_n 0, 1) := by decide +kernel
theorem dX5_setRole_29 : decode cX5_setRole 29 = .ok (.iconst 1, 1) := by decide +kernel
theorem dX5_setRole_30 : decode cX5_setRole 30 = .ok (.invokevirtual 73, 3) := by decide +kernel
theorem dX5_setRole_33 : decode cX5_setRole 33 = .ok (.ireturn, 1) := by decide +kernel
theorem dX5_setRole_34 : decode cX5_setRole 34 = .ok (.aload_n 0, 1) := by decide +kernel
theorem dX5_setRole_35 : decode cX5_setRole 35 = .ok (.getfield 16, 3) := by decide +kernel
theorem dX5_setRole_38 : decode cX5_setRole 38 = .ok (.bipush 6, 2) := by decide +kernel
theorem dX5_setRole_40 : decode cX5_setRole 40 = .ok (.iload_n 1, 1) := by decide +kernel
theorem dX5_setRole_41 : decode cX5_setRole 41 = .ok (.imul, 1) := by decide +kernel
theorem dX5_setRole_42 : decode cX5_setRole 42 = .ok (.iload_n 2, 1) := by decide +kernel
theorem dX5_setRole_43 : decode cX5_setRole 43 = .ok (.iadd, 1) := by decide +kernel
theorem dX5_setRole_44 : decode cX5_setRole 44 = .ok (.iaload, 1) := by decide +kernel
theorem dX5_setRole_45 : decode cX5_setRole 45 = .ok (.istore 4, 2) := by decide +kernel
theorem dX5_setRole_47 : decode cX5_setRole 47 = .ok (.aload_n 0, 1) := by decide +kernel
theorem dX5_setRole_48 : decode cX5_setRole 48 = .ok (.getfield 16, 3) := by decide +kernel
theorem dX5_setRole_51 : decode cX5_setRole 51 = .ok (.bipush 6, 2) := by decide +kernel
theorem dX5_setRole_53 : decode cX5_setRole 53 = .ok (.iload_n 1, 1) := by decide +kernel
theorem dX5_setRole_54 : decode cX5_setRole 54 = .ok (.imul, 1) := by decide +kernel
theorem dX5_setRole_55 : decode cX5_setRole 55 = .ok (.iload_n 2, 1) := by decide +kernel
theorem dX5_setRole_56 : decode cX5_setRole 56 = .ok (.iadd, 1) := by decide +kernel
theorem dX5_setRole_57 : decode cX5_setRole 57 = .ok (.iload_n 3, 1) := by decide +kernel
theorem dX5_setRole_58 : decode cX5_setRole 58 = .ok (.iastore, 1) := by decide +kernel
theorem dX5_setRole_59 : decode cX5_setRole 59 = .ok (.iload 4, 2) := by decide +kernel
theorem dX5_setRole_61 : decode cX5_setRole 61 = .ok (.ireturn, 1) := by decide +kernel
set_option maxRecDepth 20000 in
theorem ggX5_belongs_X5_within : GoodIn wsX5_belongs wsX5_within := goodIn_r _ [6, 7, 8, 9, 5, 10, 11, 12, 13, 14, 15, 16, 17, 18, 19, 20, 21, 22, 23, 24, 25, 26, 27] (by decide +kernel) (by decide +kernel)
set_option maxRecDepth 20000 in
theorem gX5_belongs_X5_within : GoodIn wsX5_belongs (wsV RX5 66 RX5 yX5_within wsX5_within) := goodIn_app (goodIn_of _ (by decide +kernel)) ggX5_belongs_X5_within
set_option maxRecDepth 20000 in
theorem ggX5_belongs_X5_has : GoodIn wsX5_belongs wsX5_has := goodIn_r _ [10] (by decide +kernel) (by decide +kernel)
set_option maxRecDepth 20000 in
theorem gX5_belongs_X5_has : GoodIn wsX5_belongs (va_wsS RX5 55 yX5_has wsX5_has) := goodIn_app (goodIn_of _ (by decide +kernel)) ggX5_belongs_X5_has
theorem dX5_belongs_0 : decode cX5_belongs 0 = .ok (.aload_n 0, 1) := by decide +kernel
theorem dX5_belongs_1 : decode cX5_belongs 1 = .ok (.iload_n 1, 1) := by decide +kernel
theorem dX5_belongs_2 : decode cX5_belongs 2 = .ok (.invokevirtual 66, 3) := by decide +kernel
theorem dX5_belongs_5 : decode cX5_belongs 5 = .ok (.istore_n 3, 1) := by decide +kernel
theorem dX5_belongs_6 : decode cX5_belongs 6 = .ok (.iconst 0, 1) := by decide +kernel
theorem dX5_belongs_7 : decode cX5_belongs 7 = .ok (.istore 4, 2) := by decide +kernel
theorem dX5_belongs_9 : decode cX5_belongs 9 = .ok (.iconst 0, 1) := by decide +kernel
theorem dX5_belongs_10 : decode cX5_belongs 10 = .ok (.istore 5, 2) := by decide +kernel
theorem dX5_belongs_12 : decode cX5_belongs 12 = .ok (.iload 5, 2) := by decide +kernel
theorem dX5_belongs_14 : decode cX5_belongs 14 = .ok (.bipush 8, 2) := by decide +kernel
theorem dX5_belongs_16 : decode cX5_belongs 16 = .ok (.if_icmp .ge 44, 3) := by decide +kernel
theorem dX5_belongs_19 : decode cX5_belongs 19 = .ok (.iload 4, 2) := by decide +kernel
theorem dX5_belongs_21 : decode cX5_belongs 21 = .ok (.ifCond .ne 26, 3) := by decide +kernel
theorem dX5_belongs_24 : decode cX5_belongs 24 = .ok (.iload_n 3, 1) := by decide +kernel
theorem dX5_belongs_25 : decode cX5_belongs 25 = .ok (.iload 5, 2) := by decide +kernel
theorem dX5_belongs_27 : decode cX5_belongs 27 = .ok (.invokestatic 55, 3) := by decide +kernel
theorem dX5_belongs_30 : decode cX5_belongs 30 = .ok (.ifCond .eq 21, 3) := by decide +kernel
theorem dX5_belongs_33 : decode cX5_belongs 33 = .ok (.aload_n 0, 1) := by decide +kernel
theorem dX5_belongs_34 : decode cX5_belongs 34 = .ok (.getfield 7, 3) := by decide +kernel
theorem dX5_belongs_37 : decode cX5_belongs 37 = .ok (.iload 5, 2) := by decide +kernel
theorem dX5_belongs_39 : decode cX5_belongs 39 = .ok (.iaload, 1) := by decide +kernel
theorem dX5_belongs_40 : decode cX5_belongs 40 = .ok (.iload_n 2, 1) := by decide +kernel
theorem dX5_belongs_41 : decode cX5_belongs 41 = .ok (.invokestatic 55, 3) := by decide +kernel
theorem dX5_belongs_44 : decode cX5_belongs 44 = .ok (.ifCond .eq 7, 3) := by decide +kernel
theorem dX5_belongs_47 : decode cX5_belongs 47 = .ok (.iconst 1, 1) := by decide +kernel
end
section
theorem dX5_belongs_48 : decode cX5_belongs 48 = .ok (.goto 4, 3) := by decide +kernel
theorem dX5_belongs_51 : decode cX5_belongs 51 = .ok (.iconst 0, 1) := by decide +kernel
theorem dX5_belongs_52 : decode cX5_belongs 52 = .ok (.istore 4, 2) := by decide +kernel
theorem dX5_belongs_54 : decode cX5_belongs 54 = .ok (.iinc 5 1, 3) := by decide +kernel
theorem dX5_belongs_57 : decode cX5_belongs 57 = .ok (.goto (-45), 3) := by decide +kernel
theorem dX5_belongs_60 : decode cX5_belongs 60 = .ok (.iload 4, 2) := by decide +kernel
theorem dX5_belongs_62 : decode cX5_belongs 62 = .ok (.ireturn, 1) := by decide +kernel
set_option maxRecDepth 20000 in
theorem ggX5_finds_X5_belongs : GoodIn wsX5_finds wsX5_belongs := goodIn_r _ [6, 7, 8, 9, 10, 5, 11, 12, 13, 14, 15, 16, 17, 18, 19, 20, 21, 22, 23, 24, 25, 26, 27, 28, 29, 30, 31, 32] (by decide +kernel) (by decide +kernel)
set_option maxRecDepth 20000 in
theorem gX5_finds_X5_belongs : GoodIn wsX5_finds (wsV RX5 76 RX5 yX5_belongs wsX5_belongs) := goodIn_app (goodIn_of _ (by decide +kernel)) ggX5_finds_X5_belongs
theorem dX5_finds_0 : decode cX5_finds 0 = .ok (.iconst 0, 1) := by decide +kernel
theorem dX5_finds_1 : decode cX5_finds 1 = .ok (.istore 4, 2) := by decide +kernel
theorem dX5_finds_3 : decode cX5_finds 3 = .ok (.iconst 0, 1) := by decide +kernel
theorem dX5_finds_4 : decode cX5_finds 4 = .ok (.istore 5, 2) := by decide +kernel
theorem dX5_finds_6 : decode cX5_finds 6 = .ok (.iload 5, 2) := by decide +kernel
theorem dX5_finds_8 : decode cX5_finds 8 = .ok (.bipush 8, 2) := by decide +kernel
theorem dX5_finds_10 : decode cX5_finds 10 = .ok (.if_icmp .ge 47, 3) := by decide +kernel
theorem dX5_finds_13 : decode cX5_finds 13 = .ok (.iload 4, 2) := by decide +kernel
theorem dX5_finds_15 : decode cX5_finds 15 = .ok (.ifCond .ne 29, 3) := by decide +kernel
theorem dX5_finds_18 : decode cX5_finds 18 = .ok (.aload_n 0, 1) := by decide +kernel
theorem dX5_finds_19 : decode cX5_finds 19 = .ok (.getfield 16, 3) := by decide +kernel
theorem dX5_finds_22 : decode cX5_finds 22 = .ok (.bipush 6, 2) := by decide +kernel
theorem dX5_finds_24 : decode cX5_finds 24 = .ok (.iload 5, 2) := by decide +kernel
theorem dX5_finds_26 : decode cX5_finds 26 = .ok (.imul, 1) := by decide +kernel
theorem dX5_finds_27 : decode cX5_finds 27 = .ok (.iload_n 2, 1) := by decide +kernel
theorem dX5_finds_28 : decode cX5_finds 28 = .ok (.iadd, 1) := by decide +kernel
theorem dX5_finds_29 : decode cX5_finds 29 = .ok (.iaload, 1) := by decide +kernel
theorem dX5_finds_30 : decode cX5_finds 30 = .ok (.iload_n 3, 1) := by decide +kernel
theorem dX5_finds_31 : decode cX5_finds 31 = .ok (.if_icmp .ne 17, 3) := by decide +kernel
theorem dX5_finds_34 : decode cX5_finds 34 = .ok (.aload_n 0, 1) := by decide +kernel
theorem dX5_finds_35 : decode cX5_finds 35 = .ok (.iload 5, 2) := by decide +kernel
theorem dX5_finds_37 : decode cX5_finds 37 = .ok (.iload_n 1, 1) := by decide +kernel
theorem dX5_finds_38 : decode cX5_finds 38 = .ok (.invokevirtual 76, 3) := by decide +kernel
theorem dX5_finds_41 : decode cX5_finds 41 = .ok (.ifCond .eq 7, 3) := by decide +kernel
theorem dX5_finds_44 : decode cX5_finds 44 = .ok (.iconst 1, 1) := by decide +kernel
theorem dX5_finds_45 : decode cX5_finds 45 = .ok (.goto 4, 3) := by decide +kernel
theorem dX5_finds_48 : decode cX5_finds 48 = .ok (.iconst 0, 1) := by decide +kernel
theorem dX5_finds_49 : decode cX5_finds 49 = .ok (.istore 4, 2) := by decide +kernel
theorem dX5_finds_51 : decode cX5_finds 51 = .ok (.iinc 5 1, 3) := by decide +kernel
theorem dX5_finds_54 : decode cX5_finds 54 = .ok (.goto (-48), 3) := by decide +kernel
theorem dX5_finds_57 : decode cX5_finds 57 = .ok (.iload 4, 2) := by decide +kernel
theorem dX5_finds_59 : decode cX5_finds 59 = .ok (.ireturn, 1) := by decide +kernel
set_option maxRecDepth 20000 in
theorem ggX5_lets_X5_finds : GoodIn wsX5_lets wsX5_finds := goodIn_r _ [8, 9, 10, 11, 12, 7, 13, 14, 15, 16, 17, 18, 19, 20, 21, 22, 23, 24, 25, 26, 27, 28, 29, 30, 31, 32, 33, 34, 35, 36, 37, 38, 39] (by decide +kernel) (by decide +kernel)
set_option maxRecDepth 20000 in
theorem gX5_lets_X5_finds : GoodIn wsX5_lets (wsV RX5 79 RX5 yX5_finds wsX5_finds) := goodIn_app (goodIn_of _ (by decide +kernel)) ggX5_lets_X5_finds
theorem dX5_lets_0 : decode cX5_lets 0 = .ok (.aload_n 0, 1) := by decide +kernel
theorem dX5_lets_1 : decode cX5_lets 1 = .ok (.getfield 19, 3) := by decide +kernel
theorem dX5_lets_4 : decode cX5_lets 4 = .ok (.iload_n 1, 1) := by decide +kernel
theorem dX5_lets_5 : decode cX5_lets 5 = .ok (.iaload, 1) := by decide +kernel
theorem dX5_lets_6 : decode cX5_lets 6 = .ok (.iconst 3, 1) := by decide +kernel
theorem dX5_lets_7 : decode cX5_lets 7 = .ok (.if_icmp .ge 45, 3) := by decide +kernel
theorem dX5_lets_10 : decode cX5_lets 10 = .ok (.aload_n 0, 1) := by decide +kernel
theorem dX5_lets_11 : decode cX5_lets 11 = .ok (.iload_n 1, 1) := by decide +kernel
theorem dX5_lets_12 : decode cX5_lets 12 = .ok (.iload_n 2, 1) := by decide +kernel
theorem dX5_lets_13 : decode cX5_lets 13 = .ok (.iconst 1, 1) := by decide +kernel
theorem dX5_lets_14 : decode cX5_lets 14 = .ok (.invokevirtual 79, 3) := by decide +kernel
theorem dX5_lets_17 : decode cX5_lets 17 = .ok (.ifCond .eq 13, 3) := by decide +kernel
theorem dX5_lets_20 : decode cX5_lets 20 = .ok (.aload_n 0, 1) := by decide +kernel
theorem dX5_lets_21 : decode cX5_lets 21 = .ok (.iload_n 1, 1) := by decide +kernel
theorem dX5_lets_22 : decode cX5_lets 22 = .ok (.iload_n 2, 1) := by decide +kernel
theorem dX5_lets_23 : decode cX5_lets 23 = .ok (.iconst 2, 1) := by decide +kernel
theorem dX5_lets_24 : decode cX5_lets 24 = .ok (.invokevirtual 79, 3) := by decide +kernel
theorem dX5_lets_27 : decode cX5_lets 27 = .ok (.ifCond .eq 21, 3) := by decide +kernel
theorem dX5_lets_30 : decode cX5_lets 30 = .ok (.aload_n 0, 1) := by decide +kernel
theorem dX5_lets_31 : decode cX5_lets 31 = .ok (.getfield 22, 3) := by decide +kernel
theorem dX5_lets_34 : decode cX5_lets 34 = .ok (.bipush 6, 2) := by decide +kernel
theorem dX5_lets_36 : decode cX5_lets 36 = .ok (.iload_n 1, 1) := by decide +kernel
theorem dX5_lets_37 : decode cX5_lets 37 = .ok (.imul, 1) := by decide +kernel
theorem dX5_lets_38 : decode cX5_lets 38 = .ok (.iload_n 2, 1) := by decide +kernel
theorem dX5_lets_39 : decode cX5_lets 39 = .ok (.iadd, 1) := by decide +kernel
theorem dX5_lets_40 : decode cX5_lets 40 = .ok (.iaload, 1) := by decide +kernel
theorem dX5_lets_41 : decode cX5_lets 41 = .ok (.aload_n 0, 1) := by decide +kernel
theorem dX5_lets_42 : decode cX5_lets 42 = .ok (.getfield 82, 3) := by decide +kernel
theorem dX5_lets_45 : decode cX5_lets 45 = .ok (.if_icmp .le 7, 3) := by decide +kernel
theorem dX5_lets_48 : decode cX5_lets 48 = .ok (.iconst 1, 1) := by decide +kernel
theorem dX5_lets_49 : decode cX5_lets 49 = .ok (.goto 4, 3) := by decide +kernel
theorem dX5_lets_52 : decode cX5_lets 52 = .ok (.iconst 0, 1) := by decide +kernel
theorem dX5_lets_53 : decode cX5_lets 53 = .ok (.ireturn, 1) := by decide +kernel
theorem dX5_isKey_0 : decode cX5_isKey 0 = .ok (.iload_n 1, 1) := by decide +kernel
theorem dX5_isKey_1 : decode cX5_isKey 1 = .ok (.aload_n 0, 1) := by decide +kernel
theorem dX5_isKey_2 : decode cX5_isKey 2 = .ok (.getfield 85, 3) := by decide +kernel
theorem dX5_isKey_5 : decode cX5_isKey 5 = .ok (.if_icmp .eq 24, 3) := by decide +kernel
theorem dX5_isKey_8 : decode cX5_isKey 8 = .ok (.iload_n 1, 1) := by decide +kernel
theorem dX5_isKey_9 : decode cX5_isKey 9 = .ok (.aload_n 0, 1) := by decide +kernel
theorem dX5_isKey_10 : decode cX5_isKey 10 = .ok (.getfield 85, 3) := by decide +kernel
theorem dX5_isKey_13 : decode cX5_isKey 13 = .ok (.iconst 1, 1) := by decide +kernel
theorem dX5_isKey_14 : decode cX5_isKey 14 = .ok (.isub, 1) := by decide +kernel
theorem dX5_isKey_15 : decode cX5_isKey 15 = .ok (.if_icmp .ne 18, 3) := by decide +kernel
theorem dX5_isKey_18 : decode cX5_isKey 18 = .ok (.aload_n 0, 1) := by decide +kernel
theorem dX5_isKey_19 : decode cX5_isKey 19 = .ok (.getfield 82, 3) := by decide +kernel
theorem dX5_isKey_22 : decode cX5_isKey 22 = .ok (.aload_n 0, 1) := by decide +kernel
theorem dX5_isKey_23 : decode cX5_isKey 23 = .ok (.getfield 88, 3) := by decide +kernel
theorem dX5_isKey_26 : decode cX5_isKey 26 = .ok (.if_icmp .ge 7, 3) := by decide +kernel
theorem dX5_isKey_29 : decode cX5_isKey 29 = .ok (.iconst 1, 1) := by decide +kernel
theorem dX5_isKey_30 : decode cX5_isKey 30 = .ok (.goto 4, 3) := by decide +kernel
theorem dX5_isKey_33 : decode cX5_isKey 33 = .ok (.iconst 0, 1) := by decide +kernel
theorem dX5_isKey_34 : decode cX5_isKey 34 = .ok (.ireturn, 1) := by decide +kernel
set_option maxRecDepth 20000 in
theorem ggX5_ends_X5_isKey : GoodIn wsX5_ends wsX5_isKey := goodIn_r _ [11, 12, 1, 13, 14, 15, 16, 17, 18, 19, 20, 21, 22, 23, 24, 25, 26, 27, 28, 29, 30] (by decide +kernel) (by decide +kernel)
set_option maxRecDepth 20000 in
theorem gX5_ends_X5_isKey : GoodIn wsX5_ends (wsV RX5 91 RX5 yX5_isKey wsX5_isKey) := goodIn_app (goodIn_of _ (by decide +kernel)) ggX5_ends_X5_isKey
theorem dX5_ends_0 : decode cX5_ends 0 = .ok (.aload_n 0, 1) := by decide +kernel
theorem dX5_ends_1 : decode cX5_ends 1 = .ok (.getfield 82, 3) := by decide +kernel
theorem dX5_ends_4 : decode cX5_ends 4 = .ok (.aload_n 0, 1) := by decide +kernel
theorem dX5_ends_5 : decode cX5_ends 5 = .ok (.getfield 34, 3) := by decide +kernel
theorem dX5_ends_8 : decode cX5_ends 8 = .ok (.iload_n 1, 1) := by decide +kernel
theorem dX5_ends_9 : decode cX5_ends 9 = .ok (.iaload, 1) := by decide +kernel
theorem dX5_ends_10 : decode cX5_ends 10 = .ok (.isub, 1) := by decide +kernel
theorem dX5_ends_11 : decode cX5_ends 11 = .ok (.bipush 30, 2) := by decide +kernel
theorem dX5_ends_13 : decode cX5_ends 13 = .ok (.if_icmp .ge 48, 3) := by decide +kernel
theorem dX5_ends_16 : decode cX5_ends 16 = .ok (.aload_n 0, 1) := by decide +kernel
theorem dX5_ends_17 : decode cX5_ends 17 = .ok (.getfield 82, 3) := by decide +kernel
theorem dX5_ends_20 : decode cX5_ends 20 = .ok (.aload_n 0, 1) := by decide +kernel
theorem dX5_ends_21 : decode cX5_ends 21 = .ok (.getfield 31, 3) := by decide +kernel
theorem dX5_ends_24 : decode cX5_ends 24 = .ok (.iload_n 1, 1) := by decide +kernel
theorem dX5_ends_25 : decode cX5_ends 25 = .ok (.iaload, 1) := by decide +kernel
theorem dX5_ends_26 : decode cX5_ends 26 = .ok (.isub, 1) := by decide +kernel
theorem dX5_ends_27 : decode cX5_ends 27 = .ok (.sipush 240, 3) := by decide +kernel
theorem dX5_ends_30 : decode cX5_ends 30 = .ok (.bipush 60, 2) := by decide +kernel
theorem dX5_ends_32 : decode cX5_ends 32 = .ok (.aload_n 0, 1) := by decide +kernel
theorem dX5_ends_33 : decode cX5_ends 33 = .ok (.getfield 19, 3) := by decide +kernel
theorem dX5_ends_36 : decode cX5_ends 36 = .ok (.aload_n 0, 1) := by decide +kernel
theorem dX5_ends_37 : decode cX5_ends 37 = .ok (.getfield 25, 3) := by decide +kernel
theorem dX5_ends_40 : decode cX5_ends 40 = .ok (.iload_n 1, 1) := by decide +kernel
theorem dX5_ends_41 : decode cX5_ends 41 = .ok (.iaload, 1) := by decide +kernel
theorem dX5_ends_42 : decode cX5_ends 42 = .ok (.iaload, 1) := by decide +kernel
theorem dX5_ends_43 : decode cX5_ends 43 = .ok (.imul, 1) := by decide +kernel
theorem dX5_ends_44 : decode cX5_ends 44 = .ok (.isub, 1) := by decide +kernel
theorem dX5_ends_45 : decode cX5_ends 45 = .ok (.if_icmp .ge 16, 3) := by decide +kernel
theorem dX5_ends_48 : decode cX5_ends 48 = .ok (.aload_n 0, 1) := by decide +kernel
theorem dX5_ends_49 : decode cX5_ends 49 = .ok (.aload_n 0, 1) := by decide +kernel
theorem dX5_ends_50 : decode cX5_ends 50 = .ok (.getfield 28, 3) := by decide +kernel
theorem dX5_ends_53 : decode cX5_ends 53 = .ok (.iload_n 1, 1) := by decide +kernel
theorem dX5_ends_54 : decode cX5_ends 54 = .ok (.iaload, 1) := by decide +kernel
theorem dX5_ends_55 : decode cX5_ends 55 = .ok (.invokevirtual 91, 3) := by decide +kernel
theorem dX5_ends_58 : decode cX5_ends 58 = .ok (.ifCond .ne 7, 3) := by decide +kernel
theorem dX5_ends_61 : decode cX5_ends 61 = .ok (.iconst 1, 1) := by decide +kernel
theorem dX5_ends_62 : decode cX5_ends 62 = .ok (.goto 4, 3) := by decide +kernel
theorem dX5_ends_65 : decode cX5_ends 65 = .ok (.iconst 0, 1) := by decide +kernel
theorem dX5_ends_66 : decode cX5_ends 66 = .ok (.ireturn, 1) := by decide +kernel
set_option maxRecDepth 20000 in
theorem ggX5_sweeps_X5_ends : GoodIn wsX5_sweeps wsX5_ends := goodIn_r _ [7, 8, 9, 10, 11, 12, 13, 14, 15, 16, 6, 17, 18, 19, 20, 21, 22, 23, 24, 25, 26, 27, 28, 29, 30, 31, 32, 33, 34, 35, 36] (by decide +kernel) (by decide +kernel)
set_option maxRecDepth 20000 in
theorem gX5_sweeps_X5_ends : GoodIn wsX5_sweeps (wsV RX5 97 RX5 yX5_ends wsX5_ends) := goodIn_app (goodIn_of _ (by decide +kernel)) ggX5_sweeps_X5_ends
theorem dX5_sweeps_0 : decode cX5_sweeps 0 = .ok (.iconst 0, 1) := by decide +kernel
theorem dX5_sweeps_1 : decode cX5_sweeps 1 = .ok (.istore_n 1, 1) := by decide +kernel
theorem dX5_sweeps_2 : decode cX5_sweeps 2 = .ok (.iconst 0, 1) := by decide +kernel
theorem dX5_sweeps_3 : decode cX5_sweeps 3 = .ok (.istore_n 2, 1) := by decide +kernel
theorem dX5_sweeps_4 : decode cX5_sweeps 4 = .ok (.iload_n 2, 1) := by decide +kernel
theorem dX5_sweeps_5 : decode cX5_sweeps 5 = .ok (.aload_n 0, 1) := by decide +kernel
theorem dX5_sweeps_6 : decode cX5_sweeps 6 = .ok (.getfield 94, 3) := by decide +kernel
theorem dX5_sweeps_9 : decode cX5_sweeps 9 = .ok (.if_icmp .ge 68, 3) := by decide +kernel
theorem dX5_sweeps_12 : decode cX5_sweeps 12 = .ok (.aload_n 0, 1) := by decide +kernel
theorem dX5_sweeps_13 : decode cX5_sweeps 13 = .ok (.getfield 37, 3) := by decide +kernel
theorem dX5_sweeps_16 : decode cX5_sweeps 16 = .ok (.iload_n 2, 1) := by decide +kernel
theorem dX5_sweeps_17 : decode cX5_sweeps 17 = .ok (.baload, 1) := by decide +kernel
theorem dX5_sweeps_18 : decode cX5_sweeps 18 = .ok (.ifCond .ne 15, 3) := by decide +kernel
theorem dX5_sweeps_21 : decode cX5_sweeps 21 = .ok (.aload_n 0, 1) := by decide +kernel
theorem dX5_sweeps_22 : decode cX5_sweeps 22 = .ok (.iload_n 2, 1) := by decide +kernel
theorem dX5_sweeps_23 : decode cX5_sweeps 23 = .ok (.invokevirtual 97, 3) := by decide +kernel
theorem dX5_sweeps_26 : decode cX5_sweeps 26 = .ok (.ifCond .eq 7, 3) := by decide +kernel
theorem dX5_sweeps_29 : decode cX5_sweeps 29 = .ok (.iconst 1, 1) := by decide +kernel
theorem dX5_sweeps_30 : decode cX5_sweeps 30 = .ok (.goto 4, 3) := by decide +kernel
theorem dX5_sweeps_33 : decode cX5_sweeps 33 = .ok (.iconst 0, 1) := by decide +kernel
theorem dX5_sweeps_34 : decode cX5_sweeps 34 = .ok (.istore_n 3, 1) := by decide +kernel
theorem dX5_sweeps_35 : decode cX5_sweeps 35 = .ok (.iload_n 1, 1) := by decide +kernel
theorem dX5_sweeps_36 : decode cX5_sweeps 36 = .ok (.iload_n 3, 1) := by decide +kernel
theorem dX5_sweeps_37 : decode cX5_sweeps 37 = .ok (.ifCond .eq 7, 3) := by decide +kernel
theorem dX5_sweeps_40 : decode cX5_sweeps 40 = .ok (.iconst 1, 1) := by decide +kernel
theorem dX5_sweeps_41 : decode cX5_sweeps 41 = .ok (.goto 4, 3) := by decide +kernel
theorem dX5_sweeps_44 : decode cX5_sweeps 44 = .ok (.iconst 0, 1) := by decide +kernel
theorem dX5_sweeps_45 : decode cX5_sweeps 45 = .ok (.iadd, 1) := by decide +kernel
theorem dX5_sweeps_46 : decode cX5_sweeps 46 = .ok (.istore_n 1, 1) := by decide +kernel
theorem dX5_sweeps_47 : decode cX5_sweeps 47 = .ok (.aload_n 0, 1) := by decide +kernel
theorem dX5_sweeps_48 : decode cX5_sweeps 48 = .ok (.getfield 37, 3) := by decide +kernel
theorem dX5_sweeps_51 : decode cX5_sweeps 51 = .ok (.iload_n 2, 1) := by decide +kernel
theorem dX5_sweeps_52 : decode cX5_sweeps 52 = .ok (.aload_n 0, 1) := by decide +kernel
theorem dX5_sweeps_53 : decode cX5_sweeps 53 = .ok (.getfield 37, 3) := by decide +kernel
theorem dX5_sweeps_56 : decode cX5_sweeps 56 = .ok (.iload_n 2, 1) := by decide +kernel
theorem dX5_sweeps_57 : decode cX5_sweeps 57 = .ok (.baload, 1) := by decide +kernel
theorem dX5_sweeps_58 : decode cX5_sweeps 58 = .ok (.ifCond .ne 7, 3) := by decide +kernel
theorem dX5_sweeps_61 : decode cX5_sweeps 61 = .ok (.iload_n 3, 1) := by decide +kernel
theorem dX5_sweeps_62 : decode cX5_sweeps 62 = .ok (.ifCond .eq 7, 3) := by decide +kernel
theorem dX5_sweeps_65 : decode cX5_sweeps 65 = .ok (.iconst 1, 1) := by decide +kernel
theorem dX5_sweeps_66 : decode cX5_sweeps 66 = .ok (.goto 4, 3) := by decide +kernel
theorem dX5_sweeps_69 : decode cX5_sweeps 69 = .ok (.iconst 0, 1) := by decide +kernel
theorem dX5_sweeps_70 : decode cX5_sweeps 70 = .ok (.bastore, 1) := by decide +kernel
theorem dX5_sweeps_71 : decode cX5_sweeps 71 = .ok (.iinc 2 1, 3) := by decide +kernel
theorem dX5_sweeps_74 : decode cX5_sweeps 74 = .ok (.goto (-70), 3) := by decide +kernel
theorem dX5_sweeps_77 : decode cX5_sweeps 77 = .ok (.iload_n 1, 1) := by decide +kernel
theorem dX5_sweeps_78 : decode cX5_sweeps 78 = .ok (.ireturn, 1) := by decide +kernel
set_option maxRecDepth 20000 in
theorem ggX5_setRisk_X5_isPerson : GoodIn wsX5_setRisk wsX5_isPerson := goodIn_r _ [9, 10, 11, 8, 12] (by decide +kernel) (by decide +kernel)
set_option maxRecDepth 20000 in
theorem gX5_setRisk_X5_isPerson : GoodIn wsX5_setRisk (va_wsS RX5 63 yX5_isPerson wsX5_isPerson) := goodIn_app (goodIn_of _ (by decide +kernel)) ggX5_setRisk_X5_isPerson
set_option maxRecDepth 20000 in
theorem ggX5_setRisk_X5_in : GoodIn wsX5_setRisk wsX5_in := goodIn_r _ [12] (by decide +kernel) (by decide +kernel)
set_option maxRecDepth 20000 in
theorem gX5_setRisk_X5_in : GoodIn wsX5_setRisk (va_wsS RX5 51 yX5_in wsX5_in) := goodIn_app (goodIn_of _ (by decide +kernel)) ggX5_setRisk_X5_in
set_option maxRecDepth 20000 in
theorem ggX5_setRisk_X5_fails : GoodIn wsX5_setRisk wsX5_fails := goodIn_r _ [16, 1, 17, 18, 19, 20, 21, 22, 23, 24, 25, 26, 27, 28, 29, 30, 31, 32, 33] (by decide +kernel) (by decide +kernel)
set_option maxRecDepth 20000 in
theorem gX5_setRisk_X5_fails : GoodIn wsX5_setRisk (wsV RX5 73 RX5 yX5_fails wsX5_fails) := goodIn_app (goodIn_of _ (by decide +kernel)) ggX5_setRisk_X5_fails
theorem dX5_setRisk_0 : decode cX5_setRisk 0 = .ok (.aload_n 0, 1) := by decide +kernel
theorem dX5_setRisk_1 : decode cX5_setRisk 1 = .ok (.iconst 0, 1) := by decide +kernel
theorem dX5_setRisk_2 : decode cX5_setRisk 2 = .ok (.putfield 47, 3) := by decide +kernel
theorem dX5_setRisk_5 : decode cX5_setRisk 5 = .ok (.iload_n 1, 1) := by decide +kernel
theorem dX5_setRisk_6 : decode cX5_setRisk 6 = .ok (.invokestatic 63, 3) := by decide +kernel
theorem dX5_setRisk_9 : decode cX5_setRisk 9 = .ok (.ifCond .eq 12, 3) := by decide +kernel
theorem dX5_setRisk_12 : decode cX5_setRisk 12 = .ok (.iload_n 2, 1) := by decide +kernel
theorem dX5_setRisk_13 : decode cX5_setRisk 13 = .ok (.iconst 0, 1) := by decide +kernel
theorem dX5_setRisk_14 : decode cX5_setRisk 14 = .ok (.iconst 3, 1) := by decide +kernel
theorem dX5_setRisk_15 : decode cX5_setRisk 15 = .ok (.invokestatic 51, 3) := by decide +kernel
theorem dX5_setRisk_18 : decode cX5_setRisk 18 = .ok (.ifCond .ne 9, 3) := by decide +kernel
theorem dX5_setRisk_21 : decode cX5_setRisk 21 = .ok (.aload_n 0, 1) := by decide +kernel
theorem dX5_setRisk_22 : decode cX5_setRisk 22 = .ok (.iconst 1, 1) := by decide +kernel
theorem dX5_setRisk_23 : decode cX5_setRisk 23 = .ok (.invokevirtual 73, 3) := by decide +kernel
theorem dX5_setRisk_26 : decode cX5_setRisk 26 = .ok (.ireturn, 1) := by decide +kernel
theorem dX5_setRisk_27 : decode cX5_setRisk 27 = .ok (.iconst 0, 1) := by decide +kernel
theorem dX5_setRisk_28 : decode cX5_setRisk 28 = .ok (.istore_n 3, 1) := by decide +kernel
theorem dX5_setRisk_29 : decode cX5_setRisk 29 = .ok (.iconst 0, 1) := by decide +kernel
theorem dX5_setRisk_30 : decode cX5_setRisk 30 = .ok (.istore 4, 2) := by decide +kernel
theorem dX5_setRisk_32 : decode cX5_setRisk 32 = .ok (.iload 4, 2) := by decide +kernel
theorem dX5_setRisk_34 : decode cX5_setRisk 34 = .ok (.aload_n 0, 1) := by decide +kernel
theorem dX5_setRisk_35 : decode cX5_setRisk 35 = .ok (.getfield 94, 3) := by decide +kernel
theorem dX5_setRisk_38 : decode cX5_setRisk 38 = .ok (.if_icmp .ge 87, 3) := by decide +kernel
theorem dX5_setRisk_41 : decode cX5_setRisk 41 = .ok (.iload_n 2, 1) := by decide +kernel
theorem dX5_setRisk_42 : decode cX5_setRisk 42 = .ok (.aload_n 0, 1) := by decide +kernel
theorem dX5_setRisk_43 : decode cX5_setRisk 43 = .ok (.getfield 19, 3) := by decide +kernel
theorem dX5_setRisk_46 : decode cX5_setRisk 46 = .ok (.iload_n 1, 1) := by decide +kernel
theorem dX5_setRisk_47 : decode cX5_setRisk 47 = .ok (.iaload, 1) := by decide +kernel
theorem dX5_setRisk_48 : decode cX5_setRisk 48 = .ok (.if_icmp .le 28, 3) := by decide +kernel
theorem dX5_setRisk_51 : decode cX5_setRisk 51 = .ok (.aload_n 0, 1) := by decide +kernel
theorem dX5_setRisk_52 : decode cX5_setRisk 52 = .ok (.getfield 25, 3) := by decide +kernel
theorem dX5_setRisk_55 : decode cX5_setRisk 55 = .ok (.iload 4, 2) := by decide +kernel
theorem dX5_setRisk_57 : decode cX5_setRisk 57 = .ok (.iaload, 1) := by decide +kernel
theorem dX5_setRisk_58 : decode cX5_setRisk 58 = .ok (.iload_n 1, 1) := by decide +kernel
theorem dX5_setRisk_59 : decode cX5_setRisk 59 = .ok (.if_icmp .ne 17, 3) := by decide +kernel
theorem dX5_setRisk_62 : decode cX5_setRisk 62 = .ok (.aload_n 0, 1) := by decide +kernel
theorem dX5_setRisk_63 : decode cX5_setRisk 63 = .ok (.getfield 37, 3) := by decide +kernel
theorem dX5_setRisk_66 : decode cX5_setRisk 66 = .ok (.iload 4, 2) := by decide +kernel
theorem dX5_setRisk_68 : decode cX5_setRisk 68 = .ok (.baload, 1) := by decide +kernel
theorem dX5_setRisk_69 : decode cX5_setRisk 69 = .ok (.ifCond .ne 7, 3) := by decide +kernel
theorem dX5_setRisk_72 : decode cX5_setRisk 72 = .ok (.iconst 1, 1) := by decide +kernel
theorem dX5_setRisk_73 : decode cX5_setRisk 73 = .ok (.goto 4, 3) := by decide +kernel
theorem dX5_setRisk_76 : decode cX5_setRisk 76 = .ok (.iconst 0, 1) := by decide +kernel
theorem dX5_setRisk_77 : decode cX5_setRisk 77 = .ok (.istore 5, 2) := by decide +kernel
theorem dX5_setRisk_79 : decode cX5_setRisk 79 = .ok (.iload_n 3, 1) := by decide +kernel
theorem dX5_setRisk_80 : decode cX5_setRisk 80 = .ok (.iload 5, 2) := by decide +kernel
theorem dX5_setRisk_82 : decode cX5_setRisk 82 = .ok (.ifCond .eq 7, 3) := by decide +kernel
theorem dX5_setRisk_85 : decode cX5_setRisk 85 = .ok (.iconst 1, 1) := by decide +kernel
theorem dX5_setRisk_86 : decode cX5_setRisk 86 = .ok (.goto 4, 3) := by decide +kernel
theorem dX5_setRisk_89 : decode cX5_setRisk 89 = .ok (.iconst 0, 1) := by decide +kernel
theorem dX5_setRisk_90 : decode cX5_setRisk 90 = .ok (.iadd, 1) := by decide +kernel
theorem dX5_setRisk_91 : decode cX5_setRisk 91 = .ok (.istore_n 3, 1) := by decide +kernel
theorem dX5_setRisk_92 : decode cX5_setRisk 92 = .ok (.aload_n 0, 1) := by decide +kernel
theorem dX5_setRisk_93 : decode cX5_setRisk 93 = .ok (.getfield 37, 3) := by decide +kernel
theorem dX5_setRisk_96 : decode cX5_setRisk 96 = .ok (.iload 4, 2) := by decide +kernel
theorem dX5_setRisk_98 : decode cX5_setRisk 98 = .ok (.aload_n 0, 1) := by decide +kernel
theorem dX5_setRisk_99 : decode cX5_setRisk 99 = .ok (.getfield 37, 3) := by decide +kernel
theorem dX5_setRisk_102 : decode cX5_setRisk 102 = .ok (.iload 4, 2) := by decide +kernel
theorem dX5_setRisk_104 : decode cX5_setRisk 104 = .ok (.baload, 1) := by decide +kernel
theorem dX5_setRisk_105 : decode cX5_setRisk 105 = .ok (.ifCond .ne 8, 3) := by decide +kernel
theorem dX5_setRisk_108 : decode cX5_setRisk 108 = .ok (.iload 5, 2) := by decide +kernel
theorem dX5_setRisk_110 : decode cX5_setRisk 110 = .ok (.ifCond .eq 7, 3) := by decide +kernel
theorem dX5_setRisk_113 : decode cX5_setRisk 113 = .ok (.iconst 1, 1) := by decide +kernel
theorem dX5_setRisk_114 : decode cX5_setRisk 114 = .ok (.goto 4, 3) := by decide +kernel
theorem dX5_setRisk_117 : decode cX5_setRisk 117 = .ok (.iconst 0, 1) := by decide +kernel
theorem dX5_setRisk_118 : decode cX5_setRisk 118 = .ok (.bastore, 1) := by decide +kernel
theorem dX5_setRisk_119 : decode cX5_setRisk 119 = .ok (.iinc 4 1, 3) := by decide +kernel
theorem dX5_setRisk_122 : decode cX5_setRisk 122 = .ok (.goto (-90), 3) := by decide +kernel
theorem dX5_setRisk_125 : decode cX5_setRisk 125 = .ok (.aload_n 0, 1) := by decide +kernel
theorem dX5_setRisk_126 : decode cX5_setRisk 126 = .ok (.getfield 19, 3) := by decide +kernel
theorem dX5_setRisk_129 : decode cX5_setRisk 129 = .ok (.iload_n 1, 1) := by decide +kernel
theorem dX5_setRisk_130 : decode cX5_setRisk 130 = .ok (.iload_n 2, 1) := by decide +kernel
theorem dX5_setRisk_131 : decode cX5_setRisk 131 = .ok (.iastore, 1) := by decide +kernel
theorem dX5_setRisk_132 : decode cX5_setRisk 132 = .ok (.iload_n 3, 1) := by decide +kernel
theorem dX5_setRisk_133 : decode cX5_setRisk 133 = .ok (.ireturn, 1) := by decide +kernel
set_option maxRecDepth 20000 in
theorem ggX5_isIn_X5_isGroup : GoodIn wsX5_isIn wsX5_isGroup := goodIn_r _ [5, 6, 7, 4, 8] (by decide +kernel) (by decide +kernel)
set_option maxRecDepth 20000 in
theorem gX5_isIn_X5_isGroup : GoodIn wsX5_isIn (va_wsS RX5 59 yX5_isGroup wsX5_isGroup) := goodIn_app (goodIn_of _ (by decide +kernel)) ggX5_isIn_X5_isGroup
set_option maxRecDepth 20000 in
theorem ggX5_isIn_X5_isPerson : GoodIn wsX5_isIn wsX5_isPerson := goodIn_r _ [11, 6, 7, 4, 8] (by decide +kernel) (by decide +kernel)
set_option maxRecDepth 20000 in
theorem gX5_isIn_X5_isPerson : GoodIn wsX5_isIn (va_wsS RX5 63 yX5_isPerson wsX5_isPerson) := goodIn_app (goodIn_of _ (by decide +kernel)) ggX5_isIn_X5_isPerson
set_option maxRecDepth 20000 in
theorem ggX5_isIn_X5_belongs : GoodIn wsX5_isIn wsX5_belongs := goodIn_r _ [15, 16, 17, 18, 19, 4, 20, 21, 22, 23, 24, 25, 26, 27, 28, 29, 30, 31, 32, 33, 34, 35, 36, 37, 38, 39, 40, 41] (by decide +kernel) (by decide +kernel)
set_option maxRecDepth 20000 in
theorem gX5_isIn_X5_belongs : GoodIn wsX5_isIn (wsV RX5 76 RX5 yX5_belongs wsX5_belongs) := goodIn_app (goodIn_of _ (by decide +kernel)) ggX5_isIn_X5_belongs
theorem dX5_isIn_0 : decode cX5_isIn 0 = .ok (.aload_n 0, 1) := by decide +kernel
theorem dX5_isIn_1 : decode cX5_isIn 1 = .ok (.iload_n 1, 1) := by decide +kernel
theorem dX5_isIn_2 : decode cX5_isIn 2 = .ok (.invokestatic 59, 3) := by decide +kernel
theorem dX5_isIn_5 : decode cX5_isIn 5 = .ok (.ifCond .eq 14, 3) := by decide +kernel
theorem dX5_isIn_8 : decode cX5_isIn 8 = .ok (.iload_n 2, 1) := by decide +kernel
theorem dX5_isIn_9 : decode cX5_isIn 9 = .ok (.invokestatic 63, 3) := by decide +kernel
theorem dX5_isIn_12 : decode cX5_isIn 12 = .ok (.ifCond .eq 7, 3) := by decide +kernel
theorem dX5_isIn_15 : decode cX5_isIn 15 = .ok (.iconst 0, 1) := by decide +kernel
theorem dX5_isIn_16 : decode cX5_isIn 16 = .ok (.goto 4, 3) := by decide +kernel
theorem dX5_isIn_19 : decode cX5_isIn 19 = .ok (.iconst 1, 1) := by decide +kernel
theorem dX5_isIn_20 : decode cX5_isIn 20 = .ok (.putfield 47, 3) := by decide +kernel
theorem dX5_isIn_23 : decode cX5_isIn 23 = .ok (.aload_n 0, 1) := by decide +kernel
theorem dX5_isIn_24 : decode cX5_isIn 24 = .ok (.getfield 47, 3) := by decide +kernel
theorem dX5_isIn_27 : decode cX5_isIn 27 = .ok (.ifCond .ne 16, 3) := by decide +kernel
theorem dX5_isIn_30 : decode cX5_isIn 30 = .ok (.aload_n 0, 1) := by decide +kernel
theorem dX5_isIn_31 : decode cX5_isIn 31 = .ok (.iload_n 1, 1) := by decide +kernel
theorem dX5_isIn_32 : decode cX5_isIn 32 = .ok (.iload_n 2, 1) := by decide +kernel
theorem dX5_isIn_33 : decode cX5_isIn 33 = .ok (.invokevirtual 76, 3) := by decide +kernel
theorem dX5_isIn_36 : decode cX5_isIn 36 = .ok (.ifCond .eq 7, 3) := by decide +kernel
theorem dX5_isIn_39 : decode cX5_isIn 39 = .ok (.iconst 1, 1) := by decide +kernel
theorem dX5_isIn_40 : decode cX5_isIn 40 = .ok (.goto 4, 3) := by decide +kernel
theorem dX5_isIn_43 : decode cX5_isIn 43 = .ok (.iconst 0, 1) := by decide +kernel
theorem dX5_isIn_44 : decode cX5_isIn 44 = .ok (.ireturn, 1) := by decide +kernel
set_option maxRecDepth 20000 in
theorem ggX5_allows_X5_isPerson : GoodIn wsX5_allows wsX5_isPerson := goodIn_r _ [5, 6, 7, 4, 8] (by decide +kernel) (by decide +kernel)
set_option maxRecDepth 20000 in
theorem gX5_allows_X5_isPerson : GoodIn wsX5_allows (va_wsS RX5 63 yX5_isPerson wsX5_isPerson) := goodIn_app (goodIn_of _ (by decide +kernel)) ggX5_allows_X5_isPerson
set_option maxRecDepth 20000 in
theorem ggX5_allows_X5_isRole : GoodIn wsX5_allows wsX5_isRole := goodIn_r _ [11, 6, 7, 4, 8] (by decide +kernel) (by decide +kernel)
set_option maxRecDepth 20000 in
theorem gX5_allows_X5_isRole : GoodIn wsX5_allows (va_wsS RX5 70 yX5_isRole wsX5_isRole) := goodIn_app (goodIn_of _ (by decide +kernel)) ggX5_allows_X5_isRole
set_option maxRecDepth 20000 in
theorem ggX5_allows_X5_lets : GoodIn wsX5_allows wsX5_lets := goodIn_r _ [15, 16, 17, 18, 19, 20, 21, 4, 22, 23, 24, 25, 26, 27, 28, 29, 30, 31, 32, 33, 34, 35, 36, 37, 38, 39, 40, 41, 42, 43, 44, 45, 46, 47, 48, 49, 50, 51, 52, 53] (by decide +kernel) (by decide +kernel)
set_option maxRecDepth 20000 in
theorem gX5_allows_X5_lets : GoodIn wsX5_allows (wsV RX5 100 RX5 yX5_lets wsX5_lets) := goodIn_app (goodIn_of _ (by decide +kernel)) ggX5_allows_X5_lets
theorem dX5_allows_0 : decode cX5_allows 0 = .ok (.aload_n 0, 1) := by decide +kernel
theorem dX5_allows_1 : decode cX5_allows 1 = .ok (.iload_n 1, 1) := by decide +kernel
theorem dX5_allows_2 : decode cX5_allows 2 = .ok (.invokestatic 63, 3) := by decide +kernel
theorem dX5_allows_5 : decode cX5_allows 5 = .ok (.ifCond .eq 14, 3) := by decide +kernel
theorem dX5_allows_8 : decode cX5_allows 8 = .ok (.iload_n 2, 1) := by decide +kernel
theorem dX5_allows_9 : decode cX5_allows 9 = .ok (.invokestatic 70, 3) := by decide +kernel
theorem dX5_allows_12 : decode cX5_allows 12 = .ok (.ifCond .eq 7, 3) := by decide +kernel
theorem dX5_allows_15 : decode cX5_allows 15 = .ok (.iconst 0, 1) := by decide +kernel
theorem dX5_allows_16 : decode cX5_allows 16 = .ok (.goto 4, 3) := by decide +kernel
theorem dX5_allows_19 : decode cX5_allows 19 = .ok (.iconst 1, 1) := by decide +kernel
theorem dX5_allows_20 : decode cX5_allows 20 = .ok (.putfield 47, 3) := by decide +kernel
theorem dX5_allows_23 : decode cX5_allows 23 = .ok (.aload_n 0, 1) := by decide +kernel
theorem dX5_allows_24 : decode cX5_allows 24 = .ok (.getfield 47, 3) := by decide +kernel
theorem dX5_allows_27 : decode cX5_allows 27 = .ok (.ifCond .ne 16, 3) := by decide +kernel
theorem dX5_allows_30 : decode cX5_allows 30 = .ok (.aload_n 0, 1) := by decide +kernel
theorem dX5_allows_31 : decode cX5_allows 31 = .ok (.iload_n 1, 1) := by decide +kernel
theorem dX5_allows_32 : decode cX5_allows 32 = .ok (.iload_n 2, 1) := by decide +kernel
theorem dX5_allows_33 : decode cX5_allows 33 = .ok (.invokevirtual 100, 3) := by decide +kernel
theorem dX5_allows_36 : decode cX5_allows 36 = .ok (.ifCond .eq 7, 3) := by decide +kernel
theorem dX5_allows_39 : decode cX5_allows 39 = .ok (.iconst 1, 1) := by decide +kernel
theorem dX5_allows_40 : decode cX5_allows 40 = .ok (.goto 4, 3) := by decide +kernel
theorem dX5_allows_43 : decode cX5_allows 43 = .ok (.iconst 0, 1) := by decide +kernel
theorem dX5_allows_44 : decode cX5_allows 44 = .ok (.ireturn, 1) := by decide +kernel
set_option maxRecDepth 20000 in
theorem ggX5_open_X5_isPerson : GoodIn wsX5_open wsX5_isPerson := goodIn_r _ [13, 14, 15, 12, 16] (by decide +kernel) (by decide +kernel)
set_option maxRecDepth 20000 in
theorem gX5_open_X5_isPerson : GoodIn wsX5_open (va_wsS RX5 63 yX5_isPerson wsX5_isPerson) := goodIn_app (goodIn_of _ (by decide +kernel)) ggX5_open_X5_isPerson
set_option maxRecDepth 20000 in
theorem ggX5_open_X5_fails : GoodIn wsX5_open wsX5_fails := goodIn_r _ [20, 1, 21, 22, 23, 24, 25, 26, 27, 28, 29, 30, 31, 32, 33, 34, 35, 36, 37] (by decide +kernel) (by decide +kernel)
set_option maxRecDepth 20000 in
theorem gX5_open_X5_fails : GoodIn wsX5_open (wsV RX5 73 RX5 yX5_fails wsX5_fails) := goodIn_app (goodIn_of _ (by decide +kernel)) ggX5_open_X5_fails
theorem dX5_open_0 : decode cX5_open 0 = .ok (.aload_n 0, 1) := by decide +kernel
theorem dX5_open_1 : decode cX5_open 1 = .ok (.iconst 0, 1) := by decide +kernel
theorem dX5_open_2 : decode cX5_open 2 = .ok (.putfield 47, 3) := by decide +kernel
theorem dX5_open_5 : decode cX5_open 5 = .ok (.iload_n 1, 1) := by decide +kernel
theorem dX5_open_6 : decode cX5_open 6 = .ok (.invokestatic 63, 3) := by decide +kernel
theorem dX5_open_9 : decode cX5_open 9 = .ok (.ifCond .ne 9, 3) := by decide +kernel
theorem dX5_open_12 : decode cX5_open 12 = .ok (.aload_n 0, 1) := by decide +kernel
theorem dX5_open_13 : decode cX5_open 13 = .ok (.iconst 1, 1) := by decide +kernel
theorem dX5_open_14 : decode cX5_open 14 = .ok (.invokevirtual 73, 3) := by decide +kernel
theorem dX5_open_17 : decode cX5_open 17 = .ok (.ireturn, 1) := by decide +kernel
theorem dX5_open_18 : decode cX5_open 18 = .ok (.aload_n 0, 1) := by decide +kernel
theorem dX5_open_19 : decode cX5_open 19 = .ok (.getfield 19, 3) := by decide +kernel
theorem dX5_open_22 : decode cX5_open 22 = .ok (.iload_n 1, 1) := by decide +kernel
theorem dX5_open_23 : decode cX5_open 23 = .ok (.iaload, 1) := by decide +kernel
theorem dX5_open_24 : decode cX5_open 24 = .ok (.iconst 3, 1) := by decide +kernel
theorem dX5_open_25 : decode cX5_open 25 = .ok (.if_icmp .eq 12, 3) := by decide +kernel
theorem dX5_open_28 : decode cX5_open 28 = .ok (.aload_n 0, 1) := by decide +kernel
theorem dX5_open_29 : decode cX5_open 29 = .ok (.getfield 94, 3) := by decide +kernel
theorem dX5_open_32 : decode cX5_open 32 = .ok (.bipush 30, 2) := by decide +kernel
theorem dX5_open_34 : decode cX5_open 34 = .ok (.if_icmp .ne 9, 3) := by decide +kernel
theorem dX5_open_37 : decode cX5_open 37 = .ok (.aload_n 0, 1) := by decide +kernel
theorem dX5_open_38 : decode cX5_open 38 = .ok (.iconst 2, 1) := by decide +kernel
theorem dX5_open_39 : decode cX5_open 39 = .ok (.invokevirtual 73, 3) := by decide +kernel
theorem dX5_open_42 : decode cX5_open 42 = .ok (.ireturn, 1) := by decide +kernel
theorem dX5_open_43 : decode cX5_open 43 = .ok (.aload_n 0, 1) := by decide +kernel
theorem dX5_open_44 : decode cX5_open 44 = .ok (.getfield 25, 3) := by decide +kernel
theorem dX5_open_47 : decode cX5_open 47 = .ok (.aload_n 0, 1) := by decide +kernel
theorem dX5_open_48 : decode cX5_open 48 = .ok (.getfield 94, 3) := by decide +kernel
theorem dX5_open_51 : decode cX5_open 51 = .ok (.iload_n 1, 1) := by decide +kernel
theorem dX5_open_52 : decode cX5_open 52 = .ok (.iastore, 1) := by decide +kernel
theorem dX5_open_53 : decode cX5_open 53 = .ok (.aload_n 0, 1) := by decide +kernel
theorem dX5_open_54 : decode cX5_open 54 = .ok (.getfield 28, 3) := by decide +kernel
theorem dX5_open_57 : decode cX5_open 57 = .ok (.aload_n 0, 1) := by decide +kernel
theorem dX5_open_58 : decode cX5_open 58 = .ok (.getfield 94, 3) := by decide +kernel
theorem dX5_open_61 : decode cX5_open 61 = .ok (.aload_n 0, 1) := by decide +kernel
theorem dX5_open_62 : decode cX5_open 62 = .ok (.getfield 85, 3) := by decide +kernel
theorem dX5_open_65 : decode cX5_open 65 = .ok (.iastore, 1) := by decide +kernel
theorem dX5_open_66 : decode cX5_open 66 = .ok (.aload_n 0, 1) := by decide +kernel
theorem dX5_open_67 : decode cX5_open 67 = .ok (.getfield 31, 3) := by decide +kernel
theorem dX5_open_70 : decode cX5_open 70 = .ok (.aload_n 0, 1) := by decide +kernel
theorem dX5_open_71 : decode cX5_open 71 = .ok (.getfield 94, 3) := by decide +kernel
theorem dX5_open_74 : decode cX5_open 74 = .ok (.aload_n 0, 1) := by decide +kernel
theorem dX5_open_75 : decode cX5_open 75 = .ok (.getfield 82, 3) := by decide +kernel
theorem dX5_open_78 : decode cX5_open 78 = .ok (.iastore, 1) := by decide +kernel
theorem dX5_open_79 : decode cX5_open 79 = .ok (.aload_n 0, 1) := by decide +kernel
theorem dX5_open_80 : decode cX5_open 80 = .ok (.getfield 34, 3) := by decide +kernel
theorem dX5_open_83 : decode cX5_open 83 = .ok (.aload_n 0, 1) := by decide +kernel
theorem dX5_open_84 : decode cX5_open 84 = .ok (.getfield 94, 3) := by decide +kernel
theorem dX5_open_87 : decode cX5_open 87 = .ok (.aload_n 0, 1) := by decide +kernel
theorem dX5_open_88 : decode cX5_open 88 = .ok (.getfield 82, 3) := by decide +kernel
theorem dX5_open_91 : decode cX5_open 91 = .ok (.iastore, 1) := by decide +kernel
theorem dX5_open_92 : decode cX5_open 92 = .ok (.aload_n 0, 1) := by decide +kernel
theorem dX5_open_93 : decode cX5_open 93 = .ok (.dup, 1) := by decide +kernel
theorem dX5_open_94 : decode cX5_open 94 = .ok (.getfield 94, 3) := by decide +kernel
theorem dX5_open_97 : decode cX5_open 97 = .ok (.iconst 1, 1) := by decide +kernel
theorem dX5_open_98 : decode cX5_open 98 = .ok (.iadd, 1) := by decide +kernel
theorem dX5_open_99 : decode cX5_open 99 = .ok (.putfield 94, 3) := by decide +kernel
theorem dX5_open_102 : decode cX5_open 102 = .ok (.aload_n 0, 1) := by decide +kernel
theorem dX5_open_103 : decode cX5_open 103 = .ok (.getfield 94, 3) := by decide +kernel
theorem dX5_open_106 : decode cX5_open 106 = .ok (.iconst 1, 1) := by decide +kernel
theorem dX5_open_107 : decode cX5_open 107 = .ok (.isub, 1) := by decide +kernel
theorem dX5_open_108 : decode cX5_open 108 = .ok (.ireturn, 1) := by decide +kernel
set_option maxRecDepth 20000 in
theorem ggX5_isSession_X5_in : GoodIn wsX5_isSession wsX5_in := goodIn_r _ [5] (by decide +kernel) (by decide +kernel)
set_option maxRecDepth 20000 in
theorem gX5_isSession_X5_in : GoodIn wsX5_isSession (va_wsS RX5 51 yX5_in wsX5_in) := goodIn_app (goodIn_of _ (by decide +kernel)) ggX5_isSession_X5_in
theorem dX5_isSession_0 : decode cX5_isSession 0 = .ok (.iload_n 1, 1) := by decide +kernel
theorem dX5_isSession_1 : decode cX5_isSession 1 = .ok (.iconst 0, 1) := by decide +kernel
theorem dX5_isSession_2 : decode cX5_isSession 2 = .ok (.aload_n 0, 1) := by decide +kernel
theorem dX5_isSession_3 : decode cX5_isSession 3 = .ok (.getfield 94, 3) := by decide +kernel
theorem dX5_isSession_6 : decode cX5_isSession 6 = .ok (.iconst 1, 1) := by decide +kernel
theorem dX5_isSession_7 : decode cX5_isSession 7 = .ok (.isub, 1) := by decide +kernel
theorem dX5_isSession_8 : decode cX5_isSession 8 = .ok (.invokestatic 51, 3) := by decide +kernel
theorem dX5_isSession_11 : decode cX5_isSession 11 = .ok (.ireturn, 1) := by decide +kernel
set_option maxRecDepth 20000 in
theorem ggX5_close_X5_isSession : GoodIn wsX5_close wsX5_isSession := goodIn_r _ [9, 10, 11, 12, 8, 13, 18, 19, 20, 21, 22, 23, 24, 25, 26, 27, 28, 29, 30, 31, 32, 33, 34] (by decide +kernel) (by decide +kernel)
set_option maxRecDepth 20000 in
theorem gX5_close_X5_isSession : GoodIn wsX5_close (wsV RX5 103 RX5 yX5_isSession wsX5_isSession) := goodIn_app (goodIn_of _ (by decide +kernel)) ggX5_close_X5_isSession
set_option maxRecDepth 20000 in
theorem ggX5_close_X5_fails : GoodIn wsX5_close wsX5_fails := goodIn_r _ [17, 1, 18, 19, 20, 21, 22, 23, 24, 25, 26, 27, 28, 29, 30, 31, 32, 33, 34] (by decide +kernel) (by decide +kernel)
set_option maxRecDepth 20000 in
theorem gX5_close_X5_fails : GoodIn wsX5_close (wsV RX5 73 RX5 yX5_fails wsX5_fails) := goodIn_app (goodIn_of _ (by decide +kernel)) ggX5_close_X5_fails
theorem dX5_close_0 : decode cX5_close 0 = .ok (.aload_n 0, 1) := by decide +kernel
theorem dX5_close_1 : decode cX5_close 1 = .ok (.iconst 0, 1) := by decide +kernel
theorem dX5_close_2 : decode cX5_close 2 = .ok (.putfield 47, 3) := by decide +kernel
theorem dX5_close_5 : decode cX5_close 5 = .ok (.aload_n 0, 1) := by decide +kernel
theorem dX5_close_6 : decode cX5_close 6 = .ok (.iload_n 1, 1) := by decide +kernel
theorem dX5_close_7 : decode cX5_close 7 = .ok (.invokevirtual 103, 3) := by decide +kernel
theorem dX5_close_10 : decode cX5_close 10 = .ok (.ifCond .ne 9, 3) := by decide +kernel
theorem dX5_close_13 : decode cX5_close 13 = .ok (.aload_n 0, 1) := by decide +kernel
theorem dX5_close_14 : decode cX5_close 14 = .ok (.iconst 1, 1) := by decide +kernel
theorem dX5_close_15 : decode cX5_close 15 = .ok (.invokevirtual 73, 3) := by decide +kernel
theorem dX5_close_18 : decode cX5_close 18 = .ok (.ireturn, 1) := by decide +kernel
theorem dX5_close_19 : decode cX5_close 19 = .ok (.aload_n 0, 1) := by decide +kernel
theorem dX5_close_20 : decode cX5_close 20 = .ok (.getfield 37, 3) := by decide +kernel
theorem dX5_close_23 : decode cX5_close 23 = .ok (.iload_n 1, 1) := by decide +kernel
theorem dX5_close_24 : decode cX5_close 24 = .ok (.baload, 1) := by decide +kernel
theorem dX5_close_25 : decode cX5_close 25 = .ok (.ifCond .eq 9, 3) := by decide +kernel
theorem dX5_close_28 : decode cX5_close 28 = .ok (.aload_n 0, 1) := by decide +kernel
theorem dX5_close_29 : decode cX5_close 29 = .ok (.iconst 2, 1) := by decide +kernel
theorem dX5_close_30 : decode cX5_close 30 = .ok (.invokevirtual 73, 3) := by decide +kernel
theorem dX5_close_33 : decode cX5_close 33 = .ok (.ireturn, 1) := by decide +kernel
theorem dX5_close_34 : decode cX5_close 34 = .ok (.aload_n 0, 1) := by decide +kernel
theorem dX5_close_35 : decode cX5_close 35 = .ok (.getfield 37, 3) := by decide +kernel
theorem dX5_close_38 : decode cX5_close 38 = .ok (.iload_n 1, 1) := by decide +kernel
theorem dX5_close_39 : decode cX5_close 39 = .ok (.iconst 1, 1) := by decide +kernel
theorem dX5_close_40 : decode cX5_close 40 = .ok (.bastore, 1) := by decide +kernel
theorem dX5_close_41 : decode cX5_close 41 = .ok (.aload_n 0, 1) := by decide +kernel
theorem dX5_close_42 : decode cX5_close 42 = .ok (.getfield 82, 3) := by decide +kernel
theorem dX5_close_45 : decode cX5_close 45 = .ok (.aload_n 0, 1) := by decide +kernel
theorem dX5_close_46 : decode cX5_close 46 = .ok (.getfield 31, 3) := by decide +kernel
theorem dX5_close_49 : decode cX5_close 49 = .ok (.iload_n 1, 1) := by decide +kernel
theorem dX5_close_50 : decode cX5_close 50 = .ok (.iaload, 1) := by decide +kernel
theorem dX5_close_51 : decode cX5_close 51 = .ok (.isub, 1) := by decide +kernel
theorem dX5_close_52 : decode cX5_close 52 = .ok (.ireturn, 1) := by decide +kernel
set_option maxRecDepth 20000 in
theorem ggX5_goesOn_X5_isSession : GoodIn wsX5_goesOn wsX5_isSession := goodIn_r _ [7, 8, 9, 10, 6, 11, 12, 13, 14, 15, 16, 17, 18, 19, 20, 21, 22, 23, 24, 25, 26, 27, 28] (by decide +kernel) (by decide +kernel)
set_option maxRecDepth 20000 in
theorem gX5_goesOn_X5_isSession : GoodIn wsX5_goesOn (wsV RX5 103 RX5 yX5_isSession wsX5_isSession) := goodIn_app (goodIn_of _ (by decide +kernel)) ggX5_goesOn_X5_isSession
theorem dX5_goesOn_0 : decode cX5_goesOn 0 = .ok (.aload_n 0, 1) := by decide +kernel
theorem dX5_goesOn_1 : decode cX5_goesOn 1 = .ok (.aload_n 0, 1) := by decide +kernel
theorem dX5_goesOn_2 : decode cX5_goesOn 2 = .ok (.iload_n 1, 1) := by decide +kernel
theorem dX5_goesOn_3 : decode cX5_goesOn 3 = .ok (.invokevirtual 103, 3) := by decide +kernel
theorem dX5_goesOn_6 : decode cX5_goesOn 6 = .ok (.ifCond .eq 7, 3) := by decide +kernel
theorem dX5_goesOn_9 : decode cX5_goesOn 9 = .ok (.iconst 0, 1) := by decide +kernel
theorem dX5_goesOn_10 : decode cX5_goesOn 10 = .ok (.goto 4, 3) := by decide +kernel
theorem dX5_goesOn_13 : decode cX5_goesOn 13 = .ok (.iconst 1, 1) := by decide +kernel
theorem dX5_goesOn_14 : decode cX5_goesOn 14 = .ok (.putfield 47, 3) := by decide +kernel
theorem dX5_goesOn_17 : decode cX5_goesOn 17 = .ok (.aload_n 0, 1) := by decide +kernel
theorem dX5_goesOn_18 : decode cX5_goesOn 18 = .ok (.getfield 47, 3) := by decide +kernel
theorem dX5_goesOn_21 : decode cX5_goesOn 21 = .ok (.ifCond .ne 16, 3) := by decide +kernel
theorem dX5_goesOn_24 : decode cX5_goesOn 24 = .ok (.aload_n 0, 1) := by decide +kernel
theorem dX5_goesOn_25 : decode cX5_goesOn 25 = .ok (.getfield 37, 3) := by decide +kernel
theorem dX5_goesOn_28 : decode cX5_goesOn 28 = .ok (.iload_n 1, 1) := by decide +kernel
theorem dX5_goesOn_29 : decode cX5_goesOn 29 = .ok (.baload, 1) := by decide +kernel
theorem dX5_goesOn_30 : decode cX5_goesOn 30 = .ok (.ifCond .ne 7, 3) := by decide +kernel
theorem dX5_goesOn_33 : decode cX5_goesOn 33 = .ok (.iconst 1, 1) := by decide +kernel
theorem dX5_goesOn_34 : decode cX5_goesOn 34 = .ok (.goto 4, 3) := by decide +kernel
theorem dX5_goesOn_37 : decode cX5_goesOn 37 = .ok (.iconst 0, 1) := by decide +kernel
theorem dX5_goesOn_38 : decode cX5_goesOn 38 = .ok (.ireturn, 1) := by decide +kernel
set_option maxRecDepth 20000 in
theorem ggX5_changeKeys_X5_in : GoodIn wsX5_changeKeys wsX5_in := goodIn_r _ [8] (by decide +kernel) (by decide +kernel)
set_option maxRecDepth 20000 in
theorem gX5_changeKeys_X5_in : GoodIn wsX5_changeKeys (va_wsS RX5 51 yX5_in wsX5_in) := goodIn_app (goodIn_of _ (by decide +kernel)) ggX5_changeKeys_X5_in
set_option maxRecDepth 20000 in
theorem ggX5_changeKeys_X5_fails : GoodIn wsX5_changeKeys wsX5_fails := goodIn_r _ [12, 1, 32, 33, 34, 35, 36, 37, 38, 39, 40, 41, 42, 43, 44, 45, 46, 47, 48] (by decide +kernel) (by decide +kernel)
set_option maxRecDepth 20000 in
theorem gX5_changeKeys_X5_fails : GoodIn wsX5_changeKeys (wsV RX5 73 RX5 yX5_fails wsX5_fails) := goodIn_app (goodIn_of _ (by decide +kernel)) ggX5_changeKeys_X5_fails
set_option maxRecDepth 20000 in
theorem ggX5_changeKeys_X5_sweeps : GoodIn wsX5_changeKeys wsX5_sweeps := goodIn_r _ [16, 17, 18, 19, 20, 21, 7, 22, 3, 23, 24, 25, 26, 27, 28, 29, 30, 31, 2, 4, 32, 33, 34, 35, 36, 37, 38, 39, 40, 41, 42, 43, 44, 45, 46, 47, 48] (by decide +kernel) (by decide +kernel)
set_option maxRecDepth 20000 in
theorem gX5_changeKeys_X5_sweeps : GoodIn wsX5_changeKeys (wsV RX5 106 RX5 yX5_sweeps wsX5_sweeps) := goodIn_app (goodIn_of _ (by decide +kernel)) ggX5_changeKeys_X5_sweeps
theorem dX5_changeKeys_0 : decode cX5_changeKeys 0 = .ok (.aload_n 0, 1) := by decide +kernel
theorem dX5_changeKeys_1 : decode cX5_changeKeys 1 = .ok (.iconst 0, 1) := by decide +kernel
theorem dX5_changeKeys_2 : decode cX5_changeKeys 2 = .ok (.putfield 47, 3) := by decide +kernel
theorem dX5_changeKeys_5 : decode cX5_changeKeys 5 = .ok (.iload_n 1, 1) := by decide +kernel
theorem dX5_changeKeys_6 : decode cX5_changeKeys 6 = .ok (.iconst 0, 1) := by decide +kernel
theorem dX5_changeKeys_7 : decode cX5_changeKeys 7 = .ok (.sipush 300, 3) := by decide +kernel
theorem dX5_changeKeys_10 : decode cX5_changeKeys 10 = .ok (.invokestatic 51, 3) := by decide +kernel
theorem dX5_changeKeys_13 : decode cX5_changeKeys 13 = .ok (.ifCond .ne 9, 3) := by decide +kernel
theorem dX5_changeKeys_16 : decode cX5_changeKeys 16 = .ok (.aload_n 0, 1) := by decide +kernel
theorem dX5_changeKeys_17 : decode cX5_changeKeys 17 = .ok (.iconst 1, 1) := by decide +kernel
theorem dX5_changeKeys_18 : decode cX5_changeKeys 18 = .ok (.invokevirtual 73, 3) := by decide +kernel
theorem dX5_changeKeys_21 : decode cX5_changeKeys 21 = .ok (.ireturn, 1) := by decide +kernel
theorem dX5_changeKeys_22 : decode cX5_changeKeys 22 = .ok (.aload_n 0, 1) := by decide +kernel
theorem dX5_changeKeys_23 : decode cX5_changeKeys 23 = .ok (.dup, 1) := by decide +kernel
theorem dX5_changeKeys_24 : decode cX5_changeKeys 24 = .ok (.getfield 85, 3) := by decide +kernel
theorem dX5_changeKeys_27 : decode cX5_changeKeys 27 = .ok (.iconst 1, 1) := by decide +kernel
theorem dX5_changeKeys_28 : decode cX5_changeKeys 28 = .ok (.iadd, 1) := by decide +kernel
theorem dX5_changeKeys_29 : decode cX5_changeKeys 29 = .ok (.putfield 85, 3) := by decide +kernel
theorem dX5_changeKeys_32 : decode cX5_changeKeys 32 = .ok (.aload_n 0, 1) := by decide +kernel
theorem dX5_changeKeys_33 : decode cX5_changeKeys 33 = .ok (.aload_n 0, 1) := by decide +kernel
theorem dX5_changeKeys_34 : decode cX5_changeKeys 34 = .ok (.getfield 82, 3) := by decide +kernel
theorem dX5_changeKeys_37 : decode cX5_changeKeys 37 = .ok (.iload_n 1, 1) := by decide +kernel
theorem dX5_changeKeys_38 : decode cX5_changeKeys 38 = .ok (.iadd, 1) := by decide +kernel
theorem dX5_changeKeys_39 : decode cX5_changeKeys 39 = .ok (.putfield 88, 3) := by decide +kernel
theorem dX5_changeKeys_42 : decode cX5_changeKeys 42 = .ok (.aload_n 0, 1) := by decide +kernel
theorem dX5_changeKeys_43 : decode cX5_changeKeys 43 = .ok (.invokevirtual 106, 3) := by decide +kernel
theorem dX5_changeKeys_46 : decode cX5_changeKeys 46 = .ok (.istore_n 2, 1) := by decide +kernel
theorem dX5_changeKeys_47 : decode cX5_changeKeys 47 = .ok (.aload_n 0, 1) := by decide +kernel
theorem dX5_changeKeys_48 : decode cX5_changeKeys 48 = .ok (.getfield 85, 3) := by decide +kernel
theorem dX5_changeKeys_51 : decode cX5_changeKeys 51 = .ok (.ireturn, 1) := by decide +kernel
set_option maxRecDepth 20000 in
theorem ggX5_isTaken_X5_in : GoodIn wsX5_isTaken wsX5_in := goodIn_r _ [6] (by decide +kernel) (by decide +kernel)
set_option maxRecDepth 20000 in
theorem gX5_isTaken_X5_in : GoodIn wsX5_isTaken (va_wsS RX5 51 yX5_in wsX5_in) := goodIn_app (goodIn_of _ (by decide +kernel)) ggX5_isTaken_X5_in
set_option maxRecDepth 20000 in
theorem ggX5_isTaken_X5_isKey : GoodIn wsX5_isTaken wsX5_isKey := goodIn_r _ [10, 1, 11, 12, 13, 14, 15, 16, 17, 18, 19, 20, 21, 22, 23, 24, 25, 26, 27, 28, 29] (by decide +kernel) (by decide +kernel)
set_option maxRecDepth 20000 in
theorem gX5_isTaken_X5_isKey : GoodIn wsX5_isTaken (wsV RX5 91 RX5 yX5_isKey wsX5_isKey) := goodIn_app (goodIn_of _ (by decide +kernel)) ggX5_isTaken_X5_isKey
theorem dX5_isTaken_0 : decode cX5_isTaken 0 = .ok (.aload_n 0, 1) := by decide +kernel
theorem dX5_isTaken_1 : decode cX5_isTaken 1 = .ok (.iload_n 1, 1) := by decide +kernel
theorem dX5_isTaken_2 : decode cX5_isTaken 2 = .ok (.iconst 0, 1) := by decide +kernel
theorem dX5_isTaken_3 : decode cX5_isTaken 3 = .ok (.aload_n 0, 1) := by decide +kernel
theorem dX5_isTaken_4 : decode cX5_isTaken 4 = .ok (.getfield 85, 3) := by decide +kernel
theorem dX5_isTaken_7 : decode cX5_isTaken 7 = .ok (.invokestatic 51, 3) := by decide +kernel
theorem dX5_isTaken_10 : decode cX5_isTaken 10 = .ok (.ifCond .eq 7, 3) := by decide +kernel
theorem dX5_isTaken_13 : decode cX5_isTaken 13 = .ok (.iconst 0, 1) := by decide +kernel
theorem dX5_isTaken_14 : decode cX5_isTaken 14 = .ok (.goto 4, 3) := by decide +kernel
theorem dX5_isTaken_17 : decode cX5_isTaken 17 = .ok (.iconst 1, 1) := by decide +kernel
theorem dX5_isTaken_18 : decode cX5_isTaken 18 = .ok (.putfield 47, 3) := by decide +kernel
theorem dX5_isTaken_21 : decode cX5_isTaken 21 = .ok (.aload_n 0, 1) := by decide +kernel
theorem dX5_isTaken_22 : decode cX5_isTaken 22 = .ok (.getfield 47, 3) := by decide +kernel
theorem dX5_isTaken_25 : decode cX5_isTaken 25 = .ok (.ifCond .ne 15, 3) := by decide +kernel
theorem dX5_isTaken_28 : decode cX5_isTaken 28 = .ok (.aload_n 0, 1) := by decide +kernel
theorem dX5_isTaken_29 : decode cX5_isTaken 29 = .ok (.iload_n 1, 1) := by decide +kernel
theorem dX5_isTaken_30 : decode cX5_isTaken 30 = .ok (.invokevirtual 91, 3) := by decide +kernel
theorem dX5_isTaken_33 : decode cX5_isTaken 33 = .ok (.ifCond .eq 7, 3) := by decide +kernel
theorem dX5_isTaken_36 : decode cX5_isTaken 36 = .ok (.iconst 1, 1) := by decide +kernel
theorem dX5_isTaken_37 : decode cX5_isTaken 37 = .ok (.goto 4, 3) := by decide +kernel
theorem dX5_isTaken_40 : decode cX5_isTaken 40 = .ok (.iconst 0, 1) := by decide +kernel
theorem dX5_isTaken_41 : decode cX5_isTaken 41 = .ok (.ireturn, 1) := by decide +kernel
set_option maxRecDepth 20000 in
theorem ggX5_pass_X5_in : GoodIn wsX5_pass wsX5_in := goodIn_r _ [6] (by decide +kernel) (by decide +kernel)
set_option maxRecDepth 20000 in
theorem gX5_pass_X5_in : GoodIn wsX5_pass (va_wsS RX5 51 yX5_in wsX5_in) := goodIn_app (goodIn_of _ (by decide +kernel)) ggX5_pass_X5_in
set_option maxRecDepth 20000 in
theorem ggX5_pass_X5_fails : GoodIn wsX5_pass wsX5_fails := goodIn_r _ [10, 1, 32, 33, 34, 35, 36, 37, 38, 39, 40, 41, 42, 43, 44, 45, 46, 47, 48] (by decide +kernel) (by decide +kernel)
set_option maxRecDepth 20000 in
theorem gX5_pass_X5_fails : GoodIn wsX5_pass (wsV RX5 73 RX5 yX5_fails wsX5_fails) := goodIn_app (goodIn_of _ (by decide +kernel)) ggX5_pass_X5_fails
set_option maxRecDepth 20000 in
theorem ggX5_pass_X5_sweeps : GoodIn wsX5_pass wsX5_sweeps := goodIn_r _ [14, 15, 16, 17, 18, 19, 5, 20, 2, 21, 22, 23, 24, 25, 26, 27, 28, 29, 30, 31, 32, 33, 34, 35, 36, 37, 38, 39, 40, 41, 42, 43, 44, 45, 46, 47, 48] (by decide +kernel) (by decide +kernel)
set_option maxRecDepth 20000 in
theorem gX5_pass_X5_sweeps : GoodIn wsX5_pass (wsV RX5 106 RX5 yX5_sweeps wsX5_sweeps) := goodIn_app (goodIn_of _ (by decide +kernel)) ggX5_pass_X5_sweeps
theorem dX5_pass_0 : decode cX5_pass 0 = .ok (.aload_n 0, 1) := by decide +kernel
theorem dX5_pass_1 : decode cX5_pass 1 = .ok (.iconst 0, 1) := by decide +kernel
theorem dX5_pass_2 : decode cX5_pass 2 = .ok (.putfield 47, 3) := by decide +kernel
theorem dX5_pass_5 : decode cX5_pass 5 = .ok (.iload_n 1, 1) := by decide +kernel
theorem dX5_pass_6 : decode cX5_pass 6 = .ok (.iconst 1, 1) := by decide +kernel
theorem dX5_pass_7 : decode cX5_pass 7 = .ok (.sipush 300, 3) := by decide +kernel
theorem dX5_pass_10 : decode cX5_pass 10 = .ok (.invokestatic 51, 3) := by decide +kernel
theorem dX5_pass_13 : decode cX5_pass 13 = .ok (.ifCond .ne 9, 3) := by decide +kernel
theorem dX5_pass_16 : decode cX5_pass 16 = .ok (.aload_n 0, 1) := by decide +kernel
theorem dX5_pass_17 : decode cX5_pass 17 = .ok (.iconst 1, 1) := by decide +kernel
theorem dX5_pass_18 : decode cX5_pass 18 = .ok (.invokevirtual 73, 3) := by decide +kernel
theorem dX5_pass_21 : decode cX5_pass 21 = .ok (.ireturn, 1) := by decide +kernel
theorem dX5_pass_22 : decode cX5_pass 22 = .ok (.aload_n 0, 1) := by decide +kernel
theorem dX5_pass_23 : decode cX5_pass 23 = .ok (.dup, 1) := by decide +kernel
theorem dX5_pass_24 : decode cX5_pass 24 = .ok (.getfield 82, 3) := by decide +kernel
theorem dX5_pass_27 : decode cX5_pass 27 = .ok (.iload_n 1, 1) := by decide +kernel
theorem dX5_pass_28 : decode cX5_pass 28 = .ok (.iadd, 1) := by decide +kernel
theorem dX5_pass_29 : decode cX5_pass 29 = .ok (.putfield 82, 3) := by decide +kernel
theorem dX5_pass_32 : decode cX5_pass 32 = .ok (.aload_n 0, 1) := by decide +kernel
theorem dX5_pass_33 : decode cX5_pass 33 = .ok (.invokevirtual 106, 3) := by decide +kernel
theorem dX5_pass_36 : decode cX5_pass 36 = .ok (.ireturn, 1) := by decide +kernel
theorem dX5_now_0 : decode cX5_now 0 = .ok (.aload_n 0, 1) := by decide +kernel
theorem dX5_now_1 : decode cX5_now 1 = .ok (.iconst 0, 1) := by decide +kernel
theorem dX5_now_2 : decode cX5_now 2 = .ok (.putfield 47, 3) := by decide +kernel
theorem dX5_now_5 : decode cX5_now 5 = .ok (.aload_n 0, 1) := by decide +kernel
theorem dX5_now_6 : decode cX5_now 6 = .ok (.getfield 82, 3) := by decide +kernel
theorem dX5_now_9 : decode cX5_now 9 = .ok (.ireturn, 1) := by decide +kernel
set_option maxRecDepth 20000 in
theorem ggX5_serves_X5_finds : GoodIn wsX5_serves wsX5_finds := goodIn_r _ [6, 7, 8, 9, 10, 5, 11, 12, 13, 14, 15, 16, 17, 18, 19, 20, 21, 22, 23, 24, 25, 26, 27, 28, 29, 30, 31, 32, 33, 34, 35, 36, 37] (by decide +kernel) (by decide +kernel)
set_option maxRecDepth 20000 in
theorem gX5_serves_X5_finds : GoodIn wsX5_serves (wsV RX5 79 RX5 yX5_finds wsX5_finds) := goodIn_app (goodIn_of _ (by decide +kernel)) ggX5_serves_X5_finds
theorem dX5_serves_0 : decode cX5_serves 0 = .ok (.aload_n 0, 1) := by decide +kernel
theorem dX5_serves_1 : decode cX5_serves 1 = .ok (.getfield 19, 3) := by decide +kernel
theorem dX5_serves_4 : decode cX5_serves 4 = .ok (.iload_n 1, 1) := by decide +kernel
theorem dX5_serves_5 : decode cX5_serves 5 = .ok (.iaload, 1) := by decide +kernel
theorem dX5_serves_6 : decode cX5_serves 6 = .ok (.iconst 3, 1) := by decide +kernel
theorem dX5_serves_7 : decode cX5_serves 7 = .ok (.if_icmp .ge 17, 3) := by decide +kernel
theorem dX5_serves_10 : decode cX5_serves 10 = .ok (.aload_n 0, 1) := by decide +kernel
theorem dX5_serves_11 : decode cX5_serves 11 = .ok (.iload_n 1, 1) := by decide +kernel
theorem dX5_serves_12 : decode cX5_serves 12 = .ok (.iload_n 2, 1) := by decide +kernel
theorem dX5_serves_13 : decode cX5_serves 13 = .ok (.iconst 1, 1) := by decide +kernel
theorem dX5_serves_14 : decode cX5_serves 14 = .ok (.invokevirtual 79, 3) := by decide +kernel
theorem dX5_serves_17 : decode cX5_serves 17 = .ok (.ifCond .eq 7, 3) := by decide +kernel
theorem dX5_serves_20 : decode cX5_serves 20 = .ok (.iconst 1, 1) := by decide +kernel
theorem dX5_serves_21 : decode cX5_serves 21 = .ok (.goto 4, 3) := by decide +kernel
theorem dX5_serves_24 : decode cX5_serves 24 = .ok (.iconst 0, 1) := by decide +kernel
theorem dX5_serves_25 : decode cX5_serves 25 = .ok (.ireturn, 1) := by decide +kernel
set_option maxRecDepth 20000 in
theorem ggX5_breakGlass_X5_isPerson : GoodIn wsX5_breakGlass wsX5_isPerson := goodIn_r _ [7, 8, 9, 6, 10] (by decide +kernel) (by decide +kernel)
set_option maxRecDepth 20000 in
theorem gX5_breakGlass_X5_isPerson : GoodIn wsX5_breakGlass (va_wsS RX5 63 yX5_isPerson wsX5_isPerson) := goodIn_app (goodIn_of _ (by decide +kernel)) ggX5_breakGlass_X5_isPerson
set_option maxRecDepth 20000 in
theorem ggX5_breakGlass_X5_isRole : GoodIn wsX5_breakGlass wsX5_isRole := goodIn_r _ [13, 8, 9, 6, 10] (by decide +kernel) (by decide +kernel)
set_option maxRecDepth 20000 in
theorem gX5_breakGlass_X5_isRole : GoodIn wsX5_breakGlass (va_wsS RX5 70 yX5_isRole wsX5_isRole) := goodIn_app (goodIn_of _ (by decide +kernel)) ggX5_breakGlass_X5_isRole
set_option maxRecDepth 20000 in
theorem ggX5_breakGlass_X5_fails : GoodIn wsX5_breakGlass wsX5_fails := goodIn_r _ [17, 1, 41, 42, 43, 44, 45, 46, 47, 48, 49, 50, 51, 52, 53, 54, 55, 56, 57] (by decide +kernel) (by decide +kernel)
set_option maxRecDepth 20000 in
theorem gX5_breakGlass_X5_fails : GoodIn wsX5_breakGlass (wsV RX5 73 RX5 yX5_fails wsX5_fails) := goodIn_app (goodIn_of _ (by decide +kernel)) ggX5_breakGlass_X5_fails
set_option maxRecDepth 20000 in
theorem ggX5_breakGlass_X5_serves : GoodIn wsX5_breakGlass wsX5_serves := goodIn_r _ [21, 22, 23, 24, 25, 6, 26, 27, 28, 29, 30, 31, 32, 33, 34, 35, 36, 37, 38, 39, 40, 41, 42, 43, 44, 45, 46, 47, 48, 49, 50, 51, 52, 53, 54, 55, 56, 57] (by decide +kernel) (by decide +kernel)
set_option maxRecDepth 20000 in
theorem gX5_breakGlass_X5_serves : GoodIn wsX5_breakGlass (wsV RX5 110 RX5 yX5_serves wsX5_serves) := goodIn_app (goodIn_of _ (by decide +kernel)) ggX5_breakGlass_X5_serves
theorem dX5_breakGlass_0 : decode cX5_breakGlass 0 = .ok (.aload_n 0, 1) := by decide +kernel
theorem dX5_breakGlass_1 : decode cX5_breakGlass 1 = .ok (.iconst 0, 1) := by decide +kernel
theorem dX5_breakGlass_2 : decode cX5_breakGlass 2 = .ok (.putfield 47, 3) := by decide +kernel
theorem dX5_breakGlass_5 : decode cX5_breakGlass 5 = .ok (.iload_n 1, 1) := by decide +kernel
theorem dX5_breakGlass_6 : decode cX5_breakGlass 6 = .ok (.invokestatic 63, 3) := by decide +kernel
theorem dX5_breakGlass_9 : decode cX5_breakGlass 9 = .ok (.ifCond .eq 42, 3) := by decide +kernel
theorem dX5_breakGlass_12 : decode cX5_breakGlass 12 = .ok (.iload_n 2, 1) := by decide +kernel
theorem dX5_breakGlass_13 : decode cX5_breakGlass 13 = .ok (.invokestatic 70, 3) := by decide +kernel
theorem dX5_breakGlass_16 : decode cX5_breakGlass 16 = .ok (.ifCond .eq 35, 3) := by decide +kernel
theorem dX5_breakGlass_19 : decode cX5_breakGlass 19 = .ok (.iload_n 3, 1) := by decide +kernel
theorem dX5_breakGlass_20 : decode cX5_breakGlass 20 = .ok (.invokestatic 63, 3) := by decide +kernel
theorem dX5_breakGlass_23 : decode cX5_breakGlass 23 = .ok (.ifCond .eq 28, 3) := by decide +kernel
theorem dX5_breakGlass_26 : decode cX5_breakGlass 26 = .ok (.iload 4, 2) := by decide +kernel
theorem dX5_breakGlass_28 : decode cX5_breakGlass 28 = .ok (.invokestatic 63, 3) := by decide +kernel
theorem dX5_breakGlass_31 : decode cX5_breakGlass 31 = .ok (.ifCond .eq 20, 3) := by decide +kernel
theorem dX5_breakGlass_34 : decode cX5_breakGlass 34 = .ok (.iload_n 1, 1) := by decide +kernel
theorem dX5_breakGlass_35 : decode cX5_breakGlass 35 = .ok (.iload_n 3, 1) := by decide +kernel
theorem dX5_breakGlass_36 : decode cX5_breakGlass 36 = .ok (.if_icmp .eq 15, 3) := by decide +kernel
theorem dX5_breakGlass_39 : decode cX5_breakGlass 39 = .ok (.iload_n 1, 1) := by decide +kernel
theorem dX5_breakGlass_40 : decode cX5_breakGlass 40 = .ok (.iload 4, 2) := by decide +kernel
theorem dX5_breakGlass_42 : decode cX5_breakGlass 42 = .ok (.if_icmp .eq 9, 3) := by decide +kernel
theorem dX5_breakGlass_45 : decode cX5_breakGlass 45 = .ok (.iload_n 3, 1) := by decide +kernel
theorem dX5_breakGlass_46 : decode cX5_breakGlass 46 = .ok (.iload 4, 2) := by decide +kernel
theorem dX5_breakGlass_48 : decode cX5_breakGlass 48 = .ok (.if_icmp .ne 9, 3) := by decide +kernel
theorem dX5_breakGlass_51 : decode cX5_breakGlass 51 = .ok (.aload_n 0, 1) := by decide +kernel
theorem dX5_breakGlass_52 : decode cX5_breakGlass 52 = .ok (.iconst 1, 1) := by decide +kernel
theorem dX5_breakGlass_53 : decode cX5_breakGlass 53 = .ok (.invokevirtual 73, 3) := by decide +kernel
theorem dX5_breakGlass_56 : decode cX5_breakGlass 56 = .ok (.ireturn, 1) := by decide +kernel
theorem dX5_breakGlass_57 : decode cX5_breakGlass 57 = .ok (.aload_n 0, 1) := by decide +kernel
theorem dX5_breakGlass_58 : decode cX5_breakGlass 58 = .ok (.iload_n 3, 1) := by decide +kernel
theorem dX5_breakGlass_59 : decode cX5_breakGlass 59 = .ok (.iload_n 2, 1) := by decide +kernel
theorem dX5_breakGlass_60 : decode cX5_breakGlass 60 = .ok (.invokevirtual 110, 3) := by decide +kernel
theorem dX5_breakGlass_63 : decode cX5_breakGlass 63 = .ok (.ifCond .eq 13, 3) := by decide +kernel
theorem dX5_breakGlass_66 : decode cX5_breakGlass 66 = .ok (.aload_n 0, 1) := by decide +kernel
theorem dX5_breakGlass_67 : decode cX5_breakGlass 67 = .ok (.iload 4, 2) := by decide +kernel
theorem dX5_breakGlass_69 : decode cX5_breakGlass 69 = .ok (.iload_n 2, 1) := by decide +kernel
theorem dX5_breakGlass_70 : decode cX5_breakGlass 70 = .ok (.invokevirtual 110, 3) := by decide +kernel
theorem dX5_breakGlass_73 : decode cX5_breakGlass 73 = .ok (.ifCond .ne 9, 3) := by decide +kernel
theorem dX5_breakGlass_76 : decode cX5_breakGlass 76 = .ok (.aload_n 0, 1) := by decide +kernel
theorem dX5_breakGlass_77 : decode cX5_breakGlass 77 = .ok (.iconst 2, 1) := by decide +kernel
theorem dX5_breakGlass_78 : decode cX5_breakGlass 78 = .ok (.invokevirtual 73, 3) := by decide +kernel
theorem dX5_breakGlass_81 : decode cX5_breakGlass 81 = .ok (.ireturn, 1) := by decide +kernel
theorem dX5_breakGlass_82 : decode cX5_breakGlass 82 = .ok (.aload_n 0, 1) := by decide +kernel
theorem dX5_breakGlass_83 : decode cX5_breakGlass 83 = .ok (.getfield 22, 3) := by decide +kernel
theorem dX5_breakGlass_86 : decode cX5_breakGlass 86 = .ok (.bipush 6, 2) := by decide +kernel
theorem dX5_breakGlass_88 : decode cX5_breakGlass 88 = .ok (.iload_n 1, 1) := by decide +kernel
theorem dX5_breakGlass_89 : decode cX5_breakGlass 89 = .ok (.imul, 1) := by decide +kernel
theorem dX5_breakGlass_90 : decode cX5_breakGlass 90 = .ok (.iload_n 2, 1) := by decide +kernel
theorem dX5_breakGlass_91 : decode cX5_breakGlass 91 = .ok (.iadd, 1) := by decide +kernel
theorem dX5_breakGlass_92 : decode cX5_breakGlass 92 = .ok (.aload_n 0, 1) := by decide +kernel
theorem dX5_breakGlass_93 : decode cX5_breakGlass 93 = .ok (.getfield 82, 3) := by decide +kernel
theorem dX5_breakGlass_96 : decode cX5_breakGlass 96 = .ok (.bipush 60, 2) := by decide +kernel
theorem dX5_breakGlass_98 : decode cX5_breakGlass 98 = .ok (.iadd, 1) := by decide +kernel
theorem dX5_breakGlass_99 : decode cX5_breakGlass 99 = .ok (.iastore, 1) := by decide +kernel
theorem dX5_breakGlass_100 : decode cX5_breakGlass 100 = .ok (.aload_n 0, 1) := by decide +kernel
end
section
theorem dX5_breakGlass_101 : decode cX5_breakGlass 101 = .ok (.getfield 82, 3) := by decide +kernel
theorem dX5_breakGlass_104 : decode cX5_breakGlass 104 = .ok (.bipush 60, 2) := by decide +kernel
theorem dX5_breakGlass_106 : decode cX5_breakGlass 106 = .ok (.iadd, 1) := by decide +kernel
theorem dX5_breakGlass_107 : decode cX5_breakGlass 107 = .ok (.ireturn, 1) := by decide +kernel
theorem dX5_keeps_0 : decode cX5_keeps 0 = .ok (.aload_n 0, 1) := by decide +kernel
theorem dX5_keeps_1 : decode cX5_keeps 1 = .ok (.getfield 44, 3) := by decide +kernel
theorem dX5_keeps_4 : decode cX5_keeps 4 = .ok (.iload_n 2, 1) := by decide +kernel
theorem dX5_keeps_5 : decode cX5_keeps 5 = .ok (.iaload, 1) := by decide +kernel
theorem dX5_keeps_6 : decode cX5_keeps 6 = .ok (.iconst (-1), 1) := by decide +kernel
theorem dX5_keeps_7 : decode cX5_keeps 7 = .ok (.if_icmp .eq 29, 3) := by decide +kernel
theorem dX5_keeps_10 : decode cX5_keeps 10 = .ok (.aload_n 0, 1) := by decide +kernel
theorem dX5_keeps_11 : decode cX5_keeps 11 = .ok (.getfield 82, 3) := by decide +kernel
theorem dX5_keeps_14 : decode cX5_keeps 14 = .ok (.aload_n 0, 1) := by decide +kernel
theorem dX5_keeps_15 : decode cX5_keeps 15 = .ok (.getfield 44, 3) := by decide +kernel
theorem dX5_keeps_18 : decode cX5_keeps 18 = .ok (.iload_n 2, 1) := by decide +kernel
theorem dX5_keeps_19 : decode cX5_keeps 19 = .ok (.iaload, 1) := by decide +kernel
theorem dX5_keeps_20 : decode cX5_keeps 20 = .ok (.iconst 2, 1) := by decide +kernel
theorem dX5_keeps_21 : decode cX5_keeps 21 = .ok (.idiv, 1) := by decide +kernel
theorem dX5_keeps_22 : decode cX5_keeps 22 = .ok (.isub, 1) := by decide +kernel
theorem dX5_keeps_23 : decode cX5_keeps 23 = .ok (.aload_n 0, 1) := by decide +kernel
theorem dX5_keeps_24 : decode cX5_keeps 24 = .ok (.getfield 41, 3) := by decide +kernel
theorem dX5_keeps_27 : decode cX5_keeps 27 = .ok (.iload_n 1, 1) := by decide +kernel
theorem dX5_keeps_28 : decode cX5_keeps 28 = .ok (.iaload, 1) := by decide +kernel
theorem dX5_keeps_29 : decode cX5_keeps 29 = .ok (.if_icmp .ge 7, 3) := by decide +kernel
theorem dX5_keeps_32 : decode cX5_keeps 32 = .ok (.iconst 1, 1) := by decide +kernel
theorem dX5_keeps_33 : decode cX5_keeps 33 = .ok (.goto 4, 3) := by decide +kernel
theorem dX5_keeps_36 : decode cX5_keeps 36 = .ok (.iconst 0, 1) := by decide +kernel
theorem dX5_keeps_37 : decode cX5_keeps 37 = .ok (.ireturn, 1) := by decide +kernel
set_option maxRecDepth 20000 in
theorem ggX5_drops_X5_keeps : GoodIn wsX5_drops wsX5_keeps := goodIn_r _ [6, 1, 7, 8, 9, 10, 11, 12, 13, 14, 15, 16, 17, 18, 19, 20, 21, 22, 23, 24, 25] (by decide +kernel) (by decide +kernel)
set_option maxRecDepth 20000 in
theorem gX5_drops_X5_keeps : GoodIn wsX5_drops (wsV RX5 113 RX5 yX5_keeps wsX5_keeps) := goodIn_app (goodIn_of _ (by decide +kernel)) ggX5_drops_X5_keeps
theorem dX5_drops_0 : decode cX5_drops 0 = .ok (.bipush 60, 2) := by decide +kernel
theorem dX5_drops_2 : decode cX5_drops 2 = .ok (.iload_n 1, 1) := by decide +kernel
theorem dX5_drops_3 : decode cX5_drops 3 = .ok (.imul, 1) := by decide +kernel
theorem dX5_drops_4 : decode cX5_drops 4 = .ok (.istore_n 2, 1) := by decide +kernel
theorem dX5_drops_5 : decode cX5_drops 5 = .ok (.iload_n 2, 1) := by decide +kernel
theorem dX5_drops_6 : decode cX5_drops 6 = .ok (.bipush 60, 2) := by decide +kernel
theorem dX5_drops_8 : decode cX5_drops 8 = .ok (.iload_n 1, 1) := by decide +kernel
theorem dX5_drops_9 : decode cX5_drops 9 = .ok (.imul, 1) := by decide +kernel
theorem dX5_drops_10 : decode cX5_drops 10 = .ok (.bipush 60, 2) := by decide +kernel
theorem dX5_drops_12 : decode cX5_drops 12 = .ok (.iadd, 1) := by decide +kernel
theorem dX5_drops_13 : decode cX5_drops 13 = .ok (.if_icmp .ge 34, 3) := by decide +kernel
theorem dX5_drops_16 : decode cX5_drops 16 = .ok (.aload_n 0, 1) := by decide +kernel
theorem dX5_drops_17 : decode cX5_drops 17 = .ok (.getfield 44, 3) := by decide +kernel
theorem dX5_drops_20 : decode cX5_drops 20 = .ok (.iload_n 2, 1) := by decide +kernel
theorem dX5_drops_21 : decode cX5_drops 21 = .ok (.aload_n 0, 1) := by decide +kernel
theorem dX5_drops_22 : decode cX5_drops 22 = .ok (.iload_n 1, 1) := by decide +kernel
theorem dX5_drops_23 : decode cX5_drops 23 = .ok (.iload_n 2, 1) := by decide +kernel
theorem dX5_drops_24 : decode cX5_drops 24 = .ok (.invokevirtual 113, 3) := by decide +kernel
theorem dX5_drops_27 : decode cX5_drops 27 = .ok (.ifCond .eq 12, 3) := by decide +kernel
theorem dX5_drops_30 : decode cX5_drops 30 = .ok (.aload_n 0, 1) := by decide +kernel
theorem dX5_drops_31 : decode cX5_drops 31 = .ok (.getfield 44, 3) := by decide +kernel
theorem dX5_drops_34 : decode cX5_drops 34 = .ok (.iload_n 2, 1) := by decide +kernel
theorem dX5_drops_35 : decode cX5_drops 35 = .ok (.iaload, 1) := by decide +kernel
theorem dX5_drops_36 : decode cX5_drops 36 = .ok (.goto 4, 3) := by decide +kernel
theorem dX5_drops_39 : decode cX5_drops 39 = .ok (.iconst (-1), 1) := by decide +kernel
theorem dX5_drops_40 : decode cX5_drops 40 = .ok (.iastore, 1) := by decide +kernel
theorem dX5_drops_41 : decode cX5_drops 41 = .ok (.iinc 2 1, 3) := by decide +kernel
theorem dX5_drops_44 : decode cX5_drops 44 = .ok (.goto (-39), 3) := by decide +kernel
theorem dX5_drops_47 : decode cX5_drops 47 = .ok (.return_, 1) := by decide +kernel
set_option maxRecDepth 20000 in
theorem ggX5_setCache_X5_isApp : GoodIn wsX5_setCache wsX5_isApp := goodIn_r _ [6, 7, 8, 5, 9] (by decide +kernel) (by decide +kernel)
set_option maxRecDepth 20000 in
theorem gX5_setCache_X5_isApp : GoodIn wsX5_setCache (va_wsS RX5 116 yX5_isApp wsX5_isApp) := goodIn_app (goodIn_of _ (by decide +kernel)) ggX5_setCache_X5_isApp
set_option maxRecDepth 20000 in
theorem ggX5_setCache_X5_in : GoodIn wsX5_setCache wsX5_in := goodIn_r _ [9] (by decide +kernel) (by decide +kernel)
set_option maxRecDepth 20000 in
theorem gX5_setCache_X5_in : GoodIn wsX5_setCache (va_wsS RX5 51 yX5_in wsX5_in) := goodIn_app (goodIn_of _ (by decide +kernel)) ggX5_setCache_X5_in
set_option maxRecDepth 20000 in
theorem ggX5_setCache_X5_fails : GoodIn wsX5_setCache wsX5_fails := goodIn_r _ [13, 1, 24, 25, 26, 27, 28, 29, 30, 31, 32, 33, 34, 35, 36, 37, 38, 39, 40] (by decide +kernel) (by decide +kernel)
set_option maxRecDepth 20000 in
theorem gX5_setCache_X5_fails : GoodIn wsX5_setCache (wsV RX5 73 RX5 yX5_fails wsX5_fails) := goodIn_app (goodIn_of _ (by decide +kernel)) ggX5_setCache_X5_fails
set_option maxRecDepth 20000 in
theorem ggX5_setCache_X5_drops : GoodIn wsX5_setCache wsX5_drops := goodIn_r _ [17, 18, 19, 20, 21, 5, 22, 23, 2, 24, 25, 26, 27, 28, 29, 30, 31, 32, 33, 34, 35, 36, 37, 38, 39, 40] (by decide +kernel) (by decide +kernel)
set_option maxRecDepth 20000 in
theorem gX5_setCache_X5_drops : GoodIn wsX5_setCache (wsV RX5 119 RX5 yX5_drops wsX5_drops) := goodIn_app (goodIn_of _ (by decide +kernel)) ggX5_setCache_X5_drops
theorem dX5_setCache_0 : decode cX5_setCache 0 = .ok (.aload_n 0, 1) := by decide +kernel
theorem dX5_setCache_1 : decode cX5_setCache 1 = .ok (.iconst 0, 1) := by decide +kernel
theorem dX5_setCache_2 : decode cX5_setCache 2 = .ok (.putfield 47, 3) := by decide +kernel
theorem dX5_setCache_5 : decode cX5_setCache 5 = .ok (.iload_n 1, 1) := by decide +kernel
theorem dX5_setCache_6 : decode cX5_setCache 6 = .ok (.invokestatic 116, 3) := by decide +kernel
theorem dX5_setCache_9 : decode cX5_setCache 9 = .ok (.ifCond .eq 13, 3) := by decide +kernel
theorem dX5_setCache_12 : decode cX5_setCache 12 = .ok (.iload_n 2, 1) := by decide +kernel
theorem dX5_setCache_13 : decode cX5_setCache 13 = .ok (.iconst 0, 1) := by decide +kernel
theorem dX5_setCache_14 : decode cX5_setCache 14 = .ok (.bipush 60, 2) := by decide +kernel
theorem dX5_setCache_16 : decode cX5_setCache 16 = .ok (.invokestatic 51, 3) := by decide +kernel
theorem dX5_setCache_19 : decode cX5_setCache 19 = .ok (.ifCond .ne 9, 3) := by decide +kernel
theorem dX5_setCache_22 : decode cX5_setCache 22 = .ok (.aload_n 0, 1) := by decide +kernel
theorem dX5_setCache_23 : decode cX5_setCache 23 = .ok (.iconst 1, 1) := by decide +kernel
theorem dX5_setCache_24 : decode cX5_setCache 24 = .ok (.invokevirtual 73, 3) := by decide +kernel
theorem dX5_setCache_27 : decode cX5_setCache 27 = .ok (.ireturn, 1) := by decide +kernel
theorem dX5_setCache_28 : decode cX5_setCache 28 = .ok (.aload_n 0, 1) := by decide +kernel
theorem dX5_setCache_29 : decode cX5_setCache 29 = .ok (.getfield 41, 3) := by decide +kernel
theorem dX5_setCache_32 : decode cX5_setCache 32 = .ok (.iload_n 1, 1) := by decide +kernel
theorem dX5_setCache_33 : decode cX5_setCache 33 = .ok (.iaload, 1) := by decide +kernel
theorem dX5_setCache_34 : decode cX5_setCache 34 = .ok (.istore_n 3, 1) := by decide +kernel
theorem dX5_setCache_35 : decode cX5_setCache 35 = .ok (.aload_n 0, 1) := by decide +kernel
theorem dX5_setCache_36 : decode cX5_setCache 36 = .ok (.iload_n 1, 1) := by decide +kernel
theorem dX5_setCache_37 : decode cX5_setCache 37 = .ok (.invokevirtual 119, 3) := by decide +kernel
theorem dX5_setCache_40 : decode cX5_setCache 40 = .ok (.aload_n 0, 1) := by decide +kernel
theorem dX5_setCache_41 : decode cX5_setCache 41 = .ok (.getfield 41, 3) := by decide +kernel
theorem dX5_setCache_44 : decode cX5_setCache 44 = .ok (.iload_n 1, 1) := by decide +kernel
theorem dX5_setCache_45 : decode cX5_setCache 45 = .ok (.iload_n 2, 1) := by decide +kernel
theorem dX5_setCache_46 : decode cX5_setCache 46 = .ok (.iastore, 1) := by decide +kernel
theorem dX5_setCache_47 : decode cX5_setCache 47 = .ok (.aload_n 0, 1) := by decide +kernel
theorem dX5_setCache_48 : decode cX5_setCache 48 = .ok (.iload_n 1, 1) := by decide +kernel
theorem dX5_setCache_49 : decode cX5_setCache 49 = .ok (.invokevirtual 119, 3) := by decide +kernel
theorem dX5_setCache_52 : decode cX5_setCache 52 = .ok (.iload_n 3, 1) := by decide +kernel
theorem dX5_setCache_53 : decode cX5_setCache 53 = .ok (.ireturn, 1) := by decide +kernel
set_option maxRecDepth 20000 in
theorem ggX5_decide_X5_isApp : GoodIn wsX5_decide wsX5_isApp := goodIn_r _ [10, 11, 12, 9, 13] (by decide +kernel) (by decide +kernel)
set_option maxRecDepth 20000 in
theorem gX5_decide_X5_isApp : GoodIn wsX5_decide (va_wsS RX5 116 yX5_isApp wsX5_isApp) := goodIn_app (goodIn_of _ (by decide +kernel)) ggX5_decide_X5_isApp
set_option maxRecDepth 20000 in
theorem ggX5_decide_X5_isRole : GoodIn wsX5_decide wsX5_isRole := goodIn_r _ [16, 11, 12, 9, 13] (by decide +kernel) (by decide +kernel)
set_option maxRecDepth 20000 in
theorem gX5_decide_X5_isRole : GoodIn wsX5_decide (va_wsS RX5 70 yX5_isRole wsX5_isRole) := goodIn_app (goodIn_of _ (by decide +kernel)) ggX5_decide_X5_isRole
set_option maxRecDepth 20000 in
theorem ggX5_decide_X5_fails : GoodIn wsX5_decide wsX5_fails := goodIn_r _ [20, 1, 55, 56, 57, 58, 59, 60, 61, 62, 63, 64, 65, 66, 67, 68, 69, 70, 71] (by decide +kernel) (by decide +kernel)
set_option maxRecDepth 20000 in
theorem gX5_decide_X5_fails : GoodIn wsX5_decide (wsV RX5 73 RX5 yX5_fails wsX5_fails) := goodIn_app (goodIn_of _ (by decide +kernel)) ggX5_decide_X5_fails
set_option maxRecDepth 20000 in
theorem ggX5_decide_X5_isSession : GoodIn wsX5_decide wsX5_isSession := goodIn_r _ [24, 25, 11, 12, 9, 13, 55, 56, 57, 58, 59, 60, 61, 62, 63, 64, 65, 66, 67, 68, 69, 70, 71] (by decide +kernel) (by decide +kernel)
set_option maxRecDepth 20000 in
theorem gX5_decide_X5_isSession : GoodIn wsX5_decide (wsV RX5 103 RX5 yX5_isSession wsX5_isSession) := goodIn_app (goodIn_of _ (by decide +kernel)) ggX5_decide_X5_isSession
set_option maxRecDepth 20000 in
theorem ggX5_decide_X5_keeps : GoodIn wsX5_decide wsX5_keeps := goodIn_r _ [29, 6, 4, 30, 55, 56, 57, 58, 59, 60, 61, 62, 63, 64, 65, 66, 67, 68, 69, 70, 71] (by decide +kernel) (by decide +kernel)
set_option maxRecDepth 20000 in
theorem gX5_decide_X5_keeps : GoodIn wsX5_decide (wsV RX5 113 RX5 yX5_keeps wsX5_keeps) := goodIn_app (goodIn_of _ (by decide +kernel)) ggX5_decide_X5_keeps
set_option maxRecDepth 20000 in
theorem ggX5_decide_X5_lets : GoodIn wsX5_decide wsX5_lets := goodIn_r _ [34, 35, 36, 4, 37, 38, 39, 9, 40, 41, 42, 43, 44, 45, 46, 47, 48, 49, 50, 51, 52, 53, 54, 55, 56, 57, 58, 59, 60, 61, 62, 63, 64, 65, 66, 67, 68, 69, 70, 71] (by decide +kernel) (by decide +kernel)
set_option maxRecDepth 20000 in
theorem gX5_decide_X5_lets : GoodIn wsX5_decide (wsV RX5 100 RX5 yX5_lets wsX5_lets) := goodIn_app (goodIn_of _ (by decide +kernel)) ggX5_decide_X5_lets
theorem dX5_decide_0 : decode cX5_decide 0 = .ok (.aload_n 0, 1) := by decide +kernel
theorem dX5_decide_1 : decode cX5_decide 1 = .ok (.iconst 0, 1) := by decide +kernel
theorem dX5_decide_2 : decode cX5_decide 2 = .ok (.putfield 47, 3) := by decide +kernel
theorem dX5_decide_5 : decode cX5_decide 5 = .ok (.iload_n 1, 1) := by decide +kernel
theorem dX5_decide_6 : decode cX5_decide 6 = .ok (.invokestatic 116, 3) := by decide +kernel
theorem dX5_decide_9 : decode cX5_decide 9 = .ok (.ifCond .eq 10, 3) := by decide +kernel
theorem dX5_decide_12 : decode cX5_decide 12 = .ok (.iload_n 3, 1) := by decide +kernel
theorem dX5_decide_13 : decode cX5_decide 13 = .ok (.invokestatic 70, 3) := by decide +kernel
theorem dX5_decide_16 : decode cX5_decide 16 = .ok (.ifCond .ne 9, 3) := by decide +kernel
theorem dX5_decide_19 : decode cX5_decide 19 = .ok (.aload_n 0, 1) := by decide +kernel
theorem dX5_decide_20 : decode cX5_decide 20 = .ok (.iconst 1, 1) := by decide +kernel
theorem dX5_decide_21 : decode cX5_decide 21 = .ok (.invokevirtual 73, 3) := by decide +kernel
theorem dX5_decide_24 : decode cX5_decide 24 = .ok (.ireturn, 1) := by decide +kernel
theorem dX5_decide_25 : decode cX5_decide 25 = .ok (.aload_n 0, 1) := by decide +kernel
theorem dX5_decide_26 : decode cX5_decide 26 = .ok (.iload_n 2, 1) := by decide +kernel
theorem dX5_decide_27 : decode cX5_decide 27 = .ok (.invokevirtual 103, 3) := by decide +kernel
theorem dX5_decide_30 : decode cX5_decide 30 = .ok (.ifCond .ne 9, 3) := by decide +kernel
theorem dX5_decide_33 : decode cX5_decide 33 = .ok (.aload_n 0, 1) := by decide +kernel
theorem dX5_decide_34 : decode cX5_decide 34 = .ok (.iconst 2, 1) := by decide +kernel
theorem dX5_decide_35 : decode cX5_decide 35 = .ok (.invokevirtual 73, 3) := by decide +kernel
theorem dX5_decide_38 : decode cX5_decide 38 = .ok (.ireturn, 1) := by decide +kernel
theorem dX5_decide_39 : decode cX5_decide 39 = .ok (.aload_n 0, 1) := by decide +kernel
theorem dX5_decide_40 : decode cX5_decide 40 = .ok (.getfield 37, 3) := by decide +kernel
theorem dX5_decide_43 : decode cX5_decide 43 = .ok (.iload_n 2, 1) := by decide +kernel
theorem dX5_decide_44 : decode cX5_decide 44 = .ok (.baload, 1) := by decide +kernel
theorem dX5_decide_45 : decode cX5_decide 45 = .ok (.ifCond .eq 5, 3) := by decide +kernel
theorem dX5_decide_48 : decode cX5_decide 48 = .ok (.iconst 2, 1) := by decide +kernel
theorem dX5_decide_49 : decode cX5_decide 49 = .ok (.ireturn, 1) := by decide +kernel
theorem dX5_decide_50 : decode cX5_decide 50 = .ok (.aload_n 0, 1) := by decide +kernel
theorem dX5_decide_51 : decode cX5_decide 51 = .ok (.getfield 34, 3) := by decide +kernel
theorem dX5_decide_54 : decode cX5_decide 54 = .ok (.iload_n 2, 1) := by decide +kernel
theorem dX5_decide_55 : decode cX5_decide 55 = .ok (.aload_n 0, 1) := by decide +kernel
theorem dX5_decide_56 : decode cX5_decide 56 = .ok (.getfield 82, 3) := by decide +kernel
theorem dX5_decide_59 : decode cX5_decide 59 = .ok (.iastore, 1) := by decide +kernel
theorem dX5_decide_60 : decode cX5_decide 60 = .ok (.bipush 60, 2) := by decide +kernel
theorem dX5_decide_62 : decode cX5_decide 62 = .ok (.iload_n 1, 1) := by decide +kernel
theorem dX5_decide_63 : decode cX5_decide 63 = .ok (.imul, 1) := by decide +kernel
theorem dX5_decide_64 : decode cX5_decide 64 = .ok (.bipush 6, 2) := by decide +kernel
theorem dX5_decide_66 : decode cX5_decide 66 = .ok (.aload_n 0, 1) := by decide +kernel
theorem dX5_decide_67 : decode cX5_decide 67 = .ok (.getfield 25, 3) := by decide +kernel
theorem dX5_decide_70 : decode cX5_decide 70 = .ok (.iload_n 2, 1) := by decide +kernel
theorem dX5_decide_71 : decode cX5_decide 71 = .ok (.iaload, 1) := by decide +kernel
theorem dX5_decide_72 : decode cX5_decide 72 = .ok (.imul, 1) := by decide +kernel
theorem dX5_decide_73 : decode cX5_decide 73 = .ok (.iadd, 1) := by decide +kernel
theorem dX5_decide_74 : decode cX5_decide 74 = .ok (.iload_n 3, 1) := by decide +kernel
theorem dX5_decide_75 : decode cX5_decide 75 = .ok (.iadd, 1) := by decide +kernel
theorem dX5_decide_76 : decode cX5_decide 76 = .ok (.istore 4, 2) := by decide +kernel
theorem dX5_decide_78 : decode cX5_decide 78 = .ok (.aload_n 0, 1) := by decide +kernel
theorem dX5_decide_79 : decode cX5_decide 79 = .ok (.iload_n 1, 1) := by decide +kernel
theorem dX5_decide_80 : decode cX5_decide 80 = .ok (.iload 4, 2) := by decide +kernel
theorem dX5_decide_82 : decode cX5_decide 82 = .ok (.invokevirtual 113, 3) := by decide +kernel
theorem dX5_decide_85 : decode cX5_decide 85 = .ok (.ifCond .ne 36, 3) := by decide +kernel
theorem dX5_decide_88 : decode cX5_decide 88 = .ok (.aload_n 0, 1) := by decide +kernel
theorem dX5_decide_89 : decode cX5_decide 89 = .ok (.getfield 44, 3) := by decide +kernel
theorem dX5_decide_92 : decode cX5_decide 92 = .ok (.iload 4, 2) := by decide +kernel
theorem dX5_decide_94 : decode cX5_decide 94 = .ok (.iconst 2, 1) := by decide +kernel
theorem dX5_decide_95 : decode cX5_decide 95 = .ok (.aload_n 0, 1) := by decide +kernel
theorem dX5_decide_96 : decode cX5_decide 96 = .ok (.getfield 82, 3) := by decide +kernel
theorem dX5_decide_99 : decode cX5_decide 99 = .ok (.imul, 1) := by decide +kernel
theorem dX5_decide_100 : decode cX5_decide 100 = .ok (.aload_n 0, 1) := by decide +kernel
theorem dX5_decide_101 : decode cX5_decide 101 = .ok (.aload_n 0, 1) := by decide +kernel
theorem dX5_decide_102 : decode cX5_decide 102 = .ok (.getfield 25, 3) := by decide +kernel
theorem dX5_decide_105 : decode cX5_decide 105 = .ok (.iload_n 2, 1) := by decide +kernel
theorem dX5_decide_106 : decode cX5_decide 106 = .ok (.iaload, 1) := by decide +kernel
theorem dX5_decide_107 : decode cX5_decide 107 = .ok (.iload_n 3, 1) := by decide +kernel
theorem dX5_decide_108 : decode cX5_decide 108 = .ok (.invokevirtual 100, 3) := by decide +kernel
theorem dX5_decide_111 : decode cX5_decide 111 = .ok (.ifCond .eq 7, 3) := by decide +kernel
theorem dX5_decide_114 : decode cX5_decide 114 = .ok (.iconst 1, 1) := by decide +kernel
theorem dX5_decide_115 : decode cX5_decide 115 = .ok (.goto 4, 3) := by decide +kernel
theorem dX5_decide_118 : decode cX5_decide 118 = .ok (.iconst 0, 1) := by decide +kernel
theorem dX5_decide_119 : decode cX5_decide 119 = .ok (.iadd, 1) := by decide +kernel
theorem dX5_decide_120 : decode cX5_decide 120 = .ok (.iastore, 1) := by decide +kernel
theorem dX5_decide_121 : decode cX5_decide 121 = .ok (.iconst 1, 1) := by decide +kernel
theorem dX5_decide_122 : decode cX5_decide 122 = .ok (.aload_n 0, 1) := by decide +kernel
theorem dX5_decide_123 : decode cX5_decide 123 = .ok (.getfield 44, 3) := by decide +kernel
theorem dX5_decide_126 : decode cX5_decide 126 = .ok (.iload 4, 2) := by decide +kernel
theorem dX5_decide_128 : decode cX5_decide 128 = .ok (.iaload, 1) := by decide +kernel
theorem dX5_decide_129 : decode cX5_decide 129 = .ok (.iconst 2, 1) := by decide +kernel
theorem dX5_decide_130 : decode cX5_decide 130 = .ok (.irem, 1) := by decide +kernel
theorem dX5_decide_131 : decode cX5_decide 131 = .ok (.isub, 1) := by decide +kernel
theorem dX5_decide_132 : decode cX5_decide 132 = .ok (.ireturn, 1) := by decide +kernel
set_option maxRecDepth 20000 in
theorem ggX5_forget_X5_isApp : GoodIn wsX5_forget wsX5_isApp := goodIn_r _ [6, 7, 8, 5, 9] (by decide +kernel) (by decide +kernel)
set_option maxRecDepth 20000 in
theorem gX5_forget_X5_isApp : GoodIn wsX5_forget (va_wsS RX5 116 yX5_isApp wsX5_isApp) := goodIn_app (goodIn_of _ (by decide +kernel)) ggX5_forget_X5_isApp
set_option maxRecDepth 20000 in
theorem ggX5_forget_X5_isPerson : GoodIn wsX5_forget wsX5_isPerson := goodIn_r _ [12, 7, 8, 5, 9] (by decide +kernel) (by decide +kernel)
set_option maxRecDepth 20000 in
theorem gX5_forget_X5_isPerson : GoodIn wsX5_forget (va_wsS RX5 63 yX5_isPerson wsX5_isPerson) := goodIn_app (goodIn_of _ (by decide +kernel)) ggX5_forget_X5_isPerson
set_option maxRecDepth 20000 in
theorem ggX5_forget_X5_fails : GoodIn wsX5_forget wsX5_fails := goodIn_r _ [16, 1, 23, 24, 25, 26, 27, 28, 29, 30, 31, 32, 33, 34, 35, 36, 37, 38, 39] (by decide +kernel) (by decide +kernel)
set_option maxRecDepth 20000 in
theorem gX5_forget_X5_fails : GoodIn wsX5_forget (wsV RX5 73 RX5 yX5_fails wsX5_fails) := goodIn_app (goodIn_of _ (by decide +kernel)) ggX5_forget_X5_fails
set_option maxRecDepth 20000 in
theorem ggX5_forget_X5_keeps : GoodIn wsX5_forget wsX5_keeps := goodIn_r _ [20, 2, 21, 22, 23, 24, 25, 26, 27, 28, 29, 30, 31, 32, 33, 34, 35, 36, 37, 38, 39] (by decide +kernel) (by decide +kernel)
set_option maxRecDepth 20000 in
theorem gX5_forget_X5_keeps : GoodIn wsX5_forget (wsV RX5 113 RX5 yX5_keeps wsX5_keeps) := goodIn_app (goodIn_of _ (by decide +kernel)) ggX5_forget_X5_keeps
theorem dX5_forget_0 : decode cX5_forget 0 = .ok (.aload_n 0, 1) := by decide +kernel
theorem dX5_forget_1 : decode cX5_forget 1 = .ok (.iconst 0, 1) := by decide +kernel
theorem dX5_forget_2 : decode cX5_forget 2 = .ok (.putfield 47, 3) := by decide +kernel
theorem dX5_forget_5 : decode cX5_forget 5 = .ok (.iload_n 1, 1) := by decide +kernel
theorem dX5_forget_6 : decode cX5_forget 6 = .ok (.invokestatic 116, 3) := by decide +kernel
theorem dX5_forget_9 : decode cX5_forget 9 = .ok (.ifCond .eq 10, 3) := by decide +kernel
theorem dX5_forget_12 : decode cX5_forget 12 = .ok (.iload_n 2, 1) := by decide +kernel
theorem dX5_forget_13 : decode cX5_forget 13 = .ok (.invokestatic 63, 3) := by decide +kernel
theorem dX5_forget_16 : decode cX5_forget 16 = .ok (.ifCond .ne 9, 3) := by decide +kernel
theorem dX5_forget_19 : decode cX5_forget 19 = .ok (.aload_n 0, 1) := by decide +kernel
theorem dX5_forget_20 : decode cX5_forget 20 = .ok (.iconst 1, 1) := by decide +kernel
theorem dX5_forget_21 : decode cX5_forget 21 = .ok (.invokevirtual 73, 3) := by decide +kernel
theorem dX5_forget_24 : decode cX5_forget 24 = .ok (.ireturn, 1) := by decide +kernel
theorem dX5_forget_25 : decode cX5_forget 25 = .ok (.iconst 0, 1) := by decide +kernel
theorem dX5_forget_26 : decode cX5_forget 26 = .ok (.istore_n 3, 1) := by decide +kernel
theorem dX5_forget_27 : decode cX5_forget 27 = .ok (.iconst 0, 1) := by decide +kernel
theorem dX5_forget_28 : decode cX5_forget 28 = .ok (.istore 4, 2) := by decide +kernel
theorem dX5_forget_30 : decode cX5_forget 30 = .ok (.iload 4, 2) := by decide +kernel
theorem dX5_forget_32 : decode cX5_forget 32 = .ok (.bipush 6, 2) := by decide +kernel
theorem dX5_forget_34 : decode cX5_forget 34 = .ok (.if_icmp .ge 49, 3) := by decide +kernel
theorem dX5_forget_37 : decode cX5_forget 37 = .ok (.bipush 60, 2) := by decide +kernel
theorem dX5_forget_39 : decode cX5_forget 39 = .ok (.iload_n 1, 1) := by decide +kernel
theorem dX5_forget_40 : decode cX5_forget 40 = .ok (.imul, 1) := by decide +kernel
theorem dX5_forget_41 : decode cX5_forget 41 = .ok (.bipush 6, 2) := by decide +kernel
theorem dX5_forget_43 : decode cX5_forget 43 = .ok (.iload_n 2, 1) := by decide +kernel
theorem dX5_forget_44 : decode cX5_forget 44 = .ok (.imul, 1) := by decide +kernel
theorem dX5_forget_45 : decode cX5_forget 45 = .ok (.iadd, 1) := by decide +kernel
theorem dX5_forget_46 : decode cX5_forget 46 = .ok (.iload 4, 2) := by decide +kernel
theorem dX5_forget_48 : decode cX5_forget 48 = .ok (.iadd, 1) := by decide +kernel
theorem dX5_forget_49 : decode cX5_forget 49 = .ok (.istore 5, 2) := by decide +kernel
theorem dX5_forget_51 : decode cX5_forget 51 = .ok (.iload_n 3, 1) := by decide +kernel
theorem dX5_forget_52 : decode cX5_forget 52 = .ok (.aload_n 0, 1) := by decide +kernel
theorem dX5_forget_53 : decode cX5_forget 53 = .ok (.iload_n 1, 1) := by decide +kernel
theorem dX5_forget_54 : decode cX5_forget 54 = .ok (.iload 5, 2) := by decide +kernel
theorem dX5_forget_56 : decode cX5_forget 56 = .ok (.invokevirtual 113, 3) := by decide +kernel
theorem dX5_forget_59 : decode cX5_forget 59 = .ok (.ifCond .eq 7, 3) := by decide +kernel
theorem dX5_forget_62 : decode cX5_forget 62 = .ok (.iconst 1, 1) := by decide +kernel
theorem dX5_forget_63 : decode cX5_forget 63 = .ok (.goto 4, 3) := by decide +kernel
theorem dX5_forget_66 : decode cX5_forget 66 = .ok (.iconst 0, 1) := by decide +kernel
theorem dX5_forget_67 : decode cX5_forget 67 = .ok (.iadd, 1) := by decide +kernel
theorem dX5_forget_68 : decode cX5_forget 68 = .ok (.istore_n 3, 1) := by decide +kernel
theorem dX5_forget_69 : decode cX5_forget 69 = .ok (.aload_n 0, 1) := by decide +kernel
theorem dX5_forget_70 : decode cX5_forget 70 = .ok (.getfield 44, 3) := by decide +kernel
theorem dX5_forget_73 : decode cX5_forget 73 = .ok (.iload 5, 2) := by decide +kernel
theorem dX5_forget_75 : decode cX5_forget 75 = .ok (.iconst (-1), 1) := by decide +kernel
theorem dX5_forget_76 : decode cX5_forget 76 = .ok (.iastore, 1) := by decide +kernel
theorem dX5_forget_77 : decode cX5_forget 77 = .ok (.iinc 4 1, 3) := by decide +kernel
theorem dX5_forget_80 : decode cX5_forget 80 = .ok (.goto (-50), 3) := by decide +kernel
theorem dX5_forget_83 : decode cX5_forget 83 = .ok (.iload_n 3, 1) := by decide +kernel
theorem dX5_forget_84 : decode cX5_forget 84 = .ok (.ireturn, 1) := by decide +kernel
set_option maxRecDepth 20000 in
theorem ggX5_stale_X5_isApp : GoodIn wsX5_stale wsX5_isApp := goodIn_r _ [6, 7, 8, 5, 9] (by decide +kernel) (by decide +kernel)
set_option maxRecDepth 20000 in
theorem gX5_stale_X5_isApp : GoodIn wsX5_stale (va_wsS RX5 116 yX5_isApp wsX5_isApp) := goodIn_app (goodIn_of _ (by decide +kernel)) ggX5_stale_X5_isApp
set_option maxRecDepth 20000 in
theorem ggX5_stale_X5_fails : GoodIn wsX5_stale wsX5_fails := goodIn_r _ [13, 1, 44, 45, 46, 47, 48, 49, 50, 51, 52, 53, 54, 55, 56, 57, 58, 59, 60] (by decide +kernel) (by decide +kernel)
set_option maxRecDepth 20000 in
theorem gX5_stale_X5_fails : GoodIn wsX5_stale (wsV RX5 73 RX5 yX5_fails wsX5_fails) := goodIn_app (goodIn_of _ (by decide +kernel)) ggX5_stale_X5_fails
set_option maxRecDepth 20000 in
theorem ggX5_stale_X5_keeps : GoodIn wsX5_stale wsX5_keeps := goodIn_r _ [17, 2, 18, 19, 44, 45, 46, 47, 48, 49, 50, 51, 52, 53, 54, 55, 56, 57, 58, 59, 60] (by decide +kernel) (by decide +kernel)
set_option maxRecDepth 20000 in
theorem gX5_stale_X5_keeps : GoodIn wsX5_stale (wsV RX5 113 RX5 yX5_keeps wsX5_keeps) := goodIn_app (goodIn_of _ (by decide +kernel)) ggX5_stale_X5_keeps
set_option maxRecDepth 20000 in
theorem ggX5_stale_X5_lets : GoodIn wsX5_stale wsX5_lets := goodIn_r _ [23, 24, 25, 18, 26, 27, 28, 5, 29, 30, 31, 32, 33, 34, 35, 36, 37, 38, 39, 40, 41, 42, 43, 44, 45, 46, 47, 48, 49, 50, 51, 52, 53, 54, 55, 56, 57, 58, 59, 60] (by decide +kernel) (by decide +kernel)
set_option maxRecDepth 20000 in
theorem gX5_stale_X5_lets : GoodIn wsX5_stale (wsV RX5 100 RX5 yX5_lets wsX5_lets) := goodIn_app (goodIn_of _ (by decide +kernel)) ggX5_stale_X5_lets
theorem dX5_stale_0 : decode cX5_stale 0 = .ok (.aload_n 0, 1) := by decide +kernel
theorem dX5_stale_1 : decode cX5_stale 1 = .ok (.iconst 0, 1) := by decide +kernel
theorem dX5_stale_2 : decode cX5_stale 2 = .ok (.putfield 47, 3) := by decide +kernel
theorem dX5_stale_5 : decode cX5_stale 5 = .ok (.iload_n 1, 1) := by decide +kernel
theorem dX5_stale_6 : decode cX5_stale 6 = .ok (.invokestatic 116, 3) := by decide +kernel
theorem dX5_stale_9 : decode cX5_stale 9 = .ok (.ifCond .ne 9, 3) := by decide +kernel
theorem dX5_stale_12 : decode cX5_stale 12 = .ok (.aload_n 0, 1) := by decide +kernel
theorem dX5_stale_13 : decode cX5_stale 13 = .ok (.iconst 1, 1) := by decide +kernel
theorem dX5_stale_14 : decode cX5_stale 14 = .ok (.invokevirtual 73, 3) := by decide +kernel
theorem dX5_stale_17 : decode cX5_stale 17 = .ok (.ireturn, 1) := by decide +kernel
theorem dX5_stale_18 : decode cX5_stale 18 = .ok (.iconst 0, 1) := by decide +kernel
theorem dX5_stale_19 : decode cX5_stale 19 = .ok (.istore_n 2, 1) := by decide +kernel
theorem dX5_stale_20 : decode cX5_stale 20 = .ok (.iconst 0, 1) := by decide +kernel
theorem dX5_stale_21 : decode cX5_stale 21 = .ok (.istore_n 3, 1) := by decide +kernel
theorem dX5_stale_22 : decode cX5_stale 22 = .ok (.iload_n 3, 1) := by decide +kernel
theorem dX5_stale_23 : decode cX5_stale 23 = .ok (.bipush 60, 2) := by decide +kernel
theorem dX5_stale_25 : decode cX5_stale 25 = .ok (.if_icmp .ge 68, 3) := by decide +kernel
theorem dX5_stale_28 : decode cX5_stale 28 = .ok (.bipush 60, 2) := by decide +kernel
theorem dX5_stale_30 : decode cX5_stale 30 = .ok (.iload_n 1, 1) := by decide +kernel
theorem dX5_stale_31 : decode cX5_stale 31 = .ok (.imul, 1) := by decide +kernel
theorem dX5_stale_32 : decode cX5_stale 32 = .ok (.iload_n 3, 1) := by decide +kernel
theorem dX5_stale_33 : decode cX5_stale 33 = .ok (.iadd, 1) := by decide +kernel
theorem dX5_stale_34 : decode cX5_stale 34 = .ok (.istore 4, 2) := by decide +kernel
theorem dX5_stale_36 : decode cX5_stale 36 = .ok (.iload_n 2, 1) := by decide +kernel
theorem dX5_stale_37 : decode cX5_stale 37 = .ok (.aload_n 0, 1) := by decide +kernel
theorem dX5_stale_38 : decode cX5_stale 38 = .ok (.iload_n 1, 1) := by decide +kernel
theorem dX5_stale_39 : decode cX5_stale 39 = .ok (.iload 4, 2) := by decide +kernel
theorem dX5_stale_41 : decode cX5_stale 41 = .ok (.invokevirtual 113, 3) := by decide +kernel
theorem dX5_stale_44 : decode cX5_stale 44 = .ok (.ifCond .eq 40, 3) := by decide +kernel
theorem dX5_stale_47 : decode cX5_stale 47 = .ok (.aload_n 0, 1) := by decide +kernel
theorem dX5_stale_48 : decode cX5_stale 48 = .ok (.getfield 44, 3) := by decide +kernel
theorem dX5_stale_51 : decode cX5_stale 51 = .ok (.iload 4, 2) := by decide +kernel
theorem dX5_stale_53 : decode cX5_stale 53 = .ok (.iaload, 1) := by decide +kernel
theorem dX5_stale_54 : decode cX5_stale 54 = .ok (.iconst 2, 1) := by decide +kernel
theorem dX5_stale_55 : decode cX5_stale 55 = .ok (.irem, 1) := by decide +kernel
theorem dX5_stale_56 : decode cX5_stale 56 = .ok (.iconst 1, 1) := by decide +kernel
theorem dX5_stale_57 : decode cX5_stale 57 = .ok (.if_icmp .ne 7, 3) := by decide +kernel
theorem dX5_stale_60 : decode cX5_stale 60 = .ok (.iconst 1, 1) := by decide +kernel
theorem dX5_stale_61 : decode cX5_stale 61 = .ok (.goto 4, 3) := by decide +kernel
theorem dX5_stale_64 : decode cX5_stale 64 = .ok (.iconst 0, 1) := by decide +kernel
theorem dX5_stale_65 : decode cX5_stale 65 = .ok (.aload_n 0, 1) := by decide +kernel
theorem dX5_stale_66 : decode cX5_stale 66 = .ok (.iload_n 3, 1) := by decide +kernel
theorem dX5_stale_67 : decode cX5_stale 67 = .ok (.bipush 6, 2) := by decide +kernel
theorem dX5_stale_69 : decode cX5_stale 69 = .ok (.idiv, 1) := by decide +kernel
theorem dX5_stale_70 : decode cX5_stale 70 = .ok (.iload_n 3, 1) := by decide +kernel
theorem dX5_stale_71 : decode cX5_stale 71 = .ok (.bipush 6, 2) := by decide +kernel
theorem dX5_stale_73 : decode cX5_stale 73 = .ok (.irem, 1) := by decide +kernel
theorem dX5_stale_74 : decode cX5_stale 74 = .ok (.invokevirtual 100, 3) := by decide +kernel
theorem dX5_stale_77 : decode cX5_stale 77 = .ok (.if_icmp .eq 7, 3) := by decide +kernel
theorem dX5_stale_80 : decode cX5_stale 80 = .ok (.iconst 1, 1) := by decide +kernel
theorem dX5_stale_81 : decode cX5_stale 81 = .ok (.goto 4, 3) := by decide +kernel
theorem dX5_stale_84 : decode cX5_stale 84 = .ok (.iconst 0, 1) := by decide +kernel
theorem dX5_stale_85 : decode cX5_stale 85 = .ok (.iadd, 1) := by decide +kernel
theorem dX5_stale_86 : decode cX5_stale 86 = .ok (.istore_n 2, 1) := by decide +kernel
theorem dX5_stale_87 : decode cX5_stale 87 = .ok (.iinc 3 1, 3) := by decide +kernel
theorem dX5_stale_90 : decode cX5_stale 90 = .ok (.goto (-68), 3) := by decide +kernel
theorem dX5_stale_93 : decode cX5_stale 93 = .ok (.iload_n 2, 1) := by decide +kernel
theorem dX5_stale_94 : decode cX5_stale 94 = .ok (.ireturn, 1) := by decide +kernel
theorem dJ7_fill_53178_0 : decode cJ7_fill_53178 0 = .ok (.iconst 0, 1) := by decide +kernel
theorem dJ7_fill_53178_1 : decode cJ7_fill_53178 1 = .ok (.istore_n 2, 1) := by decide +kernel
theorem dJ7_fill_53178_2 : decode cJ7_fill_53178 2 = .ok (.aload_n 0, 1) := by decide +kernel
theorem dJ7_fill_53178_3 : decode cJ7_fill_53178 3 = .ok (.arraylength, 1) := by decide +kernel
theorem dJ7_fill_53178_4 : decode cJ7_fill_53178 4 = .ok (.istore_n 3, 1) := by decide +kernel
theorem dJ7_fill_53178_5 : decode cJ7_fill_53178 5 = .ok (.iload_n 2, 1) := by decide +kernel
theorem dJ7_fill_53178_6 : decode cJ7_fill_53178 6 = .ok (.iload_n 3, 1) := by decide +kernel
theorem dJ7_fill_53178_7 : decode cJ7_fill_53178 7 = .ok (.if_icmp .ge 13, 3) := by decide +kernel
theorem dJ7_fill_53178_10 : decode cJ7_fill_53178 10 = .ok (.aload_n 0, 1) := by decide +kernel
theorem dJ7_fill_53178_11 : decode cJ7_fill_53178 11 = .ok (.iload_n 2, 1) := by decide +kernel
theorem dJ7_fill_53178_12 : decode cJ7_fill_53178 12 = .ok (.iload_n 1, 1) := by decide +kernel
theorem dJ7_fill_53178_13 : decode cJ7_fill_53178 13 = .ok (.iastore, 1) := by decide +kernel
theorem dJ7_fill_53178_14 : decode cJ7_fill_53178 14 = .ok (.iinc 2 1, 3) := by decide +kernel
theorem dJ7_fill_53178_17 : decode cJ7_fill_53178 17 = .ok (.goto (-12), 3) := by decide +kernel
theorem dJ7_fill_53178_20 : decode cJ7_fill_53178 20 = .ok (.return_, 1) := by decide +kernel
set_option maxRecDepth 20000 in
theorem ggL_setPerson_X4_setPerson : GoodIn wsL_setPerson wsX4_setPerson := goodIn_ca (goodIn_r _ [6, 7, 8, 9, 10, 11, 5, 12, 13, 14, 15, 16, 17, 18, 19, 20, 21, 22, 23, 24, 25, 26, 27, 28, 29, 30, 31, 32, 33, 34, 35] (by decide +kernel) (by decide +kernel)) (goodIn_sub (fun _ h => List.mem_cons_of_mem _ (List.mem_append_right _ h)) (by decide +kernel))
set_option maxRecDepth 20000 in
theorem gL_setPerson_X4_setPerson : GoodIn wsL_setPerson (wsV RL 7 RX4 yX4_setPerson wsX4_setPerson) := goodIn_app (goodIn_of _ (by decide +kernel)) ggL_setPerson_X4_setPerson
theorem dL_setPerson_0 : decode cL_setPerson 0 = .ok (.aload 4, 2) := by decide +kernel
theorem dL_setPerson_2 : decode cL_setPerson 2 = .ok (.iconst 0, 1) := by decide +kernel
theorem dL_setPerson_3 : decode cL_setPerson 3 = .ok (.aload_n 0, 1) := by decide +kernel
theorem dL_setPerson_4 : decode cL_setPerson 4 = .ok (.iload_n 1, 1) := by decide +kernel
theorem dL_setPerson_5 : decode cL_setPerson 5 = .ok (.iload_n 2, 1) := by decide +kernel
theorem dL_setPerson_6 : decode cL_setPerson 6 = .ok (.iload_n 3, 1) := by decide +kernel
theorem dL_setPerson_7 : decode cL_setPerson 7 = .ok (.invokevirtual 7, 3) := by decide +kernel
theorem dL_setPerson_10 : decode cL_setPerson 10 = .ok (.ifCond .eq 7, 3) := by decide +kernel
theorem dL_setPerson_13 : decode cL_setPerson 13 = .ok (.lconst 1, 1) := by decide +kernel
theorem dL_setPerson_14 : decode cL_setPerson 14 = .ok (.goto 4, 3) := by decide +kernel
theorem dL_setPerson_17 : decode cL_setPerson 17 = .ok (.lconst 0, 1) := by decide +kernel
theorem dL_setPerson_18 : decode cL_setPerson 18 = .ok (.lastore, 1) := by decide +kernel
theorem dL_setPerson_19 : decode cL_setPerson 19 = .ok (.goto 7, 3) := by decide +kernel
theorem dL_setPerson_22 : decode cL_setPerson 22 = .ok (.astore 5, 2) := by decide +kernel
theorem dL_setPerson_24 : decode cL_setPerson 24 = .ok (.iconst 1, 1) := by decide +kernel
theorem dL_setPerson_25 : decode cL_setPerson 25 = .ok (.ireturn, 1) := by decide +kernel
theorem dL_setPerson_26 : decode cL_setPerson 26 = .ok (.iconst 0, 1) := by decide +kernel
theorem dL_setPerson_27 : decode cL_setPerson 27 = .ok (.ireturn, 1) := by decide +kernel
set_option maxRecDepth 20000 in
theorem ggL_setGroup_X4_setGroup : GoodIn wsL_setGroup wsX4_setGroup := goodIn_ca (goodIn_ca (goodIn_r _ [7, 8, 9, 10, 11, 12, 13, 14, 6, 15, 16, 17, 18, 19, 20, 21, 22, 23, 24, 25, 26, 27, 28, 29, 30, 31, 32, 33, 34, 35, 36, 37, 38, 39, 40, 41, 42, 43, 44, 45, 46, 47, 48, 49, 50] (by decide +kernel) (by decide +kernel)) (goodIn_sub (fun _ h => List.mem_cons_of_mem _ (List.mem_append_left _ (List.mem_append_right _ h))) (by decide +kernel))) (goodIn_sub (fun _ h => List.mem_cons_of_mem _ (List.mem_append_right _ h)) (by decide +kernel))
set_option maxRecDepth 20000 in
theorem gL_setGroup_X4_setGroup : GoodIn wsL_setGroup (wsV RL 15 RX4 yX4_setGroup wsX4_setGroup) := goodIn_app (goodIn_of _ (by decide +kernel)) ggL_setGroup_X4_setGroup
theorem dL_setGroup_0 : decode cL_setGroup 0 = .ok (.aload 4, 2) := by decide +kernel
theorem dL_setGroup_2 : decode cL_setGroup 2 = .ok (.iconst 0, 1) := by decide +kernel
theorem dL_setGroup_3 : decode cL_setGroup 3 = .ok (.aload_n 0, 1) := by decide +kernel
theorem dL_setGroup_4 : decode cL_setGroup 4 = .ok (.iload_n 1, 1) := by decide +kernel
theorem dL_setGroup_5 : decode cL_setGroup 5 = .ok (.iload_n 2, 1) := by decide +kernel
theorem dL_setGroup_6 : decode cL_setGroup 6 = .ok (.iload_n 3, 1) := by decide +kernel
theorem dL_setGroup_7 : decode cL_setGroup 7 = .ok (.invokevirtual 15, 3) := by decide +kernel
theorem dL_setGroup_10 : decode cL_setGroup 10 = .ok (.ifCond .eq 7, 3) := by decide +kernel
theorem dL_setGroup_13 : decode cL_setGroup 13 = .ok (.lconst 1, 1) := by decide +kernel
theorem dL_setGroup_14 : decode cL_setGroup 14 = .ok (.goto 4, 3) := by decide +kernel
theorem dL_setGroup_17 : decode cL_setGroup 17 = .ok (.lconst 0, 1) := by decide +kernel
theorem dL_setGroup_18 : decode cL_setGroup 18 = .ok (.lastore, 1) := by decide +kernel
theorem dL_setGroup_19 : decode cL_setGroup 19 = .ok (.goto 11, 3) := by decide +kernel
theorem dL_setGroup_22 : decode cL_setGroup 22 = .ok (.astore 5, 2) := by decide +kernel
theorem dL_setGroup_24 : decode cL_setGroup 24 = .ok (.iconst 1, 1) := by decide +kernel
theorem dL_setGroup_25 : decode cL_setGroup 25 = .ok (.ireturn, 1) := by decide +kernel
theorem dL_setGroup_26 : decode cL_setGroup 26 = .ok (.astore 5, 2) := by decide +kernel
theorem dL_setGroup_28 : decode cL_setGroup 28 = .ok (.iconst 2, 1) := by decide +kernel
theorem dL_setGroup_29 : decode cL_setGroup 29 = .ok (.ireturn, 1) := by decide +kernel
theorem dL_setGroup_30 : decode cL_setGroup 30 = .ok (.iconst 0, 1) := by decide +kernel
theorem dL_setGroup_31 : decode cL_setGroup 31 = .ok (.ireturn, 1) := by decide +kernel
set_option maxRecDepth 20000 in
theorem ggL_setRole_X4_setRole : GoodIn wsL_setRole wsX4_setRole := goodIn_ca (goodIn_r _ [6, 7, 8, 9, 10, 11, 5, 12, 13, 14, 15, 16, 17, 18, 19, 20, 21, 22, 23, 24, 25, 26, 27, 28, 29, 30, 31, 32, 33, 34, 35, 36, 37, 38, 39, 40] (by decide +kernel) (by decide +kernel)) (goodIn_sub (fun _ h => List.mem_cons_of_mem _ (List.mem_append_right _ h)) (by decide +kernel))
set_option maxRecDepth 20000 in
theorem gL_setRole_X4_setRole : GoodIn wsL_setRole (wsV RL 20 RX4 yX4_setRole wsX4_setRole) := goodIn_app (goodIn_of _ (by decide +kernel)) ggL_setRole_X4_setRole
theorem dL_setRole_0 : decode cL_setRole 0 = .ok (.aload 4, 2) := by decide +kernel
theorem dL_setRole_2 : decode cL_setRole 2 = .ok (.iconst 0, 1) := by decide +kernel
theorem dL_setRole_3 : decode cL_setRole 3 = .ok (.aload_n 0, 1) := by decide +kernel
theorem dL_setRole_4 : decode cL_setRole 4 = .ok (.iload_n 1, 1) := by decide +kernel
theorem dL_setRole_5 : decode cL_setRole 5 = .ok (.iload_n 2, 1) := by decide +kernel
theorem dL_setRole_6 : decode cL_setRole 6 = .ok (.iload_n 3, 1) := by decide +kernel
theorem dL_setRole_7 : decode cL_setRole 7 = .ok (.invokevirtual 20, 3) := by decide +kernel
theorem dL_setRole_10 : decode cL_setRole 10 = .ok (.i2l, 1) := by decide +kernel
theorem dL_setRole_11 : decode cL_setRole 11 = .ok (.lastore, 1) := by decide +kernel
theorem dL_setRole_12 : decode cL_setRole 12 = .ok (.goto 7, 3) := by decide +kernel
theorem dL_setRole_15 : decode cL_setRole 15 = .ok (.astore 5, 2) := by decide +kernel
theorem dL_setRole_17 : decode cL_setRole 17 = .ok (.iconst 1, 1) := by decide +kernel
theorem dL_setRole_18 : decode cL_setRole 18 = .ok (.ireturn, 1) := by decide +kernel
theorem dL_setRole_19 : decode cL_setRole 19 = .ok (.iconst 0, 1) := by decide +kernel
theorem dL_setRole_20 : decode cL_setRole 20 = .ok (.ireturn, 1) := by decide +kernel
set_option maxRecDepth 20000 in
theorem ggL_setRisk_X4_setRisk : GoodIn wsL_setRisk wsX4_setRisk := goodIn_ca (goodIn_r _ [6, 7, 8, 9, 10, 11, 12, 5, 13, 14, 15, 16, 17, 18, 19, 20, 21, 22, 23, 24, 25, 26, 27, 28, 29, 30, 31, 32, 33, 34, 35, 36, 37, 38] (by decide +kernel) (by decide +kernel)) (goodIn_sub (fun _ h => List.mem_cons_of_mem _ (List.mem_append_right _ h)) (by decide +kernel))
set_option maxRecDepth 20000 in
theorem gL_setRisk_X4_setRisk : GoodIn wsL_setRisk (wsV RL 24 RX4 yX4_setRisk wsX4_setRisk) := goodIn_app (goodIn_of _ (by decide +kernel)) ggL_setRisk_X4_setRisk
theorem dL_setRisk_0 : decode cL_setRisk 0 = .ok (.aload_n 3, 1) := by decide +kernel
theorem dL_setRisk_1 : decode cL_setRisk 1 = .ok (.iconst 0, 1) := by decide +kernel
theorem dL_setRisk_2 : decode cL_setRisk 2 = .ok (.aload_n 0, 1) := by decide +kernel
theorem dL_setRisk_3 : decode cL_setRisk 3 = .ok (.iload_n 1, 1) := by decide +kernel
theorem dL_setRisk_4 : decode cL_setRisk 4 = .ok (.iload_n 2, 1) := by decide +kernel
theorem dL_setRisk_5 : decode cL_setRisk 5 = .ok (.invokevirtual 24, 3) := by decide +kernel
theorem dL_setRisk_8 : decode cL_setRisk 8 = .ok (.i2l, 1) := by decide +kernel
theorem dL_setRisk_9 : decode cL_setRisk 9 = .ok (.lastore, 1) := by decide +kernel
theorem dL_setRisk_10 : decode cL_setRisk 10 = .ok (.goto 7, 3) := by decide +kernel
theorem dL_setRisk_13 : decode cL_setRisk 13 = .ok (.astore 4, 2) := by decide +kernel
theorem dL_setRisk_15 : decode cL_setRisk 15 = .ok (.iconst 1, 1) := by decide +kernel
theorem dL_setRisk_16 : decode cL_setRisk 16 = .ok (.ireturn, 1) := by decide +kernel
theorem dL_setRisk_17 : decode cL_setRisk 17 = .ok (.iconst 0, 1) := by decide +kernel
theorem dL_setRisk_18 : decode cL_setRisk 18 = .ok (.ireturn, 1) := by decide +kernel
set_option maxRecDepth 20000 in
theorem ggL_isIn_X4_isIn : GoodIn wsL_isIn wsX4_isIn := goodIn_ca (goodIn_r _ [6, 7, 8, 9, 10, 11, 5, 12, 13, 14, 15, 16, 17, 18, 19, 20, 21, 22, 23, 24, 25, 26, 27, 28, 29, 30, 31, 32, 33, 34, 35, 36, 37, 38, 39, 40, 41] (by decide +kernel) (by decide +kernel)) (goodIn_sub (fun _ h => List.mem_cons_of_mem _ (List.mem_append_right _ h)) (by decide +kernel))
set_option maxRecDepth 20000 in
theorem gL_isIn_X4_isIn : GoodIn wsL_isIn (wsV RL 28 RX4 yX4_isIn wsX4_isIn) := goodIn_app (goodIn_of _ (by decide +kernel)) ggL_isIn_X4_isIn
theorem dL_isIn_0 : decode cL_isIn 0 = .ok (.aload_n 3, 1) := by decide +kernel
theorem dL_isIn_1 : decode cL_isIn 1 = .ok (.iconst 0, 1) := by decide +kernel
theorem dL_isIn_2 : decode cL_isIn 2 = .ok (.aload_n 0, 1) := by decide +kernel
theorem dL_isIn_3 : decode cL_isIn 3 = .ok (.iload_n 1, 1) := by decide +kernel
theorem dL_isIn_4 : decode cL_isIn 4 = .ok (.iload_n 2, 1) := by decide +kernel
theorem dL_isIn_5 : decode cL_isIn 5 = .ok (.invokevirtual 28, 3) := by decide +kernel
theorem dL_isIn_8 : decode cL_isIn 8 = .ok (.ifCond .eq 7, 3) := by decide +kernel
theorem dL_isIn_11 : decode cL_isIn 11 = .ok (.lconst 1, 1) := by decide +kernel
theorem dL_isIn_12 : decode cL_isIn 12 = .ok (.goto 4, 3) := by decide +kernel
theorem dL_isIn_15 : decode cL_isIn 15 = .ok (.lconst 0, 1) := by decide +kernel
theorem dL_isIn_16 : decode cL_isIn 16 = .ok (.lastore, 1) := by decide +kernel
theorem dL_isIn_17 : decode cL_isIn 17 = .ok (.goto 7, 3) := by decide +kernel
theorem dL_isIn_20 : decode cL_isIn 20 = .ok (.astore 4, 2) := by decide +kernel
theorem dL_isIn_22 : decode cL_isIn 22 = .ok (.iconst 1, 1) := by decide +kernel
theorem dL_isIn_23 : decode cL_isIn 23 = .ok (.ireturn, 1) := by decide +kernel
theorem dL_isIn_24 : decode cL_isIn 24 = .ok (.iconst 0, 1) := by decide +kernel
theorem dL_isIn_25 : decode cL_isIn 25 = .ok (.ireturn, 1) := by decide +kernel
set_option maxRecDepth 20000 in
theorem ggL_allows_X4_allows : GoodIn wsL_allows wsX4_allows := goodIn_ca (goodIn_r _ [6, 7, 8, 9, 10, 5, 11, 12, 13, 14, 15, 16, 17, 18, 19, 20, 21, 22, 23, 24, 25, 26, 27, 28, 29, 30, 31, 32, 33, 34, 35, 36, 37, 38, 39, 40, 41, 42, 43, 44, 45, 46, 47, 48, 49, 50, 51, 52, 53, 54, 55, 56, 57, 58, 59, 60, 61, 62] (by decide +kernel) (by decide +kernel)) (goodIn_sub (fun _ h => List.mem_cons_of_mem _ (List.mem_append_right _ h)) (by decide +kernel))
set_option maxRecDepth 20000 in
theorem gL_allows_X4_allows : GoodIn wsL_allows (wsV RL 32 RX4 yX4_allows wsX4_allows) := goodIn_app (goodIn_of _ (by decide +kernel)) ggL_allows_X4_allows
theorem dL_allows_0 : decode cL_allows 0 = .ok (.aload_n 3, 1) := by decide +kernel
theorem dL_allows_1 : decode cL_allows 1 = .ok (.iconst 0, 1) := by decide +kernel
theorem dL_allows_2 : decode cL_allows 2 = .ok (.aload_n 0, 1) := by decide +kernel
theorem dL_allows_3 : decode cL_allows 3 = .ok (.iload_n 1, 1) := by decide +kernel
theorem dL_allows_4 : decode cL_allows 4 = .ok (.iload_n 2, 1) := by decide +kernel
theorem dL_allows_5 : decode cL_allows 5 = .ok (.invokevirtual 32, 3) := by decide +kernel
theorem dL_allows_8 : decode cL_allows 8 = .ok (.ifCond .eq 7, 3) := by decide +kernel
theorem dL_allows_11 : decode cL_allows 11 = .ok (.lconst 1, 1) := by decide +kernel
theorem dL_allows_12 : decode cL_allows 12 = .ok (.goto 4, 3) := by decide +kernel
theorem dL_allows_15 : decode cL_allows 15 = .ok (.lconst 0, 1) := by decide +kernel
theorem dL_allows_16 : decode cL_allows 16 = .ok (.lastore, 1) := by decide +kernel
theorem dL_allows_17 : decode cL_allows 17 = .ok (.goto 7, 3) := by decide +kernel
theorem dL_allows_20 : decode cL_allows 20 = .ok (.astore 4, 2) := by decide +kernel
theorem dL_allows_22 : decode cL_allows 22 = .ok (.iconst 1, 1) := by decide +kernel
theorem dL_allows_23 : decode cL_allows 23 = .ok (.ireturn, 1) := by decide +kernel
theorem dL_allows_24 : decode cL_allows 24 = .ok (.iconst 0, 1) := by decide +kernel
theorem dL_allows_25 : decode cL_allows 25 = .ok (.ireturn, 1) := by decide +kernel
set_option maxRecDepth 20000 in
theorem ggL_open_X4_open : GoodIn wsL_open wsX4_open := goodIn_ca (goodIn_ca (goodIn_r _ [7, 8, 9, 10, 11, 12, 13, 14, 15, 16, 6, 17, 18, 19, 20, 21, 22, 23, 24, 25, 26, 27, 28, 29, 30, 31, 32, 33, 34, 35, 36, 37, 38, 39, 40, 41, 42, 43, 44, 45, 46, 47, 48, 49, 50, 51, 52, 53, 54, 55, 56, 57] (by decide +kernel) (by decide +kernel)) (goodIn_sub (fun _ h => List.mem_cons_of_mem _ (List.mem_append_left _ (List.mem_append_right _ h))) (by decide +kernel))) (goodIn_sub (fun _ h => List.mem_cons_of_mem _ (List.mem_append_right _ h)) (by decide +kernel))
set_option maxRecDepth 20000 in
theorem gL_open_X4_open : GoodIn wsL_open (wsV RL 35 RX4 yX4_open wsX4_open) := goodIn_app (goodIn_of _ (by decide +kernel)) ggL_open_X4_open
theorem dL_open_0 : decode cL_open 0 = .ok (.aload_n 2, 1) := by decide +kernel
theorem dL_open_1 : decode cL_open 1 = .ok (.iconst 0, 1) := by decide +kernel
theorem dL_open_2 : decode cL_open 2 = .ok (.aload_n 0, 1) := by decide +kernel
theorem dL_open_3 : decode cL_open 3 = .ok (.iload_n 1, 1) := by decide +kernel
theorem dL_open_4 : decode cL_open 4 = .ok (.invokevirtual 35, 3) := by decide +kernel
theorem dL_open_7 : decode cL_open 7 = .ok (.i2l, 1) := by decide +kernel
theorem dL_open_8 : decode cL_open 8 = .ok (.lastore, 1) := by decide +kernel
theorem dL_open_9 : decode cL_open 9 = .ok (.goto 9, 3) := by decide +kernel
theorem dL_open_12 : decode cL_open 12 = .ok (.astore_n 3, 1) := by decide +kernel
theorem dL_open_13 : decode cL_open 13 = .ok (.iconst 1, 1) := by decide +kernel
theorem dL_open_14 : decode cL_open 14 = .ok (.ireturn, 1) := by decide +kernel
theorem dL_open_15 : decode cL_open 15 = .ok (.astore_n 3, 1) := by decide +kernel
theorem dL_open_16 : decode cL_open 16 = .ok (.iconst 2, 1) := by decide +kernel
theorem dL_open_17 : decode cL_open 17 = .ok (.ireturn, 1) := by decide +kernel
theorem dL_open_18 : decode cL_open 18 = .ok (.iconst 0, 1) := by decide +kernel
theorem dL_open_19 : decode cL_open 19 = .ok (.ireturn, 1) := by decide +kernel
set_option maxRecDepth 20000 in
theorem ggL_close_X4_close : GoodIn wsL_close wsX4_close := goodIn_ca (goodIn_ca (goodIn_r _ [7, 8, 9, 10, 11, 12, 13, 14, 15, 16, 17, 18, 19, 20, 21, 22, 23, 24, 25, 26, 27, 28, 29, 30, 31, 32, 33, 34, 35, 36, 37, 38, 39, 40, 41, 42, 43, 44, 45, 46] (by decide +kernel) (by decide +kernel)) (goodIn_sub (fun _ h => List.mem_cons_of_mem _ (List.mem_append_left _ (List.mem_append_right _ h))) (by decide +kernel))) (goodIn_sub (fun _ h => List.mem_cons_of_mem _ (List.mem_append_right _ h)) (by decide +kernel))
set_option maxRecDepth 20000 in
theorem gL_close_X4_close : GoodIn wsL_close (wsV RL 39 RX4 yX4_close wsX4_close) := goodIn_app (goodIn_of _ (by decide +kernel)) ggL_close_X4_close
theorem dL_close_0 : decode cL_close 0 = .ok (.aload_n 2, 1) := by decide +kernel
theorem dL_close_1 : decode cL_close 1 = .ok (.iconst 0, 1) := by decide +kernel
theorem dL_close_2 : decode cL_close 2 = .ok (.aload_n 0, 1) := by decide +kernel
theorem dL_close_3 : decode cL_close 3 = .ok (.iload_n 1, 1) := by decide +kernel
theorem dL_close_4 : decode cL_close 4 = .ok (.invokevirtual 39, 3) := by decide +kernel
theorem dL_close_7 : decode cL_close 7 = .ok (.i2l, 1) := by decide +kernel
theorem dL_close_8 : decode cL_close 8 = .ok (.lastore, 1) := by decide +kernel
theorem dL_close_9 : decode cL_close 9 = .ok (.goto 9, 3) := by decide +kernel
theorem dL_close_12 : decode cL_close 12 = .ok (.astore_n 3, 1) := by decide +kernel
theorem dL_close_13 : decode cL_close 13 = .ok (.iconst 1, 1) := by decide +kernel
theorem dL_close_14 : decode cL_close 14 = .ok (.ireturn, 1) := by decide +kernel
theorem dL_close_15 : decode cL_close 15 = .ok (.astore_n 3, 1) := by decide +kernel
theorem dL_close_16 : decode cL_close 16 = .ok (.iconst 2, 1) := by decide +kernel
theorem dL_close_17 : decode cL_close 17 = .ok (.ireturn, 1) := by decide +kernel
theorem dL_close_18 : decode cL_close 18 = .ok (.iconst 0, 1) := by decide +kernel
theorem dL_close_19 : decode cL_close 19 = .ok (.ireturn, 1) := by decide +kernel
set_option maxRecDepth 20000 in
theorem ggL_goesOn_X4_goesOn : GoodIn wsL_goesOn wsX4_goesOn := goodIn_ca (goodIn_r _ [6, 7, 8, 9, 10, 11, 12, 13, 14, 15, 16, 17, 18, 19, 20, 21, 22, 23, 24, 25, 26, 27, 28, 29, 30, 31, 32, 33] (by decide +kernel) (by decide +kernel)) (goodIn_sub (fun _ h => List.mem_cons_of_mem _ (List.mem_append_right _ h)) (by decide +kernel))
set_option maxRecDepth 20000 in
theorem gL_goesOn_X4_goesOn : GoodIn wsL_goesOn (wsV RL 44 RX4 yX4_goesOn wsX4_goesOn) := goodIn_app (goodIn_of _ (by decide +kernel)) ggL_goesOn_X4_goesOn
theorem dL_goesOn_0 : decode cL_goesOn 0 = .ok (.aload_n 2, 1) := by decide +kernel
theorem dL_goesOn_1 : decode cL_goesOn 1 = .ok (.iconst 0, 1) := by decide +kernel
theorem dL_goesOn_2 : decode cL_goesOn 2 = .ok (.aload_n 0, 1) := by decide +kernel
theorem dL_goesOn_3 : decode cL_goesOn 3 = .ok (.iload_n 1, 1) := by decide +kernel
theorem dL_goesOn_4 : decode cL_goesOn 4 = .ok (.invokevirtual 44, 3) := by decide +kernel
theorem dL_goesOn_7 : decode cL_goesOn 7 = .ok (.ifCond .eq 7, 3) := by decide +kernel
theorem dL_goesOn_10 : decode cL_goesOn 10 = .ok (.lconst 1, 1) := by decide +kernel
theorem dL_goesOn_11 : decode cL_goesOn 11 = .ok (.goto 4, 3) := by decide +kernel
theorem dL_goesOn_14 : decode cL_goesOn 14 = .ok (.lconst 0, 1) := by decide +kernel
theorem dL_goesOn_15 : decode cL_goesOn 15 = .ok (.lastore, 1) := by decide +kernel
theorem dL_goesOn_16 : decode cL_goesOn 16 = .ok (.goto 6, 3) := by decide +kernel
theorem dL_goesOn_19 : decode cL_goesOn 19 = .ok (.astore_n 3, 1) := by decide +kernel
theorem dL_goesOn_20 : decode cL_goesOn 20 = .ok (.iconst 1, 1) := by decide +kernel
theorem dL_goesOn_21 : decode cL_goesOn 21 = .ok (.ireturn, 1) := by decide +kernel
theorem dL_goesOn_22 : decode cL_goesOn 22 = .ok (.iconst 0, 1) := by decide +kernel
theorem dL_goesOn_23 : decode cL_goesOn 23 = .ok (.ireturn, 1) := by decide +kernel
set_option maxRecDepth 20000 in
theorem ggL_changeKeys_X4_changeKeys : GoodIn wsL_changeKeys wsX4_changeKeys := goodIn_ca (goodIn_r _ [6, 7, 8, 9, 10, 11, 12, 13, 14, 15, 16, 17, 18, 19, 20, 21, 22, 23, 24, 25, 26, 27, 28, 29, 30, 31, 32, 33, 34, 35, 36, 37, 38, 39, 40, 41, 42, 43, 44, 45, 46, 47, 48, 49, 50, 51, 52, 53, 54, 55, 56, 57, 58, 59, 60, 61, 62, 63, 64, 65] (by decide +kernel) (by decide +kernel)) (goodIn_sub (fun _ h => List.mem_cons_of_mem _ (List.mem_append_right _ h)) (by decide +kernel))
set_option maxRecDepth 20000 in
theorem gL_changeKeys_X4_changeKeys : GoodIn wsL_changeKeys (wsV RL 48 RX4 yX4_changeKeys wsX4_changeKeys) := goodIn_app (goodIn_of _ (by decide +kernel)) ggL_changeKeys_X4_changeKeys
theorem dL_changeKeys_0 : decode cL_changeKeys 0 = .ok (.aload_n 2, 1) := by decide +kernel
theorem dL_changeKeys_1 : decode cL_changeKeys 1 = .ok (.iconst 0, 1) := by decide +kernel
theorem dL_changeKeys_2 : decode cL_changeKeys 2 = .ok (.aload_n 0, 1) := by decide +kernel
theorem dL_changeKeys_3 : decode cL_changeKeys 3 = .ok (.iload_n 1, 1) := by decide +kernel
theorem dL_changeKeys_4 : decode cL_changeKeys 4 = .ok (.invokevirtual 48, 3) := by decide +kernel
theorem dL_changeKeys_7 : decode cL_changeKeys 7 = .ok (.i2l, 1) := by decide +kernel
theorem dL_changeKeys_8 : decode cL_changeKeys 8 = .ok (.lastore, 1) := by decide +kernel
theorem dL_changeKeys_9 : decode cL_changeKeys 9 = .ok (.goto 6, 3) := by decide +kernel
theorem dL_changeKeys_12 : decode cL_changeKeys 12 = .ok (.astore_n 3, 1) := by decide +kernel
theorem dL_changeKeys_13 : decode cL_changeKeys 13 = .ok (.iconst 1, 1) := by decide +kernel
theorem dL_changeKeys_14 : decode cL_changeKeys 14 = .ok (.ireturn, 1) := by decide +kernel
theorem dL_changeKeys_15 : decode cL_changeKeys 15 = .ok (.iconst 0, 1) := by decide +kernel
theorem dL_changeKeys_16 : decode cL_changeKeys 16 = .ok (.ireturn, 1) := by decide +kernel
set_option maxRecDepth 20000 in
theorem ggL_isTaken_X4_isTaken : GoodIn wsL_isTaken wsX4_isTaken := goodIn_ca (goodIn_r _ [6, 7, 8, 9, 10, 11, 12, 13, 14, 15, 16, 17, 18, 19, 20, 21, 22, 23, 24, 25, 26, 27, 28, 29, 30] (by decide +kernel) (by decide +kernel)) (goodIn_sub (fun _ h => List.mem_cons_of_mem _ (List.mem_append_right _ h)) (by decide +kernel))
set_option maxRecDepth 20000 in
theorem gL_isTaken_X4_isTaken : GoodIn wsL_isTaken (wsV RL 51 RX4 yX4_isTaken wsX4_isTaken) := goodIn_app (goodIn_of _ (by decide +kernel)) ggL_isTaken_X4_isTaken
theorem dL_isTaken_0 : decode cL_isTaken 0 = .ok (.aload_n 2, 1) := by decide +kernel
theorem dL_isTaken_1 : decode cL_isTaken 1 = .ok (.iconst 0, 1) := by decide +kernel
theorem dL_isTaken_2 : decode cL_isTaken 2 = .ok (.aload_n 0, 1) := by decide +kernel
theorem dL_isTaken_3 : decode cL_isTaken 3 = .ok (.iload_n 1, 1) := by decide +kernel
theorem dL_isTaken_4 : decode cL_isTaken 4 = .ok (.invokevirtual 51, 3) := by decide +kernel
theorem dL_isTaken_7 : decode cL_isTaken 7 = .ok (.ifCond .eq 7, 3) := by decide +kernel
theorem dL_isTaken_10 : decode cL_isTaken 10 = .ok (.lconst 1, 1) := by decide +kernel
theorem dL_isTaken_11 : decode cL_isTaken 11 = .ok (.goto 4, 3) := by decide +kernel
theorem dL_isTaken_14 : decode cL_isTaken 14 = .ok (.lconst 0, 1) := by decide +kernel
theorem dL_isTaken_15 : decode cL_isTaken 15 = .ok (.lastore, 1) := by decide +kernel
theorem dL_isTaken_16 : decode cL_isTaken 16 = .ok (.goto 6, 3) := by decide +kernel
theorem dL_isTaken_19 : decode cL_isTaken 19 = .ok (.astore_n 3, 1) := by decide +kernel
theorem dL_isTaken_20 : decode cL_isTaken 20 = .ok (.iconst 1, 1) := by decide +kernel
theorem dL_isTaken_21 : decode cL_isTaken 21 = .ok (.ireturn, 1) := by decide +kernel
theorem dL_isTaken_22 : decode cL_isTaken 22 = .ok (.iconst 0, 1) := by decide +kernel
theorem dL_isTaken_23 : decode cL_isTaken 23 = .ok (.ireturn, 1) := by decide +kernel
set_option maxRecDepth 20000 in
theorem ggL_pass_X4_pass : GoodIn wsL_pass wsX4_pass := goodIn_ca (goodIn_r _ [6, 7, 8, 9, 10, 11, 12, 13, 14, 15, 16, 17, 18, 19, 20, 21, 22, 23, 24, 25, 26, 27, 28, 29, 30, 31, 32, 33, 34, 35, 36, 37, 38, 39, 40, 41, 42, 43, 44, 45, 46, 47, 48, 49, 50, 51, 52, 53, 54, 55, 56, 57, 58, 59, 60, 61, 62, 63, 64, 65, 66, 67, 68, 69, 70, 71, 72, 73, 74, 75, 76] (by decide +kernel) (by decide +kernel)) (goodIn_sub (fun _ h => List.mem_cons_of_mem _ (List.mem_append_right _ h)) (by decide +kernel))
set_option maxRecDepth 20000 in
theorem gL_pass_X4_pass : GoodIn wsL_pass (wsV RL 54 RX4 yX4_pass wsX4_pass) := goodIn_app (goodIn_of _ (by decide +kernel)) ggL_pass_X4_pass
theorem dL_pass_0 : decode cL_pass 0 = .ok (.aload_n 2, 1) := by decide +kernel
theorem dL_pass_1 : decode cL_pass 1 = .ok (.iconst 0, 1) := by decide +kernel
theorem dL_pass_2 : decode cL_pass 2 = .ok (.aload_n 0, 1) := by decide +kernel
theorem dL_pass_3 : decode cL_pass 3 = .ok (.iload_n 1, 1) := by decide +kernel
theorem dL_pass_4 : decode cL_pass 4 = .ok (.invokevirtual 54, 3) := by decide +kernel
theorem dL_pass_7 : decode cL_pass 7 = .ok (.i2l, 1) := by decide +kernel
theorem dL_pass_8 : decode cL_pass 8 = .ok (.lastore, 1) := by decide +kernel
theorem dL_pass_9 : decode cL_pass 9 = .ok (.goto 6, 3) := by decide +kernel
theorem dL_pass_12 : decode cL_pass 12 = .ok (.astore_n 3, 1) := by decide +kernel
theorem dL_pass_13 : decode cL_pass 13 = .ok (.iconst 1, 1) := by decide +kernel
theorem dL_pass_14 : decode cL_pass 14 = .ok (.ireturn, 1) := by decide +kernel
theorem dL_pass_15 : decode cL_pass 15 = .ok (.iconst 0, 1) := by decide +kernel
theorem dL_pass_16 : decode cL_pass 16 = .ok (.ireturn, 1) := by decide +kernel
set_option maxRecDepth 20000 in
theorem ggL_breakGlass_X4_breakGlass : GoodIn wsL_breakGlass wsX4_breakGlass := goodIn_ca (goodIn_ca (goodIn_r _ [7, 8, 9, 10, 11, 12, 13, 14, 15, 6, 16, 17, 18, 19, 20, 21, 22, 23, 24, 25, 26, 27, 28, 29, 30, 31, 32, 33, 34, 35, 36, 37, 38, 39, 40, 41, 42, 43, 44, 45, 46, 47, 48, 49, 50, 51, 52, 53, 54, 55, 56] (by decide +kernel) (by decide +kernel)) (goodIn_sub (fun _ h => List.mem_cons_of_mem _ (List.mem_append_left _ (List.mem_append_right _ h))) (by decide +kernel))) (goodIn_sub (fun _ h => List.mem_cons_of_mem _ (List.mem_append_right _ h)) (by decide +kernel))
set_option maxRecDepth 20000 in
theorem gL_breakGlass_X4_breakGlass : GoodIn wsL_breakGlass (wsV RL 57 RX4 yX4_breakGlass wsX4_breakGlass) := goodIn_app (goodIn_of _ (by decide +kernel)) ggL_breakGlass_X4_breakGlass
theorem dL_breakGlass_0 : decode cL_breakGlass 0 = .ok (.aload 5, 2) := by decide +kernel
theorem dL_breakGlass_2 : decode cL_breakGlass 2 = .ok (.iconst 0, 1) := by decide +kernel
theorem dL_breakGlass_3 : decode cL_breakGlass 3 = .ok (.aload_n 0, 1) := by decide +kernel
theorem dL_breakGlass_4 : decode cL_breakGlass 4 = .ok (.iload_n 1, 1) := by decide +kernel
theorem dL_breakGlass_5 : decode cL_breakGlass 5 = .ok (.iload_n 2, 1) := by decide +kernel
theorem dL_breakGlass_6 : decode cL_breakGlass 6 = .ok (.iload_n 3, 1) := by decide +kernel
theorem dL_breakGlass_7 : decode cL_breakGlass 7 = .ok (.iload 4, 2) := by decide +kernel
theorem dL_breakGlass_9 : decode cL_breakGlass 9 = .ok (.invokevirtual 57, 3) := by decide +kernel
theorem dL_breakGlass_12 : decode cL_breakGlass 12 = .ok (.i2l, 1) := by decide +kernel
theorem dL_breakGlass_13 : decode cL_breakGlass 13 = .ok (.lastore, 1) := by decide +kernel
theorem dL_breakGlass_14 : decode cL_breakGlass 14 = .ok (.goto 11, 3) := by decide +kernel
theorem dL_breakGlass_17 : decode cL_breakGlass 17 = .ok (.astore 6, 2) := by decide +kernel
theorem dL_breakGlass_19 : decode cL_breakGlass 19 = .ok (.iconst 1, 1) := by decide +kernel
theorem dL_breakGlass_20 : decode cL_breakGlass 20 = .ok (.ireturn, 1) := by decide +kernel
theorem dL_breakGlass_21 : decode cL_breakGlass 21 = .ok (.astore 6, 2) := by decide +kernel
theorem dL_breakGlass_23 : decode cL_breakGlass 23 = .ok (.iconst 2, 1) := by decide +kernel
theorem dL_breakGlass_24 : decode cL_breakGlass 24 = .ok (.ireturn, 1) := by decide +kernel
theorem dL_breakGlass_25 : decode cL_breakGlass 25 = .ok (.iconst 0, 1) := by decide +kernel
theorem dL_breakGlass_26 : decode cL_breakGlass 26 = .ok (.ireturn, 1) := by decide +kernel
set_option maxRecDepth 20000 in
theorem ggL_setCache_X4_setCache : GoodIn wsL_setCache wsX4_setCache := goodIn_ca (goodIn_r _ [6, 7, 8, 9, 10, 11, 12, 5, 13, 14, 15, 16, 17, 18, 19, 20, 21, 22, 23, 24, 25, 26, 27, 28, 29, 30, 31, 32, 33, 34, 35, 36, 37, 38, 39, 40, 41, 42] (by decide +kernel) (by decide +kernel)) (goodIn_sub (fun _ h => List.mem_cons_of_mem _ (List.mem_append_right _ h)) (by decide +kernel))
set_option maxRecDepth 20000 in
theorem gL_setCache_X4_setCache : GoodIn wsL_setCache (wsV RL 61 RX4 yX4_setCache wsX4_setCache) := goodIn_app (goodIn_of _ (by decide +kernel)) ggL_setCache_X4_setCache
theorem dL_setCache_0 : decode cL_setCache 0 = .ok (.aload_n 3, 1) := by decide +kernel
theorem dL_setCache_1 : decode cL_setCache 1 = .ok (.iconst 0, 1) := by decide +kernel
theorem dL_setCache_2 : decode cL_setCache 2 = .ok (.aload_n 0, 1) := by decide +kernel
theorem dL_setCache_3 : decode cL_setCache 3 = .ok (.iload_n 1, 1) := by decide +kernel
theorem dL_setCache_4 : decode cL_setCache 4 = .ok (.iload_n 2, 1) := by decide +kernel
theorem dL_setCache_5 : decode cL_setCache 5 = .ok (.invokevirtual 61, 3) := by decide +kernel
theorem dL_setCache_8 : decode cL_setCache 8 = .ok (.i2l, 1) := by decide +kernel
theorem dL_setCache_9 : decode cL_setCache 9 = .ok (.lastore, 1) := by decide +kernel
theorem dL_setCache_10 : decode cL_setCache 10 = .ok (.goto 7, 3) := by decide +kernel
theorem dL_setCache_13 : decode cL_setCache 13 = .ok (.astore 4, 2) := by decide +kernel
theorem dL_setCache_15 : decode cL_setCache 15 = .ok (.iconst 1, 1) := by decide +kernel
theorem dL_setCache_16 : decode cL_setCache 16 = .ok (.ireturn, 1) := by decide +kernel
theorem dL_setCache_17 : decode cL_setCache 17 = .ok (.iconst 0, 1) := by decide +kernel
theorem dL_setCache_18 : decode cL_setCache 18 = .ok (.ireturn, 1) := by decide +kernel
set_option maxRecDepth 20000 in
theorem ggL_decide_X4_decide : GoodIn wsL_decide wsX4_decide := goodIn_ca (goodIn_ca (goodIn_r _ [7, 8, 9, 10, 11, 12, 13, 14, 15, 6, 16, 17, 18, 19, 20, 21, 22, 23, 24, 25, 26, 27, 28, 29, 30, 31, 32, 33, 34, 35, 36, 37, 38, 39, 40, 41, 42, 43, 44, 45, 46, 47, 48, 49, 50, 51, 52, 53, 54, 55, 56, 57, 58, 59, 60, 61, 62, 63, 64, 65, 66, 67, 68, 69, 70, 71, 72, 73, 74, 75, 76, 77, 78, 79, 80, 81, 82, 83, 84, 85, 86, 87, 88, 89, 90, 91, 92, 93, 94, 95, 96, 97, 98, 99, 100, 101, 102, 103, 104, 105, 106, 107, 108, 109, 110, 111, 112, 113, 114, 115, 116, 117, 118, 119, 120] (by decide +kernel) (by decide +kernel)) (goodIn_sub (fun _ h => List.mem_cons_of_mem _ (List.mem_append_left _ (List.mem_append_right _ h))) (by decide +kernel))) (goodIn_sub (fun _ h => List.mem_cons_of_mem _ (List.mem_append_right _ h)) (by decide +kernel))
set_option maxRecDepth 20000 in
theorem gL_decide_X4_decide : GoodIn wsL_decide (wsV RL 64 RX4 yX4_decide wsX4_decide) := goodIn_app (goodIn_of _ (by decide +kernel)) ggL_decide_X4_decide
theorem dL_decide_0 : decode cL_decide 0 = .ok (.aload 4, 2) := by decide +kernel
theorem dL_decide_2 : decode cL_decide 2 = .ok (.iconst 0, 1) := by decide +kernel
theorem dL_decide_3 : decode cL_decide 3 = .ok (.aload_n 0, 1) := by decide +kernel
theorem dL_decide_4 : decode cL_decide 4 = .ok (.iload_n 1, 1) := by decide +kernel
theorem dL_decide_5 : decode cL_decide 5 = .ok (.iload_n 2, 1) := by decide +kernel
theorem dL_decide_6 : decode cL_decide 6 = .ok (.iload_n 3, 1) := by decide +kernel
theorem dL_decide_7 : decode cL_decide 7 = .ok (.invokevirtual 64, 3) := by decide +kernel
theorem dL_decide_10 : decode cL_decide 10 = .ok (.i2l, 1) := by decide +kernel
theorem dL_decide_11 : decode cL_decide 11 = .ok (.lastore, 1) := by decide +kernel
theorem dL_decide_12 : decode cL_decide 12 = .ok (.goto 11, 3) := by decide +kernel
theorem dL_decide_15 : decode cL_decide 15 = .ok (.astore 5, 2) := by decide +kernel
theorem dL_decide_17 : decode cL_decide 17 = .ok (.iconst 1, 1) := by decide +kernel
theorem dL_decide_18 : decode cL_decide 18 = .ok (.ireturn, 1) := by decide +kernel
theorem dL_decide_19 : decode cL_decide 19 = .ok (.astore 5, 2) := by decide +kernel
theorem dL_decide_21 : decode cL_decide 21 = .ok (.iconst 2, 1) := by decide +kernel
theorem dL_decide_22 : decode cL_decide 22 = .ok (.ireturn, 1) := by decide +kernel
theorem dL_decide_23 : decode cL_decide 23 = .ok (.iconst 0, 1) := by decide +kernel
theorem dL_decide_24 : decode cL_decide 24 = .ok (.ireturn, 1) := by decide +kernel
set_option maxRecDepth 20000 in
theorem ggL_forget_X4_forget : GoodIn wsL_forget wsX4_forget := goodIn_ca (goodIn_r _ [6, 7, 8, 9, 10, 11, 5, 12, 13, 14, 15, 16, 17, 18, 19, 20, 21, 22, 23, 24, 25, 26, 27, 28, 29, 30, 31, 32, 33, 34, 35] (by decide +kernel) (by decide +kernel)) (goodIn_sub (fun _ h => List.mem_cons_of_mem _ (List.mem_append_right _ h)) (by decide +kernel))
set_option maxRecDepth 20000 in
theorem gL_forget_X4_forget : GoodIn wsL_forget (wsV RL 67 RX4 yX4_forget wsX4_forget) := goodIn_app (goodIn_of _ (by decide +kernel)) ggL_forget_X4_forget
theorem dL_forget_0 : decode cL_forget 0 = .ok (.aload_n 3, 1) := by decide +kernel
theorem dL_forget_1 : decode cL_forget 1 = .ok (.iconst 0, 1) := by decide +kernel
theorem dL_forget_2 : decode cL_forget 2 = .ok (.aload_n 0, 1) := by decide +kernel
theorem dL_forget_3 : decode cL_forget 3 = .ok (.iload_n 1, 1) := by decide +kernel
theorem dL_forget_4 : decode cL_forget 4 = .ok (.iload_n 2, 1) := by decide +kernel
theorem dL_forget_5 : decode cL_forget 5 = .ok (.invokevirtual 67, 3) := by decide +kernel
theorem dL_forget_8 : decode cL_forget 8 = .ok (.i2l, 1) := by decide +kernel
theorem dL_forget_9 : decode cL_forget 9 = .ok (.lastore, 1) := by decide +kernel
theorem dL_forget_10 : decode cL_forget 10 = .ok (.goto 7, 3) := by decide +kernel
theorem dL_forget_13 : decode cL_forget 13 = .ok (.astore 4, 2) := by decide +kernel
theorem dL_forget_15 : decode cL_forget 15 = .ok (.iconst 1, 1) := by decide +kernel
theorem dL_forget_16 : decode cL_forget 16 = .ok (.ireturn, 1) := by decide +kernel
theorem dL_forget_17 : decode cL_forget 17 = .ok (.iconst 0, 1) := by decide +kernel
theorem dL_forget_18 : decode cL_forget 18 = .ok (.ireturn, 1) := by decide +kernel
set_option maxRecDepth 20000 in
theorem ggL_stale_X4_stale : GoodIn wsL_stale wsX4_stale := goodIn_ca (goodIn_r _ [6, 7, 8, 9, 10, 5, 11, 12, 13, 14, 15, 16, 17, 18, 19, 20, 21, 22, 23, 24, 25, 26, 27, 28, 29, 30, 31, 32, 33, 34, 35, 36, 37, 38, 39, 40, 41, 42, 43, 44, 45, 46, 47, 48, 49, 50, 51, 52, 53, 54, 55, 56, 57, 58, 59, 60, 61, 62, 63, 64, 65, 66, 67, 68, 69, 70, 71, 72, 73, 74, 75, 76, 77, 78, 79, 80, 81, 82, 83] (by decide +kernel) (by decide +kernel)) (goodIn_sub (fun _ h => List.mem_cons_of_mem _ (List.mem_append_right _ h)) (by decide +kernel))
set_option maxRecDepth 20000 in
theorem gL_stale_X4_stale : GoodIn wsL_stale (wsV RL 70 RX4 yX4_stale wsX4_stale) := goodIn_app (goodIn_of _ (by decide +kernel)) ggL_stale_X4_stale
theorem dL_stale_0 : decode cL_stale 0 = .ok (.aload_n 2, 1) := by decide +kernel
theorem dL_stale_1 : decode cL_stale 1 = .ok (.iconst 0, 1) := by decide +kernel
theorem dL_stale_2 : decode cL_stale 2 = .ok (.aload_n 0, 1) := by decide +kernel
theorem dL_stale_3 : decode cL_stale 3 = .ok (.iload_n 1, 1) := by decide +kernel
theorem dL_stale_4 : decode cL_stale 4 = .ok (.invokevirtual 70, 3) := by decide +kernel
end
section
theorem dL_stale_7 : decode cL_stale 7 = .ok (.i2l, 1) := by decide +kernel
theorem dL_stale_8 : decode cL_stale 8 = .ok (.lastore, 1) := by decide +kernel
theorem dL_stale_9 : decode cL_stale 9 = .ok (.goto 6, 3) := by decide +kernel
theorem dL_stale_12 : decode cL_stale 12 = .ok (.astore_n 3, 1) := by decide +kernel
theorem dL_stale_13 : decode cL_stale 13 = .ok (.iconst 1, 1) := by decide +kernel
theorem dL_stale_14 : decode cL_stale 14 = .ok (.ireturn, 1) := by decide +kernel
theorem dL_stale_15 : decode cL_stale 15 = .ok (.iconst 0, 1) := by decide +kernel
theorem dL_stale_16 : decode cL_stale 16 = .ok (.ireturn, 1) := by decide +kernel
set_option maxRecDepth 20000 in
theorem ggL_law_X4_init : GoodIn wsL_law wsX4_init := goodIn_r _ [9, 10, 11, 12, 13, 14, 15, 16, 17, 18, 19, 20, 21, 22, 23, 24, 25, 26, 27, 28, 29, 30, 31, 32, 33, 34, 35, 36, 37, 38, 39, 40, 41, 42, 43, 44, 45, 46, 47, 48, 49, 50, 51, 52, 53, 54, 55, 56, 57, 58, 59, 60, 61, 62, 63, 64, 65, 66, 67, 68, 558, 559, 560, 561, 534, 535, 536, 537, 538, 539, 540, 562, 563, 564, 565, 566, 567, 568, 569, 570, 571, 572] (by decide +kernel) (by decide +kernel)
set_option maxRecDepth 20000 in
theorem gL_law_X4_init : GoodIn wsL_law (wsX4_init) := ggL_law_X4_init
set_option maxRecDepth 20000 in
theorem ggL_law_X5_init : GoodIn wsL_law wsX5_init := goodIn_r _ [71, 72, 11, 12, 29, 73, 74, 75, 76, 77, 78, 79, 80, 81, 49, 82, 83, 84, 541, 542, 543, 544, 545, 546, 547, 548, 549, 550, 551, 552, 553, 554, 555, 556, 557] (by decide +kernel) (by decide +kernel)
set_option maxRecDepth 20000 in
theorem gL_law_X5_init : GoodIn wsL_law (wsX5_init) := ggL_law_X5_init
set_option maxRecDepth 20000 in
theorem ggL_law_L_setPerson : GoodIn wsL_law wsL_setPerson := goodIn_ca (goodIn_r _ [88, 89, 90, 91, 92, 2, 93, 94, 95, 16, 96, 97, 98, 99, 100, 101, 15, 102, 37, 103, 104, 105, 106, 107, 108, 534, 535, 536, 537, 538, 539, 540, 558, 559, 560, 561] (by decide +kernel) (by decide +kernel)) (goodIn_sub (fun _ h => List.mem_append_left _ (List.mem_append_left _ (List.mem_append_right _ h))) (by decide +kernel))
set_option maxRecDepth 20000 in
theorem gL_law_L_setPerson : GoodIn wsL_law (va_wsS RL 77 yL_setPerson wsL_setPerson) := goodIn_app (goodIn_of _ (by decide +kernel)) ggL_law_L_setPerson
set_option maxRecDepth 20000 in
theorem ggL_law_X5_setPerson : GoodIn wsL_law wsX5_setPerson := goodIn_r _ [112, 113, 73, 114, 115, 5, 116, 117, 118, 119, 120, 121, 122, 123, 124, 125, 541, 542, 543, 544, 545, 546, 547, 548, 549, 550, 551, 552, 553, 554, 555, 556, 557] (by decide +kernel) (by decide +kernel)
set_option maxRecDepth 20000 in
theorem gL_law_X5_setPerson : GoodIn wsL_law (wsV RL 82 RX5 yX5_setPerson wsX5_setPerson) := goodIn_app (goodIn_of _ (by decide +kernel)) ggL_law_X5_setPerson
set_option maxRecDepth 20000 in
theorem ggL_law_X5_thrown : GoodIn wsL_law wsX5_thrown := goodIn_r _ [129, 113, 541, 542, 543, 544, 545, 546, 547, 548, 549, 550, 551, 552, 553, 554, 555, 556, 557] (by decide +kernel) (by decide +kernel)
set_option maxRecDepth 20000 in
theorem gL_law_X5_thrown : GoodIn wsL_law (wsV RL 83 RX5 yX5_thrown wsX5_thrown) := goodIn_app (goodIn_of _ (by decide +kernel)) ggL_law_X5_thrown
set_option maxRecDepth 20000 in
theorem ggL_law_L_setGroup : GoodIn wsL_law wsL_setGroup := goodIn_ca (goodIn_ca (goodIn_r _ [132, 89, 133, 134, 135, 136, 2, 137, 94, 95, 138, 139, 16, 96, 97, 98, 140, 141, 142, 15, 143, 38, 144, 145, 146, 147, 148, 149, 150, 151, 103, 104, 105, 152, 153, 154, 155, 106, 107, 108, 534, 535, 536, 537, 538, 539, 540, 558, 559, 560, 561] (by decide +kernel) (by decide +kernel)) (goodIn_sub (fun _ h => List.mem_append_left _ (List.mem_append_left _ (List.mem_append_right _ h))) (by decide +kernel))) (goodIn_sub (fun _ h => List.mem_append_left _ (List.mem_append_right _ h)) (by decide +kernel))
set_option maxRecDepth 20000 in
theorem gL_law_L_setGroup : GoodIn wsL_law (va_wsS RL 87 yL_setGroup wsL_setGroup) := goodIn_app (goodIn_of _ (by decide +kernel)) ggL_law_L_setGroup
set_option maxRecDepth 20000 in
theorem ggL_law_X5_setGroup : GoodIn wsL_law wsX5_setGroup := goodIn_r _ [159, 113, 74, 114, 115, 5, 116, 117, 118, 119, 160, 161, 162, 163, 123, 124, 125, 541, 542, 543, 544, 545, 546, 547, 548, 549, 550, 551, 552, 553, 554, 555, 556, 557] (by decide +kernel) (by decide +kernel)
set_option maxRecDepth 20000 in
theorem gL_law_X5_setGroup : GoodIn wsL_law (wsV RL 89 RX5 yX5_setGroup wsX5_setGroup) := goodIn_app (goodIn_of _ (by decide +kernel)) ggL_law_X5_setGroup
set_option maxRecDepth 20000 in
theorem ggL_law_L_setRole : GoodIn wsL_law wsL_setRole := goodIn_ca (goodIn_r _ [166, 89, 167, 168, 169, 2, 170, 94, 95, 16, 96, 97, 98, 171, 172, 173, 15, 174, 39, 40, 175, 176, 177, 178, 103, 104, 105, 106, 107, 108, 534, 535, 536, 537, 538, 539, 540, 558, 559, 560, 561] (by decide +kernel) (by decide +kernel)) (goodIn_sub (fun _ h => List.mem_append_left _ (List.mem_append_left _ (List.mem_append_right _ h))) (by decide +kernel))
set_option maxRecDepth 20000 in
theorem gL_law_L_setRole : GoodIn wsL_law (va_wsS RL 90 yL_setRole wsL_setRole) := goodIn_app (goodIn_of _ (by decide +kernel)) ggL_law_L_setRole
set_option maxRecDepth 20000 in
theorem ggL_law_X5_setRole : GoodIn wsL_law wsX5_setRole := goodIn_r _ [182, 113, 75, 114, 115, 5, 116, 117, 118, 119, 183, 184, 185, 186, 187, 188, 189, 541, 542, 543, 544, 545, 546, 547, 548, 549, 550, 551, 552, 553, 554, 555, 556, 557] (by decide +kernel) (by decide +kernel)
set_option maxRecDepth 20000 in
theorem gL_law_X5_setRole : GoodIn wsL_law (wsV RL 93 RX5 yX5_setRole wsX5_setRole) := goodIn_app (goodIn_of _ (by decide +kernel)) ggL_law_X5_setRole
set_option maxRecDepth 20000 in
theorem ggL_law_L_setRisk : GoodIn wsL_law wsL_setRisk := goodIn_ca (goodIn_r _ [192, 89, 193, 194, 195, 2, 196, 94, 95, 30, 20, 96, 97, 98, 197, 198, 199, 19, 200, 51, 50, 45, 201, 202, 203, 204, 534, 535, 536, 537, 538, 539, 540, 562, 563, 564, 565, 566, 567] (by decide +kernel) (by decide +kernel)) (goodIn_sub (fun _ h => List.mem_append_left _ (List.mem_append_left _ (List.mem_append_right _ h))) (by decide +kernel))
set_option maxRecDepth 20000 in
theorem gL_law_L_setRisk : GoodIn wsL_law (va_wsS RL 94 yL_setRisk wsL_setRisk) := goodIn_app (goodIn_of _ (by decide +kernel)) ggL_law_L_setRisk
set_option maxRecDepth 20000 in
theorem ggL_law_X5_setRisk : GoodIn wsL_law wsX5_setRisk := goodIn_r _ [208, 113, 209, 76, 78, 82, 120, 121, 5, 122, 117, 118, 119, 186, 187, 188, 189, 541, 542, 543, 544, 545, 546, 547, 548, 549, 550, 551, 552, 553, 554, 555, 556, 557] (by decide +kernel) (by decide +kernel)
set_option maxRecDepth 20000 in
theorem gL_law_X5_setRisk : GoodIn wsL_law (wsV RL 97 RX5 yX5_setRisk wsX5_setRisk) := goodIn_app (goodIn_of _ (by decide +kernel)) ggL_law_X5_setRisk
set_option maxRecDepth 20000 in
theorem ggL_law_L_isIn : GoodIn wsL_law wsL_isIn := goodIn_ca (goodIn_r _ [212, 89, 213, 214, 215, 2, 216, 94, 95, 16, 96, 97, 98, 217, 218, 219, 15, 220, 37, 144, 145, 146, 147, 148, 149, 150, 151, 38, 103, 104, 105, 534, 535, 536, 537, 538, 539, 540, 558, 559, 560, 561] (by decide +kernel) (by decide +kernel)) (goodIn_sub (fun _ h => List.mem_append_left _ (List.mem_append_left _ (List.mem_append_right _ h))) (by decide +kernel))
set_option maxRecDepth 20000 in
theorem gL_law_L_isIn : GoodIn wsL_law (va_wsS RL 98 yL_isIn wsL_isIn) := goodIn_app (goodIn_of _ (by decide +kernel)) ggL_law_L_isIn
set_option maxRecDepth 20000 in
theorem ggL_law_X5_isIn : GoodIn wsL_law wsX5_isIn := goodIn_r _ [224, 113, 114, 115, 5, 116, 117, 118, 119, 120, 121, 122, 225, 226, 227, 228, 73, 160, 161, 162, 163, 74, 123, 124, 125, 541, 542, 543, 544, 545, 546, 547, 548, 549, 550, 551, 552, 553, 554, 555, 556, 557] (by decide +kernel) (by decide +kernel)
set_option maxRecDepth 20000 in
theorem gL_law_X5_isIn : GoodIn wsL_law (wsV RL 100 RX5 yX5_isIn wsX5_isIn) := goodIn_app (goodIn_of _ (by decide +kernel)) ggL_law_X5_isIn
set_option maxRecDepth 20000 in
theorem ggL_law_L_allows : GoodIn wsL_law wsL_allows := goodIn_ca (goodIn_r _ [231, 89, 232, 233, 234, 2, 235, 94, 95, 96, 97, 98, 236, 237, 238, 239, 16, 240, 241, 242, 243, 30, 244, 245, 246, 15, 247, 37, 39, 144, 145, 146, 147, 148, 149, 150, 151, 38, 103, 104, 105, 248, 249, 250, 251, 40, 252, 253, 254, 255, 32, 31, 534, 535, 536, 537, 538, 539, 540, 558, 559, 560, 561] (by decide +kernel) (by decide +kernel)) (goodIn_sub (fun _ h => List.mem_append_left _ (List.mem_append_left _ (List.mem_append_right _ h))) (by decide +kernel))
set_option maxRecDepth 20000 in
theorem gL_law_L_allows : GoodIn wsL_law (va_wsS RL 101 yL_allows wsL_allows) := goodIn_app (goodIn_of _ (by decide +kernel)) ggL_law_L_allows
set_option maxRecDepth 20000 in
theorem ggL_law_X5_allows : GoodIn wsL_law wsX5_allows := goodIn_r _ [259, 113, 120, 121, 5, 122, 117, 118, 119, 183, 184, 185, 260, 261, 262, 263, 76, 77, 264, 265, 266, 267, 268, 75, 225, 226, 227, 228, 73, 160, 161, 162, 163, 74, 123, 124, 125, 541, 542, 543, 544, 545, 546, 547, 548, 549, 550, 551, 552, 553, 554, 555, 556, 557] (by decide +kernel) (by decide +kernel)
set_option maxRecDepth 20000 in
theorem gL_law_X5_allows : GoodIn wsL_law (wsV RL 103 RX5 yX5_allows wsX5_allows) := goodIn_app (goodIn_of _ (by decide +kernel)) ggL_law_X5_allows
set_option maxRecDepth 20000 in
theorem ggL_law_L_open : GoodIn wsL_law wsL_open := goodIn_ca (goodIn_ca (goodIn_r _ [271, 89, 133, 272, 273, 274, 2, 275, 94, 95, 138, 139, 20, 24, 32, 96, 97, 98, 240, 241, 242, 243, 30, 276, 277, 278, 19, 279, 51, 280, 281, 282, 23, 283, 56, 284, 285, 286, 287, 45, 46, 47, 48, 534, 535, 536, 537, 538, 539, 540, 562, 563, 564, 565, 566, 567, 568, 569] (by decide +kernel) (by decide +kernel)) (goodIn_sub (fun _ h => List.mem_append_left _ (List.mem_append_left _ (List.mem_append_right _ h))) (by decide +kernel))) (goodIn_sub (fun _ h => List.mem_append_left _ (List.mem_append_right _ h)) (by decide +kernel))
set_option maxRecDepth 20000 in
theorem gL_law_L_open : GoodIn wsL_law (va_wsS RL 104 yL_open wsL_open) := goodIn_app (goodIn_of _ (by decide +kernel)) ggL_law_L_open
set_option maxRecDepth 20000 in
theorem ggL_law_X5_open : GoodIn wsL_law wsX5_open := goodIn_r _ [291, 113, 76, 209, 78, 79, 292, 80, 264, 81, 120, 121, 5, 122, 117, 118, 119, 186, 187, 188, 189, 541, 542, 543, 544, 545, 546, 547, 548, 549, 550, 551, 552, 553, 554, 555, 556, 557] (by decide +kernel) (by decide +kernel)
set_option maxRecDepth 20000 in
theorem gL_law_X5_open : GoodIn wsL_law (wsV RL 107 RX5 yX5_open wsX5_open) := goodIn_app (goodIn_of _ (by decide +kernel)) ggL_law_X5_open
set_option maxRecDepth 20000 in
theorem ggL_law_L_close : GoodIn wsL_law wsL_close := goodIn_ca (goodIn_ca (goodIn_r _ [295, 296, 133, 297, 298, 299, 2, 300, 301, 302, 138, 139, 20, 32, 303, 304, 305, 19, 306, 51, 307, 308, 309, 310, 50, 311, 202, 203, 204, 312, 313, 314, 315, 47, 534, 535, 536, 537, 538, 539, 540, 562, 563, 564, 565, 566, 567] (by decide +kernel) (by decide +kernel)) (goodIn_sub (fun _ h => List.mem_append_right _ h) (by decide +kernel))) (goodIn_sub (fun _ h => List.mem_append_left _ (List.mem_append_right _ h)) (by decide +kernel))
set_option maxRecDepth 20000 in
theorem gL_law_L_close : GoodIn wsL_law (va_wsS RL 108 yL_close wsL_close) := goodIn_app (goodIn_of _ (by decide +kernel)) ggL_law_L_close
set_option maxRecDepth 20000 in
theorem ggL_law_X5_close : GoodIn wsL_law wsX5_close := goodIn_r _ [319, 113, 82, 264, 80, 320, 321, 322, 5, 323, 209, 117, 118, 119, 186, 187, 188, 189, 541, 542, 543, 544, 545, 546, 547, 548, 549, 550, 551, 552, 553, 554, 555, 556, 557] (by decide +kernel) (by decide +kernel)
set_option maxRecDepth 20000 in
theorem gL_law_X5_close : GoodIn wsL_law (wsV RL 110 RX5 yX5_close wsX5_close) := goodIn_app (goodIn_of _ (by decide +kernel)) ggL_law_X5_close
set_option maxRecDepth 20000 in
theorem ggL_law_L_goesOn : GoodIn wsL_law wsL_goesOn := goodIn_ca (goodIn_r _ [326, 296, 327, 328, 329, 2, 330, 301, 302, 20, 303, 304, 305, 19, 306, 51, 307, 308, 309, 310, 50, 534, 535, 536, 537, 538, 539, 540, 562, 563, 564, 565, 566, 567] (by decide +kernel) (by decide +kernel)) (goodIn_sub (fun _ h => List.mem_append_right _ h) (by decide +kernel))
set_option maxRecDepth 20000 in
theorem gL_law_L_goesOn : GoodIn wsL_law (va_wsS RL 111 yL_goesOn wsL_goesOn) := goodIn_app (goodIn_of _ (by decide +kernel)) ggL_law_L_goesOn
set_option maxRecDepth 20000 in
theorem ggL_law_X5_goesOn : GoodIn wsL_law wsX5_goesOn := goodIn_r _ [334, 113, 82, 320, 321, 322, 5, 323, 209, 117, 118, 119, 541, 542, 543, 544, 545, 546, 547, 548, 549, 550, 551, 552, 553, 554, 555, 556, 557] (by decide +kernel) (by decide +kernel)
set_option maxRecDepth 20000 in
theorem gL_law_X5_goesOn : GoodIn wsL_law (wsV RL 113 RX5 yX5_goesOn wsX5_goesOn) := goodIn_app (goodIn_of _ (by decide +kernel)) ggL_law_X5_goesOn
set_option maxRecDepth 20000 in
theorem ggL_law_L_changeKeys : GoodIn wsL_law wsL_changeKeys := goodIn_ca (goodIn_r _ [337, 89, 338, 339, 340, 2, 341, 94, 95, 24, 32, 20, 30, 342, 343, 344, 23, 345, 56, 57, 346, 347, 348, 19, 349, 51, 50, 45, 350, 351, 352, 353, 48, 46, 354, 313, 314, 315, 47, 355, 356, 357, 358, 201, 202, 203, 204, 280, 281, 282, 283, 534, 535, 536, 537, 538, 539, 540, 568, 569, 562, 563, 564, 565, 566, 567] (by decide +kernel) (by decide +kernel)) (goodIn_sub (fun _ h => List.mem_append_left _ (List.mem_append_left _ (List.mem_append_right _ h))) (by decide +kernel))
set_option maxRecDepth 20000 in
theorem gL_law_L_changeKeys : GoodIn wsL_law (va_wsS RL 114 yL_changeKeys wsL_changeKeys) := goodIn_app (goodIn_of _ (by decide +kernel)) ggL_law_L_changeKeys
set_option maxRecDepth 20000 in
theorem ggL_law_X5_changeKeys : GoodIn wsL_law wsX5_changeKeys := goodIn_r _ [362, 113, 292, 264, 363, 117, 118, 5, 119, 186, 187, 188, 189, 364, 365, 366, 367, 209, 82, 368, 369, 370, 371, 81, 80, 76, 78, 79, 372, 373, 374, 375, 541, 542, 543, 544, 545, 546, 547, 548, 549, 550, 551, 552, 553, 554, 555, 556, 557] (by decide +kernel) (by decide +kernel)
set_option maxRecDepth 20000 in
theorem gL_law_X5_changeKeys : GoodIn wsL_law (wsV RL 116 RX5 yX5_changeKeys wsX5_changeKeys) := goodIn_app (goodIn_of _ (by decide +kernel)) ggL_law_X5_changeKeys
set_option maxRecDepth 20000 in
theorem ggL_law_L_isTaken : GoodIn wsL_law wsL_isTaken := goodIn_ca (goodIn_r _ [378, 89, 379, 380, 381, 2, 382, 94, 95, 24, 32, 280, 281, 282, 23, 283, 56, 383, 356, 357, 358, 57, 534, 535, 536, 537, 538, 539, 540, 568, 569] (by decide +kernel) (by decide +kernel)) (goodIn_sub (fun _ h => List.mem_append_left _ (List.mem_append_left _ (List.mem_append_right _ h))) (by decide +kernel))
set_option maxRecDepth 20000 in
theorem gL_law_L_isTaken : GoodIn wsL_law (va_wsS RL 117 yL_isTaken wsL_isTaken) := goodIn_app (goodIn_of _ (by decide +kernel)) ggL_law_L_isTaken
set_option maxRecDepth 20000 in
theorem ggL_law_X5_isTaken : GoodIn wsL_law wsX5_isTaken := goodIn_r _ [387, 292, 113, 117, 118, 5, 119, 372, 373, 374, 375, 264, 363, 541, 542, 543, 544, 545, 546, 547, 548, 549, 550, 551, 552, 553, 554, 555, 556, 557] (by decide +kernel) (by decide +kernel)
set_option maxRecDepth 20000 in
theorem gL_law_X5_isTaken : GoodIn wsL_law (wsV RL 119 RX5 yX5_isTaken wsX5_isTaken) := goodIn_app (goodIn_of _ (by decide +kernel)) ggL_law_X5_isTaken
set_option maxRecDepth 20000 in
theorem ggL_law_L_pass : GoodIn wsL_law wsL_pass := goodIn_ca (goodIn_r _ [390, 89, 391, 392, 393, 2, 394, 94, 95, 32, 28, 20, 30, 24, 395, 396, 397, 27, 398, 399, 400, 401, 402, 64, 62, 63, 403, 404, 405, 346, 347, 348, 19, 349, 51, 50, 45, 350, 351, 352, 353, 48, 46, 354, 313, 314, 315, 47, 355, 356, 357, 23, 358, 56, 57, 201, 202, 203, 204, 534, 535, 536, 537, 538, 539, 540, 570, 571, 572, 562, 563, 564, 565, 566, 567, 568, 569] (by decide +kernel) (by decide +kernel)) (goodIn_sub (fun _ h => List.mem_append_left _ (List.mem_append_left _ (List.mem_append_right _ h))) (by decide +kernel))
set_option maxRecDepth 20000 in
theorem gL_law_L_pass : GoodIn wsL_law (va_wsS RL 120 yL_pass wsL_pass) := goodIn_app (goodIn_of _ (by decide +kernel)) ggL_law_L_pass
set_option maxRecDepth 20000 in
theorem ggL_law_X5_pass : GoodIn wsL_law wsX5_pass := goodIn_r _ [409, 113, 264, 117, 118, 5, 119, 186, 187, 188, 189, 364, 365, 366, 367, 209, 82, 368, 369, 370, 371, 81, 80, 76, 78, 79, 372, 373, 374, 375, 292, 363, 541, 542, 543, 544, 545, 546, 547, 548, 549, 550, 551, 552, 553, 554, 555, 556, 557] (by decide +kernel) (by decide +kernel)
set_option maxRecDepth 20000 in
theorem gL_law_X5_pass : GoodIn wsL_law (wsV RL 122 RX5 yX5_pass wsX5_pass) := goodIn_app (goodIn_of _ (by decide +kernel)) ggL_law_X5_pass
set_option maxRecDepth 20000 in
theorem ggL_law_X4_now : GoodIn wsL_law wsX4_now := goodIn_r _ [413, 32, 534, 535, 536, 537, 538, 539, 540] (by decide +kernel) (by decide +kernel)
set_option maxRecDepth 20000 in
theorem gL_law_X4_now : GoodIn wsL_law (wsV RL 123 RX4 yX4_now wsX4_now) := goodIn_app (goodIn_of _ (by decide +kernel)) ggL_law_X4_now
set_option maxRecDepth 20000 in
theorem ggL_law_X5_now : GoodIn wsL_law wsX5_now := goodIn_r _ [417, 113, 264, 541, 542, 543, 544, 545, 546, 547, 548, 549, 550, 551, 552, 553, 554, 555, 556, 557] (by decide +kernel) (by decide +kernel)
set_option maxRecDepth 20000 in
theorem gL_law_X5_now : GoodIn wsL_law (wsV RL 126 RX5 yX5_now wsX5_now) := goodIn_app (goodIn_of _ (by decide +kernel)) ggL_law_X5_now
set_option maxRecDepth 20000 in
theorem ggL_law_L_breakGlass : GoodIn wsL_law wsL_breakGlass := goodIn_ca (goodIn_ca (goodIn_r _ [420, 89, 133, 421, 422, 423, 2, 424, 94, 95, 138, 139, 32, 31, 96, 97, 98, 425, 426, 427, 428, 16, 240, 241, 242, 243, 30, 244, 245, 246, 15, 247, 37, 39, 144, 145, 146, 147, 148, 149, 150, 151, 38, 103, 104, 105, 534, 535, 536, 537, 538, 539, 540, 558, 559, 560, 561] (by decide +kernel) (by decide +kernel)) (goodIn_sub (fun _ h => List.mem_append_left _ (List.mem_append_left _ (List.mem_append_right _ h))) (by decide +kernel))) (goodIn_sub (fun _ h => List.mem_append_left _ (List.mem_append_right _ h)) (by decide +kernel))
set_option maxRecDepth 20000 in
theorem gL_law_L_breakGlass : GoodIn wsL_law (va_wsS RL 127 yL_breakGlass wsL_breakGlass) := goodIn_app (goodIn_of _ (by decide +kernel)) ggL_law_L_breakGlass
set_option maxRecDepth 20000 in
theorem ggL_law_X5_breakGlass : GoodIn wsL_law wsX5_breakGlass := goodIn_r _ [432, 113, 77, 264, 120, 121, 5, 122, 117, 118, 119, 183, 184, 185, 186, 187, 188, 189, 433, 434, 435, 436, 76, 265, 266, 267, 268, 75, 225, 226, 227, 228, 73, 160, 161, 162, 163, 74, 123, 124, 125, 541, 542, 543, 544, 545, 546, 547, 548, 549, 550, 551, 552, 553, 554, 555, 556, 557] (by decide +kernel) (by decide +kernel)
set_option maxRecDepth 20000 in
theorem gL_law_X5_breakGlass : GoodIn wsL_law (wsV RL 130 RX5 yX5_breakGlass wsX5_breakGlass) := goodIn_app (goodIn_of _ (by decide +kernel)) ggL_law_X5_breakGlass
set_option maxRecDepth 20000 in
theorem ggL_law_L_setCache : GoodIn wsL_law wsL_setCache := goodIn_ca (goodIn_r _ [439, 89, 440, 441, 442, 2, 443, 94, 95, 28, 32, 96, 97, 98, 444, 445, 446, 27, 447, 62, 448, 449, 450, 451, 452, 400, 401, 402, 64, 63, 403, 404, 405, 534, 535, 536, 537, 538, 539, 540, 570, 571, 572] (by decide +kernel) (by decide +kernel)) (goodIn_sub (fun _ h => List.mem_append_left _ (List.mem_append_left _ (List.mem_append_right _ h))) (by decide +kernel))
set_option maxRecDepth 20000 in
theorem gL_law_L_setCache : GoodIn wsL_law (va_wsS RL 131 yL_setCache wsL_setCache) := goodIn_app (goodIn_of _ (by decide +kernel)) ggL_law_L_setCache
set_option maxRecDepth 20000 in
theorem ggL_law_X5_setCache : GoodIn wsL_law wsX5_setCache := goodIn_r _ [456, 113, 83, 457, 458, 5, 459, 117, 118, 119, 186, 187, 188, 189, 460, 461, 462, 463, 84, 464, 465, 466, 467, 264, 541, 542, 543, 544, 545, 546, 547, 548, 549, 550, 551, 552, 553, 554, 555, 556, 557] (by decide +kernel) (by decide +kernel)
set_option maxRecDepth 20000 in
theorem gL_law_X5_setCache : GoodIn wsL_law (wsV RL 133 RX5 yX5_setCache wsX5_setCache) := goodIn_app (goodIn_of _ (by decide +kernel)) ggL_law_X5_setCache
set_option maxRecDepth 20000 in
theorem ggL_law_L_decide : GoodIn wsL_law wsL_decide := goodIn_ca (goodIn_ca (goodIn_r _ [470, 89, 296, 471, 472, 473, 2, 474, 94, 95, 301, 302, 20, 32, 96, 97, 98, 303, 304, 305, 19, 306, 51, 307, 308, 309, 310, 50, 475, 476, 477, 478, 48, 479, 480, 481, 482, 45, 483, 484, 485, 486, 28, 487, 488, 489, 27, 490, 63, 403, 404, 405, 491, 492, 493, 494, 236, 237, 238, 239, 16, 240, 241, 242, 243, 30, 244, 245, 246, 15, 247, 37, 39, 144, 145, 146, 147, 148, 149, 150, 151, 38, 103, 104, 105, 248, 249, 250, 251, 40, 252, 253, 254, 255, 31, 495, 496, 497, 498, 62, 64, 534, 535, 536, 537, 538, 539, 540, 562, 563, 564, 565, 566, 567, 570, 571, 572, 558, 559, 560, 561] (by decide +kernel) (by decide +kernel)) (goodIn_sub (fun _ h => List.mem_append_left _ (List.mem_append_left _ (List.mem_append_right _ h))) (by decide +kernel))) (goodIn_sub (fun _ h => List.mem_append_right _ h) (by decide +kernel))
set_option maxRecDepth 20000 in
theorem gL_law_L_decide : GoodIn wsL_law (va_wsS RL 134 yL_decide wsL_decide) := goodIn_app (goodIn_of _ (by decide +kernel)) ggL_law_L_decide
set_option maxRecDepth 20000 in
theorem ggL_law_X5_decide : GoodIn wsL_law wsX5_decide := goodIn_r _ [502, 113, 82, 81, 264, 78, 84, 457, 458, 5, 459, 117, 118, 119, 183, 184, 185, 186, 187, 188, 189, 320, 321, 322, 323, 209, 464, 465, 466, 467, 83, 260, 261, 262, 263, 76, 77, 265, 266, 267, 268, 75, 225, 226, 227, 228, 73, 160, 161, 162, 163, 74, 123, 124, 125, 541, 542, 543, 544, 545, 546, 547, 548, 549, 550, 551, 552, 553, 554, 555, 556, 557] (by decide +kernel) (by decide +kernel)
set_option maxRecDepth 20000 in
theorem gL_law_X5_decide : GoodIn wsL_law (wsV RL 136 RX5 yX5_decide wsX5_decide) := goodIn_app (goodIn_of _ (by decide +kernel)) ggL_law_X5_decide
set_option maxRecDepth 20000 in
theorem ggL_law_L_forget : GoodIn wsL_law wsL_forget := goodIn_ca (goodIn_r _ [505, 89, 506, 507, 508, 2, 509, 94, 95, 28, 96, 97, 98, 510, 511, 512, 27, 513, 63, 514, 488, 489, 490, 403, 404, 405, 534, 535, 536, 537, 538, 539, 540, 570, 571, 572] (by decide +kernel) (by decide +kernel)) (goodIn_sub (fun _ h => List.mem_append_left _ (List.mem_append_left _ (List.mem_append_right _ h))) (by decide +kernel))
set_option maxRecDepth 20000 in
theorem gL_law_L_forget : GoodIn wsL_law (va_wsS RL 137 yL_forget wsL_forget) := goodIn_app (goodIn_of _ (by decide +kernel)) ggL_law_L_forget
set_option maxRecDepth 20000 in
theorem ggL_law_X5_forget : GoodIn wsL_law wsX5_forget := goodIn_r _ [518, 113, 84, 457, 458, 5, 459, 117, 118, 119, 120, 121, 122, 186, 187, 188, 189, 464, 465, 466, 467, 264, 83, 541, 542, 543, 544, 545, 546, 547, 548, 549, 550, 551, 552, 553, 554, 555, 556, 557] (by decide +kernel) (by decide +kernel)
set_option maxRecDepth 20000 in
theorem gL_law_X5_forget : GoodIn wsL_law (wsV RL 139 RX5 yX5_forget wsX5_forget) := goodIn_app (goodIn_of _ (by decide +kernel)) ggL_law_X5_forget
set_option maxRecDepth 20000 in
theorem ggL_law_L_stale : GoodIn wsL_law wsL_stale := goodIn_ca (goodIn_r _ [521, 89, 522, 523, 524, 2, 525, 94, 95, 96, 97, 98, 526, 527, 528, 529, 28, 487, 488, 489, 27, 490, 63, 403, 404, 405, 491, 492, 493, 494, 236, 237, 238, 239, 16, 240, 241, 242, 243, 30, 244, 245, 246, 15, 247, 37, 39, 144, 145, 146, 147, 148, 149, 150, 151, 38, 103, 104, 105, 248, 249, 250, 251, 40, 252, 253, 254, 255, 32, 31, 534, 535, 536, 537, 538, 539, 540, 570, 571, 572, 558, 559, 560, 561] (by decide +kernel) (by decide +kernel)) (goodIn_sub (fun _ h => List.mem_append_left _ (List.mem_append_left _ (List.mem_append_right _ h))) (by decide +kernel))
set_option maxRecDepth 20000 in
theorem gL_law_L_stale : GoodIn wsL_law (va_wsS RL 140 yL_stale wsL_stale) := goodIn_app (goodIn_of _ (by decide +kernel)) ggL_law_L_stale
set_option maxRecDepth 20000 in
theorem ggL_law_X5_stale : GoodIn wsL_law wsX5_stale := goodIn_r _ [533, 113, 84, 457, 458, 5, 459, 117, 118, 119, 186, 187, 188, 189, 464, 465, 466, 467, 264, 83, 260, 261, 262, 263, 76, 77, 265, 266, 267, 268, 75, 225, 226, 227, 228, 73, 160, 161, 162, 163, 74, 123, 124, 125, 541, 542, 543, 544, 545, 546, 547, 548, 549, 550, 551, 552, 553, 554, 555, 556, 557] (by decide +kernel) (by decide +kernel)
set_option maxRecDepth 20000 in
theorem gL_law_X5_stale : GoodIn wsL_law (wsV RL 142 RX5 yX5_stale wsX5_stale) := goodIn_app (goodIn_of _ (by decide +kernel)) ggL_law_X5_stale
theorem dL_law_0 : decode cL_law 0 = .ok (.new 8, 3) := by decide +kernel
theorem dL_law_3 : decode cL_law 3 = .ok (.dup, 1) := by decide +kernel
theorem dL_law_4 : decode cL_law 4 = .ok (.invokespecial 73, 3) := by decide +kernel
theorem dL_law_7 : decode cL_law 7 = .ok (.astore_n 1, 1) := by decide +kernel
theorem dL_law_8 : decode cL_law 8 = .ok (.new 74, 3) := by decide +kernel
theorem dL_law_11 : decode cL_law 11 = .ok (.dup, 1) := by decide +kernel
theorem dL_law_12 : decode cL_law 12 = .ok (.invokespecial 76, 3) := by decide +kernel
theorem dL_law_15 : decode cL_law 15 = .ok (.astore_n 2, 1) := by decide +kernel
theorem dL_law_16 : decode cL_law 16 = .ok (.iconst 1, 1) := by decide +kernel
theorem dL_law_17 : decode cL_law 17 = .ok (.newarray .long, 2) := by decide +kernel
theorem dL_law_19 : decode cL_law 19 = .ok (.astore_n 3, 1) := by decide +kernel
theorem dL_law_20 : decode cL_law 20 = .ok (.iconst 0, 1) := by decide +kernel
theorem dL_law_21 : decode cL_law 21 = .ok (.istore 4, 2) := by decide +kernel
theorem dL_law_23 : decode cL_law 23 = .ok (.iload 4, 2) := by decide +kernel
theorem dL_law_25 : decode cL_law 25 = .ok (.aload_n 0, 1) := by decide +kernel
theorem dL_law_26 : decode cL_law 26 = .ok (.arraylength, 1) := by decide +kernel
theorem dL_law_27 : decode cL_law 27 = .ok (.iconst 5, 1) := by decide +kernel
theorem dL_law_28 : decode cL_law 28 = .ok (.isub, 1) := by decide +kernel
theorem dL_law_29 : decode cL_law 29 = .ok (.if_icmp .gt 1332, 3) := by decide +kernel
theorem dL_law_32 : decode cL_law 32 = .ok (.aload_n 0, 1) := by decide +kernel
theorem dL_law_33 : decode cL_law 33 = .ok (.iload 4, 2) := by decide +kernel
theorem dL_law_35 : decode cL_law 35 = .ok (.iaload, 1) := by decide +kernel
theorem dL_law_36 : decode cL_law 36 = .ok (.bipush 31, 2) := by decide +kernel
theorem dL_law_38 : decode cL_law 38 = .ok (.iand, 1) := by decide +kernel
theorem dL_law_39 : decode cL_law 39 = .ok (.tableswitch 1316 0 17 #[85, 188, 291, 371, 439, 514, 589, 645, 701, 764, 820, 883, 939, 952, 1044, 1112, 1192, 1260], 85) := by decide +kernel
theorem dL_law_124 : decode cL_law 124 = .ok (.aload_n 1, 1) := by decide +kernel
theorem dL_law_125 : decode cL_law 125 = .ok (.aload_n 0, 1) := by decide +kernel
theorem dL_law_126 : decode cL_law 126 = .ok (.iload 4, 2) := by decide +kernel
theorem dL_law_128 : decode cL_law 128 = .ok (.iconst 1, 1) := by decide +kernel
theorem dL_law_129 : decode cL_law 129 = .ok (.iadd, 1) := by decide +kernel
theorem dL_law_130 : decode cL_law 130 = .ok (.iaload, 1) := by decide +kernel
theorem dL_law_131 : decode cL_law 131 = .ok (.aload_n 0, 1) := by decide +kernel
theorem dL_law_132 : decode cL_law 132 = .ok (.iload 4, 2) := by decide +kernel
theorem dL_law_134 : decode cL_law 134 = .ok (.iconst 2, 1) := by decide +kernel
theorem dL_law_135 : decode cL_law 135 = .ok (.iadd, 1) := by decide +kernel
theorem dL_law_136 : decode cL_law 136 = .ok (.iaload, 1) := by decide +kernel
theorem dL_law_137 : decode cL_law 137 = .ok (.aload_n 0, 1) := by decide +kernel
theorem dL_law_138 : decode cL_law 138 = .ok (.iload 4, 2) := by decide +kernel
theorem dL_law_140 : decode cL_law 140 = .ok (.iconst 3, 1) := by decide +kernel
theorem dL_law_141 : decode cL_law 141 = .ok (.iadd, 1) := by decide +kernel
theorem dL_law_142 : decode cL_law 142 = .ok (.iaload, 1) := by decide +kernel
theorem dL_law_143 : decode cL_law 143 = .ok (.ifCond .eq 7, 3) := by decide +kernel
theorem dL_law_146 : decode cL_law 146 = .ok (.iconst 1, 1) := by decide +kernel
theorem dL_law_147 : decode cL_law 147 = .ok (.goto 4, 3) := by decide +kernel
theorem dL_law_150 : decode cL_law 150 = .ok (.iconst 0, 1) := by decide +kernel
theorem dL_law_151 : decode cL_law 151 = .ok (.aload_n 3, 1) := by decide +kernel
theorem dL_law_152 : decode cL_law 152 = .ok (.invokestatic 77, 3) := by decide +kernel
theorem dL_law_155 : decode cL_law 155 = .ok (.istore 5, 2) := by decide +kernel
theorem dL_law_157 : decode cL_law 157 = .ok (.aload_n 2, 1) := by decide +kernel
theorem dL_law_158 : decode cL_law 158 = .ok (.aload_n 0, 1) := by decide +kernel
theorem dL_law_159 : decode cL_law 159 = .ok (.iload 4, 2) := by decide +kernel
theorem dL_law_161 : decode cL_law 161 = .ok (.iconst 1, 1) := by decide +kernel
theorem dL_law_162 : decode cL_law 162 = .ok (.iadd, 1) := by decide +kernel
theorem dL_law_163 : decode cL_law 163 = .ok (.iaload, 1) := by decide +kernel
theorem dL_law_164 : decode cL_law 164 = .ok (.aload_n 0, 1) := by decide +kernel
theorem dL_law_165 : decode cL_law 165 = .ok (.iload 4, 2) := by decide +kernel
theorem dL_law_167 : decode cL_law 167 = .ok (.iconst 2, 1) := by decide +kernel
theorem dL_law_168 : decode cL_law 168 = .ok (.iadd, 1) := by decide +kernel
theorem dL_law_169 : decode cL_law 169 = .ok (.iaload, 1) := by decide +kernel
theorem dL_law_170 : decode cL_law 170 = .ok (.aload_n 0, 1) := by decide +kernel
theorem dL_law_171 : decode cL_law 171 = .ok (.iload 4, 2) := by decide +kernel
theorem dL_law_173 : decode cL_law 173 = .ok (.iconst 3, 1) := by decide +kernel
theorem dL_law_174 : decode cL_law 174 = .ok (.iadd, 1) := by decide +kernel
theorem dL_law_175 : decode cL_law 175 = .ok (.iaload, 1) := by decide +kernel
theorem dL_law_176 : decode cL_law 176 = .ok (.ifCond .eq 7, 3) := by decide +kernel
theorem dL_law_179 : decode cL_law 179 = .ok (.iconst 1, 1) := by decide +kernel
theorem dL_law_180 : decode cL_law 180 = .ok (.goto 4, 3) := by decide +kernel
theorem dL_law_183 : decode cL_law 183 = .ok (.iconst 0, 1) := by decide +kernel
theorem dL_law_184 : decode cL_law 184 = .ok (.invokevirtual 82, 3) := by decide +kernel
theorem dL_law_187 : decode cL_law 187 = .ok (.istore 6, 2) := by decide +kernel
theorem dL_law_189 : decode cL_law 189 = .ok (.aload_n 2, 1) := by decide +kernel
theorem dL_law_190 : decode cL_law 190 = .ok (.invokevirtual 83, 3) := by decide +kernel
theorem dL_law_193 : decode cL_law 193 = .ok (.iload 5, 2) := by decide +kernel
theorem dL_law_195 : decode cL_law 195 = .ok (.if_icmp .eq 5, 3) := by decide +kernel
theorem dL_law_198 : decode cL_law 198 = .ok (.iconst 0, 1) := by decide +kernel
theorem dL_law_199 : decode cL_law 199 = .ok (.ireturn, 1) := by decide +kernel
theorem dL_law_200 : decode cL_law 200 = .ok (.iload 5, 2) := by decide +kernel
theorem dL_law_202 : decode cL_law 202 = .ok (.ifCond .ne 22, 3) := by decide +kernel
theorem dL_law_205 : decode cL_law 205 = .ok (.aload_n 3, 1) := by decide +kernel
theorem dL_law_206 : decode cL_law 206 = .ok (.iconst 0, 1) := by decide +kernel
theorem dL_law_207 : decode cL_law 207 = .ok (.laload, 1) := by decide +kernel
theorem dL_law_208 : decode cL_law 208 = .ok (.iload 6, 2) := by decide +kernel
theorem dL_law_210 : decode cL_law 210 = .ok (.ifCond .eq 7, 3) := by decide +kernel
theorem dL_law_213 : decode cL_law 213 = .ok (.lconst 1, 1) := by decide +kernel
theorem dL_law_214 : decode cL_law 214 = .ok (.goto 4, 3) := by decide +kernel
theorem dL_law_217 : decode cL_law 217 = .ok (.lconst 0, 1) := by decide +kernel
theorem dL_law_218 : decode cL_law 218 = .ok (.lcmp, 1) := by decide +kernel
theorem dL_law_219 : decode cL_law 219 = .ok (.ifCond .eq 5, 3) := by decide +kernel
theorem dL_law_222 : decode cL_law 222 = .ok (.iconst 0, 1) := by decide +kernel
theorem dL_law_223 : decode cL_law 223 = .ok (.ireturn, 1) := by decide +kernel
theorem dL_law_224 : decode cL_law 224 = .ok (.goto 1131, 3) := by decide +kernel
theorem dL_law_227 : decode cL_law 227 = .ok (.aload_n 1, 1) := by decide +kernel
theorem dL_law_228 : decode cL_law 228 = .ok (.aload_n 0, 1) := by decide +kernel
theorem dL_law_229 : decode cL_law 229 = .ok (.iload 4, 2) := by decide +kernel
theorem dL_law_231 : decode cL_law 231 = .ok (.iconst 1, 1) := by decide +kernel
theorem dL_law_232 : decode cL_law 232 = .ok (.iadd, 1) := by decide +kernel
theorem dL_law_233 : decode cL_law 233 = .ok (.iaload, 1) := by decide +kernel
theorem dL_law_234 : decode cL_law 234 = .ok (.aload_n 0, 1) := by decide +kernel
theorem dL_law_235 : decode cL_law 235 = .ok (.iload 4, 2) := by decide +kernel
theorem dL_law_237 : decode cL_law 237 = .ok (.iconst 2, 1) := by decide +kernel
theorem dL_law_238 : decode cL_law 238 = .ok (.iadd, 1) := by decide +kernel
theorem dL_law_239 : decode cL_law 239 = .ok (.iaload, 1) := by decide +kernel
theorem dL_law_240 : decode cL_law 240 = .ok (.aload_n 0, 1) := by decide +kernel
theorem dL_law_241 : decode cL_law 241 = .ok (.iload 4, 2) := by decide +kernel
theorem dL_law_243 : decode cL_law 243 = .ok (.iconst 3, 1) := by decide +kernel
theorem dL_law_244 : decode cL_law 244 = .ok (.iadd, 1) := by decide +kernel
theorem dL_law_245 : decode cL_law 245 = .ok (.iaload, 1) := by decide +kernel
theorem dL_law_246 : decode cL_law 246 = .ok (.ifCond .eq 7, 3) := by decide +kernel
theorem dL_law_249 : decode cL_law 249 = .ok (.iconst 1, 1) := by decide +kernel
theorem dL_law_250 : decode cL_law 250 = .ok (.goto 4, 3) := by decide +kernel
theorem dL_law_253 : decode cL_law 253 = .ok (.iconst 0, 1) := by decide +kernel
theorem dL_law_254 : decode cL_law 254 = .ok (.aload_n 3, 1) := by decide +kernel
theorem dL_law_255 : decode cL_law 255 = .ok (.invokestatic 87, 3) := by decide +kernel
theorem dL_law_258 : decode cL_law 258 = .ok (.istore 5, 2) := by decide +kernel
theorem dL_law_260 : decode cL_law 260 = .ok (.aload_n 2, 1) := by decide +kernel
theorem dL_law_261 : decode cL_law 261 = .ok (.aload_n 0, 1) := by decide +kernel
theorem dL_law_262 : decode cL_law 262 = .ok (.iload 4, 2) := by decide +kernel
theorem dL_law_264 : decode cL_law 264 = .ok (.iconst 1, 1) := by decide +kernel
theorem dL_law_265 : decode cL_law 265 = .ok (.iadd, 1) := by decide +kernel
theorem dL_law_266 : decode cL_law 266 = .ok (.iaload, 1) := by decide +kernel
theorem dL_law_267 : decode cL_law 267 = .ok (.aload_n 0, 1) := by decide +kernel
theorem dL_law_268 : decode cL_law 268 = .ok (.iload 4, 2) := by decide +kernel
theorem dL_law_270 : decode cL_law 270 = .ok (.iconst 2, 1) := by decide +kernel
theorem dL_law_271 : decode cL_law 271 = .ok (.iadd, 1) := by decide +kernel
theorem dL_law_272 : decode cL_law 272 = .ok (.iaload, 1) := by decide +kernel
theorem dL_law_273 : decode cL_law 273 = .ok (.aload_n 0, 1) := by decide +kernel
theorem dL_law_274 : decode cL_law 274 = .ok (.iload 4, 2) := by decide +kernel
theorem dL_law_276 : decode cL_law 276 = .ok (.iconst 3, 1) := by decide +kernel
theorem dL_law_277 : decode cL_law 277 = .ok (.iadd, 1) := by decide +kernel
theorem dL_law_278 : decode cL_law 278 = .ok (.iaload, 1) := by decide +kernel
theorem dL_law_279 : decode cL_law 279 = .ok (.ifCond .eq 7, 3) := by decide +kernel
theorem dL_law_282 : decode cL_law 282 = .ok (.iconst 1, 1) := by decide +kernel
theorem dL_law_283 : decode cL_law 283 = .ok (.goto 4, 3) := by decide +kernel
theorem dL_law_286 : decode cL_law 286 = .ok (.iconst 0, 1) := by decide +kernel
theorem dL_law_287 : decode cL_law 287 = .ok (.invokevirtual 89, 3) := by decide +kernel
theorem dL_law_290 : decode cL_law 290 = .ok (.istore 6, 2) := by decide +kernel
theorem dL_law_292 : decode cL_law 292 = .ok (.aload_n 2, 1) := by decide +kernel
theorem dL_law_293 : decode cL_law 293 = .ok (.invokevirtual 83, 3) := by decide +kernel
theorem dL_law_296 : decode cL_law 296 = .ok (.iload 5, 2) := by decide +kernel
theorem dL_law_298 : decode cL_law 298 = .ok (.if_icmp .eq 5, 3) := by decide +kernel
theorem dL_law_301 : decode cL_law 301 = .ok (.iconst 0, 1) := by decide +kernel
theorem dL_law_302 : decode cL_law 302 = .ok (.ireturn, 1) := by decide +kernel
theorem dL_law_303 : decode cL_law 303 = .ok (.iload 5, 2) := by decide +kernel
theorem dL_law_305 : decode cL_law 305 = .ok (.ifCond .ne 22, 3) := by decide +kernel
theorem dL_law_308 : decode cL_law 308 = .ok (.aload_n 3, 1) := by decide +kernel
theorem dL_law_309 : decode cL_law 309 = .ok (.iconst 0, 1) := by decide +kernel
theorem dL_law_310 : decode cL_law 310 = .ok (.laload, 1) := by decide +kernel
theorem dL_law_311 : decode cL_law 311 = .ok (.iload 6, 2) := by decide +kernel
theorem dL_law_313 : decode cL_law 313 = .ok (.ifCond .eq 7, 3) := by decide +kernel
theorem dL_law_316 : decode cL_law 316 = .ok (.lconst 1, 1) := by decide +kernel
theorem dL_law_317 : decode cL_law 317 = .ok (.goto 4, 3) := by decide +kernel
theorem dL_law_320 : decode cL_law 320 = .ok (.lconst 0, 1) := by decide +kernel
theorem dL_law_321 : decode cL_law 321 = .ok (.lcmp, 1) := by decide +kernel
theorem dL_law_322 : decode cL_law 322 = .ok (.ifCond .eq 5, 3) := by decide +kernel
theorem dL_law_325 : decode cL_law 325 = .ok (.iconst 0, 1) := by decide +kernel
theorem dL_law_326 : decode cL_law 326 = .ok (.ireturn, 1) := by decide +kernel
theorem dL_law_327 : decode cL_law 327 = .ok (.goto 1028, 3) := by decide +kernel
theorem dL_law_330 : decode cL_law 330 = .ok (.aload_n 1, 1) := by decide +kernel
theorem dL_law_331 : decode cL_law 331 = .ok (.aload_n 0, 1) := by decide +kernel
theorem dL_law_332 : decode cL_law 332 = .ok (.iload 4, 2) := by decide +kernel
theorem dL_law_334 : decode cL_law 334 = .ok (.iconst 1, 1) := by decide +kernel
theorem dL_law_335 : decode cL_law 335 = .ok (.iadd, 1) := by decide +kernel
theorem dL_law_336 : decode cL_law 336 = .ok (.iaload, 1) := by decide +kernel
theorem dL_law_337 : decode cL_law 337 = .ok (.aload_n 0, 1) := by decide +kernel
theorem dL_law_338 : decode cL_law 338 = .ok (.iload 4, 2) := by decide +kernel
theorem dL_law_340 : decode cL_law 340 = .ok (.iconst 2, 1) := by decide +kernel
theorem dL_law_341 : decode cL_law 341 = .ok (.iadd, 1) := by decide +kernel
theorem dL_law_342 : decode cL_law 342 = .ok (.iaload, 1) := by decide +kernel
theorem dL_law_343 : decode cL_law 343 = .ok (.aload_n 0, 1) := by decide +kernel
theorem dL_law_344 : decode cL_law 344 = .ok (.iload 4, 2) := by decide +kernel
theorem dL_law_346 : decode cL_law 346 = .ok (.iconst 3, 1) := by decide +kernel
theorem dL_law_347 : decode cL_law 347 = .ok (.iadd, 1) := by decide +kernel
theorem dL_law_348 : decode cL_law 348 = .ok (.iaload, 1) := by decide +kernel
theorem dL_law_349 : decode cL_law 349 = .ok (.aload_n 3, 1) := by decide +kernel
theorem dL_law_350 : decode cL_law 350 = .ok (.invokestatic 90, 3) := by decide +kernel
theorem dL_law_353 : decode cL_law 353 = .ok (.istore 5, 2) := by decide +kernel
theorem dL_law_355 : decode cL_law 355 = .ok (.aload_n 2, 1) := by decide +kernel
theorem dL_law_356 : decode cL_law 356 = .ok (.aload_n 0, 1) := by decide +kernel
theorem dL_law_357 : decode cL_law 357 = .ok (.iload 4, 2) := by decide +kernel
theorem dL_law_359 : decode cL_law 359 = .ok (.iconst 1, 1) := by decide +kernel
theorem dL_law_360 : decode cL_law 360 = .ok (.iadd, 1) := by decide +kernel
theorem dL_law_361 : decode cL_law 361 = .ok (.iaload, 1) := by decide +kernel
theorem dL_law_362 : decode cL_law 362 = .ok (.aload_n 0, 1) := by decide +kernel
theorem dL_law_363 : decode cL_law 363 = .ok (.iload 4, 2) := by decide +kernel
theorem dL_law_365 : decode cL_law 365 = .ok (.iconst 2, 1) := by decide +kernel
theorem dL_law_366 : decode cL_law 366 = .ok (.iadd, 1) := by decide +kernel
theorem dL_law_367 : decode cL_law 367 = .ok (.iaload, 1) := by decide +kernel
theorem dL_law_368 : decode cL_law 368 = .ok (.aload_n 0, 1) := by decide +kernel
theorem dL_law_369 : decode cL_law 369 = .ok (.iload 4, 2) := by decide +kernel
theorem dL_law_371 : decode cL_law 371 = .ok (.iconst 3, 1) := by decide +kernel
theorem dL_law_372 : decode cL_law 372 = .ok (.iadd, 1) := by decide +kernel
theorem dL_law_373 : decode cL_law 373 = .ok (.iaload, 1) := by decide +kernel
theorem dL_law_374 : decode cL_law 374 = .ok (.invokevirtual 93, 3) := by decide +kernel
theorem dL_law_377 : decode cL_law 377 = .ok (.istore 6, 2) := by decide +kernel
theorem dL_law_379 : decode cL_law 379 = .ok (.aload_n 2, 1) := by decide +kernel
theorem dL_law_380 : decode cL_law 380 = .ok (.invokevirtual 83, 3) := by decide +kernel
theorem dL_law_383 : decode cL_law 383 = .ok (.iload 5, 2) := by decide +kernel
theorem dL_law_385 : decode cL_law 385 = .ok (.if_icmp .eq 5, 3) := by decide +kernel
theorem dL_law_388 : decode cL_law 388 = .ok (.iconst 0, 1) := by decide +kernel
theorem dL_law_389 : decode cL_law 389 = .ok (.ireturn, 1) := by decide +kernel
theorem dL_law_390 : decode cL_law 390 = .ok (.iload 5, 2) := by decide +kernel
theorem dL_law_392 : decode cL_law 392 = .ok (.ifCond .ne 15, 3) := by decide +kernel
theorem dL_law_395 : decode cL_law 395 = .ok (.aload_n 3, 1) := by decide +kernel
theorem dL_law_396 : decode cL_law 396 = .ok (.iconst 0, 1) := by decide +kernel
theorem dL_law_397 : decode cL_law 397 = .ok (.laload, 1) := by decide +kernel
theorem dL_law_398 : decode cL_law 398 = .ok (.iload 6, 2) := by decide +kernel
theorem dL_law_400 : decode cL_law 400 = .ok (.i2l, 1) := by decide +kernel
theorem dL_law_401 : decode cL_law 401 = .ok (.lcmp, 1) := by decide +kernel
theorem dL_law_402 : decode cL_law 402 = .ok (.ifCond .eq 5, 3) := by decide +kernel
theorem dL_law_405 : decode cL_law 405 = .ok (.iconst 0, 1) := by decide +kernel
theorem dL_law_406 : decode cL_law 406 = .ok (.ireturn, 1) := by decide +kernel
theorem dL_law_407 : decode cL_law 407 = .ok (.goto 948, 3) := by decide +kernel
theorem dL_law_410 : decode cL_law 410 = .ok (.aload_n 1, 1) := by decide +kernel
theorem dL_law_411 : decode cL_law 411 = .ok (.aload_n 0, 1) := by decide +kernel
theorem dL_law_412 : decode cL_law 412 = .ok (.iload 4, 2) := by decide +kernel
theorem dL_law_414 : decode cL_law 414 = .ok (.iconst 1, 1) := by decide +kernel
theorem dL_law_415 : decode cL_law 415 = .ok (.iadd, 1) := by decide +kernel
theorem dL_law_416 : decode cL_law 416 = .ok (.iaload, 1) := by decide +kernel
theorem dL_law_417 : decode cL_law 417 = .ok (.aload_n 0, 1) := by decide +kernel
theorem dL_law_418 : decode cL_law 418 = .ok (.iload 4, 2) := by decide +kernel
theorem dL_law_420 : decode cL_law 420 = .ok (.iconst 2, 1) := by decide +kernel
theorem dL_law_421 : decode cL_law 421 = .ok (.iadd, 1) := by decide +kernel
theorem dL_law_422 : decode cL_law 422 = .ok (.iaload, 1) := by decide +kernel
theorem dL_law_423 : decode cL_law 423 = .ok (.aload_n 3, 1) := by decide +kernel
theorem dL_law_424 : decode cL_law 424 = .ok (.invokestatic 94, 3) := by decide +kernel
theorem dL_law_427 : decode cL_law 427 = .ok (.istore 5, 2) := by decide +kernel
theorem dL_law_429 : decode cL_law 429 = .ok (.aload_n 2, 1) := by decide +kernel
theorem dL_law_430 : decode cL_law 430 = .ok (.aload_n 0, 1) := by decide +kernel
theorem dL_law_431 : decode cL_law 431 = .ok (.iload 4, 2) := by decide +kernel
theorem dL_law_433 : decode cL_law 433 = .ok (.iconst 1, 1) := by decide +kernel
theorem dL_law_434 : decode cL_law 434 = .ok (.iadd, 1) := by decide +kernel
theorem dL_law_435 : decode cL_law 435 = .ok (.iaload, 1) := by decide +kernel
theorem dL_law_436 : decode cL_law 436 = .ok (.aload_n 0, 1) := by decide +kernel
theorem dL_law_437 : decode cL_law 437 = .ok (.iload 4, 2) := by decide +kernel
theorem dL_law_439 : decode cL_law 439 = .ok (.iconst 2, 1) := by decide +kernel
theorem dL_law_440 : decode cL_law 440 = .ok (.iadd, 1) := by decide +kernel
theorem dL_law_441 : decode cL_law 441 = .ok (.iaload, 1) := by decide +kernel
theorem dL_law_442 : decode cL_law 442 = .ok (.invokevirtual 97, 3) := by decide +kernel
theorem dL_law_445 : decode cL_law 445 = .ok (.istore 6, 2) := by decide +kernel
theorem dL_law_447 : decode cL_law 447 = .ok (.aload_n 2, 1) := by decide +kernel
theorem dL_law_448 : decode cL_law 448 = .ok (.invokevirtual 83, 3) := by decide +kernel
theorem dL_law_451 : decode cL_law 451 = .ok (.iload 5, 2) := by decide +kernel
theorem dL_law_453 : decode cL_law 453 = .ok (.if_icmp .eq 5, 3) := by decide +kernel
theorem dL_law_456 : decode cL_law 456 = .ok (.iconst 0, 1) := by decide +kernel
theorem dL_law_457 : decode cL_law 457 = .ok (.ireturn, 1) := by decide +kernel
theorem dL_law_458 : decode cL_law 458 = .ok (.iload 5, 2) := by decide +kernel
theorem dL_law_460 : decode cL_law 460 = .ok (.ifCond .ne 15, 3) := by decide +kernel
theorem dL_law_463 : decode cL_law 463 = .ok (.aload_n 3, 1) := by decide +kernel
theorem dL_law_464 : decode cL_law 464 = .ok (.iconst 0, 1) := by decide +kernel
theorem dL_law_465 : decode cL_law 465 = .ok (.laload, 1) := by decide +kernel
theorem dL_law_466 : decode cL_law 466 = .ok (.iload 6, 2) := by decide +kernel
theorem dL_law_468 : decode cL_law 468 = .ok (.i2l, 1) := by decide +kernel
theorem dL_law_469 : decode cL_law 469 = .ok (.lcmp, 1) := by decide +kernel
theorem dL_law_470 : decode cL_law 470 = .ok (.ifCond .eq 5, 3) := by decide +kernel
theorem dL_law_473 : decode cL_law 473 = .ok (.iconst 0, 1) := by decide +kernel
theorem dL_law_474 : decode cL_law 474 = .ok (.ireturn, 1) := by decide +kernel
theorem dL_law_475 : decode cL_law 475 = .ok (.goto 880, 3) := by decide +kernel
theorem dL_law_478 : decode cL_law 478 = .ok (.aload_n 1, 1) := by decide +kernel
theorem dL_law_479 : decode cL_law 479 = .ok (.aload_n 0, 1) := by decide +kernel
theorem dL_law_480 : decode cL_law 480 = .ok (.iload 4, 2) := by decide +kernel
theorem dL_law_482 : decode cL_law 482 = .ok (.iconst 1, 1) := by decide +kernel
theorem dL_law_483 : decode cL_law 483 = .ok (.iadd, 1) := by decide +kernel
theorem dL_law_484 : decode cL_law 484 = .ok (.iaload, 1) := by decide +kernel
theorem dL_law_485 : decode cL_law 485 = .ok (.aload_n 0, 1) := by decide +kernel
theorem dL_law_486 : decode cL_law 486 = .ok (.iload 4, 2) := by decide +kernel
theorem dL_law_488 : decode cL_law 488 = .ok (.iconst 2, 1) := by decide +kernel
theorem dL_law_489 : decode cL_law 489 = .ok (.iadd, 1) := by decide +kernel
theorem dL_law_490 : decode cL_law 490 = .ok (.iaload, 1) := by decide +kernel
theorem dL_law_491 : decode cL_law 491 = .ok (.aload_n 3, 1) := by decide +kernel
theorem dL_law_492 : decode cL_law 492 = .ok (.invokestatic 98, 3) := by decide +kernel
theorem dL_law_495 : decode cL_law 495 = .ok (.istore 5, 2) := by decide +kernel
theorem dL_law_497 : decode cL_law 497 = .ok (.aload_n 2, 1) := by decide +kernel
theorem dL_law_498 : decode cL_law 498 = .ok (.aload_n 0, 1) := by decide +kernel
theorem dL_law_499 : decode cL_law 499 = .ok (.iload 4, 2) := by decide +kernel
theorem dL_law_501 : decode cL_law 501 = .ok (.iconst 1, 1) := by decide +kernel
theorem dL_law_502 : decode cL_law 502 = .ok (.iadd, 1) := by decide +kernel
theorem dL_law_503 : decode cL_law 503 = .ok (.iaload, 1) := by decide +kernel
theorem dL_law_504 : decode cL_law 504 = .ok (.aload_n 0, 1) := by decide +kernel
theorem dL_law_505 : decode cL_law 505 = .ok (.iload 4, 2) := by decide +kernel
theorem dL_law_507 : decode cL_law 507 = .ok (.iconst 2, 1) := by decide +kernel
theorem dL_law_508 : decode cL_law 508 = .ok (.iadd, 1) := by decide +kernel
theorem dL_law_509 : decode cL_law 509 = .ok (.iaload, 1) := by decide +kernel
theorem dL_law_510 : decode cL_law 510 = .ok (.invokevirtual 100, 3) := by decide +kernel
theorem dL_law_513 : decode cL_law 513 = .ok (.istore 6, 2) := by decide +kernel
theorem dL_law_515 : decode cL_law 515 = .ok (.aload_n 2, 1) := by decide +kernel
theorem dL_law_516 : decode cL_law 516 = .ok (.invokevirtual 83, 3) := by decide +kernel
theorem dL_law_519 : decode cL_law 519 = .ok (.iload 5, 2) := by decide +kernel
theorem dL_law_521 : decode cL_law 521 = .ok (.if_icmp .eq 5, 3) := by decide +kernel
theorem dL_law_524 : decode cL_law 524 = .ok (.iconst 0, 1) := by decide +kernel
theorem dL_law_525 : decode cL_law 525 = .ok (.ireturn, 1) := by decide +kernel
theorem dL_law_526 : decode cL_law 526 = .ok (.iload 5, 2) := by decide +kernel
theorem dL_law_528 : decode cL_law 528 = .ok (.ifCond .ne 22, 3) := by decide +kernel
theorem dL_law_531 : decode cL_law 531 = .ok (.aload_n 3, 1) := by decide +kernel
theorem dL_law_532 : decode cL_law 532 = .ok (.iconst 0, 1) := by decide +kernel
theorem dL_law_533 : decode cL_law 533 = .ok (.laload, 1) := by decide +kernel
theorem dL_law_534 : decode cL_law 534 = .ok (.iload 6, 2) := by decide +kernel
theorem dL_law_536 : decode cL_law 536 = .ok (.ifCond .eq 7, 3) := by decide +kernel
theorem dL_law_539 : decode cL_law 539 = .ok (.lconst 1, 1) := by decide +kernel
theorem dL_law_540 : decode cL_law 540 = .ok (.goto 4, 3) := by decide +kernel
theorem dL_law_543 : decode cL_law 543 = .ok (.lconst 0, 1) := by decide +kernel
theorem dL_law_544 : decode cL_law 544 = .ok (.lcmp, 1) := by decide +kernel
theorem dL_law_545 : decode cL_law 545 = .ok (.ifCond .eq 5, 3) := by decide +kernel
theorem dL_law_548 : decode cL_law 548 = .ok (.iconst 0, 1) := by decide +kernel
theorem dL_law_549 : decode cL_law 549 = .ok (.ireturn, 1) := by decide +kernel
theorem dL_law_550 : decode cL_law 550 = .ok (.goto 805, 3) := by decide +kernel
theorem dL_law_553 : decode cL_law 553 = .ok (.aload_n 1, 1) := by decide +kernel
theorem dL_law_554 : decode cL_law 554 = .ok (.aload_n 0, 1) := by decide +kernel
theorem dL_law_555 : decode cL_law 555 = .ok (.iload 4, 2) := by decide +kernel
theorem dL_law_557 : decode cL_law 557 = .ok (.iconst 1, 1) := by decide +kernel
theorem dL_law_558 : decode cL_law 558 = .ok (.iadd, 1) := by decide +kernel
theorem dL_law_559 : decode cL_law 559 = .ok (.iaload, 1) := by decide +kernel
theorem dL_law_560 : decode cL_law 560 = .ok (.aload_n 0, 1) := by decide +kernel
theorem dL_law_561 : decode cL_law 561 = .ok (.iload 4, 2) := by decide +kernel
theorem dL_law_563 : decode cL_law 563 = .ok (.iconst 2, 1) := by decide +kernel
theorem dL_law_564 : decode cL_law 564 = .ok (.iadd, 1) := by decide +kernel
theorem dL_law_565 : decode cL_law 565 = .ok (.iaload, 1) := by decide +kernel
theorem dL_law_566 : decode cL_law 566 = .ok (.aload_n 3, 1) := by decide +kernel
theorem dL_law_567 : decode cL_law 567 = .ok (.invokestatic 101, 3) := by decide +kernel
theorem dL_law_570 : decode cL_law 570 = .ok (.istore 5, 2) := by decide +kernel
theorem dL_law_572 : decode cL_law 572 = .ok (.aload_n 2, 1) := by decide +kernel
theorem dL_law_573 : decode cL_law 573 = .ok (.aload_n 0, 1) := by decide +kernel
theorem dL_law_574 : decode cL_law 574 = .ok (.iload 4, 2) := by decide +kernel
theorem dL_law_576 : decode cL_law 576 = .ok (.iconst 1, 1) := by decide +kernel
theorem dL_law_577 : decode cL_law 577 = .ok (.iadd, 1) := by decide +kernel
theorem dL_law_578 : decode cL_law 578 = .ok (.iaload, 1) := by decide +kernel
theorem dL_law_579 : decode cL_law 579 = .ok (.aload_n 0, 1) := by decide +kernel
theorem dL_law_580 : decode cL_law 580 = .ok (.iload 4, 2) := by decide +kernel
theorem dL_law_582 : decode cL_law 582 = .ok (.iconst 2, 1) := by decide +kernel
theorem dL_law_583 : decode cL_law 583 = .ok (.iadd, 1) := by decide +kernel
theorem dL_law_584 : decode cL_law 584 = .ok (.iaload, 1) := by decide +kernel
theorem dL_law_585 : decode cL_law 585 = .ok (.invokevirtual 103, 3) := by decide +kernel
theorem dL_law_588 : decode cL_law 588 = .ok (.istore 6, 2) := by decide +kernel
theorem dL_law_590 : decode cL_law 590 = .ok (.aload_n 2, 1) := by decide +kernel
theorem dL_law_591 : decode cL_law 591 = .ok (.invokevirtual 83, 3) := by decide +kernel
theorem dL_law_594 : decode cL_law 594 = .ok (.iload 5, 2) := by decide +kernel
theorem dL_law_596 : decode cL_law 596 = .ok (.if_icmp .eq 5, 3) := by decide +kernel
theorem dL_law_599 : decode cL_law 599 = .ok (.iconst 0, 1) := by decide +kernel
theorem dL_law_600 : decode cL_law 600 = .ok (.ireturn, 1) := by decide +kernel
theorem dL_law_601 : decode cL_law 601 = .ok (.iload 5, 2) := by decide +kernel
theorem dL_law_603 : decode cL_law 603 = .ok (.ifCond .ne 22, 3) := by decide +kernel
theorem dL_law_606 : decode cL_law 606 = .ok (.aload_n 3, 1) := by decide +kernel
theorem dL_law_607 : decode cL_law 607 = .ok (.iconst 0, 1) := by decide +kernel
theorem dL_law_608 : decode cL_law 608 = .ok (.laload, 1) := by decide +kernel
theorem dL_law_609 : decode cL_law 609 = .ok (.iload 6, 2) := by decide +kernel
theorem dL_law_611 : decode cL_law 611 = .ok (.ifCond .eq 7, 3) := by decide +kernel
theorem dL_law_614 : decode cL_law 614 = .ok (.lconst 1, 1) := by decide +kernel
theorem dL_law_615 : decode cL_law 615 = .ok (.goto 4, 3) := by decide +kernel
theorem dL_law_618 : decode cL_law 618 = .ok (.lconst 0, 1) := by decide +kernel
theorem dL_law_619 : decode cL_law 619 = .ok (.lcmp, 1) := by decide +kernel
theorem dL_law_620 : decode cL_law 620 = .ok (.ifCond .eq 5, 3) := by decide +kernel
theorem dL_law_623 : decode cL_law 623 = .ok (.iconst 0, 1) := by decide +kernel
theorem dL_law_624 : decode cL_law 624 = .ok (.ireturn, 1) := by decide +kernel
theorem dL_law_625 : decode cL_law 625 = .ok (.goto 730, 3) := by decide +kernel
theorem dL_law_628 : decode cL_law 628 = .ok (.aload_n 1, 1) := by decide +kernel
theorem dL_law_629 : decode cL_law 629 = .ok (.aload_n 0, 1) := by decide +kernel
theorem dL_law_630 : decode cL_law 630 = .ok (.iload 4, 2) := by decide +kernel
theorem dL_law_632 : decode cL_law 632 = .ok (.iconst 1, 1) := by decide +kernel
theorem dL_law_633 : decode cL_law 633 = .ok (.iadd, 1) := by decide +kernel
theorem dL_law_634 : decode cL_law 634 = .ok (.iaload, 1) := by decide +kernel
theorem dL_law_635 : decode cL_law 635 = .ok (.aload_n 3, 1) := by decide +kernel
theorem dL_law_636 : decode cL_law 636 = .ok (.invokestatic 104, 3) := by decide +kernel
theorem dL_law_639 : decode cL_law 639 = .ok (.istore 5, 2) := by decide +kernel
theorem dL_law_641 : decode cL_law 641 = .ok (.aload_n 2, 1) := by decide +kernel
theorem dL_law_642 : decode cL_law 642 = .ok (.aload_n 0, 1) := by decide +kernel
theorem dL_law_643 : decode cL_law 643 = .ok (.iload 4, 2) := by decide +kernel
theorem dL_law_645 : decode cL_law 645 = .ok (.iconst 1, 1) := by decide +kernel
theorem dL_law_646 : decode cL_law 646 = .ok (.iadd, 1) := by decide +kernel
theorem dL_law_647 : decode cL_law 647 = .ok (.iaload, 1) := by decide +kernel
theorem dL_law_648 : decode cL_law 648 = .ok (.invokevirtual 107, 3) := by decide +kernel
theorem dL_law_651 : decode cL_law 651 = .ok (.istore 6, 2) := by decide +kernel
theorem dL_law_653 : decode cL_law 653 = .ok (.aload_n 2, 1) := by decide +kernel
theorem dL_law_654 : decode cL_law 654 = .ok (.invokevirtual 83, 3) := by decide +kernel
theorem dL_law_657 : decode cL_law 657 = .ok (.iload 5, 2) := by decide +kernel
theorem dL_law_659 : decode cL_law 659 = .ok (.if_icmp .eq 5, 3) := by decide +kernel
theorem dL_law_662 : decode cL_law 662 = .ok (.iconst 0, 1) := by decide +kernel
theorem dL_law_663 : decode cL_law 663 = .ok (.ireturn, 1) := by decide +kernel
theorem dL_law_664 : decode cL_law 664 = .ok (.iload 5, 2) := by decide +kernel
theorem dL_law_666 : decode cL_law 666 = .ok (.ifCond .ne 15, 3) := by decide +kernel
theorem dL_law_669 : decode cL_law 669 = .ok (.aload_n 3, 1) := by decide +kernel
theorem dL_law_670 : decode cL_law 670 = .ok (.iconst 0, 1) := by decide +kernel
theorem dL_law_671 : decode cL_law 671 = .ok (.laload, 1) := by decide +kernel
theorem dL_law_672 : decode cL_law 672 = .ok (.iload 6, 2) := by decide +kernel
theorem dL_law_674 : decode cL_law 674 = .ok (.i2l, 1) := by decide +kernel
theorem dL_law_675 : decode cL_law 675 = .ok (.lcmp, 1) := by decide +kernel
theorem dL_law_676 : decode cL_law 676 = .ok (.ifCond .eq 5, 3) := by decide +kernel
theorem dL_law_679 : decode cL_law 679 = .ok (.iconst 0, 1) := by decide +kernel
theorem dL_law_680 : decode cL_law 680 = .ok (.ireturn, 1) := by decide +kernel
theorem dL_law_681 : decode cL_law 681 = .ok (.goto 674, 3) := by decide +kernel
theorem dL_law_684 : decode cL_law 684 = .ok (.aload_n 1, 1) := by decide +kernel
theorem dL_law_685 : decode cL_law 685 = .ok (.aload_n 0, 1) := by decide +kernel
theorem dL_law_686 : decode cL_law 686 = .ok (.iload 4, 2) := by decide +kernel
theorem dL_law_688 : decode cL_law 688 = .ok (.iconst 1, 1) := by decide +kernel
theorem dL_law_689 : decode cL_law 689 = .ok (.iadd, 1) := by decide +kernel
theorem dL_law_690 : decode cL_law 690 = .ok (.iaload, 1) := by decide +kernel
theorem dL_law_691 : decode cL_law 691 = .ok (.aload_n 3, 1) := by decide +kernel
theorem dL_law_692 : decode cL_law 692 = .ok (.invokestatic 108, 3) := by decide +kernel
theorem dL_law_695 : decode cL_law 695 = .ok (.istore 5, 2) := by decide +kernel
theorem dL_law_697 : decode cL_law 697 = .ok (.aload_n 2, 1) := by decide +kernel
theorem dL_law_698 : decode cL_law 698 = .ok (.aload_n 0, 1) := by decide +kernel
theorem dL_law_699 : decode cL_law 699 = .ok (.iload 4, 2) := by decide +kernel
theorem dL_law_701 : decode cL_law 701 = .ok (.iconst 1, 1) := by decide +kernel
theorem dL_law_702 : decode cL_law 702 = .ok (.iadd, 1) := by decide +kernel
theorem dL_law_703 : decode cL_law 703 = .ok (.iaload, 1) := by decide +kernel
theorem dL_law_704 : decode cL_law 704 = .ok (.invokevirtual 110, 3) := by decide +kernel
theorem dL_law_707 : decode cL_law 707 = .ok (.istore 6, 2) := by decide +kernel
theorem dL_law_709 : decode cL_law 709 = .ok (.aload_n 2, 1) := by decide +kernel
theorem dL_law_710 : decode cL_law 710 = .ok (.invokevirtual 83, 3) := by decide +kernel
theorem dL_law_713 : decode cL_law 713 = .ok (.iload 5, 2) := by decide +kernel
theorem dL_law_715 : decode cL_law 715 = .ok (.if_icmp .eq 5, 3) := by decide +kernel
theorem dL_law_718 : decode cL_law 718 = .ok (.iconst 0, 1) := by decide +kernel
theorem dL_law_719 : decode cL_law 719 = .ok (.ireturn, 1) := by decide +kernel
theorem dL_law_720 : decode cL_law 720 = .ok (.iload 5, 2) := by decide +kernel
theorem dL_law_722 : decode cL_law 722 = .ok (.ifCond .ne 15, 3) := by decide +kernel
theorem dL_law_725 : decode cL_law 725 = .ok (.aload_n 3, 1) := by decide +kernel
theorem dL_law_726 : decode cL_law 726 = .ok (.iconst 0, 1) := by decide +kernel
theorem dL_law_727 : decode cL_law 727 = .ok (.laload, 1) := by decide +kernel
theorem dL_law_728 : decode cL_law 728 = .ok (.iload 6, 2) := by decide +kernel
theorem dL_law_730 : decode cL_law 730 = .ok (.i2l, 1) := by decide +kernel
theorem dL_law_731 : decode cL_law 731 = .ok (.lcmp, 1) := by decide +kernel
theorem dL_law_732 : decode cL_law 732 = .ok (.ifCond .eq 5, 3) := by decide +kernel
theorem dL_law_735 : decode cL_law 735 = .ok (.iconst 0, 1) := by decide +kernel
theorem dL_law_736 : decode cL_law 736 = .ok (.ireturn, 1) := by decide +kernel
theorem dL_law_737 : decode cL_law 737 = .ok (.goto 618, 3) := by decide +kernel
theorem dL_law_740 : decode cL_law 740 = .ok (.aload_n 1, 1) := by decide +kernel
theorem dL_law_741 : decode cL_law 741 = .ok (.aload_n 0, 1) := by decide +kernel
theorem dL_law_742 : decode cL_law 742 = .ok (.iload 4, 2) := by decide +kernel
theorem dL_law_744 : decode cL_law 744 = .ok (.iconst 1, 1) := by decide +kernel
theorem dL_law_745 : decode cL_law 745 = .ok (.iadd, 1) := by decide +kernel
theorem dL_law_746 : decode cL_law 746 = .ok (.iaload, 1) := by decide +kernel
theorem dL_law_747 : decode cL_law 747 = .ok (.aload_n 3, 1) := by decide +kernel
theorem dL_law_748 : decode cL_law 748 = .ok (.invokestatic 111, 3) := by decide +kernel
theorem dL_law_751 : decode cL_law 751 = .ok (.istore 5, 2) := by decide +kernel
theorem dL_law_753 : decode cL_law 753 = .ok (.aload_n 2, 1) := by decide +kernel
theorem dL_law_754 : decode cL_law 754 = .ok (.aload_n 0, 1) := by decide +kernel
theorem dL_law_755 : decode cL_law 755 = .ok (.iload 4, 2) := by decide +kernel
theorem dL_law_757 : decode cL_law 757 = .ok (.iconst 1, 1) := by decide +kernel
theorem dL_law_758 : decode cL_law 758 = .ok (.iadd, 1) := by decide +kernel
theorem dL_law_759 : decode cL_law 759 = .ok (.iaload, 1) := by decide +kernel
theorem dL_law_760 : decode cL_law 760 = .ok (.invokevirtual 113, 3) := by decide +kernel
theorem dL_law_763 : decode cL_law 763 = .ok (.istore 6, 2) := by decide +kernel
theorem dL_law_765 : decode cL_law 765 = .ok (.aload_n 2, 1) := by decide +kernel
theorem dL_law_766 : decode cL_law 766 = .ok (.invokevirtual 83, 3) := by decide +kernel
theorem dL_law_769 : decode cL_law 769 = .ok (.iload 5, 2) := by decide +kernel
theorem dL_law_771 : decode cL_law 771 = .ok (.if_icmp .eq 5, 3) := by decide +kernel
theorem dL_law_774 : decode cL_law 774 = .ok (.iconst 0, 1) := by decide +kernel
theorem dL_law_775 : decode cL_law 775 = .ok (.ireturn, 1) := by decide +kernel
theorem dL_law_776 : decode cL_law 776 = .ok (.iload 5, 2) := by decide +kernel
theorem dL_law_778 : decode cL_law 778 = .ok (.ifCond .ne 22, 3) := by decide +kernel
theorem dL_law_781 : decode cL_law 781 = .ok (.aload_n 3, 1) := by decide +kernel
theorem dL_law_782 : decode cL_law 782 = .ok (.iconst 0, 1) := by decide +kernel
theorem dL_law_783 : decode cL_law 783 = .ok (.laload, 1) := by decide +kernel
theorem dL_law_784 : decode cL_law 784 = .ok (.iload 6, 2) := by decide +kernel
theorem dL_law_786 : decode cL_law 786 = .ok (.ifCond .eq 7, 3) := by decide +kernel
theorem dL_law_789 : decode cL_law 789 = .ok (.lconst 1, 1) := by decide +kernel
theorem dL_law_790 : decode cL_law 790 = .ok (.goto 4, 3) := by decide +kernel
theorem dL_law_793 : decode cL_law 793 = .ok (.lconst 0, 1) := by decide +kernel
theorem dL_law_794 : decode cL_law 794 = .ok (.lcmp, 1) := by decide +kernel
theorem dL_law_795 : decode cL_law 795 = .ok (.ifCond .eq 5, 3) := by decide +kernel
theorem dL_law_798 : decode cL_law 798 = .ok (.iconst 0, 1) := by decide +kernel
theorem dL_law_799 : decode cL_law 799 = .ok (.ireturn, 1) := by decide +kernel
theorem dL_law_800 : decode cL_law 800 = .ok (.goto 555, 3) := by decide +kernel
theorem dL_law_803 : decode cL_law 803 = .ok (.aload_n 1, 1) := by decide +kernel
theorem dL_law_804 : decode cL_law 804 = .ok (.aload_n 0, 1) := by decide +kernel
theorem dL_law_805 : decode cL_law 805 = .ok (.iload 4, 2) := by decide +kernel
theorem dL_law_807 : decode cL_law 807 = .ok (.iconst 1, 1) := by decide +kernel
theorem dL_law_808 : decode cL_law 808 = .ok (.iadd, 1) := by decide +kernel
theorem dL_law_809 : decode cL_law 809 = .ok (.iaload, 1) := by decide +kernel
theorem dL_law_810 : decode cL_law 810 = .ok (.aload_n 3, 1) := by decide +kernel
theorem dL_law_811 : decode cL_law 811 = .ok (.invokestatic 114, 3) := by decide +kernel
theorem dL_law_814 : decode cL_law 814 = .ok (.istore 5, 2) := by decide +kernel
theorem dL_law_816 : decode cL_law 816 = .ok (.aload_n 2, 1) := by decide +kernel
theorem dL_law_817 : decode cL_law 817 = .ok (.aload_n 0, 1) := by decide +kernel
theorem dL_law_818 : decode cL_law 818 = .ok (.iload 4, 2) := by decide +kernel
theorem dL_law_820 : decode cL_law 820 = .ok (.iconst 1, 1) := by decide +kernel
theorem dL_law_821 : decode cL_law 821 = .ok (.iadd, 1) := by decide +kernel
theorem dL_law_822 : decode cL_law 822 = .ok (.iaload, 1) := by decide +kernel
theorem dL_law_823 : decode cL_law 823 = .ok (.invokevirtual 116, 3) := by decide +kernel
theorem dL_law_826 : decode cL_law 826 = .ok (.istore 6, 2) := by decide +kernel
theorem dL_law_828 : decode cL_law 828 = .ok (.aload_n 2, 1) := by decide +kernel
theorem dL_law_829 : decode cL_law 829 = .ok (.invokevirtual 83, 3) := by decide +kernel
theorem dL_law_832 : decode cL_law 832 = .ok (.iload 5, 2) := by decide +kernel
theorem dL_law_834 : decode cL_law 834 = .ok (.if_icmp .eq 5, 3) := by decide +kernel
theorem dL_law_837 : decode cL_law 837 = .ok (.iconst 0, 1) := by decide +kernel
theorem dL_law_838 : decode cL_law 838 = .ok (.ireturn, 1) := by decide +kernel
theorem dL_law_839 : decode cL_law 839 = .ok (.iload 5, 2) := by decide +kernel
theorem dL_law_841 : decode cL_law 841 = .ok (.ifCond .ne 15, 3) := by decide +kernel
theorem dL_law_844 : decode cL_law 844 = .ok (.aload_n 3, 1) := by decide +kernel
theorem dL_law_845 : decode cL_law 845 = .ok (.iconst 0, 1) := by decide +kernel
theorem dL_law_846 : decode cL_law 846 = .ok (.laload, 1) := by decide +kernel
theorem dL_law_847 : decode cL_law 847 = .ok (.iload 6, 2) := by decide +kernel
theorem dL_law_849 : decode cL_law 849 = .ok (.i2l, 1) := by decide +kernel
theorem dL_law_850 : decode cL_law 850 = .ok (.lcmp, 1) := by decide +kernel
theorem dL_law_851 : decode cL_law 851 = .ok (.ifCond .eq 5, 3) := by decide +kernel
theorem dL_law_854 : decode cL_law 854 = .ok (.iconst 0, 1) := by decide +kernel
theorem dL_law_855 : decode cL_law 855 = .ok (.ireturn, 1) := by decide +kernel
theorem dL_law_856 : decode cL_law 856 = .ok (.goto 499, 3) := by decide +kernel
theorem dL_law_859 : decode cL_law 859 = .ok (.aload_n 1, 1) := by decide +kernel
theorem dL_law_860 : decode cL_law 860 = .ok (.aload_n 0, 1) := by decide +kernel
theorem dL_law_861 : decode cL_law 861 = .ok (.iload 4, 2) := by decide +kernel
theorem dL_law_863 : decode cL_law 863 = .ok (.iconst 1, 1) := by decide +kernel
theorem dL_law_864 : decode cL_law 864 = .ok (.iadd, 1) := by decide +kernel
theorem dL_law_865 : decode cL_law 865 = .ok (.iaload, 1) := by decide +kernel
theorem dL_law_866 : decode cL_law 866 = .ok (.aload_n 3, 1) := by decide +kernel
theorem dL_law_867 : decode cL_law 867 = .ok (.invokestatic 117, 3) := by decide +kernel
theorem dL_law_870 : decode cL_law 870 = .ok (.istore 5, 2) := by decide +kernel
theorem dL_law_872 : decode cL_law 872 = .ok (.aload_n 2, 1) := by decide +kernel
theorem dL_law_873 : decode cL_law 873 = .ok (.aload_n 0, 1) := by decide +kernel
theorem dL_law_874 : decode cL_law 874 = .ok (.iload 4, 2) := by decide +kernel
theorem dL_law_876 : decode cL_law 876 = .ok (.iconst 1, 1) := by decide +kernel
theorem dL_law_877 : decode cL_law 877 = .ok (.iadd, 1) := by decide +kernel
theorem dL_law_878 : decode cL_law 878 = .ok (.iaload, 1) := by decide +kernel
theorem dL_law_879 : decode cL_law 879 = .ok (.invokevirtual 119, 3) := by decide +kernel
theorem dL_law_882 : decode cL_law 882 = .ok (.istore 6, 2) := by decide +kernel
theorem dL_law_884 : decode cL_law 884 = .ok (.aload_n 2, 1) := by decide +kernel
theorem dL_law_885 : decode cL_law 885 = .ok (.invokevirtual 83, 3) := by decide +kernel
theorem dL_law_888 : decode cL_law 888 = .ok (.iload 5, 2) := by decide +kernel
theorem dL_law_890 : decode cL_law 890 = .ok (.if_icmp .eq 5, 3) := by decide +kernel
theorem dL_law_893 : decode cL_law 893 = .ok (.iconst 0, 1) := by decide +kernel
theorem dL_law_894 : decode cL_law 894 = .ok (.ireturn, 1) := by decide +kernel
theorem dL_law_895 : decode cL_law 895 = .ok (.iload 5, 2) := by decide +kernel
theorem dL_law_897 : decode cL_law 897 = .ok (.ifCond .ne 22, 3) := by decide +kernel
theorem dL_law_900 : decode cL_law 900 = .ok (.aload_n 3, 1) := by decide +kernel
theorem dL_law_901 : decode cL_law 901 = .ok (.iconst 0, 1) := by decide +kernel
theorem dL_law_902 : decode cL_law 902 = .ok (.laload, 1) := by decide +kernel
theorem dL_law_903 : decode cL_law 903 = .ok (.iload 6, 2) := by decide +kernel
theorem dL_law_905 : decode cL_law 905 = .ok (.ifCond .eq 7, 3) := by decide +kernel
theorem dL_law_908 : decode cL_law 908 = .ok (.lconst 1, 1) := by decide +kernel
theorem dL_law_909 : decode cL_law 909 = .ok (.goto 4, 3) := by decide +kernel
theorem dL_law_912 : decode cL_law 912 = .ok (.lconst 0, 1) := by decide +kernel
theorem dL_law_913 : decode cL_law 913 = .ok (.lcmp, 1) := by decide +kernel
theorem dL_law_914 : decode cL_law 914 = .ok (.ifCond .eq 5, 3) := by decide +kernel
theorem dL_law_917 : decode cL_law 917 = .ok (.iconst 0, 1) := by decide +kernel
theorem dL_law_918 : decode cL_law 918 = .ok (.ireturn, 1) := by decide +kernel
theorem dL_law_919 : decode cL_law 919 = .ok (.goto 436, 3) := by decide +kernel
theorem dL_law_922 : decode cL_law 922 = .ok (.aload_n 1, 1) := by decide +kernel
theorem dL_law_923 : decode cL_law 923 = .ok (.aload_n 0, 1) := by decide +kernel
end
section
theorem dL_law_924 : decode cL_law 924 = .ok (.iload 4, 2) := by decide +kernel
theorem dL_law_926 : decode cL_law 926 = .ok (.iconst 1, 1) := by decide +kernel
theorem dL_law_927 : decode cL_law 927 = .ok (.iadd, 1) := by decide +kernel
theorem dL_law_928 : decode cL_law 928 = .ok (.iaload, 1) := by decide +kernel
theorem dL_law_929 : decode cL_law 929 = .ok (.aload_n 3, 1) := by decide +kernel
theorem dL_law_930 : decode cL_law 930 = .ok (.invokestatic 120, 3) := by decide +kernel
theorem dL_law_933 : decode cL_law 933 = .ok (.istore 5, 2) := by decide +kernel
theorem dL_law_935 : decode cL_law 935 = .ok (.aload_n 2, 1) := by decide +kernel
theorem dL_law_936 : decode cL_law 936 = .ok (.aload_n 0, 1) := by decide +kernel
theorem dL_law_937 : decode cL_law 937 = .ok (.iload 4, 2) := by decide +kernel
theorem dL_law_939 : decode cL_law 939 = .ok (.iconst 1, 1) := by decide +kernel
theorem dL_law_940 : decode cL_law 940 = .ok (.iadd, 1) := by decide +kernel
theorem dL_law_941 : decode cL_law 941 = .ok (.iaload, 1) := by decide +kernel
theorem dL_law_942 : decode cL_law 942 = .ok (.invokevirtual 122, 3) := by decide +kernel
theorem dL_law_945 : decode cL_law 945 = .ok (.istore 6, 2) := by decide +kernel
theorem dL_law_947 : decode cL_law 947 = .ok (.aload_n 2, 1) := by decide +kernel
theorem dL_law_948 : decode cL_law 948 = .ok (.invokevirtual 83, 3) := by decide +kernel
theorem dL_law_951 : decode cL_law 951 = .ok (.iload 5, 2) := by decide +kernel
theorem dL_law_953 : decode cL_law 953 = .ok (.if_icmp .eq 5, 3) := by decide +kernel
theorem dL_law_956 : decode cL_law 956 = .ok (.iconst 0, 1) := by decide +kernel
theorem dL_law_957 : decode cL_law 957 = .ok (.ireturn, 1) := by decide +kernel
theorem dL_law_958 : decode cL_law 958 = .ok (.iload 5, 2) := by decide +kernel
theorem dL_law_960 : decode cL_law 960 = .ok (.ifCond .ne 15, 3) := by decide +kernel
theorem dL_law_963 : decode cL_law 963 = .ok (.aload_n 3, 1) := by decide +kernel
theorem dL_law_964 : decode cL_law 964 = .ok (.iconst 0, 1) := by decide +kernel
theorem dL_law_965 : decode cL_law 965 = .ok (.laload, 1) := by decide +kernel
theorem dL_law_966 : decode cL_law 966 = .ok (.iload 6, 2) := by decide +kernel
theorem dL_law_968 : decode cL_law 968 = .ok (.i2l, 1) := by decide +kernel
theorem dL_law_969 : decode cL_law 969 = .ok (.lcmp, 1) := by decide +kernel
theorem dL_law_970 : decode cL_law 970 = .ok (.ifCond .eq 5, 3) := by decide +kernel
theorem dL_law_973 : decode cL_law 973 = .ok (.iconst 0, 1) := by decide +kernel
theorem dL_law_974 : decode cL_law 974 = .ok (.ireturn, 1) := by decide +kernel
theorem dL_law_975 : decode cL_law 975 = .ok (.goto 380, 3) := by decide +kernel
theorem dL_law_978 : decode cL_law 978 = .ok (.aload_n 1, 1) := by decide +kernel
theorem dL_law_979 : decode cL_law 979 = .ok (.invokevirtual 123, 3) := by decide +kernel
theorem dL_law_982 : decode cL_law 982 = .ok (.aload_n 2, 1) := by decide +kernel
theorem dL_law_983 : decode cL_law 983 = .ok (.invokevirtual 126, 3) := by decide +kernel
theorem dL_law_986 : decode cL_law 986 = .ok (.if_icmp .eq 369, 3) := by decide +kernel
theorem dL_law_989 : decode cL_law 989 = .ok (.iconst 0, 1) := by decide +kernel
theorem dL_law_990 : decode cL_law 990 = .ok (.ireturn, 1) := by decide +kernel
theorem dL_law_991 : decode cL_law 991 = .ok (.aload_n 1, 1) := by decide +kernel
theorem dL_law_992 : decode cL_law 992 = .ok (.aload_n 0, 1) := by decide +kernel
theorem dL_law_993 : decode cL_law 993 = .ok (.iload 4, 2) := by decide +kernel
theorem dL_law_995 : decode cL_law 995 = .ok (.iconst 1, 1) := by decide +kernel
theorem dL_law_996 : decode cL_law 996 = .ok (.iadd, 1) := by decide +kernel
theorem dL_law_997 : decode cL_law 997 = .ok (.iaload, 1) := by decide +kernel
theorem dL_law_998 : decode cL_law 998 = .ok (.aload_n 0, 1) := by decide +kernel
theorem dL_law_999 : decode cL_law 999 = .ok (.iload 4, 2) := by decide +kernel
theorem dL_law_1001 : decode cL_law 1001 = .ok (.iconst 2, 1) := by decide +kernel
theorem dL_law_1002 : decode cL_law 1002 = .ok (.iadd, 1) := by decide +kernel
theorem dL_law_1003 : decode cL_law 1003 = .ok (.iaload, 1) := by decide +kernel
theorem dL_law_1004 : decode cL_law 1004 = .ok (.aload_n 0, 1) := by decide +kernel
theorem dL_law_1005 : decode cL_law 1005 = .ok (.iload 4, 2) := by decide +kernel
theorem dL_law_1007 : decode cL_law 1007 = .ok (.iconst 3, 1) := by decide +kernel
theorem dL_law_1008 : decode cL_law 1008 = .ok (.iadd, 1) := by decide +kernel
theorem dL_law_1009 : decode cL_law 1009 = .ok (.iaload, 1) := by decide +kernel
theorem dL_law_1010 : decode cL_law 1010 = .ok (.aload_n 0, 1) := by decide +kernel
theorem dL_law_1011 : decode cL_law 1011 = .ok (.iload 4, 2) := by decide +kernel
theorem dL_law_1013 : decode cL_law 1013 = .ok (.iconst 4, 1) := by decide +kernel
theorem dL_law_1014 : decode cL_law 1014 = .ok (.iadd, 1) := by decide +kernel
theorem dL_law_1015 : decode cL_law 1015 = .ok (.iaload, 1) := by decide +kernel
theorem dL_law_1016 : decode cL_law 1016 = .ok (.aload_n 3, 1) := by decide +kernel
theorem dL_law_1017 : decode cL_law 1017 = .ok (.invokestatic 127, 3) := by decide +kernel
theorem dL_law_1020 : decode cL_law 1020 = .ok (.istore 5, 2) := by decide +kernel
theorem dL_law_1022 : decode cL_law 1022 = .ok (.aload_n 2, 1) := by decide +kernel
theorem dL_law_1023 : decode cL_law 1023 = .ok (.aload_n 0, 1) := by decide +kernel
theorem dL_law_1024 : decode cL_law 1024 = .ok (.iload 4, 2) := by decide +kernel
theorem dL_law_1026 : decode cL_law 1026 = .ok (.iconst 1, 1) := by decide +kernel
theorem dL_law_1027 : decode cL_law 1027 = .ok (.iadd, 1) := by decide +kernel
theorem dL_law_1028 : decode cL_law 1028 = .ok (.iaload, 1) := by decide +kernel
theorem dL_law_1029 : decode cL_law 1029 = .ok (.aload_n 0, 1) := by decide +kernel
theorem dL_law_1030 : decode cL_law 1030 = .ok (.iload 4, 2) := by decide +kernel
theorem dL_law_1032 : decode cL_law 1032 = .ok (.iconst 2, 1) := by decide +kernel
theorem dL_law_1033 : decode cL_law 1033 = .ok (.iadd, 1) := by decide +kernel
theorem dL_law_1034 : decode cL_law 1034 = .ok (.iaload, 1) := by decide +kernel
theorem dL_law_1035 : decode cL_law 1035 = .ok (.aload_n 0, 1) := by decide +kernel
theorem dL_law_1036 : decode cL_law 1036 = .ok (.iload 4, 2) := by decide +kernel
theorem dL_law_1038 : decode cL_law 1038 = .ok (.iconst 3, 1) := by decide +kernel
theorem dL_law_1039 : decode cL_law 1039 = .ok (.iadd, 1) := by decide +kernel
theorem dL_law_1040 : decode cL_law 1040 = .ok (.iaload, 1) := by decide +kernel
theorem dL_law_1041 : decode cL_law 1041 = .ok (.aload_n 0, 1) := by decide +kernel
theorem dL_law_1042 : decode cL_law 1042 = .ok (.iload 4, 2) := by decide +kernel
theorem dL_law_1044 : decode cL_law 1044 = .ok (.iconst 4, 1) := by decide +kernel
theorem dL_law_1045 : decode cL_law 1045 = .ok (.iadd, 1) := by decide +kernel
theorem dL_law_1046 : decode cL_law 1046 = .ok (.iaload, 1) := by decide +kernel
theorem dL_law_1047 : decode cL_law 1047 = .ok (.invokevirtual 130, 3) := by decide +kernel
theorem dL_law_1050 : decode cL_law 1050 = .ok (.istore 6, 2) := by decide +kernel
theorem dL_law_1052 : decode cL_law 1052 = .ok (.aload_n 2, 1) := by decide +kernel
theorem dL_law_1053 : decode cL_law 1053 = .ok (.invokevirtual 83, 3) := by decide +kernel
theorem dL_law_1056 : decode cL_law 1056 = .ok (.iload 5, 2) := by decide +kernel
theorem dL_law_1058 : decode cL_law 1058 = .ok (.if_icmp .eq 5, 3) := by decide +kernel
theorem dL_law_1061 : decode cL_law 1061 = .ok (.iconst 0, 1) := by decide +kernel
theorem dL_law_1062 : decode cL_law 1062 = .ok (.ireturn, 1) := by decide +kernel
theorem dL_law_1063 : decode cL_law 1063 = .ok (.iload 5, 2) := by decide +kernel
theorem dL_law_1065 : decode cL_law 1065 = .ok (.ifCond .ne 15, 3) := by decide +kernel
theorem dL_law_1068 : decode cL_law 1068 = .ok (.aload_n 3, 1) := by decide +kernel
theorem dL_law_1069 : decode cL_law 1069 = .ok (.iconst 0, 1) := by decide +kernel
theorem dL_law_1070 : decode cL_law 1070 = .ok (.laload, 1) := by decide +kernel
theorem dL_law_1071 : decode cL_law 1071 = .ok (.iload 6, 2) := by decide +kernel
theorem dL_law_1073 : decode cL_law 1073 = .ok (.i2l, 1) := by decide +kernel
theorem dL_law_1074 : decode cL_law 1074 = .ok (.lcmp, 1) := by decide +kernel
theorem dL_law_1075 : decode cL_law 1075 = .ok (.ifCond .eq 5, 3) := by decide +kernel
theorem dL_law_1078 : decode cL_law 1078 = .ok (.iconst 0, 1) := by decide +kernel
theorem dL_law_1079 : decode cL_law 1079 = .ok (.ireturn, 1) := by decide +kernel
theorem dL_law_1080 : decode cL_law 1080 = .ok (.goto 275, 3) := by decide +kernel
theorem dL_law_1083 : decode cL_law 1083 = .ok (.aload_n 1, 1) := by decide +kernel
theorem dL_law_1084 : decode cL_law 1084 = .ok (.aload_n 0, 1) := by decide +kernel
theorem dL_law_1085 : decode cL_law 1085 = .ok (.iload 4, 2) := by decide +kernel
theorem dL_law_1087 : decode cL_law 1087 = .ok (.iconst 1, 1) := by decide +kernel
theorem dL_law_1088 : decode cL_law 1088 = .ok (.iadd, 1) := by decide +kernel
theorem dL_law_1089 : decode cL_law 1089 = .ok (.iaload, 1) := by decide +kernel
theorem dL_law_1090 : decode cL_law 1090 = .ok (.aload_n 0, 1) := by decide +kernel
theorem dL_law_1091 : decode cL_law 1091 = .ok (.iload 4, 2) := by decide +kernel
theorem dL_law_1093 : decode cL_law 1093 = .ok (.iconst 2, 1) := by decide +kernel
theorem dL_law_1094 : decode cL_law 1094 = .ok (.iadd, 1) := by decide +kernel
theorem dL_law_1095 : decode cL_law 1095 = .ok (.iaload, 1) := by decide +kernel
theorem dL_law_1096 : decode cL_law 1096 = .ok (.aload_n 3, 1) := by decide +kernel
theorem dL_law_1097 : decode cL_law 1097 = .ok (.invokestatic 131, 3) := by decide +kernel
theorem dL_law_1100 : decode cL_law 1100 = .ok (.istore 5, 2) := by decide +kernel
theorem dL_law_1102 : decode cL_law 1102 = .ok (.aload_n 2, 1) := by decide +kernel
theorem dL_law_1103 : decode cL_law 1103 = .ok (.aload_n 0, 1) := by decide +kernel
theorem dL_law_1104 : decode cL_law 1104 = .ok (.iload 4, 2) := by decide +kernel
theorem dL_law_1106 : decode cL_law 1106 = .ok (.iconst 1, 1) := by decide +kernel
theorem dL_law_1107 : decode cL_law 1107 = .ok (.iadd, 1) := by decide +kernel
theorem dL_law_1108 : decode cL_law 1108 = .ok (.iaload, 1) := by decide +kernel
theorem dL_law_1109 : decode cL_law 1109 = .ok (.aload_n 0, 1) := by decide +kernel
theorem dL_law_1110 : decode cL_law 1110 = .ok (.iload 4, 2) := by decide +kernel
theorem dL_law_1112 : decode cL_law 1112 = .ok (.iconst 2, 1) := by decide +kernel
theorem dL_law_1113 : decode cL_law 1113 = .ok (.iadd, 1) := by decide +kernel
theorem dL_law_1114 : decode cL_law 1114 = .ok (.iaload, 1) := by decide +kernel
theorem dL_law_1115 : decode cL_law 1115 = .ok (.invokevirtual 133, 3) := by decide +kernel
theorem dL_law_1118 : decode cL_law 1118 = .ok (.istore 6, 2) := by decide +kernel
theorem dL_law_1120 : decode cL_law 1120 = .ok (.aload_n 2, 1) := by decide +kernel
theorem dL_law_1121 : decode cL_law 1121 = .ok (.invokevirtual 83, 3) := by decide +kernel
theorem dL_law_1124 : decode cL_law 1124 = .ok (.iload 5, 2) := by decide +kernel
theorem dL_law_1126 : decode cL_law 1126 = .ok (.if_icmp .eq 5, 3) := by decide +kernel
theorem dL_law_1129 : decode cL_law 1129 = .ok (.iconst 0, 1) := by decide +kernel
theorem dL_law_1130 : decode cL_law 1130 = .ok (.ireturn, 1) := by decide +kernel
theorem dL_law_1131 : decode cL_law 1131 = .ok (.iload 5, 2) := by decide +kernel
theorem dL_law_1133 : decode cL_law 1133 = .ok (.ifCond .ne 15, 3) := by decide +kernel
theorem dL_law_1136 : decode cL_law 1136 = .ok (.aload_n 3, 1) := by decide +kernel
theorem dL_law_1137 : decode cL_law 1137 = .ok (.iconst 0, 1) := by decide +kernel
theorem dL_law_1138 : decode cL_law 1138 = .ok (.laload, 1) := by decide +kernel
theorem dL_law_1139 : decode cL_law 1139 = .ok (.iload 6, 2) := by decide +kernel
theorem dL_law_1141 : decode cL_law 1141 = .ok (.i2l, 1) := by decide +kernel
theorem dL_law_1142 : decode cL_law 1142 = .ok (.lcmp, 1) := by decide +kernel
theorem dL_law_1143 : decode cL_law 1143 = .ok (.ifCond .eq 5, 3) := by decide +kernel
theorem dL_law_1146 : decode cL_law 1146 = .ok (.iconst 0, 1) := by decide +kernel
theorem dL_law_1147 : decode cL_law 1147 = .ok (.ireturn, 1) := by decide +kernel
theorem dL_law_1148 : decode cL_law 1148 = .ok (.goto 207, 3) := by decide +kernel
theorem dL_law_1151 : decode cL_law 1151 = .ok (.aload_n 1, 1) := by decide +kernel
theorem dL_law_1152 : decode cL_law 1152 = .ok (.aload_n 0, 1) := by decide +kernel
theorem dL_law_1153 : decode cL_law 1153 = .ok (.iload 4, 2) := by decide +kernel
theorem dL_law_1155 : decode cL_law 1155 = .ok (.iconst 1, 1) := by decide +kernel
theorem dL_law_1156 : decode cL_law 1156 = .ok (.iadd, 1) := by decide +kernel
theorem dL_law_1157 : decode cL_law 1157 = .ok (.iaload, 1) := by decide +kernel
theorem dL_law_1158 : decode cL_law 1158 = .ok (.aload_n 0, 1) := by decide +kernel
theorem dL_law_1159 : decode cL_law 1159 = .ok (.iload 4, 2) := by decide +kernel
theorem dL_law_1161 : decode cL_law 1161 = .ok (.iconst 2, 1) := by decide +kernel
theorem dL_law_1162 : decode cL_law 1162 = .ok (.iadd, 1) := by decide +kernel
theorem dL_law_1163 : decode cL_law 1163 = .ok (.iaload, 1) := by decide +kernel
theorem dL_law_1164 : decode cL_law 1164 = .ok (.aload_n 0, 1) := by decide +kernel
theorem dL_law_1165 : decode cL_law 1165 = .ok (.iload 4, 2) := by decide +kernel
theorem dL_law_1167 : decode cL_law 1167 = .ok (.iconst 3, 1) := by decide +kernel
theorem dL_law_1168 : decode cL_law 1168 = .ok (.iadd, 1) := by decide +kernel
theorem dL_law_1169 : decode cL_law 1169 = .ok (.iaload, 1) := by decide +kernel
theorem dL_law_1170 : decode cL_law 1170 = .ok (.aload_n 3, 1) := by decide +kernel
theorem dL_law_1171 : decode cL_law 1171 = .ok (.invokestatic 134, 3) := by decide +kernel
theorem dL_law_1174 : decode cL_law 1174 = .ok (.istore 5, 2) := by decide +kernel
theorem dL_law_1176 : decode cL_law 1176 = .ok (.aload_n 2, 1) := by decide +kernel
theorem dL_law_1177 : decode cL_law 1177 = .ok (.aload_n 0, 1) := by decide +kernel
theorem dL_law_1178 : decode cL_law 1178 = .ok (.iload 4, 2) := by decide +kernel
theorem dL_law_1180 : decode cL_law 1180 = .ok (.iconst 1, 1) := by decide +kernel
theorem dL_law_1181 : decode cL_law 1181 = .ok (.iadd, 1) := by decide +kernel
theorem dL_law_1182 : decode cL_law 1182 = .ok (.iaload, 1) := by decide +kernel
theorem dL_law_1183 : decode cL_law 1183 = .ok (.aload_n 0, 1) := by decide +kernel
theorem dL_law_1184 : decode cL_law 1184 = .ok (.iload 4, 2) := by decide +kernel
theorem dL_law_1186 : decode cL_law 1186 = .ok (.iconst 2, 1) := by decide +kernel
theorem dL_law_1187 : decode cL_law 1187 = .ok (.iadd, 1) := by decide +kernel
theorem dL_law_1188 : decode cL_law 1188 = .ok (.iaload, 1) := by decide +kernel
theorem dL_law_1189 : decode cL_law 1189 = .ok (.aload_n 0, 1) := by decide +kernel
theorem dL_law_1190 : decode cL_law 1190 = .ok (.iload 4, 2) := by decide +kernel
theorem dL_law_1192 : decode cL_law 1192 = .ok (.iconst 3, 1) := by decide +kernel
theorem dL_law_1193 : decode cL_law 1193 = .ok (.iadd, 1) := by decide +kernel
theorem dL_law_1194 : decode cL_law 1194 = .ok (.iaload, 1) := by decide +kernel
theorem dL_law_1195 : decode cL_law 1195 = .ok (.invokevirtual 136, 3) := by decide +kernel
theorem dL_law_1198 : decode cL_law 1198 = .ok (.istore 6, 2) := by decide +kernel
theorem dL_law_1200 : decode cL_law 1200 = .ok (.aload_n 2, 1) := by decide +kernel
theorem dL_law_1201 : decode cL_law 1201 = .ok (.invokevirtual 83, 3) := by decide +kernel
theorem dL_law_1204 : decode cL_law 1204 = .ok (.iload 5, 2) := by decide +kernel
theorem dL_law_1206 : decode cL_law 1206 = .ok (.if_icmp .eq 5, 3) := by decide +kernel
theorem dL_law_1209 : decode cL_law 1209 = .ok (.iconst 0, 1) := by decide +kernel
theorem dL_law_1210 : decode cL_law 1210 = .ok (.ireturn, 1) := by decide +kernel
theorem dL_law_1211 : decode cL_law 1211 = .ok (.iload 5, 2) := by decide +kernel
theorem dL_law_1213 : decode cL_law 1213 = .ok (.ifCond .ne 15, 3) := by decide +kernel
theorem dL_law_1216 : decode cL_law 1216 = .ok (.aload_n 3, 1) := by decide +kernel
theorem dL_law_1217 : decode cL_law 1217 = .ok (.iconst 0, 1) := by decide +kernel
theorem dL_law_1218 : decode cL_law 1218 = .ok (.laload, 1) := by decide +kernel
theorem dL_law_1219 : decode cL_law 1219 = .ok (.iload 6, 2) := by decide +kernel
theorem dL_law_1221 : decode cL_law 1221 = .ok (.i2l, 1) := by decide +kernel
theorem dL_law_1222 : decode cL_law 1222 = .ok (.lcmp, 1) := by decide +kernel
theorem dL_law_1223 : decode cL_law 1223 = .ok (.ifCond .eq 5, 3) := by decide +kernel
theorem dL_law_1226 : decode cL_law 1226 = .ok (.iconst 0, 1) := by decide +kernel
theorem dL_law_1227 : decode cL_law 1227 = .ok (.ireturn, 1) := by decide +kernel
theorem dL_law_1228 : decode cL_law 1228 = .ok (.goto 127, 3) := by decide +kernel
theorem dL_law_1231 : decode cL_law 1231 = .ok (.aload_n 1, 1) := by decide +kernel
theorem dL_law_1232 : decode cL_law 1232 = .ok (.aload_n 0, 1) := by decide +kernel
theorem dL_law_1233 : decode cL_law 1233 = .ok (.iload 4, 2) := by decide +kernel
theorem dL_law_1235 : decode cL_law 1235 = .ok (.iconst 1, 1) := by decide +kernel
theorem dL_law_1236 : decode cL_law 1236 = .ok (.iadd, 1) := by decide +kernel
theorem dL_law_1237 : decode cL_law 1237 = .ok (.iaload, 1) := by decide +kernel
theorem dL_law_1238 : decode cL_law 1238 = .ok (.aload_n 0, 1) := by decide +kernel
theorem dL_law_1239 : decode cL_law 1239 = .ok (.iload 4, 2) := by decide +kernel
theorem dL_law_1241 : decode cL_law 1241 = .ok (.iconst 2, 1) := by decide +kernel
theorem dL_law_1242 : decode cL_law 1242 = .ok (.iadd, 1) := by decide +kernel
theorem dL_law_1243 : decode cL_law 1243 = .ok (.iaload, 1) := by decide +kernel
theorem dL_law_1244 : decode cL_law 1244 = .ok (.aload_n 3, 1) := by decide +kernel
theorem dL_law_1245 : decode cL_law 1245 = .ok (.invokestatic 137, 3) := by decide +kernel
theorem dL_law_1248 : decode cL_law 1248 = .ok (.istore 5, 2) := by decide +kernel
theorem dL_law_1250 : decode cL_law 1250 = .ok (.aload_n 2, 1) := by decide +kernel
theorem dL_law_1251 : decode cL_law 1251 = .ok (.aload_n 0, 1) := by decide +kernel
theorem dL_law_1252 : decode cL_law 1252 = .ok (.iload 4, 2) := by decide +kernel
theorem dL_law_1254 : decode cL_law 1254 = .ok (.iconst 1, 1) := by decide +kernel
theorem dL_law_1255 : decode cL_law 1255 = .ok (.iadd, 1) := by decide +kernel
theorem dL_law_1256 : decode cL_law 1256 = .ok (.iaload, 1) := by decide +kernel
theorem dL_law_1257 : decode cL_law 1257 = .ok (.aload_n 0, 1) := by decide +kernel
theorem dL_law_1258 : decode cL_law 1258 = .ok (.iload 4, 2) := by decide +kernel
theorem dL_law_1260 : decode cL_law 1260 = .ok (.iconst 2, 1) := by decide +kernel
theorem dL_law_1261 : decode cL_law 1261 = .ok (.iadd, 1) := by decide +kernel
theorem dL_law_1262 : decode cL_law 1262 = .ok (.iaload, 1) := by decide +kernel
theorem dL_law_1263 : decode cL_law 1263 = .ok (.invokevirtual 139, 3) := by decide +kernel
theorem dL_law_1266 : decode cL_law 1266 = .ok (.istore 6, 2) := by decide +kernel
theorem dL_law_1268 : decode cL_law 1268 = .ok (.aload_n 2, 1) := by decide +kernel
theorem dL_law_1269 : decode cL_law 1269 = .ok (.invokevirtual 83, 3) := by decide +kernel
theorem dL_law_1272 : decode cL_law 1272 = .ok (.iload 5, 2) := by decide +kernel
theorem dL_law_1274 : decode cL_law 1274 = .ok (.if_icmp .eq 5, 3) := by decide +kernel
theorem dL_law_1277 : decode cL_law 1277 = .ok (.iconst 0, 1) := by decide +kernel
theorem dL_law_1278 : decode cL_law 1278 = .ok (.ireturn, 1) := by decide +kernel
theorem dL_law_1279 : decode cL_law 1279 = .ok (.iload 5, 2) := by decide +kernel
theorem dL_law_1281 : decode cL_law 1281 = .ok (.ifCond .ne 15, 3) := by decide +kernel
theorem dL_law_1284 : decode cL_law 1284 = .ok (.aload_n 3, 1) := by decide +kernel
theorem dL_law_1285 : decode cL_law 1285 = .ok (.iconst 0, 1) := by decide +kernel
theorem dL_law_1286 : decode cL_law 1286 = .ok (.laload, 1) := by decide +kernel
theorem dL_law_1287 : decode cL_law 1287 = .ok (.iload 6, 2) := by decide +kernel
theorem dL_law_1289 : decode cL_law 1289 = .ok (.i2l, 1) := by decide +kernel
theorem dL_law_1290 : decode cL_law 1290 = .ok (.lcmp, 1) := by decide +kernel
theorem dL_law_1291 : decode cL_law 1291 = .ok (.ifCond .eq 5, 3) := by decide +kernel
theorem dL_law_1294 : decode cL_law 1294 = .ok (.iconst 0, 1) := by decide +kernel
theorem dL_law_1295 : decode cL_law 1295 = .ok (.ireturn, 1) := by decide +kernel
theorem dL_law_1296 : decode cL_law 1296 = .ok (.goto 59, 3) := by decide +kernel
theorem dL_law_1299 : decode cL_law 1299 = .ok (.aload_n 1, 1) := by decide +kernel
theorem dL_law_1300 : decode cL_law 1300 = .ok (.aload_n 0, 1) := by decide +kernel
theorem dL_law_1301 : decode cL_law 1301 = .ok (.iload 4, 2) := by decide +kernel
theorem dL_law_1303 : decode cL_law 1303 = .ok (.iconst 1, 1) := by decide +kernel
theorem dL_law_1304 : decode cL_law 1304 = .ok (.iadd, 1) := by decide +kernel
theorem dL_law_1305 : decode cL_law 1305 = .ok (.iaload, 1) := by decide +kernel
theorem dL_law_1306 : decode cL_law 1306 = .ok (.aload_n 3, 1) := by decide +kernel
theorem dL_law_1307 : decode cL_law 1307 = .ok (.invokestatic 140, 3) := by decide +kernel
theorem dL_law_1310 : decode cL_law 1310 = .ok (.istore 5, 2) := by decide +kernel
theorem dL_law_1312 : decode cL_law 1312 = .ok (.aload_n 2, 1) := by decide +kernel
theorem dL_law_1313 : decode cL_law 1313 = .ok (.aload_n 0, 1) := by decide +kernel
theorem dL_law_1314 : decode cL_law 1314 = .ok (.iload 4, 2) := by decide +kernel
theorem dL_law_1316 : decode cL_law 1316 = .ok (.iconst 1, 1) := by decide +kernel
theorem dL_law_1317 : decode cL_law 1317 = .ok (.iadd, 1) := by decide +kernel
theorem dL_law_1318 : decode cL_law 1318 = .ok (.iaload, 1) := by decide +kernel
theorem dL_law_1319 : decode cL_law 1319 = .ok (.invokevirtual 142, 3) := by decide +kernel
theorem dL_law_1322 : decode cL_law 1322 = .ok (.istore 6, 2) := by decide +kernel
theorem dL_law_1324 : decode cL_law 1324 = .ok (.aload_n 2, 1) := by decide +kernel
theorem dL_law_1325 : decode cL_law 1325 = .ok (.invokevirtual 83, 3) := by decide +kernel
theorem dL_law_1328 : decode cL_law 1328 = .ok (.iload 5, 2) := by decide +kernel
theorem dL_law_1330 : decode cL_law 1330 = .ok (.if_icmp .eq 5, 3) := by decide +kernel
theorem dL_law_1333 : decode cL_law 1333 = .ok (.iconst 0, 1) := by decide +kernel
theorem dL_law_1334 : decode cL_law 1334 = .ok (.ireturn, 1) := by decide +kernel
theorem dL_law_1335 : decode cL_law 1335 = .ok (.iload 5, 2) := by decide +kernel
theorem dL_law_1337 : decode cL_law 1337 = .ok (.ifCond .ne 15, 3) := by decide +kernel
theorem dL_law_1340 : decode cL_law 1340 = .ok (.aload_n 3, 1) := by decide +kernel
theorem dL_law_1341 : decode cL_law 1341 = .ok (.iconst 0, 1) := by decide +kernel
theorem dL_law_1342 : decode cL_law 1342 = .ok (.laload, 1) := by decide +kernel
theorem dL_law_1343 : decode cL_law 1343 = .ok (.iload 6, 2) := by decide +kernel
theorem dL_law_1345 : decode cL_law 1345 = .ok (.i2l, 1) := by decide +kernel
theorem dL_law_1346 : decode cL_law 1346 = .ok (.lcmp, 1) := by decide +kernel
theorem dL_law_1347 : decode cL_law 1347 = .ok (.ifCond .eq 5, 3) := by decide +kernel
theorem dL_law_1350 : decode cL_law 1350 = .ok (.iconst 0, 1) := by decide +kernel
theorem dL_law_1351 : decode cL_law 1351 = .ok (.ireturn, 1) := by decide +kernel
theorem dL_law_1352 : decode cL_law 1352 = .ok (.goto 3, 3) := by decide +kernel
theorem dL_law_1355 : decode cL_law 1355 = .ok (.iinc 4 5, 3) := by decide +kernel
theorem dL_law_1358 : decode cL_law 1358 = .ok (.goto (-1335), 3) := by decide +kernel
theorem dL_law_1361 : decode cL_law 1361 = .ok (.iconst 1, 1) := by decide +kernel
theorem dL_law_1362 : decode cL_law 1362 = .ok (.ireturn, 1) := by decide +kernel
abbrev vwCl : List vw_C := [(RX0, TX0, 3), (RX1, TX1, 4), (RX2, TX2, 2), (RX3, TX3, 6), (RX4, TX4, 7), (RX5, TX5, 17)]
end
section
/-! ===== base: booleans as ints, the pictures of the class and of the reference, short rows ===== -/
def bi (b : Bool) : Int32 := if b = true then 1 else 0
theorem bi_t : bi true = 1 := rfl
theorem bi_f : bi false = 0 := rfl
theorem bi_eq0 {b : Bool} (h : bi b = 0) : b = false := by
  cases b
  · rfl
  · exact absurd h (by decide)
theorem bi_ne0 {b : Bool} (h : ¬ bi b = 0) : b = true := by
  cases b
  · exact absurd rfl h
  · rfl
theorem bi_nar (b : Bool) : narrow .boolean (.int (bi b)) = .int (bi b) := by cases b <;> rfl
theorem bi_vnar (b : Bool) : vp_nar .boolean (bi b) = bi b := by cases b <;> rfl
theorem nd_t {P : Prop} [Decidable P] (h : (!decide P) = true) : ¬ P := by simpa using h
theorem nd_f {P : Prop} [Decidable P] (h : (!decide P) = false) : P := by simpa using h
abbrev tyl (cI cZ : ClassId) : List (ClassId × FieldType) := [(cI, .int), (cZ, .boolean)]
/-- the cells of a SignOnHouse: S the int rows, O the row 'over', V the numbers (minute, count, signing, endOfBefore) -/
def hW (cI cZ : ClassId) (X : Nat → Nat) (S : Nat → Nat → Int32) (O : Nat → Bool) (V : Nat → Int32) : va_W :=
  [(X 0, .inr (4, [.ref (X 1), .ref (X 2), .ref (X 3), .ref (X 4), .ref (X 5), .ref (X 6), .int (V 0)])),
   (X 1, .inr (1, [.ref (X 7), .ref (X 8), .ref (X 9), .ref (X 10)])),
   (X 2, .inr (3, [.ref (X 11), .ref (X 12), .ref (X 13), .ref (X 14), .ref (X 15), .int (V 1)])),
   (X 3, .inr (2, [.int (V 2), .int (V 3)])),
   (X 4, .inr (0, [.ref (X 16), .ref (X 17), .ref (X 18)])),
   (X 5, .inl (cI, 10, .inl (S 5))), (X 6, .inl (cI, 60, .inl (S 6))),
   (X 7, .inl (cI, 10, .inl (S 7))), (X 8, .inl (cI, 8, .inl (S 8))), (X 9, .inl (cI, 6, .inl (S 9))), (X 10, .inl (cI, 6, .inl (S 10))),
   (X 11, .inl (cI, 30, .inl (S 11))), (X 12, .inl (cI, 30, .inl (S 12))), (X 13, .inl (cI, 30, .inl (S 13))), (X 14, .inl (cI, 30, .inl (S 14))), (X 15, .inl (cZ, 30, .inl (fun j => bi (O j)))),
   (X 16, .inl (cI, 4, .inl (S 16))), (X 17, .inl (cI, 240, .inl (S 17))), (X 18, .inl (cI, 240, .inl (S 18)))]
/-- the cells of a SignOnHouseModel: T the int rows, P the row 'over', U the numbers (thrown, now, sessions, key, taken) -/
def mW (cI cZ : ClassId) (X : Nat → Nat) (S : Nat → Nat → Int32) (O : Nat → Bool) (V : Nat → Int32) : va_W :=
  [(X 0, .inr (5, [.int (V 0), .int (V 1), .ref (X 1), .ref (X 2), .ref (X 3), .ref (X 4), .ref (X 5), .int (V 2), .ref (X 6), .ref (X 7), .ref (X 8), .ref (X 9), .ref (X 10), .int (V 3), .int (V 4), .ref (X 11), .ref (X 12)])),
   (X 1, .inl (cI, 8, .inl (S 1))), (X 2, .inl (cI, 8, .inl (S 2))), (X 3, .inl (cI, 48, .inl (S 3))), (X 4, .inl (cI, 10, .inl (S 4))), (X 5, .inl (cI, 60, .inl (S 5))),
   (X 6, .inl (cI, 30, .inl (S 6))), (X 7, .inl (cI, 30, .inl (S 7))), (X 8, .inl (cI, 30, .inl (S 8))), (X 9, .inl (cI, 30, .inl (S 9))), (X 10, .inl (cZ, 30, .inl (fun j => bi (O j)))),
   (X 11, .inl (cI, 4, .inl (S 11))), (X 12, .inl (cI, 240, .inl (S 12)))]
/-- contracts: numbers alone; a world that is read; a world that is written -/
abbrev zP (av : List Value) : Array Value → State → Prop := fun v _ => v = av.toArray
abbrev zR (D : va_G) (tys : List (ClassId × FieldType)) (ws : va_W) (av : List Value) : Array Value → State → Prop := va_Pc av (fun U => va_P D vwCl ws U.heap ∧ va_K D vwCl tys U)
abbrev zW (D : va_G) (tys : List (ClassId × FieldType)) (ws : va_W) (sz : Nat) (av : List Value) : Array Value → State → Prop := va_Pc av (fun U => U.heap.size = sz ∧ va_P D vwCl ws U.heap ∧ va_K D vwCl tys U ∧ va_D (fun _ => True) ws)
abbrev zB (D : va_G) (tys : List (ClassId × FieldType)) (ws' : va_W) (A : Nat → Prop) (t : State) : Prop := va_P D vwCl ws' t.heap ∧ va_K D vwCl tys t ∧ va_D A ws'
abbrev zQi (D : va_G) (tys : List (ClassId × FieldType)) (ws' : va_W) (r : Int32) (A : Nat → Prop) : Array Value → State → Outcome → State → Prop := va_Qi (fun x (_ : Unit) => x = r) (fun _ t => zB D tys ws' A t) A
abbrev zQv (D : va_G) (tys : List (ClassId × FieldType)) (ws' : va_W) (A : Nat → Prop) : Array Value → State → Outcome → State → Prop := va_Qv (fun (_ : Unit) => True) (fun _ t => zB D tys ws' A t) A
theorem zP_pre {s : State} {H : Heap} {av : List Value} : PreS s H (zP av) av := ⟨fun _ _ _ _ q => q, fun _ _ _ => rfl⟩
theorem zR_blind {D : va_G} {tys : List (ClassId × FieldType)} {ws : va_W} {av : List Value} : FrameBlind (zR D tys ws av) := fun a U g mk q => ⟨q.1, q.2.1, va_K.moved (u := U) (U := U.calling g mk a) (Vm.Alike.refl U.vm) q.2.2⟩
theorem zW_blind {D : va_G} {tys : List (ClassId × FieldType)} {ws : va_W} {sz : Nat} {av : List Value} : FrameBlind (zW D tys ws sz av) := fun a U g mk q => ⟨q.1, q.2.1, q.2.2.1, va_K.moved (u := U) (U := U.calling g mk a) (Vm.Alike.refl U.vm) q.2.2.2.1, q.2.2.2.2⟩
theorem zR_preV {s : State} {H : Heap} {D : va_G} {tys : List (ClassId × FieldType)} {ws : va_W} {As : List Value} {a : Nat} (q0 ci : Nat) {q : vw_C} {fs : List Value} (hK : va_K D vwCl tys s) (hP : va_P D vwCl ws H) (hc : vwCl[ci]? = some q) (he : ws[q0]? = some (a, .inr (ci, fs))) : PreV s H q.1 a (zR D tys ws (.ref a :: As)) As :=
  ⟨zR_blind, va_recv hK hP hc he, fun U hU hW => ⟨rfl, by rw [hU]; exact hP, va_K.moved hW.alike hK⟩⟩
theorem zW_preV {s : State} {H : Heap} {D : va_G} {tys : List (ClassId × FieldType)} {ws : va_W} {A : Nat → Prop} {As : List Value} {a : Nat} (q0 ci : Nat) {q : vw_C} {fs : List Value} (hK : va_K D vwCl tys s) (hP : va_P D vwCl ws H) (hD : va_D A ws) (hc : vwCl[ci]? = some q) (he : ws[q0]? = some (a, .inr (ci, fs))) : PreV s H q.1 a (zW D tys ws H.size (.ref a :: As)) As :=
  ⟨zW_blind, va_recv hK hP hc he, fun U hU hW => ⟨rfl, by rw [hU], by rw [hU]; exact hP, va_K.moved hW.alike hK, hD.weaken (fun _ _ _ _ => trivial)⟩⟩
section ZR
variable {p : Program} {l : Launch} {e : Env} {R : Room} {s : State} {m : MethodId} {args : Array Value} {below : List Frame} {meth : Method} {c : Code} {H : Heap} {locs : List Loc} {cells slots : Nat} {Q : State → Prop} {cc : ByteArray} {pc : Nat} {ls : Array Slot} {rest st0 : List Value} {D : va_G} {cl : List vw_C} {ws ws' : va_W} {tys : List (ClassId × FieldType)} {A : Nat → Prop} {H0 : Heap} {a : Nat} {av : Array Value} {cA : ClassId} {n : Nat}
theorem z_top {x : Int32} (y : Int32) (h : x = y) (k : W p l e R s m args below meth c H locs cells slots Q (F0 m pc ls (.int y :: rest))) : W p l e R s m args below meth c H locs cells slots Q (F0 m pc ls (.int x :: rest)) := h ▸ k
theorem z_top2 {v x : Int32} (y : Int32) (h : x = y) (k : W p l e R s m args below meth c H locs cells slots Q (F0 m pc ls (.int v :: .int y :: rest))) : W p l e R s m args below meth c H locs cells slots Q (F0 m pc ls (.int v :: .int x :: rest)) := h ▸ k
theorem z_if_eq {b : Bool} {off : Int} {tgt : Nat} (hx : p.tables.exec = Jvm.exec) (hb : c.code = cc) (hdg : decode cc pc = .ok (.ifCond .eq off, 3)) (ht : (pc : Int) + off = (tgt : Int)) (kt : b = false → W p l e R s m args below meth c H locs cells slots Q (F0 m tgt ls rest)) (kf : b = true → W p l e R s m args below meth c H locs cells slots Q (F0 m (pc + 3) ls rest)) : W p l e R s m args below meth c H locs cells slots Q (F0 m pc ls (.int (bi b) :: rest)) :=
  lv_if_eq hx hb hdg ht (fun q => kt (bi_eq0 q)) (fun q => kf (bi_ne0 q))
theorem z_if_ne {b : Bool} {off : Int} {tgt : Nat} (hx : p.tables.exec = Jvm.exec) (hb : c.code = cc) (hdg : decode cc pc = .ok (.ifCond .ne off, 3)) (ht : (pc : Int) + off = (tgt : Int)) (kt : b = true → W p l e R s m args below meth c H locs cells slots Q (F0 m tgt ls rest)) (kf : b = false → W p l e R s m args below meth c H locs cells slots Q (F0 m (pc + 3) ls rest)) : W p l e R s m args below meth c H locs cells slots Q (F0 m pc ls (.int (bi b) :: rest)) :=
  lv_if_ne hx hb hdg ht (fun q => kt (bi_ne0 q)) (fun q => kf (bi_eq0 q))
theorem z_ge_t {x y : Int32} {off : Int} {tgt : Nat} (h : y ≤ x) (hx : p.tables.exec = Jvm.exec) (hb : c.code = cc) (hdg : decode cc pc = .ok (.if_icmp .ge off, 3)) (ht : (pc : Int) + off = (tgt : Int)) (kt : W p l e R s m args below meth c H locs cells slots Q (F0 m tgt ls rest)) : W p l e R s m args below meth c H locs cells slots Q (F0 m pc ls (.int y :: .int x :: rest)) :=
  lv_icmp_ge hx hb hdg ht (fun _ => kt) (fun q => absurd h q)
theorem z_ge_f {x y : Int32} {off : Int} {tgt : Nat} (h : ¬ y ≤ x) (hx : p.tables.exec = Jvm.exec) (hb : c.code = cc) (hdg : decode cc pc = .ok (.if_icmp .ge off, 3)) (ht : (pc : Int) + off = (tgt : Int)) (kf : W p l e R s m args below meth c H locs cells slots Q (F0 m (pc + 3) ls rest)) : W p l e R s m args below meth c H locs cells slots Q (F0 m pc ls (.int y :: .int x :: rest)) :=
  lv_icmp_ge hx hb hdg ht (fun q => absurd q h) (fun _ => kf)
theorem z_iald {j : Nat} {f : Nat → Int32} (hx : p.tables.exec = Jvm.exec) (hb : c.code = cc) (hK : va_K D cl tys s) (hP : va_P D cl ws H) (q0 t0 : Nat) (ha : ws[q0]? = some (a, .inl (cA, n, .inl f))) (ht : tys[t0]? = some (cA, .int)) (hj : j < n) (hn : n < 2 ^ 31) (hdg : decode cc pc = .ok (.iaload, 1)) (kk : W p l e R s m args below meth c H locs cells slots Q (F0 m (pc + 1) ls (.int (f j) :: rest))) : W p l e R s m args below meth c H locs cells slots Q (F0 m pc ls (.int (nI j) :: .ref a :: rest)) :=
  va_iald hx hb hK hP q0 t0 ha ht (vp_in_nI hj hn) hdg (by rw [nI_clamp (by omega)]; exact kk)
theorem z_zald {j : Nat} {g : Nat → Bool} (hx : p.tables.exec = Jvm.exec) (hb : c.code = cc) (hK : va_K D cl tys s) (hP : va_P D cl ws H) (q0 t0 : Nat) (ha : ws[q0]? = some (a, .inl (cA, n, .inl (fun i => bi (g i))))) (ht : tys[t0]? = some (cA, .boolean)) (hj : j < n) (hn : n < 2 ^ 31) (hdg : decode cc pc = .ok (.baload, 1)) (kk : W p l e R s m args below meth c H locs cells slots Q (F0 m (pc + 1) ls (.int (bi (g j)) :: rest))) : W p l e R s m args below meth c H locs cells slots Q (F0 m pc ls (.int (nI j) :: .ref a :: rest)) :=
  va_zald hx hb hK hP q0 t0 ha ht (vp_in_nI hj hn) hdg (by rw [nI_clamp (by omega)]; exact kk)
theorem z_iast {j : Nat} {x : Int32} {f : Nat → Int32} (hx : p.tables.exec = Jvm.exec) (hb : c.code = cc) (hK : va_K D cl tys s) (hP : va_P D cl ws H) (hD : va_D A ws) (hS : va_S A H0 H locs) (q0 t0 : Nat) (ha : ws[q0]? = some (a, .inl (cA, n, .inl f))) (ht : tys[t0]? = some (cA, .int)) (hj : j < n) (hn : n < 2 ^ 31) (hdg : decode cc pc = .ok (.iastore, 1)) (kk : ∀ (H1 : Heap) (locs1 : List Loc), va_P D cl (ws.set q0 (a, .inl (cA, n, .inl (upd f j x)))) H1 → va_D A (ws.set q0 (a, .inl (cA, n, .inl (upd f j x)))) → va_S A H0 H1 locs1 → W p l e R s m args below meth c H1 locs1 cells slots Q (F0 m (pc + 1) ls rest)) : W p l e R s m args below meth c H locs cells slots Q (F0 m pc ls (.int x :: .int (nI j) :: .ref a :: rest)) :=
  va_iast hx hb hK hP hD hS q0 t0 ha ht (vp_in_nI hj hn) hdg (fun H1 locs1 h1 h2 h3 => kk H1 locs1 (by rw [nI_clamp (by omega)] at h1; exact h1) (by rw [nI_clamp (by omega)] at h2; exact h2) h3)
theorem z_updb (g : Nat → Bool) (j : Nat) (b : Bool) : upd (fun i => bi (g i)) j (bi b) = fun i => bi (va_up g j b i) := by
  funext i
  by_cases h : i = j <;> simp [upd, va_up, h]
theorem z_zast {j : Nat} {b : Bool} {g : Nat → Bool} (hx : p.tables.exec = Jvm.exec) (hb : c.code = cc) (hK : va_K D cl tys s) (hP : va_P D cl ws H) (hD : va_D A ws) (hS : va_S A H0 H locs) (q0 t0 : Nat) (ha : ws[q0]? = some (a, .inl (cA, n, .inl (fun i => bi (g i))))) (ht : tys[t0]? = some (cA, .boolean)) (hj : j < n) (hn : n < 2 ^ 31) (hdg : decode cc pc = .ok (.bastore, 1)) (kk : ∀ (H1 : Heap) (locs1 : List Loc), va_P D cl (ws.set q0 (a, .inl (cA, n, .inl (fun i => bi (va_up g j b i))))) H1 → va_D A (ws.set q0 (a, .inl (cA, n, .inl (fun i => bi (va_up g j b i))))) → va_S A H0 H1 locs1 → W p l e R s m args below meth c H1 locs1 cells slots Q (F0 m (pc + 1) ls rest)) : W p l e R s m args below meth c H locs cells slots Q (F0 m pc ls (.int (bi b) :: .int (nI j) :: .ref a :: rest)) :=
  va_zast hx hb hK hP hD hS q0 t0 ha ht (vp_in_nI hj hn) hdg (fun H1 locs1 h1 h2 h3 => kk H1 locs1 (by rw [nI_clamp (by omega), bi_vnar, z_updb] at h1; exact h1) (by rw [nI_clamp (by omega), bi_vnar, z_updb] at h2; exact h2) h3)
theorem z_callR {r : Int32} (hr : CallRun p l e R s m args below meth c H locs cells slots 0 0 (F0 m pc ls st0) rest (QcRead r av) (fun _ => False)) (kk : W p l e R s m args below meth c H locs cells slots Q (F0 m (pc + 3) ls (.int r :: rest))) : W p l e R s m args below meth c H locs cells slots Q (F0 m pc ls st0) := W.callR hr kk
theorem z_callWi {r : Int32} {mc ms : Nat} (hr : va_Run p l e R s m args below meth c H locs cells slots mc ms (F0 m pc ls st0) rest (zQi D tys ws' r (va_A ws H.size) av) (va_A ws H.size)) (hS : va_S A H0 H locs) (hF : ∀ q, va_A ws H.size q → A q) (kk : ∀ (H1 : Heap) (locs1 : List Loc), va_P D vwCl ws' H1 → va_D A ws' → va_S A H0 H1 locs1 → W p l e R s m args below meth c H1 locs1 (cells + mc) (slots + ms) Q (F0 m (pc + 3) ls (.int r :: rest))) : W p l e R s m args below meth c H locs cells slots Q (F0 m pc ls st0) :=
  va_calli hr hS (fun q _ h => hF q h) hF (fun r' u t H1 locs1 ht _ hw hB _ _ hS1 => by
    subst hw
    obtain ⟨hP1, -, hD1⟩ := hB
    rw [ht] at hP1
    exact kk H1 locs1 hP1 (hD1.weaken (fun _ q _ h => hF q.1 h)) hS1)
theorem z_callWv {mc ms : Nat} (hr : va_Run p l e R s m args below meth c H locs cells slots mc ms (F0 m pc ls st0) rest (zQv D tys ws' (va_A ws H.size) av) (va_A ws H.size)) (hS : va_S A H0 H locs) (hF : ∀ q, va_A ws H.size q → A q) (kk : ∀ (H1 : Heap) (locs1 : List Loc), va_P D vwCl ws' H1 → va_D A ws' → va_S A H0 H1 locs1 → W p l e R s m args below meth c H1 locs1 (cells + mc) (slots + ms) Q (F0 m (pc + 3) ls rest)) : W p l e R s m args below meth c H locs cells slots Q (F0 m pc ls st0) :=
  va_callv hr hS (fun q _ h => hF q h) hF (fun u t H1 locs1 ht _ hw hB _ _ hS1 => by
    obtain ⟨hP1, -, hD1⟩ := hB
    rw [ht] at hP1
    exact kk H1 locs1 hP1 (hD1.weaken (fun _ q _ h => hF q.1 h)) hS1)
theorem z_free (hD : va_D A ws) (hS : va_S A H0 H locs) (hA : ∀ q, H0.size ≤ q → A q) : ∀ q, va_A ws H.size q → A q := by
  intro q h
  rcases h with ⟨k, e, h⟩ | h
  · exact hD.2 k _ h
  · exact hA q (Nat.le_trans hS.1 h)
theorem z_ret {v r : Int32} (hx : p.tables.exec = Jvm.exec) (hb : c.code = cc) (hr : meth.sig.returnType = some .int) (hlocks : meth.locks = false) (h : v = r) (hdg : decode cc pc = .ok (.ireturn, 1)) : W p l e R s m args below meth c s.heap [] 0 0 (MQ below (QcRead r) args s 0 0 (fun _ => False)) (F0 m pc ls [.int v]) := by
  subst h
  exact W.iret hx hb hr (fun t ht _ => ⟨rfl, ht⟩) (fun _ hq => nomatch hq) hdg hlocks
theorem z_zret {v : Int32} {b : Bool} (hx : p.tables.exec = Jvm.exec) (hb : c.code = cc) (hr : meth.sig.returnType = some .boolean) (hlocks : meth.locks = false) (h : v = bi b) (hdg : decode cc pc = .ok (.ireturn, 1)) : W p l e R s m args below meth c s.heap [] 0 0 (MQ below (QcRead (bi b)) args s 0 0 (fun _ => False)) (F0 m pc ls [.int v]) := by
  subst h
  exact W.zret hx hb hr (bi_nar b) (fun t ht _ => ⟨rfl, ht⟩) (fun _ hq => nomatch hq) hdg hlocks
theorem z_wret {v r : Int32} (hx : p.tables.exec = Jvm.exec) (hb : c.code = cc) (hr : meth.sig.returnType = some .int) (hlocks : meth.locks = false) (hP : va_P D vwCl ws' H) (hK : va_K D vwCl tys s) (hD : va_D A ws') (hS : va_S A s.heap H locs) (h : v = r) (hdg : decode cc pc = .ok (.ireturn, 1)) : W p l e R s m args below meth c H locs cells slots (MQ below (zQi D tys ws' r A) args s cells slots A) (F0 m pc ls [.int v]) := by
  subst h
  exact W.iret hx hb hr (fun t ht hW => ⟨⟨_, (), rfl, rfl, by rw [ht]; exact hP, va_K.moved hW.alike hK, hD⟩, hS.F ht⟩) hS.2.2 hdg hlocks
theorem z_wzret {v : Int32} {b : Bool} (hx : p.tables.exec = Jvm.exec) (hb : c.code = cc) (hr : meth.sig.returnType = some .boolean) (hlocks : meth.locks = false) (hP : va_P D vwCl ws' H) (hK : va_K D vwCl tys s) (hD : va_D A ws') (hS : va_S A s.heap H locs) (h : v = bi b) (hdg : decode cc pc = .ok (.ireturn, 1)) : W p l e R s m args below meth c H locs cells slots (MQ below (zQi D tys ws' (bi b) A) args s cells slots A) (F0 m pc ls [.int v]) := by
  subst h
  exact W.zret hx hb hr (bi_nar b) (fun t ht hW => ⟨⟨_, (), rfl, rfl, by rw [ht]; exact hP, va_K.moved hW.alike hK, hD⟩, hS.F ht⟩) hS.2.2 hdg hlocks
theorem z_wvret (hx : p.tables.exec = Jvm.exec) (hb : c.code = cc) (hr : meth.sig.returnType = none) (hlocks : meth.locks = false) (hP : va_P D vwCl ws' H) (hK : va_K D vwCl tys s) (hD : va_D A ws') (hS : va_S A s.heap H locs) (hdg : decode cc pc = .ok (.return_, 1)) : W p l e R s m args below meth c H locs cells slots (MQ below (zQv D tys ws' A) args s cells slots A) (F0 m pc ls []) :=
  W.vret hx hb hr (fun t ht hW => ⟨⟨(), rfl, trivial, by rw [ht]; exact hP, va_K.moved hW.alike hK, hD⟩, hS.F ht⟩) hS.2.2 hdg hlocks
/-- a loop that only reads: k from 0 to N, what the locals hold at its head -/
theorem z_loop {nL N : Nat} {Lc : Nat → List (Nat × Value)} {ls0 : Array Slot} (h0 : lv_has ls0 nL (Lc 0))
    (hexit : ∀ ls : Array Slot, lv_has ls nL (Lc N) → W p l e R s m args below meth c H locs cells slots Q (F0 m pc ls []))
    (hstep : ∀ (k : Nat) (ls : Array Slot), k < N → lv_has ls nL (Lc k) → (∀ ls' : Array Slot, lv_has ls' nL (Lc (k + 1)) → W p l e R s m args below meth c H locs cells slots Q (F0 m pc ls' [])) → W p l e R s m args below meth c H locs cells slots Q (F0 m pc ls [])) :
    W p l e R s m args below meth c H locs cells slots Q (F0 m pc ls0 []) := by
  have g : ∀ (n k : Nat), k + n = N → ∀ ls : Array Slot, lv_has ls nL (Lc k) → W p l e R s m args below meth c H locs cells slots Q (F0 m pc ls []) := by
    intro n
    induction n with
    | zero => intro k hk ls hl; obtain rfl : k = N := by omega
              exact hexit ls hl
    | succ n ih => intro k hk ls hl; exact hstep k ls (by omega) hl (fun ls' hl' => ih (k + 1) (by omega) ls' hl')
  exact g N 0 (by omega) ls0 h0
/-- a loop that writes: Wd the world at its head -/
theorem z_loopW {nL N : Nat} {Lc : Nat → List (Nat × Value)} {Wd : Nat → va_W} {ls0 : Array Slot} (h0 : lv_has ls0 nL (Lc 0)) (hP : va_P D cl (Wd 0) H) (hD : va_D A (Wd 0)) (hS : va_S A H0 H locs)
    (hexit : ∀ (H : Heap) (locs : List Loc) (ls : Array Slot), va_P D cl (Wd N) H → va_D A (Wd N) → va_S A H0 H locs → lv_has ls nL (Lc N) → W p l e R s m args below meth c H locs cells slots Q (F0 m pc ls []))
    (hstep : ∀ (k : Nat) (H : Heap) (locs : List Loc) (ls : Array Slot), k < N → va_P D cl (Wd k) H → va_D A (Wd k) → va_S A H0 H locs → lv_has ls nL (Lc k) → (∀ (H : Heap) (locs : List Loc) (ls' : Array Slot), va_P D cl (Wd (k + 1)) H → va_D A (Wd (k + 1)) → va_S A H0 H locs → lv_has ls' nL (Lc (k + 1)) → W p l e R s m args below meth c H locs cells slots Q (F0 m pc ls' [])) → W p l e R s m args below meth c H locs cells slots Q (F0 m pc ls [])) :
    W p l e R s m args below meth c H locs cells slots Q (F0 m pc ls0 []) := by
  have g : ∀ (n k : Nat), k + n = N → ∀ (H : Heap) (locs : List Loc) (ls : Array Slot), va_P D cl (Wd k) H → va_D A (Wd k) → va_S A H0 H locs → lv_has ls nL (Lc k) → W p l e R s m args below meth c H locs cells slots Q (F0 m pc ls []) := by
    intro n
    induction n with
    | zero => intro k hk H locs ls h1 h2 h3 hl; obtain rfl : k = N := by omega
              exact hexit H locs ls h1 h2 h3 hl
    | succ n ih => intro k hk H locs ls h1 h2 h3 hl; exact hstep k H locs ls (by omega) h1 h2 h3 hl (fun H locs ls' h1 h2 h3 hl' => ih (k + 1) (by omega) H locs ls' h1 h2 h3 hl')
  exact g N 0 (by omega) H locs ls0 hP hD hS h0
end ZR
section ZSEL
variable {p : Program} {l : Launch} {e : Env} {R : Room} {s : State} {m : MethodId} {args : Array Value} {below : List Frame} {meth : Method} {c : Code} {H : Heap} {locs : List Loc} {cells slots : Nat} {Q : State → Prop} {cc : ByteArray} {pc : Nat} {ls : Array Slot} {rest : List Value}
theorem z_sel_icmp_eq {x y : Int32} (hx : p.tables.exec = Jvm.exec) (hb : c.code = cc) (d1 : decode cc pc = .ok (.if_icmp .eq 7, 3)) (d2 : decode cc (pc + 3) = .ok (.iconst 1, 1)) (d3 : decode cc (pc + 4) = .ok (.goto 4, 3)) (d4 : decode cc (pc + 7) = .ok (.iconst 0, 1)) (k : W p l e R s m args below meth c H locs cells slots Q (F0 m (pc + 8) ls (.int (bi (!decide (x = y))) :: rest))) : W p l e R s m args below meth c H locs cells slots Q (F0 m pc ls (.int y :: .int x :: rest)) :=
  lv_icmp_eq (tgt := pc + 7) hx hb d1 (by omega) (fun q => (lv_iconst (v := 0) hx hb d4 rfl (by rw [decide_eq_true q] at k; exact k))) (fun q => lv_iconst (v := 1) hx hb d2 rfl (lv_goto (tgt := pc + 8) hx hb d3 (by omega) (by rw [decide_eq_false q] at k; exact k)))
theorem z_sel_icmp_ne {x y : Int32} (hx : p.tables.exec = Jvm.exec) (hb : c.code = cc) (d1 : decode cc pc = .ok (.if_icmp .ne 7, 3)) (d2 : decode cc (pc + 3) = .ok (.iconst 1, 1)) (d3 : decode cc (pc + 4) = .ok (.goto 4, 3)) (d4 : decode cc (pc + 7) = .ok (.iconst 0, 1)) (k : W p l e R s m args below meth c H locs cells slots Q (F0 m (pc + 8) ls (.int (bi (decide (x = y))) :: rest))) : W p l e R s m args below meth c H locs cells slots Q (F0 m pc ls (.int y :: .int x :: rest)) :=
  lv_icmp_ne (tgt := pc + 7) hx hb d1 (by omega) (fun q => (lv_iconst (v := 0) hx hb d4 rfl (by rw [decide_eq_false q] at k; exact k))) (fun q => lv_iconst (v := 1) hx hb d2 rfl (lv_goto (tgt := pc + 8) hx hb d3 (by omega) (by rw [decide_eq_true q] at k; exact k)))
theorem z_sel_icmp_lt {x y : Int32} (hx : p.tables.exec = Jvm.exec) (hb : c.code = cc) (d1 : decode cc pc = .ok (.if_icmp .lt 7, 3)) (d2 : decode cc (pc + 3) = .ok (.iconst 1, 1)) (d3 : decode cc (pc + 4) = .ok (.goto 4, 3)) (d4 : decode cc (pc + 7) = .ok (.iconst 0, 1)) (k : W p l e R s m args below meth c H locs cells slots Q (F0 m (pc + 8) ls (.int (bi (!decide (x < y))) :: rest))) : W p l e R s m args below meth c H locs cells slots Q (F0 m pc ls (.int y :: .int x :: rest)) :=
  lv_icmp_lt (tgt := pc + 7) hx hb d1 (by omega) (fun q => (lv_iconst (v := 0) hx hb d4 rfl (by rw [decide_eq_true q] at k; exact k))) (fun q => lv_iconst (v := 1) hx hb d2 rfl (lv_goto (tgt := pc + 8) hx hb d3 (by omega) (by rw [decide_eq_false q] at k; exact k)))
theorem z_sel_icmp_ge {x y : Int32} (hx : p.tables.exec = Jvm.exec) (hb : c.code = cc) (d1 : decode cc pc = .ok (.if_icmp .ge 7, 3)) (d2 : decode cc (pc + 3) = .ok (.iconst 1, 1)) (d3 : decode cc (pc + 4) = .ok (.goto 4, 3)) (d4 : decode cc (pc + 7) = .ok (.iconst 0, 1)) (k : W p l e R s m args below meth c H locs cells slots Q (F0 m (pc + 8) ls (.int (bi (!decide (y ≤ x))) :: rest))) : W p l e R s m args below meth c H locs cells slots Q (F0 m pc ls (.int y :: .int x :: rest)) :=
  lv_icmp_ge (tgt := pc + 7) hx hb d1 (by omega) (fun q => (lv_iconst (v := 0) hx hb d4 rfl (by rw [decide_eq_true q] at k; exact k))) (fun q => lv_iconst (v := 1) hx hb d2 rfl (lv_goto (tgt := pc + 8) hx hb d3 (by omega) (by rw [decide_eq_false q] at k; exact k)))
theorem z_sel_icmp_gt {x y : Int32} (hx : p.tables.exec = Jvm.exec) (hb : c.code = cc) (d1 : decode cc pc = .ok (.if_icmp .gt 7, 3)) (d2 : decode cc (pc + 3) = .ok (.iconst 1, 1)) (d3 : decode cc (pc + 4) = .ok (.goto 4, 3)) (d4 : decode cc (pc + 7) = .ok (.iconst 0, 1)) (k : W p l e R s m args below meth c H locs cells slots Q (F0 m (pc + 8) ls (.int (bi (!decide (y < x))) :: rest))) : W p l e R s m args below meth c H locs cells slots Q (F0 m pc ls (.int y :: .int x :: rest)) :=
  lv_icmp_gt (tgt := pc + 7) hx hb d1 (by omega) (fun q => (lv_iconst (v := 0) hx hb d4 rfl (by rw [decide_eq_true q] at k; exact k))) (fun q => lv_iconst (v := 1) hx hb d2 rfl (lv_goto (tgt := pc + 8) hx hb d3 (by omega) (by rw [decide_eq_false q] at k; exact k)))
theorem z_sel_icmp_le {x y : Int32} (hx : p.tables.exec = Jvm.exec) (hb : c.code = cc) (d1 : decode cc pc = .ok (.if_icmp .le 7, 3)) (d2 : decode cc (pc + 3) = .ok (.iconst 1, 1)) (d3 : decode cc (pc + 4) = .ok (.goto 4, 3)) (d4 : decode cc (pc + 7) = .ok (.iconst 0, 1)) (k : W p l e R s m args below meth c H locs cells slots Q (F0 m (pc + 8) ls (.int (bi (!decide (x ≤ y))) :: rest))) : W p l e R s m args below meth c H locs cells slots Q (F0 m pc ls (.int y :: .int x :: rest)) :=
  lv_icmp_le (tgt := pc + 7) hx hb d1 (by omega) (fun q => (lv_iconst (v := 0) hx hb d4 rfl (by rw [decide_eq_true q] at k; exact k))) (fun q => lv_iconst (v := 1) hx hb d2 rfl (lv_goto (tgt := pc + 8) hx hb d3 (by omega) (by rw [decide_eq_false q] at k; exact k)))
theorem z_sel_if_eq {x : Int32} (hx : p.tables.exec = Jvm.exec) (hb : c.code = cc) (d1 : decode cc pc = .ok (.ifCond .eq 7, 3)) (d2 : decode cc (pc + 3) = .ok (.iconst 1, 1)) (d3 : decode cc (pc + 4) = .ok (.goto 4, 3)) (d4 : decode cc (pc + 7) = .ok (.iconst 0, 1)) (k : W p l e R s m args below meth c H locs cells slots Q (F0 m (pc + 8) ls (.int (bi (!decide (x = 0))) :: rest))) : W p l e R s m args below meth c H locs cells slots Q (F0 m pc ls (.int x :: rest)) :=
  lv_if_eq (tgt := pc + 7) hx hb d1 (by omega) (fun q => (lv_iconst (v := 0) hx hb d4 rfl (by rw [decide_eq_true q] at k; exact k))) (fun q => lv_iconst (v := 1) hx hb d2 rfl (lv_goto (tgt := pc + 8) hx hb d3 (by omega) (by rw [decide_eq_false q] at k; exact k)))
theorem z_sel_if_ne {x : Int32} (hx : p.tables.exec = Jvm.exec) (hb : c.code = cc) (d1 : decode cc pc = .ok (.ifCond .ne 7, 3)) (d2 : decode cc (pc + 3) = .ok (.iconst 1, 1)) (d3 : decode cc (pc + 4) = .ok (.goto 4, 3)) (d4 : decode cc (pc + 7) = .ok (.iconst 0, 1)) (k : W p l e R s m args below meth c H locs cells slots Q (F0 m (pc + 8) ls (.int (bi (decide (x = 0))) :: rest))) : W p l e R s m args below meth c H locs cells slots Q (F0 m pc ls (.int x :: rest)) :=
  lv_if_ne (tgt := pc + 7) hx hb d1 (by omega) (fun q => (lv_iconst (v := 0) hx hb d4 rfl (by rw [decide_eq_false q] at k; exact k))) (fun q => lv_iconst (v := 1) hx hb d2 rfl (lv_goto (tgt := pc + 8) hx hb d3 (by omega) (by rw [decide_eq_true q] at k; exact k)))
theorem z_sel_if_lt {x : Int32} (hx : p.tables.exec = Jvm.exec) (hb : c.code = cc) (d1 : decode cc pc = .ok (.ifCond .lt 7, 3)) (d2 : decode cc (pc + 3) = .ok (.iconst 1, 1)) (d3 : decode cc (pc + 4) = .ok (.goto 4, 3)) (d4 : decode cc (pc + 7) = .ok (.iconst 0, 1)) (k : W p l e R s m args below meth c H locs cells slots Q (F0 m (pc + 8) ls (.int (bi (!decide (x < 0))) :: rest))) : W p l e R s m args below meth c H locs cells slots Q (F0 m pc ls (.int x :: rest)) :=
  lv_if_lt (tgt := pc + 7) hx hb d1 (by omega) (fun q => (lv_iconst (v := 0) hx hb d4 rfl (by rw [decide_eq_true q] at k; exact k))) (fun q => lv_iconst (v := 1) hx hb d2 rfl (lv_goto (tgt := pc + 8) hx hb d3 (by omega) (by rw [decide_eq_false q] at k; exact k)))
theorem z_sel_if_ge {x : Int32} (hx : p.tables.exec = Jvm.exec) (hb : c.code = cc) (d1 : decode cc pc = .ok (.ifCond .ge 7, 3)) (d2 : decode cc (pc + 3) = .ok (.iconst 1, 1)) (d3 : decode cc (pc + 4) = .ok (.goto 4, 3)) (d4 : decode cc (pc + 7) = .ok (.iconst 0, 1)) (k : W p l e R s m args below meth c H locs cells slots Q (F0 m (pc + 8) ls (.int (bi (!decide (0 ≤ x))) :: rest))) : W p l e R s m args below meth c H locs cells slots Q (F0 m pc ls (.int x :: rest)) :=
  lv_if_ge (tgt := pc + 7) hx hb d1 (by omega) (fun q => (lv_iconst (v := 0) hx hb d4 rfl (by rw [decide_eq_true q] at k; exact k))) (fun q => lv_iconst (v := 1) hx hb d2 rfl (lv_goto (tgt := pc + 8) hx hb d3 (by omega) (by rw [decide_eq_false q] at k; exact k)))
theorem z_sel_if_gt {x : Int32} (hx : p.tables.exec = Jvm.exec) (hb : c.code = cc) (d1 : decode cc pc = .ok (.ifCond .gt 7, 3)) (d2 : decode cc (pc + 3) = .ok (.iconst 1, 1)) (d3 : decode cc (pc + 4) = .ok (.goto 4, 3)) (d4 : decode cc (pc + 7) = .ok (.iconst 0, 1)) (k : W p l e R s m args below meth c H locs cells slots Q (F0 m (pc + 8) ls (.int (bi (!decide (0 < x))) :: rest))) : W p l e R s m args below meth c H locs cells slots Q (F0 m pc ls (.int x :: rest)) :=
  lv_if_gt (tgt := pc + 7) hx hb d1 (by omega) (fun q => (lv_iconst (v := 0) hx hb d4 rfl (by rw [decide_eq_true q] at k; exact k))) (fun q => lv_iconst (v := 1) hx hb d2 rfl (lv_goto (tgt := pc + 8) hx hb d3 (by omega) (by rw [decide_eq_false q] at k; exact k)))
theorem z_sel_if_le {x : Int32} (hx : p.tables.exec = Jvm.exec) (hb : c.code = cc) (d1 : decode cc pc = .ok (.ifCond .le 7, 3)) (d2 : decode cc (pc + 3) = .ok (.iconst 1, 1)) (d3 : decode cc (pc + 4) = .ok (.goto 4, 3)) (d4 : decode cc (pc + 7) = .ok (.iconst 0, 1)) (k : W p l e R s m args below meth c H locs cells slots Q (F0 m (pc + 8) ls (.int (bi (!decide (x ≤ 0))) :: rest))) : W p l e R s m args below meth c H locs cells slots Q (F0 m pc ls (.int x :: rest)) :=
  lv_if_le (tgt := pc + 7) hx hb d1 (by omega) (fun q => (lv_iconst (v := 0) hx hb d4 rfl (by rw [decide_eq_true q] at k; exact k))) (fun q => lv_iconst (v := 1) hx hb d2 rfl (lv_goto (tgt := pc + 8) hx hb d3 (by omega) (by rw [decide_eq_false q] at k; exact k)))
end ZSEL
end
section
/-! ===== what the class's methods work out, in numbers ===== -/
def hasB (x g : Int32) : Bool := decide (x >>> (g &&& 31) &&& 1 = 1)
def c_changed (x g : Int32) (b : Bool) : Int32 := if b = true then x ||| (1 <<< (g &&& 31)) else x &&& ((1 <<< (g &&& 31)) ^^^ (-1))
def c_oneA (S : Nat → Nat → Int32) (x : Int32) : Nat → Int32
  | 0 => x
  | k + 1 => if hasB x (nI k) = true then c_oneA S x k ||| S 8 k else c_oneA S x k
def c_allA (S : Nat → Nat → Int32) (x : Int32) : Nat → Int32
  | 0 => x
  | k + 1 => c_oneA S (c_allA S x k) 8
def c_any (S : Nat → Nat → Int32) (w pi ri : Nat) : Bool := !decide (c_allA S (S 7 pi) 8 &&& S w ri = 0)
def c_roleOf (S : Nat → Nat → Int32) (gi ri : Nat) : Int32 := if hasB (S 9 ri) (nI gi) = true then 1 else if hasB (S 10 ri) (nI gi) = true then 2 else 0
def c_takes (V : Nat → Int32) (k t : Int32) : Bool := decide (k = V 2) || (decide (k = V 2 - 1) && !decide (V 3 ≤ t))
def c_has (V : Nat → Int32) (x : Int32) : Bool := !decide (x < 0) && !decide (V 1 ≤ x)
def c_isDue (S : Nat → Nat → Int32) (V : Nat → Int32) (si : Nat) (t r : Int32) : Bool := decide (30 ≤ t - S 14 si) || (decide (240 - 60 * r ≤ t - S 13 si) || !c_takes V (S 12 si) t)
def c_eaO (S : Nat → Nat → Int32) (O : Nat → Bool) (x : Int32) : Nat → (Nat → Bool)
  | 0 => O
  | k + 1 => if c_eaO S O x k k = true then c_eaO S O x k else if S 11 k = x then va_up (c_eaO S O x k) k true else c_eaO S O x k
def c_eaN (S : Nat → Nat → Int32) (O : Nat → Bool) (x : Int32) : Nat → Int32
  | 0 => 0
  | k + 1 => if c_eaO S O x k k = true then c_eaN S O x k else if S 11 k = x then c_eaN S O x k + 1 else c_eaN S O x k
def c_edO (S : Nat → Nat → Int32) (O : Nat → Bool) (V : Nat → Int32) (t : Int32) : Nat → (Nat → Bool)
  | 0 => O
  | k + 1 => if c_edO S O V t k k = true then c_edO S O V t k else if c_isDue S V k t (S 5 (S 11 k).toNatClampNeg) = true then va_up (c_edO S O V t k) k true else c_edO S O V t k
def c_edN (S : Nat → Nat → Int32) (O : Nat → Bool) (V : Nat → Int32) (t : Int32) : Nat → Int32
  | 0 => 0
  | k + 1 => if c_edO S O V t k k = true then c_edN S O V t k else if c_isDue S V k t (S 5 (S 11 k).toNatClampNeg) = true then c_edN S O V t k + 1 else c_edN S O V t k
def c_keep (S : Nat → Nat → Int32) (ai pi ri : Nat) (x t : Int32) : Nat → Nat → Int32 := if S 16 ai = 0 then S else va_up (va_up S 17 (upd (S 17) (ai * 60 + pi * 6 + ri) x)) 18 (upd (S 18) (ai * 60 + pi * 6 + ri) t)
def c_daS (S : Nat → Nat → Int32) (ai pi : Nat) : Nat → (Nat → Nat → Int32)
  | 0 => S
  | k + 1 => if c_daS S ai pi k 17 (ai * 60 + pi * 6 + k) = -1 then c_daS S ai pi k else va_up (c_daS S ai pi k) 17 (upd (c_daS S ai pi k 17) (ai * 60 + pi * 6 + k) (-1))
def c_daN (S : Nat → Nat → Int32) (ai pi : Nat) : Nat → Int32
  | 0 => 0
  | k + 1 => if c_daS S ai pi k 17 (ai * 60 + pi * 6 + k) = -1 then c_daN S ai pi k else c_daN S ai pi k + 1
def c_ddS (S : Nat → Nat → Int32) (ai : Nat) (t : Int32) : Nat → (Nat → Nat → Int32)
  | 0 => S
  | k + 1 => if t - c_ddS S ai t k 18 (ai * 60 + k) < c_ddS S ai t k 16 ai then c_ddS S ai t k else va_up (c_ddS S ai t k) 17 (upd (c_ddS S ai t k 17) (ai * 60 + k) (-1))
def c_doS (S : Nat → Nat → Int32) (t : Int32) : Nat → (Nat → Nat → Int32)
  | 0 => S
  | k + 1 => c_ddS (c_doS S t k) k t 60
def c_out (x n : Int32) : Bool := decide (x < 0) || !decide (x < n)
def c_serves (S : Nat → Nat → Int32) (pi ri : Nat) : Bool := !decide (S 5 pi = 3) && c_any S 9 pi ri
def c_lets (S : Nat → Nat → Int32) (V : Nat → Int32) (pi ri : Nat) : Bool := !decide (S 5 pi = 3) && ((c_any S 9 pi ri && !c_any S 10 pi ri) || !decide (S 6 (pi * 6 + ri) ≤ V 0))
def c_house (S : Nat → Nat → Int32) (V : Nat → Int32) (pi ri : Nat) : Int32 := if c_lets S V pi ri = true then 0 else 1
def c_appR (S : Nat → Nat → Int32) (V : Nat → Int32) (ai pi ri : Nat) : Int32 := if S 17 (ai * 60 + pi * 6 + ri) = -1 then c_house S V pi ri else S 17 (ai * 60 + pi * 6 + ri)
def c_appS (S : Nat → Nat → Int32) (V : Nat → Int32) (ai pi ri : Nat) : Nat → Nat → Int32 := if S 17 (ai * 60 + pi * 6 + ri) = -1 then c_keep S ai pi ri (c_house S V pi ri) (V 0) else S
def c_stale1 (S : Nat → Nat → Int32) (V : Nat → Int32) (ai pi ri : Nat) : Bool := !decide (S 17 (ai * 60 + pi * 6 + ri) = -1) && !decide (S 17 (ai * 60 + pi * 6 + ri) = c_house S V pi ri)
end
section
set_option maxHeartbeats 4000000 in
set_option maxRecDepth 100000 in
theorem kX1_contains (l : Launch) (x0 : Int32) (x1 : Int32) : Met l yX1_contains wsX1_contains ({ frames := 0, cells := 0, slots := 0, locals := 0 } : Room) (zP [.int x0, .int x1]) (QcRead (bi (hasB x0 x1))) 0 0 (fun _ => False) := by
  refine Met.ofW (cc := cX1_contains) (maxL := 2) (ret := (some .boolean)) (by decide) rfl ?_
  intro p e s m args below meth c s₁ B hml hv
  obtain rfl := hv
  have hx := B.exec
  have hb := B.bytes
  have hr := B.returns
  have hts := atoms_spec (ws := wsX1_contains) B.pre
  have hown : s.vm.findClass RX1 = some m.cls := findClass_of_methodNamed B.named
  have hlocks := B.notSynchronized
  have hl := lv_entry ([.int x0, .int x1]) (n := 2) (Nat.le_of_ble_eq_true rfl)
  rw [lg_entry_eq]
  generalize (lg_sl ([.int x0, .int x1]) ++ List.replicate (2 - (lg_sl ([.int x0, .int x1])).length) Slot.unset).toArray = ls at hl ⊢
  have hl : lv_has ls 2 [(0, .int x0), (1, .int x1)] := hl
  refine lv_iload_n hx hb dX1_contains_0 rfl (lv_at hl 0 rfl) ?_
  refine lv_iload_n hx hb dX1_contains_1 rfl (lv_at hl 1 rfl) ?_
  refine lv_ishr hx hb dX1_contains_2 ?_
  refine lv_iconst (v := 1) hx hb dX1_contains_3 rfl ?_
  refine lv_iand hx hb dX1_contains_4 ?_
  refine lv_iconst (v := 1) hx hb dX1_contains_5 rfl ?_
  refine z_sel_icmp_ne hx hb dX1_contains_6 dX1_contains_9 dX1_contains_10 dX1_contains_13 ?_
  exact z_zret hx hb hr hlocks (by rfl) dX1_contains_14

set_option maxHeartbeats 4000000 in
set_option maxRecDepth 100000 in
theorem kX1_changed (l : Launch) (x0 : Int32) (x1 : Int32) (b0 : Bool) : Met l yX1_changed wsX1_changed ({ frames := 0, cells := 0, slots := 0, locals := 0 } : Room) (zP [.int x0, .int x1, .int (bi b0)]) (QcRead (c_changed x0 x1 b0)) 0 0 (fun _ => False) := by
  refine Met.ofW (cc := cX1_changed) (maxL := 3) (ret := (some .int)) (by decide) rfl ?_
  intro p e s m args below meth c s₁ B hml hv
  obtain rfl := hv
  have hx := B.exec
  have hb := B.bytes
  have hr := B.returns
  have hts := atoms_spec (ws := wsX1_changed) B.pre
  have hown : s.vm.findClass RX1 = some m.cls := findClass_of_methodNamed B.named
  have hlocks := B.notSynchronized
  have hl := lv_entry ([.int x0, .int x1, .int (bi b0)]) (n := 3) (Nat.le_of_ble_eq_true rfl)
  rw [lg_entry_eq]
  generalize (lg_sl ([.int x0, .int x1, .int (bi b0)]) ++ List.replicate (3 - (lg_sl ([.int x0, .int x1, .int (bi b0)])).length) Slot.unset).toArray = ls at hl ⊢
  have hl : lv_has ls 3 [(0, .int x0), (1, .int x1), (2, .int (bi b0))] := hl
  refine lv_iload_n hx hb dX1_changed_0 rfl (lv_at hl 2 rfl) ?_
  refine z_if_eq (tgt := 12) hx hb dX1_changed_1 (by decide) (fun c_1 => ?_) (fun c_1 => ?_)
  · refine lv_iload_n hx hb dX1_changed_12 rfl (lv_at hl 0 rfl) ?_
    refine lv_iconst (v := 1) hx hb dX1_changed_13 rfl ?_
    refine lv_iload_n hx hb dX1_changed_14 rfl (lv_at hl 1 rfl) ?_
    refine lv_ishl hx hb dX1_changed_15 ?_
    refine lv_iconst (v := (-1)) hx hb dX1_changed_16 rfl ?_
    refine lv_ixor hx hb dX1_changed_17 ?_
    refine lv_iand hx hb dX1_changed_18 ?_
    exact z_ret hx hb hr hlocks (by simp [c_changed, bi, c_1]) dX1_changed_19
  · refine lv_iload_n hx hb dX1_changed_4 rfl (lv_at hl 0 rfl) ?_
    refine lv_iconst (v := 1) hx hb dX1_changed_5 rfl ?_
    refine lv_iload_n hx hb dX1_changed_6 rfl (lv_at hl 1 rfl) ?_
    refine lv_ishl hx hb dX1_changed_7 ?_
    refine lv_ior hx hb dX1_changed_8 ?_
    refine lv_goto (tgt := 19) hx hb dX1_changed_9 (by decide) ?_
    exact z_ret hx hb hr hlocks (by simp [c_changed, bi, c_1]) dX1_changed_19

set_option maxHeartbeats 4000000 in
set_option maxRecDepth 100000 in
theorem kX1_oneLinkFurther (l : Launch) (D : va_G) (cI cZ : ClassId) (X : Nat → Nat) (S : Nat → Nat → Int32) (O : Nat → Bool) (V : Nat → Int32) (x0 : Int32) : Met l yX1_oneLinkFurther wsX1_oneLinkFurther ({ frames := 1, cells := 0, slots := 0, locals := 21 } : Room) (zR D (tyl cI cZ) (hW cI cZ X S O V) [.ref (X 1), .int x0]) (QcRead (c_oneA S x0 8)) 0 0 (fun _ => False) := by
  refine Met.ofW (cc := cX1_oneLinkFurther) (maxL := 4) (ret := (some .int)) (by decide) rfl ?_
  intro p e s m args below meth c s₁ B hml hv
  obtain ⟨rfl, hP, hK⟩ := hv
  have hx := B.exec
  have hb := B.bytes
  have hr := B.returns
  have hts := atoms_spec (ws := wsX1_oneLinkFurther) B.pre
  have hown : s.vm.findClass RX1 = some m.cls := findClass_of_methodNamed B.named
  have hlocks := B.notSynchronized
  have i1 : ∀ w ∈ u_ws RX1 TX1 4, w ∈ wsX1_oneLinkFurther := by decide +kernel
  have fl_15 := hts (.fieldLink RX1 15 "SignOnHouse$Groups" "homesOfGroup" "[I") (by decide +kernel)
  have hl := lv_entry ([.ref (X 1), .int x0]) (n := 4) (Nat.le_of_ble_eq_true rfl)
  rw [lg_entry_eq]
  generalize (lg_sl ([.ref (X 1), .int x0]) ++ List.replicate (4 - (lg_sl ([.ref (X 1), .int x0])).length) Slot.unset).toArray = ls at hl ⊢
  have hl : lv_has ls 4 [(0, .ref (X 1)), (1, .int x0)] := hl
  refine lv_iload_n hx hb dX1_oneLinkFurther_0 rfl (lv_at hl 1 rfl) ?_
  refine lv_istore_n (lv' := [(2, .int x0), (0, .ref (X 1)), (1, .int x0)]) hx hb dX1_oneLinkFurther_1 rfl hl (by decide) rfl (fun ls hl => ?_)
  refine lv_iconst (v := nI 0) hx hb dX1_oneLinkFurther_2 rfl ?_
  refine lv_istore_n (lv' := [(3, .int (nI 0)), (2, .int x0), (0, .ref (X 1)), (1, .int x0)]) hx hb dX1_oneLinkFurther_3 rfl hl (by decide) rfl (fun ls hl => ?_)
  refine z_loop (N := 8) (nL := 4) (Lc := (fun k => [(3, .int (nI k)), (2, .int (c_oneA S x0 k)), (0, .ref (X 1)), (1, .int x0)])) (lv_sub hl [0, 1, 2, 3] rfl) (fun ls hl => ?_) (fun k ls hk hl ih => ?_)
  · have hl : lv_has ls 4 [(3, .int (nI 8)), (2, .int (c_oneA S x0 8)), (0, .ref (X 1)), (1, .int x0)] := hl
    refine lv_iload_n hx hb dX1_oneLinkFurther_4 rfl (lv_at hl 0 rfl) ?_
    refine lv_bipush (v := nI 8) hx hb dX1_oneLinkFurther_5 (by decide) ?_
    refine z_ge_t (tgt := 33) (nI_le (by omega) (by omega)) hx hb dX1_oneLinkFurther_7 (by decide) ?_
    refine lv_iload_n hx hb dX1_oneLinkFurther_33 rfl (lv_at hl 1 rfl) ?_
    exact z_ret hx hb hr hlocks rfl dX1_oneLinkFurther_34
  · have hl : lv_has ls 4 [(3, .int (nI k)), (2, .int (c_oneA S x0 k)), (0, .ref (X 1)), (1, .int x0)] := hl
    have ih_4 := ih
    refine lv_iload_n hx hb dX1_oneLinkFurther_4 rfl (lv_at hl 0 rfl) ?_
    refine lv_bipush (v := nI 8) hx hb dX1_oneLinkFurther_5 (by decide) ?_
    refine z_ge_f (tgt := 33) (nI_ge (by omega) (by omega)) hx hb dX1_oneLinkFurther_7 (by decide) ?_
    refine lv_iload_n hx hb dX1_oneLinkFurther_10 rfl (lv_at hl 3 rfl) ?_
    refine lv_iload_n hx hb dX1_oneLinkFurther_11 rfl (lv_at hl 0 rfl) ?_
    refine z_callR (W.runS (As := [.int x0, .int (nI k)]) (rest := []) ⟨hx, hb, hml, hown, hts⟩ (kX1_contains l x0 (nI k)) (va_cwS 2 hts gX1_oneLinkFurther_X1_contains rfl rfl rfl (by decide +kernel) ⟨Nat.le_of_ble_eq_true rfl, Nat.le_of_ble_eq_true rfl⟩) zP_pre rfl rfl hl.1 rfl (lv_room (Nat.le_of_ble_eq_true rfl)) dX1_oneLinkFurther_12 ⟨Nat.zero_le _, Nat.zero_le _⟩) ?_
    refine z_if_eq (tgt := 27) hx hb dX1_oneLinkFurther_15 (by decide) (fun c_15 => ?_) (fun c_15 => ?_)
    · refine lv_iinc (v := nI (k + 1)) (lv' := [(3, .int (nI (k + 1))), (2, .int (c_oneA S x0 k)), (0, .ref (X 1)), (1, .int x0)]) hx hb dX1_oneLinkFurther_27 hl (k := 0) rfl (nI_1 _) (by decide) rfl (fun ls hl => ?_)
      refine lv_goto (tgt := 4) hx hb dX1_oneLinkFurther_30 (by decide) ?_
      have e2 : c_oneA S x0 (k + 1) = c_oneA S x0 k := by simp [c_oneA, bi, c_15]
      exact ih_4 ls (by show lv_has ls 4 [(3, .int (nI (k + 1))), (2, .int (c_oneA S x0 (k + 1))), (0, .ref (X 1)), (1, .int x0)]; rw [e2]; exact lv_sub hl [0, 1, 2, 3] rfl)
    · refine lv_iload_n hx hb dX1_oneLinkFurther_18 rfl (lv_at hl 1 rfl) ?_
      refine lv_aload_n hx hb dX1_oneLinkFurther_19 rfl (lv_at hl 2 rfl) ?_
      refine va_get (D := D) (ci := 1) (v := .ref (X 8)) (C := RX1) (T := TX1) (N := 4) hx hb hts i1 hown hK hP 1 rfl rfl 1 (by decide) fl_15 (fun _ h9 => h9) rfl dX1_oneLinkFurther_20 ?_
      refine lv_iload_n hx hb dX1_oneLinkFurther_23 rfl (lv_at hl 0 rfl) ?_
      refine z_iald (D := D) (j := k) (f := S 8) hx hb hK hP 8 0 rfl rfl (by omega) (by decide) dX1_oneLinkFurther_24 ?_
      refine lv_ior hx hb dX1_oneLinkFurther_25 ?_
      refine lv_istore_n (lv' := [(2, .int ((c_oneA S x0 k) ||| (S 8 k))), (3, .int (nI k)), (0, .ref (X 1)), (1, .int x0)]) hx hb dX1_oneLinkFurther_26 rfl hl (by decide) rfl (fun ls hl => ?_)
      refine lv_iinc (v := nI (k + 1)) (lv' := [(3, .int (nI (k + 1))), (2, .int ((c_oneA S x0 k) ||| (S 8 k))), (0, .ref (X 1)), (1, .int x0)]) hx hb dX1_oneLinkFurther_27 hl (k := 1) rfl (nI_1 _) (by decide) rfl (fun ls hl => ?_)
      refine lv_goto (tgt := 4) hx hb dX1_oneLinkFurther_30 (by decide) ?_
      have e2 : c_oneA S x0 (k + 1) = (c_oneA S x0 k) ||| (S 8 k) := by simp [c_oneA, bi, c_15]
      exact ih_4 ls (by show lv_has ls 4 [(3, .int (nI (k + 1))), (2, .int (c_oneA S x0 (k + 1))), (0, .ref (X 1)), (1, .int x0)]; rw [e2]; exact lv_sub hl [0, 1, 2, 3] rfl)

set_option maxHeartbeats 4000000 in
set_option maxRecDepth 100000 in
theorem kX1_allAround (l : Launch) (D : va_G) (cI cZ : ClassId) (X : Nat → Nat) (S : Nat → Nat → Int32) (O : Nat → Bool) (V : Nat → Int32) (x0 : Int32) : Met l yX1_allAround wsX1_allAround ({ frames := 2, cells := 0, slots := 0, locals := 44 } : Room) (zR D (tyl cI cZ) (hW cI cZ X S O V) [.ref (X 1), .int x0]) (QcRead (c_allA S x0 8)) 0 0 (fun _ => False) := by
  refine Met.ofW (cc := cX1_allAround) (maxL := 4) (ret := (some .int)) (by decide) rfl ?_
  intro p e s m args below meth c s₁ B hml hv
  obtain ⟨rfl, hP, hK⟩ := hv
  have hx := B.exec
  have hb := B.bytes
  have hr := B.returns
  have hts := atoms_spec (ws := wsX1_allAround) B.pre
  have hown : s.vm.findClass RX1 = some m.cls := findClass_of_methodNamed B.named
  have hlocks := B.notSynchronized
  have hl := lv_entry ([.ref (X 1), .int x0]) (n := 4) (Nat.le_of_ble_eq_true rfl)
  rw [lg_entry_eq]
  generalize (lg_sl ([.ref (X 1), .int x0]) ++ List.replicate (4 - (lg_sl ([.ref (X 1), .int x0])).length) Slot.unset).toArray = ls at hl ⊢
  have hl : lv_has ls 4 [(0, .ref (X 1)), (1, .int x0)] := hl
  refine lv_iload_n hx hb dX1_allAround_0 rfl (lv_at hl 1 rfl) ?_
  refine lv_istore_n (lv' := [(2, .int x0), (0, .ref (X 1)), (1, .int x0)]) hx hb dX1_allAround_1 rfl hl (by decide) rfl (fun ls hl => ?_)
  refine lv_iconst (v := nI 0) hx hb dX1_allAround_2 rfl ?_
  refine lv_istore_n (lv' := [(3, .int (nI 0)), (2, .int x0), (0, .ref (X 1)), (1, .int x0)]) hx hb dX1_allAround_3 rfl hl (by decide) rfl (fun ls hl => ?_)
  refine z_loop (N := 8) (nL := 4) (Lc := (fun k => [(3, .int (nI k)), (2, .int (c_allA S x0 k)), (0, .ref (X 1)), (1, .int x0)])) (lv_sub hl [0, 1, 2, 3] rfl) (fun ls hl => ?_) (fun k ls hk hl ih => ?_)
  · have hl : lv_has ls 4 [(3, .int (nI 8)), (2, .int (c_allA S x0 8)), (0, .ref (X 1)), (1, .int x0)] := hl
    refine lv_iload_n hx hb dX1_allAround_4 rfl (lv_at hl 0 rfl) ?_
    refine lv_bipush (v := nI 8) hx hb dX1_allAround_5 (by decide) ?_
    refine z_ge_t (tgt := 22) (nI_le (by omega) (by omega)) hx hb dX1_allAround_7 (by decide) ?_
    refine lv_iload_n hx hb dX1_allAround_22 rfl (lv_at hl 1 rfl) ?_
    exact z_ret hx hb hr hlocks rfl dX1_allAround_23
  · have hl : lv_has ls 4 [(3, .int (nI k)), (2, .int (c_allA S x0 k)), (0, .ref (X 1)), (1, .int x0)] := hl
    have ih_4 := ih
    refine lv_iload_n hx hb dX1_allAround_4 rfl (lv_at hl 0 rfl) ?_
    refine lv_bipush (v := nI 8) hx hb dX1_allAround_5 (by decide) ?_
    refine z_ge_f (tgt := 22) (nI_ge (by omega) (by omega)) hx hb dX1_allAround_7 (by decide) ?_
    refine lv_aload_n hx hb dX1_allAround_10 rfl (lv_at hl 2 rfl) ?_
    refine lv_iload_n hx hb dX1_allAround_11 rfl (lv_at hl 1 rfl) ?_
    refine z_callR (W.runV (As := [.int (c_allA S x0 k)]) (rest := []) ⟨hx, hb, hml, hown, hts⟩ (kX1_oneLinkFurther l D cI cZ X S O V (c_allA S x0 k)) (cwV 1 hts gX1_allAround_X1_oneLinkFurther rfl rfl rfl (by decide +kernel) ⟨Nat.le_of_ble_eq_true rfl, Nat.le_of_ble_eq_true rfl⟩) (zR_preV 1 1 hK hP rfl rfl) rfl rfl hl.1 rfl (lv_room (Nat.le_of_ble_eq_true rfl)) dX1_allAround_12 ⟨Nat.zero_le _, Nat.zero_le _⟩) ?_
    refine lv_istore_n (lv' := [(2, .int (c_oneA S (c_allA S x0 k) 8)), (3, .int (nI k)), (0, .ref (X 1)), (1, .int x0)]) hx hb dX1_allAround_15 rfl hl (by decide) rfl (fun ls hl => ?_)
    refine lv_iinc (v := nI (k + 1)) (lv' := [(3, .int (nI (k + 1))), (2, .int (c_oneA S (c_allA S x0 k) 8)), (0, .ref (X 1)), (1, .int x0)]) hx hb dX1_allAround_16 hl (k := 1) rfl (nI_1 _) (by decide) rfl (fun ls hl => ?_)
    refine lv_goto (tgt := 4) hx hb dX1_allAround_19 (by decide) ?_
    have e2 : c_allA S x0 (k + 1) = c_oneA S (c_allA S x0 k) 8 := by rfl
    exact ih_4 ls (by show lv_has ls 4 [(3, .int (nI (k + 1))), (2, .int (c_allA S x0 (k + 1))), (0, .ref (X 1)), (1, .int x0)]; rw [e2]; exact lv_sub hl [0, 1, 2, 3] rfl)

set_option maxHeartbeats 4000000 in
set_option maxRecDepth 100000 in
theorem kX1_hasPerson (l : Launch) (D : va_G) (cI cZ : ClassId) (X : Nat → Nat) (S : Nat → Nat → Int32) (O : Nat → Bool) (V : Nat → Int32) (gi : Nat) (pi : Nat) (hgi : gi < 8) (hpi : pi < 10) : Met l yX1_hasPerson wsX1_hasPerson ({ frames := 3, cells := 0, slots := 0, locals := 67 } : Room) (zR D (tyl cI cZ) (hW cI cZ X S O V) [.ref (X 1), .int (nI gi), .int (nI pi)]) (QcRead (bi (hasB (c_allA S (S 7 pi) 8) (nI gi)))) 0 0 (fun _ => False) := by
  refine Met.ofW (cc := cX1_hasPerson) (maxL := 3) (ret := (some .boolean)) (by decide) rfl ?_
  intro p e s m args below meth c s₁ B hml hv
  obtain ⟨rfl, hP, hK⟩ := hv
  have hx := B.exec
  have hb := B.bytes
  have hr := B.returns
  have hts := atoms_spec (ws := wsX1_hasPerson) B.pre
  have hown : s.vm.findClass RX1 = some m.cls := findClass_of_methodNamed B.named
  have hlocks := B.notSynchronized
  have i1 : ∀ w ∈ u_ws RX1 TX1 4, w ∈ wsX1_hasPerson := by decide +kernel
  have fl_9 := hts (.fieldLink RX1 9 "SignOnHouse$Groups" "homesOfPerson" "[I") (by decide +kernel)
  have hl := lv_entry ([.ref (X 1), .int (nI gi), .int (nI pi)]) (n := 3) (Nat.le_of_ble_eq_true rfl)
  rw [lg_entry_eq]
  generalize (lg_sl ([.ref (X 1), .int (nI gi), .int (nI pi)]) ++ List.replicate (3 - (lg_sl ([.ref (X 1), .int (nI gi), .int (nI pi)])).length) Slot.unset).toArray = ls at hl ⊢
  have hl : lv_has ls 3 [(0, .ref (X 1)), (1, .int (nI gi)), (2, .int (nI pi))] := hl
  refine lv_aload_n hx hb dX1_hasPerson_0 rfl (lv_at hl 0 rfl) ?_
  refine lv_aload_n hx hb dX1_hasPerson_1 rfl (lv_at hl 0 rfl) ?_
  refine va_get (D := D) (ci := 1) (v := .ref (X 7)) (C := RX1) (T := TX1) (N := 4) hx hb hts i1 hown hK hP 1 rfl rfl 0 (by decide) fl_9 (fun _ h9 => h9) rfl dX1_hasPerson_2 ?_
  refine lv_iload_n hx hb dX1_hasPerson_5 rfl (lv_at hl 2 rfl) ?_
  refine z_iald (D := D) (j := pi) (f := S 7) hx hb hK hP 7 0 rfl rfl (by omega) (by decide) dX1_hasPerson_6 ?_
  refine z_callR (W.runV (As := [.int (S 7 pi)]) (rest := []) ⟨hx, hb, hml, hown, hts⟩ (kX1_allAround l D cI cZ X S O V (S 7 pi)) (cwV 1 hts gX1_hasPerson_X1_allAround rfl rfl rfl (by decide +kernel) ⟨Nat.le_of_ble_eq_true rfl, Nat.le_of_ble_eq_true rfl⟩) (zR_preV 1 1 hK hP rfl rfl) rfl rfl hl.1 rfl (lv_room (Nat.le_of_ble_eq_true rfl)) dX1_hasPerson_7 ⟨Nat.zero_le _, Nat.zero_le _⟩) ?_
  refine lv_iload_n hx hb dX1_hasPerson_10 rfl (lv_at hl 1 rfl) ?_
  refine z_callR (W.runS (As := [.int (c_allA S (S 7 pi) 8), .int (nI gi)]) (rest := []) ⟨hx, hb, hml, hown, hts⟩ (kX1_contains l (c_allA S (S 7 pi) 8) (nI gi)) (va_cwS 2 hts gX1_hasPerson_X1_contains rfl rfl rfl (by decide +kernel) ⟨Nat.le_of_ble_eq_true rfl, Nat.le_of_ble_eq_true rfl⟩) zP_pre rfl rfl hl.1 rfl (lv_room (Nat.le_of_ble_eq_true rfl)) dX1_hasPerson_11 ⟨Nat.zero_le _, Nat.zero_le _⟩) ?_
  exact z_zret hx hb hr hlocks rfl dX1_hasPerson_14

set_option maxHeartbeats 4000000 in
set_option maxRecDepth 100000 in
theorem kX1_isAround (l : Launch) (D : va_G) (cI cZ : ClassId) (X : Nat → Nat) (S : Nat → Nat → Int32) (O : Nat → Bool) (V : Nat → Int32) (oi : Nat) (gi : Nat) (hoi : oi < 8) (hgi : gi < 8) : Met l yX1_isAround wsX1_isAround ({ frames := 3, cells := 0, slots := 0, locals := 67 } : Room) (zR D (tyl cI cZ) (hW cI cZ X S O V) [.ref (X 1), .int (nI oi), .int (nI gi)]) (QcRead (bi (hasB (c_allA S (S 8 gi) 8) (nI oi)))) 0 0 (fun _ => False) := by
  refine Met.ofW (cc := cX1_isAround) (maxL := 3) (ret := (some .boolean)) (by decide) rfl ?_
  intro p e s m args below meth c s₁ B hml hv
  obtain ⟨rfl, hP, hK⟩ := hv
  have hx := B.exec
  have hb := B.bytes
  have hr := B.returns
  have hts := atoms_spec (ws := wsX1_isAround) B.pre
  have hown : s.vm.findClass RX1 = some m.cls := findClass_of_methodNamed B.named
  have hlocks := B.notSynchronized
  have i1 : ∀ w ∈ u_ws RX1 TX1 4, w ∈ wsX1_isAround := by decide +kernel
  have fl_15 := hts (.fieldLink RX1 15 "SignOnHouse$Groups" "homesOfGroup" "[I") (by decide +kernel)
  have hl := lv_entry ([.ref (X 1), .int (nI oi), .int (nI gi)]) (n := 3) (Nat.le_of_ble_eq_true rfl)
  rw [lg_entry_eq]
  generalize (lg_sl ([.ref (X 1), .int (nI oi), .int (nI gi)]) ++ List.replicate (3 - (lg_sl ([.ref (X 1), .int (nI oi), .int (nI gi)])).length) Slot.unset).toArray = ls at hl ⊢
  have hl : lv_has ls 3 [(0, .ref (X 1)), (1, .int (nI oi)), (2, .int (nI gi))] := hl
  refine lv_aload_n hx hb dX1_isAround_0 rfl (lv_at hl 0 rfl) ?_
  refine lv_aload_n hx hb dX1_isAround_1 rfl (lv_at hl 0 rfl) ?_
  refine va_get (D := D) (ci := 1) (v := .ref (X 8)) (C := RX1) (T := TX1) (N := 4) hx hb hts i1 hown hK hP 1 rfl rfl 1 (by decide) fl_15 (fun _ h9 => h9) rfl dX1_isAround_2 ?_
  refine lv_iload_n hx hb dX1_isAround_5 rfl (lv_at hl 2 rfl) ?_
  refine z_iald (D := D) (j := gi) (f := S 8) hx hb hK hP 8 0 rfl rfl (by omega) (by decide) dX1_isAround_6 ?_
  refine z_callR (W.runV (As := [.int (S 8 gi)]) (rest := []) ⟨hx, hb, hml, hown, hts⟩ (kX1_allAround l D cI cZ X S O V (S 8 gi)) (cwV 1 hts gX1_isAround_X1_allAround rfl rfl rfl (by decide +kernel) ⟨Nat.le_of_ble_eq_true rfl, Nat.le_of_ble_eq_true rfl⟩) (zR_preV 1 1 hK hP rfl rfl) rfl rfl hl.1 rfl (lv_room (Nat.le_of_ble_eq_true rfl)) dX1_isAround_7 ⟨Nat.zero_le _, Nat.zero_le _⟩) ?_
  refine lv_iload_n hx hb dX1_isAround_10 rfl (lv_at hl 1 rfl) ?_
  refine z_callR (W.runS (As := [.int (c_allA S (S 8 gi) 8), .int (nI oi)]) (rest := []) ⟨hx, hb, hml, hown, hts⟩ (kX1_contains l (c_allA S (S 8 gi) 8) (nI oi)) (va_cwS 2 hts gX1_isAround_X1_contains rfl rfl rfl (by decide +kernel) ⟨Nat.le_of_ble_eq_true rfl, Nat.le_of_ble_eq_true rfl⟩) zP_pre rfl rfl hl.1 rfl (lv_room (Nat.le_of_ble_eq_true rfl)) dX1_isAround_11 ⟨Nat.zero_le _, Nat.zero_le _⟩) ?_
  exact z_zret hx hb hr hlocks rfl dX1_isAround_14

set_option maxHeartbeats 4000000 in
set_option maxRecDepth 100000 in
theorem kX1_anyGrants (l : Launch) (D : va_G) (cI cZ : ClassId) (X : Nat → Nat) (S : Nat → Nat → Int32) (O : Nat → Bool) (V : Nat → Int32) (pi : Nat) (ri : Nat) (hpi : pi < 10) (hri : ri < 6) : Met l yX1_anyGrants wsX1_anyGrants ({ frames := 3, cells := 0, slots := 0, locals := 67 } : Room) (zR D (tyl cI cZ) (hW cI cZ X S O V) [.ref (X 1), .int (nI pi), .int (nI ri)]) (QcRead (bi (c_any S 9 pi ri))) 0 0 (fun _ => False) := by
  refine Met.ofW (cc := cX1_anyGrants) (maxL := 3) (ret := (some .boolean)) (by decide) rfl ?_
  intro p e s m args below meth c s₁ B hml hv
  obtain ⟨rfl, hP, hK⟩ := hv
  have hx := B.exec
  have hb := B.bytes
  have hr := B.returns
  have hts := atoms_spec (ws := wsX1_anyGrants) B.pre
  have hown : s.vm.findClass RX1 = some m.cls := findClass_of_methodNamed B.named
  have hlocks := B.notSynchronized
  have i1 : ∀ w ∈ u_ws RX1 TX1 4, w ∈ wsX1_anyGrants := by decide +kernel
  have fl_9 := hts (.fieldLink RX1 9 "SignOnHouse$Groups" "homesOfPerson" "[I") (by decide +kernel)
  have fl_18 := hts (.fieldLink RX1 18 "SignOnHouse$Groups" "grantedOfRole" "[I") (by decide +kernel)
  have hl := lv_entry ([.ref (X 1), .int (nI pi), .int (nI ri)]) (n := 3) (Nat.le_of_ble_eq_true rfl)
  rw [lg_entry_eq]
  generalize (lg_sl ([.ref (X 1), .int (nI pi), .int (nI ri)]) ++ List.replicate (3 - (lg_sl ([.ref (X 1), .int (nI pi), .int (nI ri)])).length) Slot.unset).toArray = ls at hl ⊢
  have hl : lv_has ls 3 [(0, .ref (X 1)), (1, .int (nI pi)), (2, .int (nI ri))] := hl
  refine lv_aload_n hx hb dX1_anyGrants_0 rfl (lv_at hl 0 rfl) ?_
  refine lv_aload_n hx hb dX1_anyGrants_1 rfl (lv_at hl 0 rfl) ?_
  refine va_get (D := D) (ci := 1) (v := .ref (X 7)) (C := RX1) (T := TX1) (N := 4) hx hb hts i1 hown hK hP 1 rfl rfl 0 (by decide) fl_9 (fun _ h9 => h9) rfl dX1_anyGrants_2 ?_
  refine lv_iload_n hx hb dX1_anyGrants_5 rfl (lv_at hl 1 rfl) ?_
  refine z_iald (D := D) (j := pi) (f := S 7) hx hb hK hP 7 0 rfl rfl (by omega) (by decide) dX1_anyGrants_6 ?_
  refine z_callR (W.runV (As := [.int (S 7 pi)]) (rest := []) ⟨hx, hb, hml, hown, hts⟩ (kX1_allAround l D cI cZ X S O V (S 7 pi)) (cwV 1 hts gX1_anyGrants_X1_allAround rfl rfl rfl (by decide +kernel) ⟨Nat.le_of_ble_eq_true rfl, Nat.le_of_ble_eq_true rfl⟩) (zR_preV 1 1 hK hP rfl rfl) rfl rfl hl.1 rfl (lv_room (Nat.le_of_ble_eq_true rfl)) dX1_anyGrants_7 ⟨Nat.zero_le _, Nat.zero_le _⟩) ?_
  refine lv_aload_n hx hb dX1_anyGrants_10 rfl (lv_at hl 0 rfl) ?_
  refine va_get (D := D) (ci := 1) (v := .ref (X 9)) (C := RX1) (T := TX1) (N := 4) hx hb hts i1 hown hK hP 1 rfl rfl 2 (by decide) fl_18 (fun _ h9 => h9) rfl dX1_anyGrants_11 ?_
  refine lv_iload_n hx hb dX1_anyGrants_14 rfl (lv_at hl 2 rfl) ?_
  refine z_iald (D := D) (j := ri) (f := S 9) hx hb hK hP 9 0 rfl rfl (by omega) (by decide) dX1_anyGrants_15 ?_
  refine lv_iand hx hb dX1_anyGrants_16 ?_
  refine z_sel_if_eq hx hb dX1_anyGrants_17 dX1_anyGrants_20 dX1_anyGrants_21 dX1_anyGrants_24 ?_
  exact z_zret hx hb hr hlocks (by rfl) dX1_anyGrants_25

set_option maxHeartbeats 4000000 in
set_option maxRecDepth 100000 in
theorem kX1_anyDenies (l : Launch) (D : va_G) (cI cZ : ClassId) (X : Nat → Nat) (S : Nat → Nat → Int32) (O : Nat → Bool) (V : Nat → Int32) (pi : Nat) (ri : Nat) (hpi : pi < 10) (hri : ri < 6) : Met l yX1_anyDenies wsX1_anyDenies ({ frames := 3, cells := 0, slots := 0, locals := 67 } : Room) (zR D (tyl cI cZ) (hW cI cZ X S O V) [.ref (X 1), .int (nI pi), .int (nI ri)]) (QcRead (bi (c_any S 10 pi ri))) 0 0 (fun _ => False) := by
  refine Met.ofW (cc := cX1_anyDenies) (maxL := 3) (ret := (some .boolean)) (by decide) rfl ?_
  intro p e s m args below meth c s₁ B hml hv
  obtain ⟨rfl, hP, hK⟩ := hv
  have hx := B.exec
  have hb := B.bytes
  have hr := B.returns
  have hts := atoms_spec (ws := wsX1_anyDenies) B.pre
  have hown : s.vm.findClass RX1 = some m.cls := findClass_of_methodNamed B.named
  have hlocks := B.notSynchronized
  have i1 : ∀ w ∈ u_ws RX1 TX1 4, w ∈ wsX1_anyDenies := by decide +kernel
  have fl_9 := hts (.fieldLink RX1 9 "SignOnHouse$Groups" "homesOfPerson" "[I") (by decide +kernel)
  have fl_21 := hts (.fieldLink RX1 21 "SignOnHouse$Groups" "deniedOfRole" "[I") (by decide +kernel)
  have hl := lv_entry ([.ref (X 1), .int (nI pi), .int (nI ri)]) (n := 3) (Nat.le_of_ble_eq_true rfl)
  rw [lg_entry_eq]
  generalize (lg_sl ([.ref (X 1), .int (nI pi), .int (nI ri)]) ++ List.replicate (3 - (lg_sl ([.ref (X 1), .int (nI pi), .int (nI ri)])).length) Slot.unset).toArray = ls at hl ⊢
  have hl : lv_has ls 3 [(0, .ref (X 1)), (1, .int (nI pi)), (2, .int (nI ri))] := hl
  refine lv_aload_n hx hb dX1_anyDenies_0 rfl (lv_at hl 0 rfl) ?_
  refine lv_aload_n hx hb dX1_anyDenies_1 rfl (lv_at hl 0 rfl) ?_
  refine va_get (D := D) (ci := 1) (v := .ref (X 7)) (C := RX1) (T := TX1) (N := 4) hx hb hts i1 hown hK hP 1 rfl rfl 0 (by decide) fl_9 (fun _ h9 => h9) rfl dX1_anyDenies_2 ?_
  refine lv_iload_n hx hb dX1_anyDenies_5 rfl (lv_at hl 1 rfl) ?_
  refine z_iald (D := D) (j := pi) (f := S 7) hx hb hK hP 7 0 rfl rfl (by omega) (by decide) dX1_anyDenies_6 ?_
  refine z_callR (W.runV (As := [.int (S 7 pi)]) (rest := []) ⟨hx, hb, hml, hown, hts⟩ (kX1_allAround l D cI cZ X S O V (S 7 pi)) (cwV 1 hts gX1_anyDenies_X1_allAround rfl rfl rfl (by decide +kernel) ⟨Nat.le_of_ble_eq_true rfl, Nat.le_of_ble_eq_true rfl⟩) (zR_preV 1 1 hK hP rfl rfl) rfl rfl hl.1 rfl (lv_room (Nat.le_of_ble_eq_true rfl)) dX1_anyDenies_7 ⟨Nat.zero_le _, Nat.zero_le _⟩) ?_
  refine lv_aload_n hx hb dX1_anyDenies_10 rfl (lv_at hl 0 rfl) ?_
  refine va_get (D := D) (ci := 1) (v := .ref (X 10)) (C := RX1) (T := TX1) (N := 4) hx hb hts i1 hown hK hP 1 rfl rfl 3 (by decide) fl_21 (fun _ h9 => h9) rfl dX1_anyDenies_11 ?_
  refine lv_iload_n hx hb dX1_anyDenies_14 rfl (lv_at hl 2 rfl) ?_
  refine z_iald (D := D) (j := ri) (f := S 10) hx hb hK hP 10 0 rfl rfl (by omega) (by decide) dX1_anyDenies_15 ?_
  refine lv_iand hx hb dX1_anyDenies_16 ?_
  refine z_sel_if_eq hx hb dX1_anyDenies_17 dX1_anyDenies_20 dX1_anyDenies_21 dX1_anyDenies_24 ?_
  exact z_zret hx hb hr hlocks (by rfl) dX1_anyDenies_25

set_option maxHeartbeats 4000000 in
set_option maxRecDepth 100000 in
theorem kX1_roleOf (l : Launch) (D : va_G) (cI cZ : ClassId) (X : Nat → Nat) (S : Nat → Nat → Int32) (O : Nat → Bool) (V : Nat → Int32) (gi : Nat) (ri : Nat) (hgi : gi < 8) (hri : ri < 6) : Met l yX1_roleOf wsX1_roleOf ({ frames := 1, cells := 0, slots := 0, locals := 21 } : Room) (zR D (tyl cI cZ) (hW cI cZ X S O V) [.ref (X 1), .int (nI gi), .int (nI ri)]) (QcRead (c_roleOf S gi ri)) 0 0 (fun _ => False) := by
  refine Met.ofW (cc := cX1_roleOf) (maxL := 3) (ret := (some .int)) (by decide) rfl ?_
  intro p e s m args below meth c s₁ B hml hv
  obtain ⟨rfl, hP, hK⟩ := hv
  have hx := B.exec
  have hb := B.bytes
  have hr := B.returns
  have hts := atoms_spec (ws := wsX1_roleOf) B.pre
  have hown : s.vm.findClass RX1 = some m.cls := findClass_of_methodNamed B.named
  have hlocks := B.notSynchronized
  have i1 : ∀ w ∈ u_ws RX1 TX1 4, w ∈ wsX1_roleOf := by decide +kernel
  have fl_18 := hts (.fieldLink RX1 18 "SignOnHouse$Groups" "grantedOfRole" "[I") (by decide +kernel)
  have fl_21 := hts (.fieldLink RX1 21 "SignOnHouse$Groups" "deniedOfRole" "[I") (by decide +kernel)
  have hl := lv_entry ([.ref (X 1), .int (nI gi), .int (nI ri)]) (n := 3) (Nat.le_of_ble_eq_true rfl)
  rw [lg_entry_eq]
  generalize (lg_sl ([.ref (X 1), .int (nI gi), .int (nI ri)]) ++ List.replicate (3 - (lg_sl ([.ref (X 1), .int (nI gi), .int (nI ri)])).length) Slot.unset).toArray = ls at hl ⊢
  have hl : lv_has ls 3 [(0, .ref (X 1)), (1, .int (nI gi)), (2, .int (nI ri))] := hl
  refine lv_aload_n hx hb dX1_roleOf_0 rfl (lv_at hl 0 rfl) ?_
  refine va_get (D := D) (ci := 1) (v := .ref (X 9)) (C := RX1) (T := TX1) (N := 4) hx hb hts i1 hown hK hP 1 rfl rfl 2 (by decide) fl_18 (fun _ h9 => h9) rfl dX1_roleOf_1 ?_
  refine lv_iload_n hx hb dX1_roleOf_4 rfl (lv_at hl 2 rfl) ?_
  refine z_iald (D := D) (j := ri) (f := S 9) hx hb hK hP 9 0 rfl rfl (by omega) (by decide) dX1_roleOf_5 ?_
  refine lv_iload_n hx hb dX1_roleOf_6 rfl (lv_at hl 1 rfl) ?_
  refine z_callR (W.runS (As := [.int (S 9 ri), .int (nI gi)]) (rest := []) ⟨hx, hb, hml, hown, hts⟩ (kX1_contains l (S 9 ri) (nI gi)) (va_cwS 2 hts gX1_roleOf_X1_contains rfl rfl rfl (by decide +kernel) ⟨Nat.le_of_ble_eq_true rfl, Nat.le_of_ble_eq_true rfl⟩) zP_pre rfl rfl hl.1 rfl (lv_room (Nat.le_of_ble_eq_true rfl)) dX1_roleOf_7 ⟨Nat.zero_le _, Nat.zero_le _⟩) ?_
  refine z_if_eq (tgt := 15) hx hb dX1_roleOf_10 (by decide) (fun c_10 => ?_) (fun c_10 => ?_)
  · refine lv_aload_n hx hb dX1_roleOf_15 rfl (lv_at hl 0 rfl) ?_
    refine va_get (D := D) (ci := 1) (v := .ref (X 10)) (C := RX1) (T := TX1) (N := 4) hx hb hts i1 hown hK hP 1 rfl rfl 3 (by decide) fl_21 (fun _ h9 => h9) rfl dX1_roleOf_16 ?_
    refine lv_iload_n hx hb dX1_roleOf_19 rfl (lv_at hl 2 rfl) ?_
    refine z_iald (D := D) (j := ri) (f := S 10) hx hb hK hP 10 0 rfl rfl (by omega) (by decide) dX1_roleOf_20 ?_
    refine lv_iload_n hx hb dX1_roleOf_21 rfl (lv_at hl 1 rfl) ?_
    refine z_callR (W.runS (As := [.int (S 10 ri), .int (nI gi)]) (rest := []) ⟨hx, hb, hml, hown, hts⟩ (kX1_contains l (S 10 ri) (nI gi)) (va_cwS 2 hts gX1_roleOf_X1_contains rfl rfl rfl (by decide +kernel) ⟨Nat.le_of_ble_eq_true rfl, Nat.le_of_ble_eq_true rfl⟩) zP_pre rfl rfl hl.1 rfl (lv_room (Nat.le_of_ble_eq_true rfl)) dX1_roleOf_22 ⟨Nat.zero_le _, Nat.zero_le _⟩) ?_
    refine z_if_eq (tgt := 32) hx hb dX1_roleOf_25 (by decide) (fun c_25 => ?_) (fun c_25 => ?_)
    · refine lv_iconst (v := 0) hx hb dX1_roleOf_32 rfl ?_
      exact z_ret hx hb hr hlocks (by simp [c_roleOf, bi, c_10, c_25]) dX1_roleOf_33
    · refine lv_iconst (v := 2) hx hb dX1_roleOf_28 rfl ?_
      refine lv_goto (tgt := 33) hx hb dX1_roleOf_29 (by decide) ?_
      exact z_ret hx hb hr hlocks (by simp [c_roleOf, bi, c_10, c_25]) dX1_roleOf_33
  · refine lv_iconst (v := 1) hx hb dX1_roleOf_13 rfl ?_
    exact z_ret hx hb hr hlocks (by simp [c_roleOf, bi, c_10]) dX1_roleOf_14

set_option maxHeartbeats 4000000 in
set_option maxRecDepth 100000 in
theorem kX1_placePerson (l : Launch) (D : va_G) (cI cZ : ClassId) (X : Nat → Nat) (S : Nat → Nat → Int32) (O : Nat → Bool) (V : Nat → Int32) (sz : Nat) (gi : Nat) (pi : Nat) (b0 : Bool) (hgi : gi < 8) (hpi : pi < 10) : Met l yX1_placePerson wsX1_placePerson ({ frames := 1, cells := 0, slots := 0, locals := 22 } : Room) (zW D (tyl cI cZ) (hW cI cZ X S O V) sz [.ref (X 1), .int (nI gi), .int (nI pi), .int (bi b0)]) (zQi D (tyl cI cZ) (hW cI cZ X (va_up S 7 (upd (S 7) pi (c_changed (S 7 pi) (nI gi) b0))) O V) (bi (hasB (S 7 pi) (nI gi))) (va_A (hW cI cZ X S O V) sz)) 0 0 (va_A (hW cI cZ X S O V) sz) := by
  refine Met.ofW (cc := cX1_placePerson) (maxL := 5) (ret := (some .boolean)) (by decide) rfl ?_
  intro p e s m args below meth c s₁ B hml hv
  obtain ⟨rfl, hsz, hP, hK, hD0⟩ := hv
  have hx := B.exec
  have hb := B.bytes
  have hr := B.returns
  have hts := atoms_spec (ws := wsX1_placePerson) B.pre
  have hown : s.vm.findClass RX1 = some m.cls := findClass_of_methodNamed B.named
  have hlocks := B.notSynchronized
  subst hsz
  have hD := hD0.self (sz := s.heap.size)
  generalize hAe : va_A (hW cI cZ X S O V) s.heap.size = A at hD ⊢
  have hA : ∀ q : Nat, s.heap.size ≤ q → A q := fun q h => by rw [← hAe]; exact Or.inr h
  have hS : va_S A s.heap s.heap [] := va_S.rf
  have i1 : ∀ w ∈ u_ws RX1 TX1 4, w ∈ wsX1_placePerson := by decide +kernel
  have fl_9 := hts (.fieldLink RX1 9 "SignOnHouse$Groups" "homesOfPerson" "[I") (by decide +kernel)
  have hl := lv_entry ([.ref (X 1), .int (nI gi), .int (nI pi), .int (bi b0)]) (n := 5) (Nat.le_of_ble_eq_true rfl)
  rw [lg_entry_eq]
  generalize (lg_sl ([.ref (X 1), .int (nI gi), .int (nI pi), .int (bi b0)]) ++ List.replicate (5 - (lg_sl ([.ref (X 1), .int (nI gi), .int (nI pi), .int (bi b0)])).length) Slot.unset).toArray = ls at hl ⊢
  have hl : lv_has ls 5 [(0, .ref (X 1)), (1, .int (nI gi)), (2, .int (nI pi)), (3, .int (bi b0))] := hl
  refine lv_aload_n hx hb dX1_placePerson_0 rfl (lv_at hl 0 rfl) ?_
  refine va_get (D := D) (ci := 1) (v := .ref (X 7)) (C := RX1) (T := TX1) (N := 4) hx hb hts i1 hown hK hP 1 rfl rfl 0 (by decide) fl_9 (fun _ h9 => h9) rfl dX1_placePerson_1 ?_
  refine lv_iload_n hx hb dX1_placePerson_4 rfl (lv_at hl 2 rfl) ?_
  refine z_iald (D := D) (j := pi) (f := S 7) hx hb hK hP 7 0 rfl rfl (by omega) (by decide) dX1_placePerson_5 ?_
  refine lv_iload_n hx hb dX1_placePerson_6 rfl (lv_at hl 1 rfl) ?_
  refine z_callR (W.runS (As := [.int (S 7 pi), .int (nI gi)]) (rest := []) ⟨hx, hb, hml, hown, hts⟩ (kX1_contains l (S 7 pi) (nI gi)) (va_cwS 2 hts gX1_placePerson_X1_contains rfl rfl rfl (by decide +kernel) ⟨Nat.le_of_ble_eq_true rfl, Nat.le_of_ble_eq_true rfl⟩) zP_pre rfl rfl hl.1 rfl (lv_room (Nat.le_of_ble_eq_true rfl)) dX1_placePerson_7 ⟨Nat.zero_le _, Nat.zero_le _⟩) ?_
  refine lv_istore (lv' := [(4, .int (bi (hasB (S 7 pi) (nI gi)))), (0, .ref (X 1)), (1, .int (nI gi)), (2, .int (nI pi)), (3, .int (bi b0))]) hx hb dX1_placePerson_10 hl (by decide) rfl (fun ls hl => ?_)
  refine lv_aload_n hx hb dX1_placePerson_12 rfl (lv_at hl 1 rfl) ?_
  refine va_get (D := D) (ci := 1) (v := .ref (X 7)) (C := RX1) (T := TX1) (N := 4) hx hb hts i1 hown hK hP 1 rfl rfl 0 (by decide) fl_9 (fun _ h9 => h9) rfl dX1_placePerson_13 ?_
  refine lv_iload_n hx hb dX1_placePerson_16 rfl (lv_at hl 3 rfl) ?_
  refine lv_aload_n hx hb dX1_placePerson_17 rfl (lv_at hl 1 rfl) ?_
  refine va_get (D := D) (ci := 1) (v := .ref (X 7)) (C := RX1) (T := TX1) (N := 4) hx hb hts i1 hown hK hP 1 rfl rfl 0 (by decide) fl_9 (fun _ h9 => h9) rfl dX1_placePerson_18 ?_
  refine lv_iload_n hx hb dX1_placePerson_21 rfl (lv_at hl 3 rfl) ?_
  refine z_iald (D := D) (j := pi) (f := S 7) hx hb hK hP 7 0 rfl rfl (by omega) (by decide) dX1_placePerson_22 ?_
  refine lv_iload_n hx hb dX1_placePerson_23 rfl (lv_at hl 2 rfl) ?_
  refine lv_iload_n hx hb dX1_placePerson_24 rfl (lv_at hl 4 rfl) ?_
  refine z_callR (W.runS (As := [.int (S 7 pi), .int (nI gi), .int (bi b0)]) (rest := [.int (nI pi), .ref (X 7)]) ⟨hx, hb, hml, hown, hts⟩ (kX1_changed l (S 7 pi) (nI gi) b0) (va_cwS 3 hts gX1_placePerson_X1_changed rfl rfl rfl (by decide +kernel) ⟨Nat.le_of_ble_eq_true rfl, Nat.le_of_ble_eq_true rfl⟩) zP_pre rfl rfl hl.1 rfl (lv_room (Nat.le_of_ble_eq_true rfl)) dX1_placePerson_25 ⟨Nat.zero_le _, Nat.zero_le _⟩) ?_
  refine z_iast (D := D) (j := pi) (f := S 7) hx hb hK hP hD hS 7 0 rfl rfl (by omega) (by decide) dX1_placePerson_28 (fun H locs hP hD hS => ?_)
  have hP : va_P D vwCl (hW cI cZ X (va_up S 7 (upd (S 7) pi (c_changed (S 7 pi) (nI gi) b0))) O V) H := hP
  have hD : va_D A (hW cI cZ X (va_up S 7 (upd (S 7) pi (c_changed (S 7 pi) (nI gi) b0))) O V) := hD
  refine lv_iload hx hb dX1_placePerson_29 (lv_at hl 0 rfl) ?_
  exact z_wzret hx hb hr hlocks hP hK hD hS rfl dX1_placePerson_31

set_option maxHeartbeats 4000000 in
set_option maxRecDepth 100000 in
theorem kX1_placeGroup (l : Launch) (D : va_G) (cI cZ : ClassId) (X : Nat → Nat) (S : Nat → Nat → Int32) (O : Nat → Bool) (V : Nat → Int32) (sz : Nat) (gi : Nat) (ii : Nat) (b0 : Bool) (hgi : gi < 8) (hii : ii < 8) : Met l yX1_placeGroup wsX1_placeGroup ({ frames := 1, cells := 0, slots := 0, locals := 22 } : Room) (zW D (tyl cI cZ) (hW cI cZ X S O V) sz [.ref (X 1), .int (nI gi), .int (nI ii), .int (bi b0)]) (zQi D (tyl cI cZ) (hW cI cZ X (va_up S 8 (upd (S 8) ii (c_changed (S 8 ii) (nI gi) b0))) O V) (bi (hasB (S 8 ii) (nI gi))) (va_A (hW cI cZ X S O V) sz)) 0 0 (va_A (hW cI cZ X S O V) sz) := by
  refine Met.ofW (cc := cX1_placeGroup) (maxL := 5) (ret := (some .boolean)) (by decide) rfl ?_
  intro p e s m args below meth c s₁ B hml hv
  obtain ⟨rfl, hsz, hP, hK, hD0⟩ := hv
  have hx := B.exec
  have hb := B.bytes
  have hr := B.returns
  have hts := atoms_spec (ws := wsX1_placeGroup) B.pre
  have hown : s.vm.findClass RX1 = some m.cls := findClass_of_methodNamed B.named
  have hlocks := B.notSynchronized
  subst hsz
  have hD := hD0.self (sz := s.heap.size)
  generalize hAe : va_A (hW cI cZ X S O V) s.heap.size = A at hD ⊢
  have hA : ∀ q : Nat, s.heap.size ≤ q → A q := fun q h => by rw [← hAe]; exact Or.inr h
  have hS : va_S A s.heap s.heap [] := va_S.rf
  have i1 : ∀ w ∈ u_ws RX1 TX1 4, w ∈ wsX1_placeGroup := by decide +kernel
  have fl_15 := hts (.fieldLink RX1 15 "SignOnHouse$Groups" "homesOfGroup" "[I") (by decide +kernel)
  have hl := lv_entry ([.ref (X 1), .int (nI gi), .int (nI ii), .int (bi b0)]) (n := 5) (Nat.le_of_ble_eq_true rfl)
  rw [lg_entry_eq]
  generalize (lg_sl ([.ref (X 1), .int (nI gi), .int (nI ii), .int (bi b0)]) ++ List.replicate (5 - (lg_sl ([.ref (X 1), .int (nI gi), .int (nI ii), .int (bi b0)])).length) Slot.unset).toArray = ls at hl ⊢
  have hl : lv_has ls 5 [(0, .ref (X 1)), (1, .int (nI gi)), (2, .int (nI ii)), (3, .int (bi b0))] := hl
  refine lv_aload_n hx hb dX1_placeGroup_0 rfl (lv_at hl 0 rfl) ?_
  refine va_get (D := D) (ci := 1) (v := .ref (X 8)) (C := RX1) (T := TX1) (N := 4) hx hb hts i1 hown hK hP 1 rfl rfl 1 (by decide) fl_15 (fun _ h9 => h9) rfl dX1_placeGroup_1 ?_
  refine lv_iload_n hx hb dX1_placeGroup_4 rfl (lv_at hl 2 rfl) ?_
  refine z_iald (D := D) (j := ii) (f := S 8) hx hb hK hP 8 0 rfl rfl (by omega) (by decide) dX1_placeGroup_5 ?_
  refine lv_iload_n hx hb dX1_placeGroup_6 rfl (lv_at hl 1 rfl) ?_
  refine z_callR (W.runS (As := [.int (S 8 ii), .int (nI gi)]) (rest := []) ⟨hx, hb, hml, hown, hts⟩ (kX1_contains l (S 8 ii) (nI gi)) (va_cwS 2 hts gX1_placeGroup_X1_contains rfl rfl rfl (by decide +kernel) ⟨Nat.le_of_ble_eq_true rfl, Nat.le_of_ble_eq_true rfl⟩) zP_pre rfl rfl hl.1 rfl (lv_room (Nat.le_of_ble_eq_true rfl)) dX1_placeGroup_7 ⟨Nat.zero_le _, Nat.zero_le _⟩) ?_
  refine lv_istore (lv' := [(4, .int (bi (hasB (S 8 ii) (nI gi)))), (0, .ref (X 1)), (1, .int (nI gi)), (2, .int (nI ii)), (3, .int (bi b0))]) hx hb dX1_placeGroup_10 hl (by decide) rfl (fun ls hl => ?_)
  refine lv_aload_n hx hb dX1_placeGroup_12 rfl (lv_at hl 1 rfl) ?_
  refine va_get (D := D) (ci := 1) (v := .ref (X 8)) (C := RX1) (T := TX1) (N := 4) hx hb hts i1 hown hK hP 1 rfl rfl 1 (by decide) fl_15 (fun _ h9 => h9) rfl dX1_placeGroup_13 ?_
  refine lv_iload_n hx hb dX1_placeGroup_16 rfl (lv_at hl 3 rfl) ?_
  refine lv_aload_n hx hb dX1_placeGroup_17 rfl (lv_at hl 1 rfl) ?_
  refine va_get (D := D) (ci := 1) (v := .ref (X 8)) (C := RX1) (T := TX1) (N := 4) hx hb hts i1 hown hK hP 1 rfl rfl 1 (by decide) fl_15 (fun _ h9 => h9) rfl dX1_placeGroup_18 ?_
  refine lv_iload_n hx hb dX1_placeGroup_21 rfl (lv_at hl 3 rfl) ?_
  refine z_iald (D := D) (j := ii) (f := S 8) hx hb hK hP 8 0 rfl rfl (by omega) (by decide) dX1_placeGroup_22 ?_
  refine lv_iload_n hx hb dX1_placeGroup_23 rfl (lv_at hl 2 rfl) ?_
  refine lv_iload_n hx hb dX1_placeGroup_24 rfl (lv_at hl 4 rfl) ?_
  refine z_callR (W.runS (As := [.int (S 8 ii), .int (nI gi), .int (bi b0)]) (rest := [.int (nI ii), .ref (X 8)]) ⟨hx, hb, hml, hown, hts⟩ (kX1_changed l (S 8 ii) (nI gi) b0) (va_cwS 3 hts gX1_placeGroup_X1_changed rfl rfl rfl (by decide +kernel) ⟨Nat.le_of_ble_eq_true rfl, Nat.le_of_ble_eq_true rfl⟩) zP_pre rfl rfl hl.1 rfl (lv_room (Nat.le_of_ble_eq_true rfl)) dX1_placeGroup_25 ⟨Nat.zero_le _, Nat.zero_le _⟩) ?_
  refine z_iast (D := D) (j := ii) (f := S 8) hx hb hK hP hD hS 8 0 rfl rfl (by omega) (by decide) dX1_placeGroup_28 (fun H locs hP hD hS => ?_)
  have hP : va_P D vwCl (hW cI cZ X (va_up S 8 (upd (S 8) ii (c_changed (S 8 ii) (nI gi) b0))) O V) H := hP
  have hD : va_D A (hW cI cZ X (va_up S 8 (upd (S 8) ii (c_changed (S 8 ii) (nI gi) b0))) O V) := hD
  refine lv_iload hx hb dX1_placeGroup_29 (lv_at hl 0 rfl) ?_
  exact z_wzret hx hb hr hlocks hP hK hD hS rfl dX1_placeGroup_31

set_option maxHeartbeats 4000000 in
set_option maxRecDepth 100000 in
theorem kX1_giveRole (l : Launch) (D : va_G) (cI cZ : ClassId) (X : Nat → Nat) (S : Nat → Nat → Int32) (O : Nat → Bool) (V : Nat → Int32) (sz : Nat) (gi : Nat) (ri : Nat) (x0 : Int32) (hgi : gi < 8) (hri : ri < 6) : Met l yX1_giveRole wsX1_giveRole ({ frames := 2, cells := 0, slots := 0, locals := 43 } : Room) (zW D (tyl cI cZ) (hW cI cZ X S O V) sz [.ref (X 1), .int (nI gi), .int (nI ri), .int x0]) (zQi D (tyl cI cZ) (hW cI cZ X (va_up (va_up S 9 (upd (S 9) ri (c_changed (S 9 ri) (nI gi) (decide (x0 = 1))))) 10 (upd (S 10) ri (c_changed (S 10 ri) (nI gi) (decide (x0 = 2))))) O V) (c_roleOf S gi ri) (va_A (hW cI cZ X S O V) sz)) 0 0 (va_A (hW cI cZ X S O V) sz) := by
  refine Met.ofW (cc := cX1_giveRole) (maxL := 5) (ret := (some .int)) (by decide) rfl ?_
  intro p e s m args below meth c s₁ B hml hv
  obtain ⟨rfl, hsz, hP, hK, hD0⟩ := hv
  have hx := B.exec
  have hb := B.bytes
  have hr := B.returns
  have hts := atoms_spec (ws := wsX1_giveRole) B.pre
  have hown : s.vm.findClass RX1 = some m.cls := findClass_of_methodNamed B.named
  have hlocks := B.notSynchronized
  subst hsz
  have hD := hD0.self (sz := s.heap.size)
  generalize hAe : va_A (hW cI cZ X S O V) s.heap.size = A at hD ⊢
  have hA : ∀ q : Nat, s.heap.size ≤ q → A q := fun q h => by rw [← hAe]; exact Or.inr h
  have hS : va_S A s.heap s.heap [] := va_S.rf
  have i1 : ∀ w ∈ u_ws RX1 TX1 4, w ∈ wsX1_giveRole := by decide +kernel
  have fl_18 := hts (.fieldLink RX1 18 "SignOnHouse$Groups" "grantedOfRole" "[I") (by decide +kernel)
  have fl_21 := hts (.fieldLink RX1 21 "SignOnHouse$Groups" "deniedOfRole" "[I") (by decide +kernel)
  have hl := lv_entry ([.ref (X 1), .int (nI gi), .int (nI ri), .int x0]) (n := 5) (Nat.le_of_ble_eq_true rfl)
  rw [lg_entry_eq]
  generalize (lg_sl ([.ref (X 1), .int (nI gi), .int (nI ri), .int x0]) ++ List.replicate (5 - (lg_sl ([.ref (X 1), .int (nI gi), .int (nI ri), .int x0])).length) Slot.unset).toArray = ls at hl ⊢
  have hl : lv_has ls 5 [(0, .ref (X 1)), (1, .int (nI gi)), (2, .int (nI ri)), (3, .int x0)] := hl
  refine lv_aload_n hx hb dX1_giveRole_0 rfl (lv_at hl 0 rfl) ?_
  refine lv_iload_n hx hb dX1_giveRole_1 rfl (lv_at hl 1 rfl) ?_
  refine lv_iload_n hx hb dX1_giveRole_2 rfl (lv_at hl 2 rfl) ?_
  refine z_callR (W.runV (As := [.int (nI gi), .int (nI ri)]) (rest := []) ⟨hx, hb, hml, hown, hts⟩ (kX1_roleOf l D cI cZ X S O V gi ri (by omega) (by omega)) (cwV 2 hts gX1_giveRole_X1_roleOf rfl rfl rfl (by decide +kernel) ⟨Nat.le_of_ble_eq_true rfl, Nat.le_of_ble_eq_true rfl⟩) (zR_preV 1 1 hK hP rfl rfl) rfl rfl hl.1 rfl (lv_room (Nat.le_of_ble_eq_true rfl)) dX1_giveRole_3 ⟨Nat.zero_le _, Nat.zero_le _⟩) ?_
  refine lv_istore (lv' := [(4, .int (c_roleOf S gi ri)), (0, .ref (X 1)), (1, .int (nI gi)), (2, .int (nI ri)), (3, .int x0)]) hx hb dX1_giveRole_6 hl (by decide) rfl (fun ls hl => ?_)
  refine lv_aload_n hx hb dX1_giveRole_8 rfl (lv_at hl 1 rfl) ?_
  refine va_get (D := D) (ci := 1) (v := .ref (X 9)) (C := RX1) (T := TX1) (N := 4) hx hb hts i1 hown hK hP 1 rfl rfl 2 (by decide) fl_18 (fun _ h9 => h9) rfl dX1_giveRole_9 ?_
  refine lv_iload_n hx hb dX1_giveRole_12 rfl (lv_at hl 3 rfl) ?_
  refine lv_aload_n hx hb dX1_giveRole_13 rfl (lv_at hl 1 rfl) ?_
  refine va_get (D := D) (ci := 1) (v := .ref (X 9)) (C := RX1) (T := TX1) (N := 4) hx hb hts i1 hown hK hP 1 rfl rfl 2 (by decide) fl_18 (fun _ h9 => h9) rfl dX1_giveRole_14 ?_
  refine lv_iload_n hx hb dX1_giveRole_17 rfl (lv_at hl 3 rfl) ?_
  refine z_iald (D := D) (j := ri) (f := S 9) hx hb hK hP 9 0 rfl rfl (by omega) (by decide) dX1_giveRole_18 ?_
  refine lv_iload_n hx hb dX1_giveRole_19 rfl (lv_at hl 2 rfl) ?_
  refine lv_iload_n hx hb dX1_giveRole_20 rfl (lv_at hl 4 rfl) ?_
  refine lv_iconst (v := 1) hx hb dX1_giveRole_21 rfl ?_
  refine z_sel_icmp_ne hx hb dX1_giveRole_22 dX1_giveRole_25 dX1_giveRole_26 dX1_giveRole_29 ?_
  refine z_callR (W.runS (As := [.int (S 9 ri), .int (nI gi), .int (bi (decide (x0 = 1)))]) (rest := [.int (nI ri), .ref (X 9)]) ⟨hx, hb, hml, hown, hts⟩ (kX1_changed l (S 9 ri) (nI gi) (decide (x0 = 1))) (va_cwS 3 hts gX1_giveRole_X1_changed rfl rfl rfl (by decide +kernel) ⟨Nat.le_of_ble_eq_true rfl, Nat.le_of_ble_eq_true rfl⟩) zP_pre rfl rfl hl.1 rfl (lv_room (Nat.le_of_ble_eq_true rfl)) dX1_giveRole_30 ⟨Nat.zero_le _, Nat.zero_le _⟩) ?_
  refine z_iast (D := D) (j := ri) (f := S 9) hx hb hK hP hD hS 9 0 rfl rfl (by omega) (by decide) dX1_giveRole_33 (fun H locs hP hD hS => ?_)
  have hP : va_P D vwCl (hW cI cZ X (va_up S 9 (upd (S 9) ri (c_changed (S 9 ri) (nI gi) (decide (x0 = 1))))) O V) H := hP
  have hD : va_D A (hW cI cZ X (va_up S 9 (upd (S 9) ri (c_changed (S 9 ri) (nI gi) (decide (x0 = 1))))) O V) := hD
  refine lv_aload_n hx hb dX1_giveRole_34 rfl (lv_at hl 1 rfl) ?_
  refine va_get (D := D) (ci := 1) (v := .ref (X 10)) (C := RX1) (T := TX1) (N := 4) hx hb hts i1 hown hK hP 1 rfl rfl 3 (by decide) fl_21 (fun _ h9 => h9) rfl dX1_giveRole_35 ?_
  refine lv_iload_n hx hb dX1_giveRole_38 rfl (lv_at hl 3 rfl) ?_
  refine lv_aload_n hx hb dX1_giveRole_39 rfl (lv_at hl 1 rfl) ?_
  refine va_get (D := D) (ci := 1) (v := .ref (X 10)) (C := RX1) (T := TX1) (N := 4) hx hb hts i1 hown hK hP 1 rfl rfl 3 (by decide) fl_21 (fun _ h9 => h9) rfl dX1_giveRole_40 ?_
  refine lv_iload_n hx hb dX1_giveRole_43 rfl (lv_at hl 3 rfl) ?_
  refine z_iald (D := D) (j := ri) (f := S 10) hx hb hK hP 10 0 rfl rfl (by omega) (by decide) dX1_giveRole_44 ?_
  refine lv_iload_n hx hb dX1_giveRole_45 rfl (lv_at hl 2 rfl) ?_
  refine lv_iload_n hx hb dX1_giveRole_46 rfl (lv_at hl 4 rfl) ?_
  refine lv_iconst (v := 2) hx hb dX1_giveRole_47 rfl ?_
  refine z_sel_icmp_ne hx hb dX1_giveRole_48 dX1_giveRole_51 dX1_giveRole_52 dX1_giveRole_55 ?_
  refine z_callR (W.runS (As := [.int (S 10 ri), .int (nI gi), .int (bi (decide (x0 = 2)))]) (rest := [.int (nI ri), .ref (X 10)]) ⟨hx, hb, hml, hown, hts⟩ (kX1_changed l (S 10 ri) (nI gi) (decide (x0 = 2))) (va_cwS 3 hts gX1_giveRole_X1_changed rfl rfl rfl (by decide +kernel) ⟨Nat.le_of_ble_eq_true rfl, Nat.le_of_ble_eq_true rfl⟩) zP_pre rfl rfl hl.1 rfl (lv_room (Nat.le_of_ble_eq_true rfl)) dX1_giveRole_56 ⟨Nat.zero_le _, Nat.zero_le _⟩) ?_
  refine z_iast (D := D) (j := ri) (f := S 10) hx hb hK hP hD hS 10 0 rfl rfl (by omega) (by decide) dX1_giveRole_59 (fun H locs hP hD hS => ?_)
  have hP : va_P D vwCl (hW cI cZ X (va_up (va_up S 9 (upd (S 9) ri (c_changed (S 9 ri) (nI gi) (decide (x0 = 1))))) 10 (upd (S 10) ri (c_changed (S 10 ri) (nI gi) (decide (x0 = 2))))) O V) H := hP
  have hD : va_D A (hW cI cZ X (va_up (va_up S 9 (upd (S 9) ri (c_changed (S 9 ri) (nI gi) (decide (x0 = 1))))) 10 (upd (S 10) ri (c_changed (S 10 ri) (nI gi) (decide (x0 = 2))))) O V) := hD
  refine lv_iload hx hb dX1_giveRole_60 (lv_at hl 0 rfl) ?_
  exact z_wret hx hb hr hlocks hP hK hD hS rfl dX1_giveRole_62
end
section
set_option maxHeartbeats 4000000 in
set_option maxRecDepth 100000 in
theorem kX2_signing (l : Launch) (D : va_G) (cI cZ : ClassId) (X : Nat → Nat) (S : Nat → Nat → Int32) (O : Nat → Bool) (V : Nat → Int32)  : Met l yX2_signing wsX2_signing ({ frames := 0, cells := 0, slots := 0, locals := 0 } : Room) (zR D (tyl cI cZ) (hW cI cZ X S O V) [.ref (X 3)]) (QcRead (V 2)) 0 0 (fun _ => False) := by
  refine Met.ofW (cc := cX2_signing) (maxL := 1) (ret := (some .int)) (by decide) rfl ?_
  intro p e s m args below meth c s₁ B hml hv
  obtain ⟨rfl, hP, hK⟩ := hv
  have hx := B.exec
  have hb := B.bytes
  have hr := B.returns
  have hts := atoms_spec (ws := wsX2_signing) B.pre
  have hown : s.vm.findClass RX2 = some m.cls := findClass_of_methodNamed B.named
  have hlocks := B.notSynchronized
  have i2 : ∀ w ∈ u_ws RX2 TX2 2, w ∈ wsX2_signing := by decide +kernel
  have fl_7 := hts (.fieldLink RX2 7 "SignOnHouse$Keys" "signing" "I") (by decide +kernel)
  have hl := lv_entry ([.ref (X 3)]) (n := 1) (Nat.le_of_ble_eq_true rfl)
  rw [lg_entry_eq]
  generalize (lg_sl ([.ref (X 3)]) ++ List.replicate (1 - (lg_sl ([.ref (X 3)])).length) Slot.unset).toArray = ls at hl ⊢
  have hl : lv_has ls 1 [(0, .ref (X 3))] := hl
  refine lv_aload_n hx hb dX2_signing_0 rfl (lv_at hl 0 rfl) ?_
  refine va_get (D := D) (ci := 2) (v := .int (V 2)) (C := RX2) (T := TX2) (N := 2) hx hb hts i2 hown hK hP 3 rfl rfl 0 (by decide) fl_7 (fun _ h9 => h9) rfl dX2_signing_1 ?_
  exact z_ret hx hb hr hlocks rfl dX2_signing_4

set_option maxHeartbeats 4000000 in
set_option maxRecDepth 100000 in
theorem kX2_signWithNext (l : Launch) (D : va_G) (cI cZ : ClassId) (X : Nat → Nat) (S : Nat → Nat → Int32) (O : Nat → Bool) (V : Nat → Int32) (sz : Nat) (x0 : Int32) : Met l yX2_signWithNext wsX2_signWithNext ({ frames := 0, cells := 0, slots := 0, locals := 0 } : Room) (zW D (tyl cI cZ) (hW cI cZ X S O V) sz [.ref (X 3), .int x0]) (zQv D (tyl cI cZ) (hW cI cZ X S O (va_up (va_up V 2 (V 2 + 1)) 3 x0)) (va_A (hW cI cZ X S O V) sz)) 0 0 (va_A (hW cI cZ X S O V) sz) := by
  refine Met.ofW (cc := cX2_signWithNext) (maxL := 2) (ret := none) (by decide) rfl ?_
  intro p e s m args below meth c s₁ B hml hv
  obtain ⟨rfl, hsz, hP, hK, hD0⟩ := hv
  have hx := B.exec
  have hb := B.bytes
  have hr := B.returns
  have hts := atoms_spec (ws := wsX2_signWithNext) B.pre
  have hown : s.vm.findClass RX2 = some m.cls := findClass_of_methodNamed B.named
  have hlocks := B.notSynchronized
  subst hsz
  have hD := hD0.self (sz := s.heap.size)
  generalize hAe : va_A (hW cI cZ X S O V) s.heap.size = A at hD ⊢
  have hA : ∀ q : Nat, s.heap.size ≤ q → A q := fun q h => by rw [← hAe]; exact Or.inr h
  have hS : va_S A s.heap s.heap [] := va_S.rf
  have i2 : ∀ w ∈ u_ws RX2 TX2 2, w ∈ wsX2_signWithNext := by decide +kernel
  have fl_7 := hts (.fieldLink RX2 7 "SignOnHouse$Keys" "signing" "I") (by decide +kernel)
  have fl_13 := hts (.fieldLink RX2 13 "SignOnHouse$Keys" "endOfBefore" "I") (by decide +kernel)
  have hl := lv_entry ([.ref (X 3), .int x0]) (n := 2) (Nat.le_of_ble_eq_true rfl)
  rw [lg_entry_eq]
  generalize (lg_sl ([.ref (X 3), .int x0]) ++ List.replicate (2 - (lg_sl ([.ref (X 3), .int x0])).length) Slot.unset).toArray = ls at hl ⊢
  have hl : lv_has ls 2 [(0, .ref (X 3)), (1, .int x0)] := hl
  refine lv_aload_n hx hb dX2_signWithNext_0 rfl (lv_at hl 0 rfl) ?_
  refine lv_dup hx hb dX2_signWithNext_1 rfl ?_
  refine va_get (D := D) (ci := 2) (v := .int (V 2)) (C := RX2) (T := TX2) (N := 2) hx hb hts i2 hown hK hP 3 rfl rfl 0 (by decide) fl_7 (fun _ h9 => h9) rfl dX2_signWithNext_2 ?_
  refine lv_iconst (v := 1) hx hb dX2_signWithNext_5 rfl ?_
  refine lv_iadd hx hb dX2_signWithNext_6 ?_
  refine va_put (D := D) (ci := 2) (v := .int ((V 2) + 1)) (ty := .int) (C := RX2) (T := TX2) (N := 2) hx hb hts i2 tyX2 tyX2_ok nmX2 hown hK hP hD hS 3 rfl rfl 0 (by decide) fl_7 (fun _ h9 => h9) rfl (by decide +kernel) rfl rfl (Nat.le_of_ble_eq_true rfl) dX2_signWithNext_7 (fun H locs hP hD hS => ?_)
  have hP : va_P D vwCl (hW cI cZ X S O (va_up V 2 ((V 2) + 1))) H := hP
  have hD : va_D A (hW cI cZ X S O (va_up V 2 ((V 2) + 1))) := hD
  refine lv_aload_n hx hb dX2_signWithNext_10 rfl (lv_at hl 0 rfl) ?_
  refine lv_iload_n hx hb dX2_signWithNext_11 rfl (lv_at hl 1 rfl) ?_
  refine va_put (D := D) (ci := 2) (v := .int x0) (ty := .int) (C := RX2) (T := TX2) (N := 2) hx hb hts i2 tyX2 tyX2_ok nmX2 hown hK hP hD hS 3 rfl rfl 1 (by decide) fl_13 (fun _ h9 => h9) rfl (by decide +kernel) rfl rfl (Nat.le_of_ble_eq_true rfl) dX2_signWithNext_12 (fun H locs hP hD hS => ?_)
  have hP : va_P D vwCl (hW cI cZ X S O (va_up (va_up V 2 ((V 2) + 1)) 3 x0)) H := hP
  have hD : va_D A (hW cI cZ X S O (va_up (va_up V 2 ((V 2) + 1)) 3 x0)) := hD
  have eV : va_up (va_up V 2 (V 2 + 1)) 3 x0 = va_up (va_up V 2 ((V 2) + 1)) 3 x0 := by rfl
  exact z_wvret hx hb hr hlocks (by rw [eV]; exact hP) hK (by rw [eV]; exact hD) hS dX2_signWithNext_15

set_option maxHeartbeats 4000000 in
set_option maxRecDepth 100000 in
theorem kX2_takes (l : Launch) (D : va_G) (cI cZ : ClassId) (X : Nat → Nat) (S : Nat → Nat → Int32) (O : Nat → Bool) (V : Nat → Int32) (x0 : Int32) (x1 : Int32) : Met l yX2_takes wsX2_takes ({ frames := 0, cells := 0, slots := 0, locals := 0 } : Room) (zR D (tyl cI cZ) (hW cI cZ X S O V) [.ref (X 3), .int x0, .int x1]) (QcRead (bi (c_takes V x0 x1))) 0 0 (fun _ => False) := by
  refine Met.ofW (cc := cX2_takes) (maxL := 3) (ret := (some .boolean)) (by decide) rfl ?_
  intro p e s m args below meth c s₁ B hml hv
  obtain ⟨rfl, hP, hK⟩ := hv
  have hx := B.exec
  have hb := B.bytes
  have hr := B.returns
  have hts := atoms_spec (ws := wsX2_takes) B.pre
  have hown : s.vm.findClass RX2 = some m.cls := findClass_of_methodNamed B.named
  have hlocks := B.notSynchronized
  have i2 : ∀ w ∈ u_ws RX2 TX2 2, w ∈ wsX2_takes := by decide +kernel
  have fl_7 := hts (.fieldLink RX2 7 "SignOnHouse$Keys" "signing" "I") (by decide +kernel)
  have fl_13 := hts (.fieldLink RX2 13 "SignOnHouse$Keys" "endOfBefore" "I") (by decide +kernel)
  have hl := lv_entry ([.ref (X 3), .int x0, .int x1]) (n := 3) (Nat.le_of_ble_eq_true rfl)
  rw [lg_entry_eq]
  generalize (lg_sl ([.ref (X 3), .int x0, .int x1]) ++ List.replicate (3 - (lg_sl ([.ref (X 3), .int x0, .int x1])).length) Slot.unset).toArray = ls at hl ⊢
  have hl : lv_has ls 3 [(0, .ref (X 3)), (1, .int x0), (2, .int x1)] := hl
  refine lv_iload_n hx hb dX2_takes_0 rfl (lv_at hl 1 rfl) ?_
  refine lv_aload_n hx hb dX2_takes_1 rfl (lv_at hl 0 rfl) ?_
  refine va_get (D := D) (ci := 2) (v := .int (V 2)) (C := RX2) (T := TX2) (N := 2) hx hb hts i2 hown hK hP 3 rfl rfl 0 (by decide) fl_7 (fun _ h9 => h9) rfl dX2_takes_2 ?_
  refine lv_icmp_eq (tgt := 26) hx hb dX2_takes_5 (by decide) (fun c_5 => ?_) (fun c_5 => ?_)
  · refine lv_iconst (v := 1) hx hb dX2_takes_26 rfl ?_
    refine lv_goto (tgt := 31) hx hb dX2_takes_27 (by decide) ?_
    exact z_zret hx hb hr hlocks (by simp [c_takes, bi, (eq_true c_5)]) dX2_takes_31
  · refine lv_iload_n hx hb dX2_takes_8 rfl (lv_at hl 1 rfl) ?_
    refine lv_aload_n hx hb dX2_takes_9 rfl (lv_at hl 0 rfl) ?_
    refine va_get (D := D) (ci := 2) (v := .int (V 2)) (C := RX2) (T := TX2) (N := 2) hx hb hts i2 hown hK hP 3 rfl rfl 0 (by decide) fl_7 (fun _ h9 => h9) rfl dX2_takes_10 ?_
    refine lv_iconst (v := 1) hx hb dX2_takes_13 rfl ?_
    refine lv_isub hx hb dX2_takes_14 ?_
    refine lv_icmp_ne (tgt := 30) hx hb dX2_takes_15 (by decide) (fun c_15 => ?_) (fun c_15 => ?_)
    · refine lv_iconst (v := 0) hx hb dX2_takes_30 rfl ?_
      exact z_zret hx hb hr hlocks (by simp [c_takes, bi, c_5, c_15]) dX2_takes_31
    · refine lv_iload_n hx hb dX2_takes_18 rfl (lv_at hl 2 rfl) ?_
      refine lv_aload_n hx hb dX2_takes_19 rfl (lv_at hl 0 rfl) ?_
      refine va_get (D := D) (ci := 2) (v := .int (V 3)) (C := RX2) (T := TX2) (N := 2) hx hb hts i2 hown hK hP 3 rfl rfl 1 (by decide) fl_13 (fun _ h9 => h9) rfl dX2_takes_20 ?_
      refine z_sel_icmp_ge hx hb dX2_takes_23 dX2_takes_26 dX2_takes_27 dX2_takes_30 ?_
      exact z_zret hx hb hr hlocks (by simp [c_takes, bi, c_5, (eq_true c_15)]) dX2_takes_31

set_option maxHeartbeats 4000000 in
set_option maxRecDepth 100000 in
theorem kX3_areAllOpened (l : Launch) (D : va_G) (cI cZ : ClassId) (X : Nat → Nat) (S : Nat → Nat → Int32) (O : Nat → Bool) (V : Nat → Int32)  : Met l yX3_areAllOpened wsX3_areAllOpened ({ frames := 0, cells := 0, slots := 0, locals := 0 } : Room) (zR D (tyl cI cZ) (hW cI cZ X S O V) [.ref (X 2)]) (QcRead (bi (!decide (V 1 < 30)))) 0 0 (fun _ => False) := by
  refine Met.ofW (cc := cX3_areAllOpened) (maxL := 1) (ret := (some .boolean)) (by decide) rfl ?_
  intro p e s m args below meth c s₁ B hml hv
  obtain ⟨rfl, hP, hK⟩ := hv
  have hx := B.exec
  have hb := B.bytes
  have hr := B.returns
  have hts := atoms_spec (ws := wsX3_areAllOpened) B.pre
  have hown : s.vm.findClass RX3 = some m.cls := findClass_of_methodNamed B.named
  have hlocks := B.notSynchronized
  have i3 : ∀ w ∈ u_ws RX3 TX3 6, w ∈ wsX3_areAllOpened := by decide +kernel
  have fl_26 := hts (.fieldLink RX3 26 "SignOnHouse$Sessions" "count" "I") (by decide +kernel)
  have hl := lv_entry ([.ref (X 2)]) (n := 1) (Nat.le_of_ble_eq_true rfl)
  rw [lg_entry_eq]
  generalize (lg_sl ([.ref (X 2)]) ++ List.replicate (1 - (lg_sl ([.ref (X 2)])).length) Slot.unset).toArray = ls at hl ⊢
  have hl : lv_has ls 1 [(0, .ref (X 2))] := hl
  refine lv_aload_n hx hb dX3_areAllOpened_0 rfl (lv_at hl 0 rfl) ?_
  refine va_get (D := D) (ci := 3) (v := .int (V 1)) (C := RX3) (T := TX3) (N := 6) hx hb hts i3 hown hK hP 2 rfl rfl 5 (by decide) fl_26 (fun _ h9 => h9) rfl dX3_areAllOpened_1 ?_
  refine lv_bipush (v := 30) hx hb dX3_areAllOpened_4 (by decide) ?_
  refine z_sel_icmp_lt hx hb dX3_areAllOpened_6 dX3_areAllOpened_9 dX3_areAllOpened_10 dX3_areAllOpened_13 ?_
  exact z_zret hx hb hr hlocks rfl dX3_areAllOpened_14

set_option maxHeartbeats 4000000 in
set_option maxRecDepth 100000 in
theorem kX3_has (l : Launch) (D : va_G) (cI cZ : ClassId) (X : Nat → Nat) (S : Nat → Nat → Int32) (O : Nat → Bool) (V : Nat → Int32) (x0 : Int32) : Met l yX3_has wsX3_has ({ frames := 0, cells := 0, slots := 0, locals := 0 } : Room) (zR D (tyl cI cZ) (hW cI cZ X S O V) [.ref (X 2), .int x0]) (QcRead (bi (c_has V x0))) 0 0 (fun _ => False) := by
  refine Met.ofW (cc := cX3_has) (maxL := 2) (ret := (some .boolean)) (by decide) rfl ?_
  intro p e s m args below meth c s₁ B hml hv
  obtain ⟨rfl, hP, hK⟩ := hv
  have hx := B.exec
  have hb := B.bytes
  have hr := B.returns
  have hts := atoms_spec (ws := wsX3_has) B.pre
  have hown : s.vm.findClass RX3 = some m.cls := findClass_of_methodNamed B.named
  have hlocks := B.notSynchronized
  have i3 : ∀ w ∈ u_ws RX3 TX3 6, w ∈ wsX3_has := by decide +kernel
  have fl_26 := hts (.fieldLink RX3 26 "SignOnHouse$Sessions" "count" "I") (by decide +kernel)
  have hl := lv_entry ([.ref (X 2), .int x0]) (n := 2) (Nat.le_of_ble_eq_true rfl)
  rw [lg_entry_eq]
  generalize (lg_sl ([.ref (X 2), .int x0]) ++ List.replicate (2 - (lg_sl ([.ref (X 2), .int x0])).length) Slot.unset).toArray = ls at hl ⊢
  have hl : lv_has ls 2 [(0, .ref (X 2)), (1, .int x0)] := hl
  refine lv_iload_n hx hb dX3_has_0 rfl (lv_at hl 1 rfl) ?_
  refine lv_if_lt (tgt := 16) hx hb dX3_has_1 (by decide) (fun c_1 => ?_) (fun c_1 => ?_)
  · refine lv_iconst (v := 0) hx hb dX3_has_16 rfl ?_
    exact z_zret hx hb hr hlocks (by simp [c_has, bi, c_1]) dX3_has_17
  · refine lv_iload_n hx hb dX3_has_4 rfl (lv_at hl 1 rfl) ?_
    refine lv_aload_n hx hb dX3_has_5 rfl (lv_at hl 0 rfl) ?_
    refine va_get (D := D) (ci := 3) (v := .int (V 1)) (C := RX3) (T := TX3) (N := 6) hx hb hts i3 hown hK hP 2 rfl rfl 5 (by decide) fl_26 (fun _ h9 => h9) rfl dX3_has_6 ?_
    refine z_sel_icmp_ge hx hb dX3_has_9 dX3_has_12 dX3_has_13 dX3_has_16 ?_
    exact z_zret hx hb hr hlocks (by simp [c_has, bi, c_1]) dX3_has_17

set_option maxHeartbeats 4000000 in
set_option maxRecDepth 100000 in
theorem kX3_add (l : Launch) (D : va_G) (cI cZ : ClassId) (X : Nat → Nat) (S : Nat → Nat → Int32) (O : Nat → Bool) (V : Nat → Int32) (sz : Nat) (x0 : Int32) (x1 : Int32) (x2 : Int32) (n0 : Nat) (hn0 : n0 < 30) (hct : V 1 = nI n0) : Met l yX3_add wsX3_add ({ frames := 0, cells := 0, slots := 0, locals := 0 } : Room) (zW D (tyl cI cZ) (hW cI cZ X S O V) sz [.ref (X 2), .int x0, .int x1, .int x2]) (zQi D (tyl cI cZ) (hW cI cZ X (va_up (va_up (va_up (va_up S 11 (upd (S 11) n0 x0)) 12 (upd (S 12) n0 x1)) 13 (upd (S 13) n0 x2)) 14 (upd (S 14) n0 x2)) O (va_up V 1 (V 1 + 1))) (nI n0) (va_A (hW cI cZ X S O V) sz)) 0 0 (va_A (hW cI cZ X S O V) sz) := by
  refine Met.ofW (cc := cX3_add) (maxL := 5) (ret := (some .int)) (by decide) rfl ?_
  intro p e s m args below meth c s₁ B hml hv
  obtain ⟨rfl, hsz, hP, hK, hD0⟩ := hv
  have hx := B.exec
  have hb := B.bytes
  have hr := B.returns
  have hts := atoms_spec (ws := wsX3_add) B.pre
  have hown : s.vm.findClass RX3 = some m.cls := findClass_of_methodNamed B.named
  have hlocks := B.notSynchronized
  subst hsz
  have hD := hD0.self (sz := s.heap.size)
  generalize hAe : va_A (hW cI cZ X S O V) s.heap.size = A at hD ⊢
  have hA : ∀ q : Nat, s.heap.size ≤ q → A q := fun q h => by rw [← hAe]; exact Or.inr h
  have hS : va_S A s.heap s.heap [] := va_S.rf
  have i3 : ∀ w ∈ u_ws RX3 TX3 6, w ∈ wsX3_add := by decide +kernel
  have fl_9 := hts (.fieldLink RX3 9 "SignOnHouse$Sessions" "people" "[I") (by decide +kernel)
  have fl_13 := hts (.fieldLink RX3 13 "SignOnHouse$Sessions" "signedWith" "[I") (by decide +kernel)
  have fl_16 := hts (.fieldLink RX3 16 "SignOnHouse$Sessions" "openedAt" "[I") (by decide +kernel)
  have fl_19 := hts (.fieldLink RX3 19 "SignOnHouse$Sessions" "usedAt" "[I") (by decide +kernel)
  have fl_26 := hts (.fieldLink RX3 26 "SignOnHouse$Sessions" "count" "I") (by decide +kernel)
  have hl := lv_entry ([.ref (X 2), .int x0, .int x1, .int x2]) (n := 5) (Nat.le_of_ble_eq_true rfl)
  rw [lg_entry_eq]
  generalize (lg_sl ([.ref (X 2), .int x0, .int x1, .int x2]) ++ List.replicate (5 - (lg_sl ([.ref (X 2), .int x0, .int x1, .int x2])).length) Slot.unset).toArray = ls at hl ⊢
  have hl : lv_has ls 5 [(0, .ref (X 2)), (1, .int x0), (2, .int x1), (3, .int x2)] := hl
  refine lv_aload_n hx hb dX3_add_0 rfl (lv_at hl 0 rfl) ?_
  refine va_get (D := D) (ci := 3) (v := .int (V 1)) (C := RX3) (T := TX3) (N := 6) hx hb hts i3 hown hK hP 2 rfl rfl 5 (by decide) fl_26 (fun _ h9 => h9) rfl dX3_add_1 ?_
  refine z_top (nI n0) hct ?_
  refine lv_istore (lv' := [(4, .int (nI n0)), (0, .ref (X 2)), (1, .int x0), (2, .int x1), (3, .int x2)]) hx hb dX3_add_4 hl (by decide) rfl (fun ls hl => ?_)
  refine lv_aload_n hx hb dX3_add_6 rfl (lv_at hl 1 rfl) ?_
  refine va_get (D := D) (ci := 3) (v := .ref (X 11)) (C := RX3) (T := TX3) (N := 6) hx hb hts i3 hown hK hP 2 rfl rfl 0 (by decide) fl_9 (fun _ h9 => h9) rfl dX3_add_7 ?_
  refine lv_iload hx hb dX3_add_10 (lv_at hl 0 rfl) ?_
  refine lv_iload_n hx hb dX3_add_12 rfl (lv_at hl 2 rfl) ?_
  refine z_iast (D := D) (j := n0) (f := S 11) hx hb hK hP hD hS 11 0 rfl rfl (by omega) (by decide) dX3_add_13 (fun H locs hP hD hS => ?_)
  have hP : va_P D vwCl (hW cI cZ X (va_up S 11 (upd (S 11) n0 x0)) O V) H := hP
  have hD : va_D A (hW cI cZ X (va_up S 11 (upd (S 11) n0 x0)) O V) := hD
  refine lv_aload_n hx hb dX3_add_14 rfl (lv_at hl 1 rfl) ?_
  refine va_get (D := D) (ci := 3) (v := .ref (X 12)) (C := RX3) (T := TX3) (N := 6) hx hb hts i3 hown hK hP 2 rfl rfl 1 (by decide) fl_13 (fun _ h9 => h9) rfl dX3_add_15 ?_
  refine lv_iload hx hb dX3_add_18 (lv_at hl 0 rfl) ?_
  refine lv_iload_n hx hb dX3_add_20 rfl (lv_at hl 3 rfl) ?_
  refine z_iast (D := D) (j := n0) (f := S 12) hx hb hK hP hD hS 12 0 rfl rfl (by omega) (by decide) dX3_add_21 (fun H locs hP hD hS => ?_)
  have hP : va_P D vwCl (hW cI cZ X (va_up (va_up S 11 (upd (S 11) n0 x0)) 12 (upd (S 12) n0 x1)) O V) H := hP
  have hD : va_D A (hW cI cZ X (va_up (va_up S 11 (upd (S 11) n0 x0)) 12 (upd (S 12) n0 x1)) O V) := hD
  refine lv_aload_n hx hb dX3_add_22 rfl (lv_at hl 1 rfl) ?_
  refine va_get (D := D) (ci := 3) (v := .ref (X 13)) (C := RX3) (T := TX3) (N := 6) hx hb hts i3 hown hK hP 2 rfl rfl 2 (by decide) fl_16 (fun _ h9 => h9) rfl dX3_add_23 ?_
  refine lv_iload hx hb dX3_add_26 (lv_at hl 0 rfl) ?_
  refine lv_iload_n hx hb dX3_add_28 rfl (lv_at hl 4 rfl) ?_
  refine z_iast (D := D) (j := n0) (f := S 13) hx hb hK hP hD hS 13 0 rfl rfl (by omega) (by decide) dX3_add_29 (fun H locs hP hD hS => ?_)
  have hP : va_P D vwCl (hW cI cZ X (va_up (va_up (va_up S 11 (upd (S 11) n0 x0)) 12 (upd (S 12) n0 x1)) 13 (upd (S 13) n0 x2)) O V) H := hP
  have hD : va_D A (hW cI cZ X (va_up (va_up (va_up S 11 (upd (S 11) n0 x0)) 12 (upd (S 12) n0 x1)) 13 (upd (S 13) n0 x2)) O V) := hD
  refine lv_aload_n hx hb dX3_add_30 rfl (lv_at hl 1 rfl) ?_
  refine va_get (D := D) (ci := 3) (v := .ref (X 14)) (C := RX3) (T := TX3) (N := 6) hx hb hts i3 hown hK hP 2 rfl rfl 3 (by decide) fl_19 (fun _ h9 => h9) rfl dX3_add_31 ?_
  refine lv_iload hx hb dX3_add_34 (lv_at hl 0 rfl) ?_
  refine lv_iload_n hx hb dX3_add_36 rfl (lv_at hl 4 rfl) ?_
  refine z_iast (D := D) (j := n0) (f := S 14) hx hb hK hP hD hS 14 0 rfl rfl (by omega) (by decide) dX3_add_37 (fun H locs hP hD hS => ?_)
  have hP : va_P D vwCl (hW cI cZ X (va_up (va_up (va_up (va_up S 11 (upd (S 11) n0 x0)) 12 (upd (S 12) n0 x1)) 13 (upd (S 13) n0 x2)) 14 (upd (S 14) n0 x2)) O V) H := hP
  have hD : va_D A (hW cI cZ X (va_up (va_up (va_up (va_up S 11 (upd (S 11) n0 x0)) 12 (upd (S 12) n0 x1)) 13 (upd (S 13) n0 x2)) 14 (upd (S 14) n0 x2)) O V) := hD
  refine lv_aload_n hx hb dX3_add_38 rfl (lv_at hl 1 rfl) ?_
  refine lv_dup hx hb dX3_add_39 rfl ?_
  refine va_get (D := D) (ci := 3) (v := .int (V 1)) (C := RX3) (T := TX3) (N := 6) hx hb hts i3 hown hK hP 2 rfl rfl 5 (by decide) fl_26 (fun _ h9 => h9) rfl dX3_add_40 ?_
  refine lv_iconst (v := 1) hx hb dX3_add_43 rfl ?_
  refine lv_iadd hx hb dX3_add_44 ?_
  refine va_put (D := D) (ci := 3) (v := .int ((V 1) + 1)) (ty := .int) (C := RX3) (T := TX3) (N := 6) hx hb hts i3 tyX3 tyX3_ok nmX3 hown hK hP hD hS 2 rfl rfl 5 (by decide) fl_26 (fun _ h9 => h9) rfl (by decide +kernel) rfl rfl (Nat.le_of_ble_eq_true rfl) dX3_add_45 (fun H locs hP hD hS => ?_)
  have hP : va_P D vwCl (hW cI cZ X (va_up (va_up (va_up (va_up S 11 (upd (S 11) n0 x0)) 12 (upd (S 12) n0 x1)) 13 (upd (S 13) n0 x2)) 14 (upd (S 14) n0 x2)) O (va_up V 1 ((V 1) + 1))) H := hP
  have hD : va_D A (hW cI cZ X (va_up (va_up (va_up (va_up S 11 (upd (S 11) n0 x0)) 12 (upd (S 12) n0 x1)) 13 (upd (S 13) n0 x2)) 14 (upd (S 14) n0 x2)) O (va_up V 1 ((V 1) + 1))) := hD
  refine lv_iload hx hb dX3_add_48 (lv_at hl 0 rfl) ?_
  have eV : va_up V 1 (V 1 + 1) = va_up V 1 ((V 1) + 1) := by rfl
  exact z_wret hx hb hr hlocks (by rw [eV]; exact hP) hK (by rw [eV]; exact hD) hS rfl dX3_add_50

set_option maxHeartbeats 4000000 in
set_option maxRecDepth 100000 in
theorem kX3_isOver (l : Launch) (D : va_G) (cI cZ : ClassId) (X : Nat → Nat) (S : Nat → Nat → Int32) (O : Nat → Bool) (V : Nat → Int32) (si : Nat) (hsi : si < 30) : Met l yX3_isOver wsX3_isOver ({ frames := 0, cells := 0, slots := 0, locals := 0 } : Room) (zR D (tyl cI cZ) (hW cI cZ X S O V) [.ref (X 2), .int (nI si)]) (QcRead (bi (O si))) 0 0 (fun _ => False) := by
  refine Met.ofW (cc := cX3_isOver) (maxL := 2) (ret := (some .boolean)) (by decide) rfl ?_
  intro p e s m args below meth c s₁ B hml hv
  obtain ⟨rfl, hP, hK⟩ := hv
  have hx := B.exec
  have hb := B.bytes
  have hr := B.returns
  have hts := atoms_spec (ws := wsX3_isOver) B.pre
  have hown : s.vm.findClass RX3 = some m.cls := findClass_of_methodNamed B.named
  have hlocks := B.notSynchronized
  have i3 : ∀ w ∈ u_ws RX3 TX3 6, w ∈ wsX3_isOver := by decide +kernel
  have fl_22 := hts (.fieldLink RX3 22 "SignOnHouse$Sessions" "over" "[Z") (by decide +kernel)
  have hl := lv_entry ([.ref (X 2), .int (nI si)]) (n := 2) (Nat.le_of_ble_eq_true rfl)
  rw [lg_entry_eq]
  generalize (lg_sl ([.ref (X 2), .int (nI si)]) ++ List.replicate (2 - (lg_sl ([.ref (X 2), .int (nI si)])).length) Slot.unset).toArray = ls at hl ⊢
  have hl : lv_has ls 2 [(0, .ref (X 2)), (1, .int (nI si))] := hl
  refine lv_aload_n hx hb dX3_isOver_0 rfl (lv_at hl 0 rfl) ?_
  refine va_get (D := D) (ci := 3) (v := .ref (X 15)) (C := RX3) (T := TX3) (N := 6) hx hb hts i3 hown hK hP 2 rfl rfl 4 (by decide) fl_22 (fun _ h9 => h9) rfl dX3_isOver_1 ?_
  refine lv_iload_n hx hb dX3_isOver_4 rfl (lv_at hl 1 rfl) ?_
  refine z_zald (D := D) (j := si) (g := O) hx hb hK hP 15 1 rfl rfl (by omega) (by decide) dX3_isOver_5 ?_
  exact z_zret hx hb hr hlocks rfl dX3_isOver_6

set_option maxHeartbeats 4000000 in
set_option maxRecDepth 100000 in
theorem kX3_end (l : Launch) (D : va_G) (cI cZ : ClassId) (X : Nat → Nat) (S : Nat → Nat → Int32) (O : Nat → Bool) (V : Nat → Int32) (sz : Nat) (si : Nat) (hsi : si < 30) : Met l yX3_end wsX3_end ({ frames := 0, cells := 0, slots := 0, locals := 0 } : Room) (zW D (tyl cI cZ) (hW cI cZ X S O V) sz [.ref (X 2), .int (nI si)]) (zQv D (tyl cI cZ) (hW cI cZ X S (va_up O si true) V) (va_A (hW cI cZ X S O V) sz)) 0 0 (va_A (hW cI cZ X S O V) sz) := by
  refine Met.ofW (cc := cX3_end) (maxL := 2) (ret := none) (by decide) rfl ?_
  intro p e s m args below meth c s₁ B hml hv
  obtain ⟨rfl, hsz, hP, hK, hD0⟩ := hv
  have hx := B.exec
  have hb := B.bytes
  have hr := B.returns
  have hts := atoms_spec (ws := wsX3_end) B.pre
  have hown : s.vm.findClass RX3 = some m.cls := findClass_of_methodNamed B.named
  have hlocks := B.notSynchronized
  subst hsz
  have hD := hD0.self (sz := s.heap.size)
  generalize hAe : va_A (hW cI cZ X S O V) s.heap.size = A at hD ⊢
  have hA : ∀ q : Nat, s.heap.size ≤ q → A q := fun q h => by rw [← hAe]; exact Or.inr h
  have hS : va_S A s.heap s.heap [] := va_S.rf
  have i3 : ∀ w ∈ u_ws RX3 TX3 6, w ∈ wsX3_end := by decide +kernel
  have fl_22 := hts (.fieldLink RX3 22 "SignOnHouse$Sessions" "over" "[Z") (by decide +kernel)
  have hl := lv_entry ([.ref (X 2), .int (nI si)]) (n := 2) (Nat.le_of_ble_eq_true rfl)
  rw [lg_entry_eq]
  generalize (lg_sl ([.ref (X 2), .int (nI si)]) ++ List.replicate (2 - (lg_sl ([.ref (X 2), .int (nI si)])).length) Slot.unset).toArray = ls at hl ⊢
  have hl : lv_has ls 2 [(0, .ref (X 2)), (1, .int (nI si))] := hl
  refine lv_aload_n hx hb dX3_end_0 rfl (lv_at hl 0 rfl) ?_
  refine va_get (D := D) (ci := 3) (v := .ref (X 15)) (C := RX3) (T := TX3) (N := 6) hx hb hts i3 hown hK hP 2 rfl rfl 4 (by decide) fl_22 (fun _ h9 => h9) rfl dX3_end_1 ?_
  refine lv_iload_n hx hb dX3_end_4 rfl (lv_at hl 1 rfl) ?_
  refine lv_iconst (v := 1) hx hb dX3_end_5 rfl ?_
  refine z_zast (D := D) (j := si) (b := true) (g := O) hx hb hK hP hD hS 15 1 rfl rfl (by omega) (by decide) dX3_end_6 (fun H locs hP hD hS => ?_)
  have hP : va_P D vwCl (hW cI cZ X S (va_up O si true) V) H := hP
  have hD : va_D A (hW cI cZ X S (va_up O si true) V) := hD
  exact z_wvret hx hb hr hlocks hP hK hD hS dX3_end_7

set_option maxHeartbeats 4000000 in
set_option maxRecDepth 100000 in
theorem kX3_use (l : Launch) (D : va_G) (cI cZ : ClassId) (X : Nat → Nat) (S : Nat → Nat → Int32) (O : Nat → Bool) (V : Nat → Int32) (sz : Nat) (si : Nat) (x0 : Int32) (hsi : si < 30) : Met l yX3_use wsX3_use ({ frames := 0, cells := 0, slots := 0, locals := 0 } : Room) (zW D (tyl cI cZ) (hW cI cZ X S O V) sz [.ref (X 2), .int (nI si), .int x0]) (zQv D (tyl cI cZ) (hW cI cZ X (va_up S 14 (upd (S 14) si x0)) O V) (va_A (hW cI cZ X S O V) sz)) 0 0 (va_A (hW cI cZ X S O V) sz) := by
  refine Met.ofW (cc := cX3_use) (maxL := 3) (ret := none) (by decide) rfl ?_
  intro p e s m args below meth c s₁ B hml hv
  obtain ⟨rfl, hsz, hP, hK, hD0⟩ := hv
  have hx := B.exec
  have hb := B.bytes
  have hr := B.returns
  have hts := atoms_spec (ws := wsX3_use) B.pre
  have hown : s.vm.findClass RX3 = some m.cls := findClass_of_methodNamed B.named
  have hlocks := B.notSynchronized
  subst hsz
  have hD := hD0.self (sz := s.heap.size)
  generalize hAe : va_A (hW cI cZ X S O V) s.heap.size = A at hD ⊢
  have hA : ∀ q : Nat, s.heap.size ≤ q → A q := fun q h => by rw [← hAe]; exact Or.inr h
  have hS : va_S A s.heap s.heap [] := va_S.rf
  have i3 : ∀ w ∈ u_ws RX3 TX3 6, w ∈ wsX3_use := by decide +kernel
  have fl_19 := hts (.fieldLink RX3 19 "SignOnHouse$Sessions" "usedAt" "[I") (by decide +kernel)
  have hl := lv_entry ([.ref (X 2), .int (nI si), .int x0]) (n := 3) (Nat.le_of_ble_eq_true rfl)
  rw [lg_entry_eq]
  generalize (lg_sl ([.ref (X 2), .int (nI si), .int x0]) ++ List.replicate (3 - (lg_sl ([.ref (X 2), .int (nI si), .int x0])).length) Slot.unset).toArray = ls at hl ⊢
  have hl : lv_has ls 3 [(0, .ref (X 2)), (1, .int (nI si)), (2, .int x0)] := hl
  refine lv_aload_n hx hb dX3_use_0 rfl (lv_at hl 0 rfl) ?_
  refine va_get (D := D) (ci := 3) (v := .ref (X 14)) (C := RX3) (T := TX3) (N := 6) hx hb hts i3 hown hK hP 2 rfl rfl 3 (by decide) fl_19 (fun _ h9 => h9) rfl dX3_use_1 ?_
  refine lv_iload_n hx hb dX3_use_4 rfl (lv_at hl 1 rfl) ?_
  refine lv_iload_n hx hb dX3_use_5 rfl (lv_at hl 2 rfl) ?_
  refine z_iast (D := D) (j := si) (f := S 14) hx hb hK hP hD hS 14 0 rfl rfl (by omega) (by decide) dX3_use_6 (fun H locs hP hD hS => ?_)
  have hP : va_P D vwCl (hW cI cZ X (va_up S 14 (upd (S 14) si x0)) O V) H := hP
  have hD : va_D A (hW cI cZ X (va_up S 14 (upd (S 14) si x0)) O V) := hD
  exact z_wvret hx hb hr hlocks hP hK hD hS dX3_use_7

set_option maxHeartbeats 4000000 in
set_option maxRecDepth 100000 in
theorem kX3_personOf (l : Launch) (D : va_G) (cI cZ : ClassId) (X : Nat → Nat) (S : Nat → Nat → Int32) (O : Nat → Bool) (V : Nat → Int32) (si : Nat) (hsi : si < 30) : Met l yX3_personOf wsX3_personOf ({ frames := 0, cells := 0, slots := 0, locals := 0 } : Room) (zR D (tyl cI cZ) (hW cI cZ X S O V) [.ref (X 2), .int (nI si)]) (QcRead (S 11 si)) 0 0 (fun _ => False) := by
  refine Met.ofW (cc := cX3_personOf) (maxL := 2) (ret := (some .int)) (by decide) rfl ?_
  intro p e s m args below meth c s₁ B hml hv
  obtain ⟨rfl, hP, hK⟩ := hv
  have hx := B.exec
  have hb := B.bytes
  have hr := B.returns
  have hts := atoms_spec (ws := wsX3_personOf) B.pre
  have hown : s.vm.findClass RX3 = some m.cls := findClass_of_methodNamed B.named
  have hlocks := B.notSynchronized
  have i3 : ∀ w ∈ u_ws RX3 TX3 6, w ∈ wsX3_personOf := by decide +kernel
  have fl_9 := hts (.fieldLink RX3 9 "SignOnHouse$Sessions" "people" "[I") (by decide +kernel)
  have hl := lv_entry ([.ref (X 2), .int (nI si)]) (n := 2) (Nat.le_of_ble_eq_true rfl)
  rw [lg_entry_eq]
  generalize (lg_sl ([.ref (X 2), .int (nI si)]) ++ List.replicate (2 - (lg_sl ([.ref (X 2), .int (nI si)])).length) Slot.unset).toArray = ls at hl ⊢
  have hl : lv_has ls 2 [(0, .ref (X 2)), (1, .int (nI si))] := hl
  refine lv_aload_n hx hb dX3_personOf_0 rfl (lv_at hl 0 rfl) ?_
  refine va_get (D := D) (ci := 3) (v := .ref (X 11)) (C := RX3) (T := TX3) (N := 6) hx hb hts i3 hown hK hP 2 rfl rfl 0 (by decide) fl_9 (fun _ h9 => h9) rfl dX3_personOf_1 ?_
  refine lv_iload_n hx hb dX3_personOf_4 rfl (lv_at hl 1 rfl) ?_
  refine z_iald (D := D) (j := si) (f := S 11) hx hb hK hP 11 0 rfl rfl (by omega) (by decide) dX3_personOf_5 ?_
  exact z_ret hx hb hr hlocks rfl dX3_personOf_6

set_option maxHeartbeats 4000000 in
set_option maxRecDepth 100000 in
theorem kX3_age (l : Launch) (D : va_G) (cI cZ : ClassId) (X : Nat → Nat) (S : Nat → Nat → Int32) (O : Nat → Bool) (V : Nat → Int32) (si : Nat) (x0 : Int32) (hsi : si < 30) : Met l yX3_age wsX3_age ({ frames := 0, cells := 0, slots := 0, locals := 0 } : Room) (zR D (tyl cI cZ) (hW cI cZ X S O V) [.ref (X 2), .int (nI si), .int x0]) (QcRead (x0 - S 13 si)) 0 0 (fun _ => False) := by
  refine Met.ofW (cc := cX3_age) (maxL := 3) (ret := (some .int)) (by decide) rfl ?_
  intro p e s m args below meth c s₁ B hml hv
  obtain ⟨rfl, hP, hK⟩ := hv
  have hx := B.exec
  have hb := B.bytes
  have hr := B.returns
  have hts := atoms_spec (ws := wsX3_age) B.pre
  have hown : s.vm.findClass RX3 = some m.cls := findClass_of_methodNamed B.named
  have hlocks := B.notSynchronized
  have i3 : ∀ w ∈ u_ws RX3 TX3 6, w ∈ wsX3_age := by decide +kernel
  have fl_16 := hts (.fieldLink RX3 16 "SignOnHouse$Sessions" "openedAt" "[I") (by decide +kernel)
  have hl := lv_entry ([.ref (X 2), .int (nI si), .int x0]) (n := 3) (Nat.le_of_ble_eq_true rfl)
  rw [lg_entry_eq]
  generalize (lg_sl ([.ref (X 2), .int (nI si), .int x0]) ++ List.replicate (3 - (lg_sl ([.ref (X 2), .int (nI si), .int x0])).length) Slot.unset).toArray = ls at hl ⊢
  have hl : lv_has ls 3 [(0, .ref (X 2)), (1, .int (nI si)), (2, .int x0)] := hl
  refine lv_iload_n hx hb dX3_age_0 rfl (lv_at hl 2 rfl) ?_
  refine lv_aload_n hx hb dX3_age_1 rfl (lv_at hl 0 rfl) ?_
  refine va_get (D := D) (ci := 3) (v := .ref (X 13)) (C := RX3) (T := TX3) (N := 6) hx hb hts i3 hown hK hP 2 rfl rfl 2 (by decide) fl_16 (fun _ h9 => h9) rfl dX3_age_2 ?_
  refine lv_iload_n hx hb dX3_age_5 rfl (lv_at hl 1 rfl) ?_
  refine z_iald (D := D) (j := si) (f := S 13) hx hb hK hP 13 0 rfl rfl (by omega) (by decide) dX3_age_6 ?_
  refine lv_isub hx hb dX3_age_7 ?_
  exact z_ret hx hb hr hlocks (by rfl) dX3_age_8

set_option maxHeartbeats 4000000 in
set_option maxRecDepth 100000 in
theorem kX3_isDue (l : Launch) (D : va_G) (cI cZ : ClassId) (X : Nat → Nat) (S : Nat → Nat → Int32) (O : Nat → Bool) (V : Nat → Int32) (si : Nat) (x0 : Int32) (x1 : Int32) (hsi : si < 30) : Met l yX3_isDue wsX3_isDue ({ frames := 1, cells := 0, slots := 0, locals := 22 } : Room) (zR D (tyl cI cZ) (hW cI cZ X S O V) [.ref (X 2), .int (nI si), .int x0, .int x1, .ref (X 3)]) (QcRead (bi (c_isDue S V si x0 x1))) 0 0 (fun _ => False) := by
  refine Met.ofW (cc := cX3_isDue) (maxL := 5) (ret := (some .boolean)) (by decide) rfl ?_
  intro p e s m args below meth c s₁ B hml hv
  obtain ⟨rfl, hP, hK⟩ := hv
  have hx := B.exec
  have hb := B.bytes
  have hr := B.returns
  have hts := atoms_spec (ws := wsX3_isDue) B.pre
  have hown : s.vm.findClass RX3 = some m.cls := findClass_of_methodNamed B.named
  have hlocks := B.notSynchronized
  have i3 : ∀ w ∈ u_ws RX3 TX3 6, w ∈ wsX3_isDue := by decide +kernel
  have fl_13 := hts (.fieldLink RX3 13 "SignOnHouse$Sessions" "signedWith" "[I") (by decide +kernel)
  have fl_19 := hts (.fieldLink RX3 19 "SignOnHouse$Sessions" "usedAt" "[I") (by decide +kernel)
  have hl := lv_entry ([.ref (X 2), .int (nI si), .int x0, .int x1, .ref (X 3)]) (n := 5) (Nat.le_of_ble_eq_true rfl)
  rw [lg_entry_eq]
  generalize (lg_sl ([.ref (X 2), .int (nI si), .int x0, .int x1, .ref (X 3)]) ++ List.replicate (5 - (lg_sl ([.ref (X 2), .int (nI si), .int x0, .int x1, .ref (X 3)])).length) Slot.unset).toArray = ls at hl ⊢
  have hl : lv_has ls 5 [(0, .ref (X 2)), (1, .int (nI si)), (2, .int x0), (3, .int x1), (4, .ref (X 3))] := hl
  refine lv_iload_n hx hb dX3_isDue_0 rfl (lv_at hl 2 rfl) ?_
  refine lv_aload_n hx hb dX3_isDue_1 rfl (lv_at hl 0 rfl) ?_
  refine va_get (D := D) (ci := 3) (v := .ref (X 14)) (C := RX3) (T := TX3) (N := 6) hx hb hts i3 hown hK hP 2 rfl rfl 3 (by decide) fl_19 (fun _ h9 => h9) rfl dX3_isDue_2 ?_
  refine lv_iload_n hx hb dX3_isDue_5 rfl (lv_at hl 1 rfl) ?_
  refine z_iald (D := D) (j := si) (f := S 14) hx hb hK hP 14 0 rfl rfl (by omega) (by decide) dX3_isDue_6 ?_
  refine lv_isub hx hb dX3_isDue_7 ?_
  refine lv_bipush (v := 30) hx hb dX3_isDue_8 (by decide) ?_
  refine lv_icmp_ge (tgt := 45) hx hb dX3_isDue_10 (by decide) (fun c_10 => ?_) (fun c_10 => ?_)
  · refine lv_iconst (v := 1) hx hb dX3_isDue_45 rfl ?_
    refine lv_goto (tgt := 50) hx hb dX3_isDue_46 (by decide) ?_
    exact z_zret hx hb hr hlocks (by simp [c_isDue, bi, c_10]) dX3_isDue_50
  · refine lv_aload_n hx hb dX3_isDue_13 rfl (lv_at hl 0 rfl) ?_
    refine lv_iload_n hx hb dX3_isDue_14 rfl (lv_at hl 1 rfl) ?_
    refine lv_iload_n hx hb dX3_isDue_15 rfl (lv_at hl 2 rfl) ?_
    refine z_callR (W.runV (As := [.int (nI si), .int x0]) (rest := []) ⟨hx, hb, hml, hown, hts⟩ (kX3_age l D cI cZ X S O V si x0 (by omega)) (cwV 2 hts gX3_isDue_X3_age rfl rfl rfl (by decide +kernel) ⟨Nat.le_of_ble_eq_true rfl, Nat.le_of_ble_eq_true rfl⟩) (zR_preV 2 3 hK hP rfl rfl) rfl rfl hl.1 rfl (lv_room (Nat.le_of_ble_eq_true rfl)) dX3_isDue_16 ⟨Nat.zero_le _, Nat.zero_le _⟩) ?_
    refine lv_sipush (v := 240) hx hb dX3_isDue_19 (by decide) ?_
    refine lv_bipush (v := 60) hx hb dX3_isDue_22 (by decide) ?_
    refine lv_iload_n hx hb dX3_isDue_24 rfl (lv_at hl 3 rfl) ?_
    refine lv_imul hx hb dX3_isDue_25 ?_
    refine lv_isub hx hb dX3_isDue_26 ?_
    refine lv_icmp_ge (tgt := 45) hx hb dX3_isDue_27 (by decide) (fun c_27 => ?_) (fun c_27 => ?_)
    · refine lv_iconst (v := 1) hx hb dX3_isDue_45 rfl ?_
      refine lv_goto (tgt := 50) hx hb dX3_isDue_46 (by decide) ?_
      exact z_zret hx hb hr hlocks (by simp [c_isDue, bi, c_10, c_27]) dX3_isDue_50
    · refine lv_aload hx hb dX3_isDue_30 (lv_at hl 4 rfl) ?_
      refine lv_aload_n hx hb dX3_isDue_32 rfl (lv_at hl 0 rfl) ?_
      refine va_get (D := D) (ci := 3) (v := .ref (X 12)) (C := RX3) (T := TX3) (N := 6) hx hb hts i3 hown hK hP 2 rfl rfl 1 (by decide) fl_13 (fun _ h9 => h9) rfl dX3_isDue_33 ?_
      refine lv_iload_n hx hb dX3_isDue_36 rfl (lv_at hl 1 rfl) ?_
      refine z_iald (D := D) (j := si) (f := S 12) hx hb hK hP 12 0 rfl rfl (by omega) (by decide) dX3_isDue_37 ?_
      refine lv_iload_n hx hb dX3_isDue_38 rfl (lv_at hl 2 rfl) ?_
      refine z_callR (W.runV (As := [.int (S 12 si), .int x0]) (rest := []) ⟨hx, hb, hml, hown, hts⟩ (kX2_takes l D cI cZ X S O V (S 12 si) x0) (cwV 2 hts gX3_isDue_X2_takes rfl rfl rfl (by decide +kernel) ⟨Nat.le_of_ble_eq_true rfl, Nat.le_of_ble_eq_true rfl⟩) (zR_preV 3 2 hK hP rfl rfl) rfl rfl hl.1 rfl (lv_room (Nat.le_of_ble_eq_true rfl)) dX3_isDue_39 ⟨Nat.zero_le _, Nat.zero_le _⟩) ?_
      refine z_if_ne (tgt := 49) hx hb dX3_isDue_42 (by decide) (fun c_42 => ?_) (fun c_42 => ?_)
      · refine lv_iconst (v := 0) hx hb dX3_isDue_49 rfl ?_
        exact z_zret hx hb hr hlocks (by simp [c_isDue, bi, c_10, c_27, c_42]) dX3_isDue_50
      · refine lv_iconst (v := 1) hx hb dX3_isDue_45 rfl ?_
        refine lv_goto (tgt := 50) hx hb dX3_isDue_46 (by decide) ?_
        exact z_zret hx hb hr hlocks (by simp [c_isDue, bi, c_10, c_27, c_42]) dX3_isDue_50

set_option maxHeartbeats 4000000 in
set_option maxRecDepth 100000 in
theorem kX3_endAllOf (l : Launch) (D : va_G) (cI cZ : ClassId) (X : Nat → Nat) (S : Nat → Nat → Int32) (O : Nat → Bool) (V : Nat → Int32) (sz : Nat) (x0 : Int32) (n0 : Nat) (hn0 : n0 ≤ 30) (hct : V 1 = nI n0) : Met l yX3_endAllOf wsX3_endAllOf ({ frames := 1, cells := 0, slots := 0, locals := 21 } : Room) (zW D (tyl cI cZ) (hW cI cZ X S O V) sz [.ref (X 2), .int x0]) (zQi D (tyl cI cZ) (hW cI cZ X S (c_eaO S O x0 n0) V) (c_eaN S O x0 n0) (va_A (hW cI cZ X S O V) sz)) 0 0 (va_A (hW cI cZ X S O V) sz) := by
  refine Met.ofW (cc := cX3_endAllOf) (maxL := 4) (ret := (some .int)) (by decide) rfl ?_
  intro p e s m args below meth c s₁ B hml hv
  obtain ⟨rfl, hsz, hP, hK, hD0⟩ := hv
  have hx := B.exec
  have hb := B.bytes
  have hr := B.returns
  have hts := atoms_spec (ws := wsX3_endAllOf) B.pre
  have hown : s.vm.findClass RX3 = some m.cls := findClass_of_methodNamed B.named
  have hlocks := B.notSynchronized
  subst hsz
  have hD := hD0.self (sz := s.heap.size)
  generalize hAe : va_A (hW cI cZ X S O V) s.heap.size = A at hD ⊢
  have hA : ∀ q : Nat, s.heap.size ≤ q → A q := fun q h => by rw [← hAe]; exact Or.inr h
  have hS : va_S A s.heap s.heap [] := va_S.rf
  have i3 : ∀ w ∈ u_ws RX3 TX3 6, w ∈ wsX3_endAllOf := by decide +kernel
  have fl_9 := hts (.fieldLink RX3 9 "SignOnHouse$Sessions" "people" "[I") (by decide +kernel)
  have fl_22 := hts (.fieldLink RX3 22 "SignOnHouse$Sessions" "over" "[Z") (by decide +kernel)
  have fl_26 := hts (.fieldLink RX3 26 "SignOnHouse$Sessions" "count" "I") (by decide +kernel)
  have hl := lv_entry ([.ref (X 2), .int x0]) (n := 4) (Nat.le_of_ble_eq_true rfl)
  rw [lg_entry_eq]
  generalize (lg_sl ([.ref (X 2), .int x0]) ++ List.replicate (4 - (lg_sl ([.ref (X 2), .int x0])).length) Slot.unset).toArray = ls at hl ⊢
  have hl : lv_has ls 4 [(0, .ref (X 2)), (1, .int x0)] := hl
  refine lv_iconst (v := 0) hx hb dX3_endAllOf_0 rfl ?_
  refine lv_istore_n (lv' := [(2, .int 0), (0, .ref (X 2)), (1, .int x0)]) hx hb dX3_endAllOf_1 rfl hl (by decide) rfl (fun ls hl => ?_)
  refine lv_iconst (v := nI 0) hx hb dX3_endAllOf_2 rfl ?_
  refine lv_istore_n (lv' := [(3, .int (nI 0)), (2, .int 0), (0, .ref (X 2)), (1, .int x0)]) hx hb dX3_endAllOf_3 rfl hl (by decide) rfl (fun ls hl => ?_)
  refine z_loopW (N := n0) (nL := 4) (Lc := (fun k => [(3, .int (nI k)), (2, .int (c_eaN S O x0 k)), (0, .ref (X 2)), (1, .int x0)])) (Wd := fun k => hW cI cZ X S (c_eaO S O x0 k) V) (lv_sub hl [0, 1, 2, 3] rfl) hP hD hS (fun H locs ls hP hD hS hl => ?_) (fun k H locs ls hk hP hD hS hl ih => ?_)
  · have hP : va_P D vwCl (hW cI cZ X S (c_eaO S O x0 n0) V) H := hP
    have hD : va_D A (hW cI cZ X S (c_eaO S O x0 n0) V) := hD
    have hl : lv_has ls 4 [(3, .int (nI n0)), (2, .int (c_eaN S O x0 n0)), (0, .ref (X 2)), (1, .int x0)] := hl
    refine lv_iload_n hx hb dX3_endAllOf_4 rfl (lv_at hl 0 rfl) ?_
    refine lv_aload_n hx hb dX3_endAllOf_5 rfl (lv_at hl 2 rfl) ?_
    refine va_get (D := D) (ci := 3) (v := .int (V 1)) (C := RX3) (T := TX3) (N := 6) hx hb hts i3 hown hK hP 2 rfl rfl 5 (by decide) fl_26 (fun _ h9 => h9) rfl dX3_endAllOf_6 ?_
    refine z_top (nI n0) hct ?_
    refine z_ge_t (tgt := 45) (nI_le (by omega) (by omega)) hx hb dX3_endAllOf_9 (by decide) ?_
    refine lv_iload_n hx hb dX3_endAllOf_45 rfl (lv_at hl 1 rfl) ?_
    exact z_wret hx hb hr hlocks hP hK hD hS rfl dX3_endAllOf_46
  · have hP : va_P D vwCl (hW cI cZ X S (c_eaO S O x0 k) V) H := hP
    have hD : va_D A (hW cI cZ X S (c_eaO S O x0 k) V) := hD
    have hl : lv_has ls 4 [(3, .int (nI k)), (2, .int (c_eaN S O x0 k)), (0, .ref (X 2)), (1, .int x0)] := hl
    have ih_4 := ih
    refine lv_iload_n hx hb dX3_endAllOf_4 rfl (lv_at hl 0 rfl) ?_
    refine lv_aload_n hx hb dX3_endAllOf_5 rfl (lv_at hl 2 rfl) ?_
    refine va_get (D := D) (ci := 3) (v := .int (V 1)) (C := RX3) (T := TX3) (N := 6) hx hb hts i3 hown hK hP 2 rfl rfl 5 (by decide) fl_26 (fun _ h9 => h9) rfl dX3_endAllOf_6 ?_
    refine z_top (nI n0) hct ?_
    refine z_ge_f (tgt := 45) (nI_ge (by omega) (by omega)) hx hb dX3_endAllOf_9 (by decide) ?_
    refine lv_aload_n hx hb dX3_endAllOf_12 rfl (lv_at hl 2 rfl) ?_
    refine va_get (D := D) (ci := 3) (v := .ref (X 15)) (C := RX3) (T := TX3) (N := 6) hx hb hts i3 hown hK hP 2 rfl rfl 4 (by decide) fl_22 (fun _ h9 => h9) rfl dX3_endAllOf_13 ?_
    refine lv_iload_n hx hb dX3_endAllOf_16 rfl (lv_at hl 0 rfl) ?_
    refine z_zald (D := D) (j := k) (g := c_eaO S O x0 k) hx hb hK hP 15 1 rfl rfl (by omega) (by decide) dX3_endAllOf_17 ?_
    refine z_if_ne (tgt := 39) hx hb dX3_endAllOf_18 (by decide) (fun c_18 => ?_) (fun c_18 => ?_)
    · refine lv_iinc (v := nI (k + 1)) (lv' := [(3, .int (nI (k + 1))), (2, .int (c_eaN S O x0 k)), (0, .ref (X 2)), (1, .int x0)]) hx hb dX3_endAllOf_39 hl (k := 0) rfl (nI_1 _) (by decide) rfl (fun ls hl => ?_)
      refine lv_goto (tgt := 4) hx hb dX3_endAllOf_42 (by decide) ?_
      have e2 : c_eaN S O x0 (k + 1) = c_eaN S O x0 k := by simp [c_eaN, c_eaO, bi, c_18]
      have eO : c_eaO S O x0 (k + 1) = c_eaO S O x0 k := by simp [c_eaN, c_eaO, bi, c_18]
      exact ih_4 H locs ls (by show va_P D vwCl (hW cI cZ X S (c_eaO S O x0 (k + 1)) V) H; rw [eO]; exact hP) (by show va_D A (hW cI cZ X S (c_eaO S O x0 (k + 1)) V); rw [eO]; exact hD) hS (by show lv_has ls 4 [(3, .int (nI (k + 1))), (2, .int (c_eaN S O x0 (k + 1))), (0, .ref (X 2)), (1, .int x0)]; rw [e2]; exact lv_sub hl [0, 1, 2, 3] rfl)
    · refine lv_aload_n hx hb dX3_endAllOf_21 rfl (lv_at hl 2 rfl) ?_
      refine va_get (D := D) (ci := 3) (v := .ref (X 11)) (C := RX3) (T := TX3) (N := 6) hx hb hts i3 hown hK hP 2 rfl rfl 0 (by decide) fl_9 (fun _ h9 => h9) rfl dX3_endAllOf_22 ?_
      refine lv_iload_n hx hb dX3_endAllOf_25 rfl (lv_at hl 0 rfl) ?_
      refine z_iald (D := D) (j := k) (f := S 11) hx hb hK hP 11 0 rfl rfl (by omega) (by decide) dX3_endAllOf_26 ?_
      refine lv_iload_n hx hb dX3_endAllOf_27 rfl (lv_at hl 3 rfl) ?_
      refine lv_icmp_ne (tgt := 39) hx hb dX3_endAllOf_28 (by decide) (fun c_28 => ?_) (fun c_28 => ?_)
      · refine lv_iinc (v := nI (k + 1)) (lv' := [(3, .int (nI (k + 1))), (2, .int (c_eaN S O x0 k)), (0, .ref (X 2)), (1, .int x0)]) hx hb dX3_endAllOf_39 hl (k := 0) rfl (nI_1 _) (by decide) rfl (fun ls hl => ?_)
        refine lv_goto (tgt := 4) hx hb dX3_endAllOf_42 (by decide) ?_
        have e2 : c_eaN S O x0 (k + 1) = c_eaN S O x0 k := by simp [c_eaN, c_eaO, bi, c_18, c_28]
        have eO : c_eaO S O x0 (k + 1) = c_eaO S O x0 k := by simp [c_eaN, c_eaO, bi, c_18, c_28]
        exact ih_4 H locs ls (by show va_P D vwCl (hW cI cZ X S (c_eaO S O x0 (k + 1)) V) H; rw [eO]; exact hP) (by show va_D A (hW cI cZ X S (c_eaO S O x0 (k + 1)) V); rw [eO]; exact hD) hS (by show lv_has ls 4 [(3, .int (nI (k + 1))), (2, .int (c_eaN S O x0 (k + 1))), (0, .ref (X 2)), (1, .int x0)]; rw [e2]; exact lv_sub hl [0, 1, 2, 3] rfl)
      · refine lv_aload_n hx hb dX3_endAllOf_31 rfl (lv_at hl 2 rfl) ?_
        refine lv_iload_n hx hb dX3_endAllOf_32 rfl (lv_at hl 0 rfl) ?_
        have hF := z_free hD hS hA
        refine z_callWv (va_runV (As := [.int (nI k)]) (rest := []) ⟨hx, hb, hml, hown, hts⟩ (kX3_end l D cI cZ X S (c_eaO S O x0 k) V _ k (by omega)) (cwV 1 hts gX3_endAllOf_X3_end rfl rfl rfl (by decide +kernel) ⟨Nat.le_of_ble_eq_true rfl, Nat.le_of_ble_eq_true rfl⟩) (zW_preV 2 3 hK hP hD rfl rfl) rfl rfl hl.1 rfl (lv_room (Nat.le_of_ble_eq_true rfl)) dX3_endAllOf_33 ⟨Nat.zero_le _, Nat.zero_le _⟩) hS hF (fun H locs hP hD hS => ?_)
        refine lv_iinc (v := c_eaN S O x0 k + 1) (lv' := [(2, .int (c_eaN S O x0 k + 1)), (3, .int (nI k)), (0, .ref (X 2)), (1, .int x0)]) hx hb dX3_endAllOf_36 hl (k := 1) rfl rfl (by decide) rfl (fun ls hl => ?_)
        refine lv_iinc (v := nI (k + 1)) (lv' := [(3, .int (nI (k + 1))), (2, .int (c_eaN S O x0 k + 1)), (0, .ref (X 2)), (1, .int x0)]) hx hb dX3_endAllOf_39 hl (k := 1) rfl (nI_1 _) (by decide) rfl (fun ls hl => ?_)
        refine lv_goto (tgt := 4) hx hb dX3_endAllOf_42 (by decide) ?_
        have e2 : c_eaN S O x0 (k + 1) = c_eaN S O x0 k + 1 := by simp [c_eaN, c_eaO, bi, c_18, (eq_true c_28)]
        have eO : c_eaO S O x0 (k + 1) = va_up (c_eaO S O x0 k) k true := by simp [c_eaN, c_eaO, bi, c_18, (eq_true c_28)]
        exact ih_4 H locs ls (by show va_P D vwCl (hW cI cZ X S (c_eaO S O x0 (k + 1)) V) H; rw [eO]; exact hP) (by show va_D A (hW cI cZ X S (c_eaO S O x0 (k + 1)) V); rw [eO]; exact hD) hS (by show lv_has ls 4 [(3, .int (nI (k + 1))), (2, .int (c_eaN S O x0 (k + 1))), (0, .ref (X 2)), (1, .int x0)]; rw [e2]; exact lv_sub hl [0, 1, 2, 3] rfl)

set_option maxHeartbeats 4000000 in
set_option maxRecDepth 100000 in
theorem kX3_endDue (l : Launch) (D : va_G) (cI cZ : ClassId) (X : Nat → Nat) (S : Nat → Nat → Int32) (O : Nat → Bool) (V : Nat → Int32) (sz : Nat) (x0 : Int32) (n0 : Nat) (hn0 : n0 ≤ 30) (hct : V 1 = nI n0) (hpe : ∀ j : Nat, j < n0 → vp_in (S 11 j) 10) : Met l yX3_endDue wsX3_endDue ({ frames := 2, cells := 0, slots := 0, locals := 46 } : Room) (zW D (tyl cI cZ) (hW cI cZ X S O V) sz [.ref (X 2), .int x0, .ref (X 5), .ref (X 3)]) (zQi D (tyl cI cZ) (hW cI cZ X S (c_edO S O V x0 n0) V) (c_edN S O V x0 n0) (va_A (hW cI cZ X S O V) sz)) 0 0 (va_A (hW cI cZ X S O V) sz) := by
  refine Met.ofW (cc := cX3_endDue) (maxL := 6) (ret := (some .int)) (by decide) rfl ?_
  intro p e s m args below meth c s₁ B hml hv
  obtain ⟨rfl, hsz, hP, hK, hD0⟩ := hv
  have hx := B.exec
  have hb := B.bytes
  have hr := B.returns
  have hts := atoms_spec (ws := wsX3_endDue) B.pre
  have hown : s.vm.findClass RX3 = some m.cls := findClass_of_methodNamed B.named
  have hlocks := B.notSynchronized
  subst hsz
  have hD := hD0.self (sz := s.heap.size)
  generalize hAe : va_A (hW cI cZ X S O V) s.heap.size = A at hD ⊢
  have hA : ∀ q : Nat, s.heap.size ≤ q → A q := fun q h => by rw [← hAe]; exact Or.inr h
  have hS : va_S A s.heap s.heap [] := va_S.rf
  have i3 : ∀ w ∈ u_ws RX3 TX3 6, w ∈ wsX3_endDue := by decide +kernel
  have fl_9 := hts (.fieldLink RX3 9 "SignOnHouse$Sessions" "people" "[I") (by decide +kernel)
  have fl_22 := hts (.fieldLink RX3 22 "SignOnHouse$Sessions" "over" "[Z") (by decide +kernel)
  have fl_26 := hts (.fieldLink RX3 26 "SignOnHouse$Sessions" "count" "I") (by decide +kernel)
  have hl := lv_entry ([.ref (X 2), .int x0, .ref (X 5), .ref (X 3)]) (n := 6) (Nat.le_of_ble_eq_true rfl)
  rw [lg_entry_eq]
  generalize (lg_sl ([.ref (X 2), .int x0, .ref (X 5), .ref (X 3)]) ++ List.replicate (6 - (lg_sl ([.ref (X 2), .int x0, .ref (X 5), .ref (X 3)])).length) Slot.unset).toArray = ls at hl ⊢
  have hl : lv_has ls 6 [(0, .ref (X 2)), (1, .int x0), (2, .ref (X 5)), (3, .ref (X 3))] := hl
  refine lv_iconst (v := 0) hx hb dX3_endDue_0 rfl ?_
  refine lv_istore (lv' := [(4, .int 0), (0, .ref (X 2)), (1, .int x0), (2, .ref (X 5)), (3, .ref (X 3))]) hx hb dX3_endDue_1 hl (by decide) rfl (fun ls hl => ?_)
  refine lv_iconst (v := nI 0) hx hb dX3_endDue_3 rfl ?_
  refine lv_istore (lv' := [(5, .int (nI 0)), (4, .int 0), (0, .ref (X 2)), (1, .int x0), (2, .ref (X 5)), (3, .ref (X 3))]) hx hb dX3_endDue_4 hl (by decide) rfl (fun ls hl => ?_)
  refine z_loopW (N := n0) (nL := 6) (Lc := (fun k => [(5, .int (nI k)), (4, .int (c_edN S O V x0 k)), (0, .ref (X 2)), (1, .int x0), (2, .ref (X 5)), (3, .ref (X 3))])) (Wd := fun k => hW cI cZ X S (c_edO S O V x0 k) V) (lv_sub hl [0, 1, 2, 3, 4, 5] rfl) hP hD hS (fun H locs ls hP hD hS hl => ?_) (fun k H locs ls hk hP hD hS hl ih => ?_)
  · have hP : va_P D vwCl (hW cI cZ X S (c_edO S O V x0 n0) V) H := hP
    have hD : va_D A (hW cI cZ X S (c_edO S O V x0 n0) V) := hD
    have hl : lv_has ls 6 [(5, .int (nI n0)), (4, .int (c_edN S O V x0 n0)), (0, .ref (X 2)), (1, .int x0), (2, .ref (X 5)), (3, .ref (X 3))] := hl
    refine lv_iload hx hb dX3_endDue_6 (lv_at hl 0 rfl) ?_
    refine lv_aload_n hx hb dX3_endDue_8 rfl (lv_at hl 2 rfl) ?_
    refine va_get (D := D) (ci := 3) (v := .int (V 1)) (C := RX3) (T := TX3) (N := 6) hx hb hts i3 hown hK hP 2 rfl rfl 5 (by decide) fl_26 (fun _ h9 => h9) rfl dX3_endDue_9 ?_
    refine z_top (nI n0) hct ?_
    refine z_ge_t (tgt := 60) (nI_le (by omega) (by omega)) hx hb dX3_endDue_12 (by decide) ?_
    refine lv_iload hx hb dX3_endDue_60 (lv_at hl 1 rfl) ?_
    exact z_wret hx hb hr hlocks hP hK hD hS rfl dX3_endDue_62
  · have hP : va_P D vwCl (hW cI cZ X S (c_edO S O V x0 k) V) H := hP
    have hD : va_D A (hW cI cZ X S (c_edO S O V x0 k) V) := hD
    have hl : lv_has ls 6 [(5, .int (nI k)), (4, .int (c_edN S O V x0 k)), (0, .ref (X 2)), (1, .int x0), (2, .ref (X 5)), (3, .ref (X 3))] := hl
    have ih_6 := ih
    refine lv_iload hx hb dX3_endDue_6 (lv_at hl 0 rfl) ?_
    refine lv_aload_n hx hb dX3_endDue_8 rfl (lv_at hl 2 rfl) ?_
    refine va_get (D := D) (ci := 3) (v := .int (V 1)) (C := RX3) (T := TX3) (N := 6) hx hb hts i3 hown hK hP 2 rfl rfl 5 (by decide) fl_26 (fun _ h9 => h9) rfl dX3_endDue_9 ?_
    refine z_top (nI n0) hct ?_
    refine z_ge_f (tgt := 60) (nI_ge (by omega) (by omega)) hx hb dX3_endDue_12 (by decide) ?_
    refine lv_aload_n hx hb dX3_endDue_15 rfl (lv_at hl 2 rfl) ?_
    refine va_get (D := D) (ci := 3) (v := .ref (X 15)) (C := RX3) (T := TX3) (N := 6) hx hb hts i3 hown hK hP 2 rfl rfl 4 (by decide) fl_22 (fun _ h9 => h9) rfl dX3_endDue_16 ?_
    refine lv_iload hx hb dX3_endDue_19 (lv_at hl 0 rfl) ?_
    refine z_zald (D := D) (j := k) (g := c_edO S O V x0 k) hx hb hK hP 15 1 rfl rfl (by omega) (by decide) dX3_endDue_21 ?_
    refine z_if_ne (tgt := 54) hx hb dX3_endDue_22 (by decide) (fun c_22 => ?_) (fun c_22 => ?_)
    · refine lv_iinc (v := nI (k + 1)) (lv' := [(5, .int (nI (k + 1))), (4, .int (c_edN S O V x0 k)), (0, .ref (X 2)), (1, .int x0), (2, .ref (X 5)), (3, .ref (X 3))]) hx hb dX3_endDue_54 hl (k := 0) rfl (nI_1 _) (by decide) rfl (fun ls hl => ?_)
      refine lv_goto (tgt := 6) hx hb dX3_endDue_57 (by decide) ?_
      have e4 : c_edN S O V x0 (k + 1) = c_edN S O V x0 k := by simp [c_edN, c_edO, bi, c_22]
      have eO : c_edO S O V x0 (k + 1) = c_edO S O V x0 k := by simp [c_edN, c_edO, bi, c_22]
      exact ih_6 H locs ls (by show va_P D vwCl (hW cI cZ X S (c_edO S O V x0 (k + 1)) V) H; rw [eO]; exact hP) (by show va_D A (hW cI cZ X S (c_edO S O V x0 (k + 1)) V); rw [eO]; exact hD) hS (by show lv_has ls 6 [(5, .int (nI (k + 1))), (4, .int (c_edN S O V x0 (k + 1))), (0, .ref (X 2)), (1, .int x0), (2, .ref (X 5)), (3, .ref (X 3))]; rw [e4]; exact lv_sub hl [0, 1, 2, 3, 4, 5] rfl)
    · refine lv_aload_n hx hb dX3_endDue_25 rfl (lv_at hl 2 rfl) ?_
      refine lv_iload hx hb dX3_endDue_26 (lv_at hl 0 rfl) ?_
      refine lv_iload_n hx hb dX3_endDue_28 rfl (lv_at hl 3 rfl) ?_
      refine lv_aload_n hx hb dX3_endDue_29 rfl (lv_at hl 4 rfl) ?_
      refine lv_aload_n hx hb dX3_endDue_30 rfl (lv_at hl 2 rfl) ?_
      refine va_get (D := D) (ci := 3) (v := .ref (X 11)) (C := RX3) (T := TX3) (N := 6) hx hb hts i3 hown hK hP 2 rfl rfl 0 (by decide) fl_9 (fun _ h9 => h9) rfl dX3_endDue_31 ?_
      refine lv_iload hx hb dX3_endDue_34 (lv_at hl 0 rfl) ?_
      refine z_iald (D := D) (j := k) (f := S 11) hx hb hK hP 11 0 rfl rfl (by omega) (by decide) dX3_endDue_36 ?_
      refine va_iald (D := D) (f := S 5) hx hb hK hP 5 0 rfl rfl (hpe k hk) dX3_endDue_37 ?_
      refine lv_aload_n hx hb dX3_endDue_38 rfl (lv_at hl 5 rfl) ?_
      refine z_callR (W.runV (As := [.int (nI k), .int x0, .int (S 5 (S 11 k).toNatClampNeg), .ref (X 3)]) (rest := []) ⟨hx, hb, hml, hown, hts⟩ (kX3_isDue l D cI cZ X S (c_edO S O V x0 k) V k x0 (S 5 (S 11 k).toNatClampNeg) (by omega)) (cwV 4 hts gX3_endDue_X3_isDue rfl rfl rfl (by decide +kernel) ⟨Nat.le_of_ble_eq_true rfl, Nat.le_of_ble_eq_true rfl⟩) (zR_preV 2 3 hK hP rfl rfl) rfl rfl hl.1 rfl (lv_room (Nat.le_of_ble_eq_true rfl)) dX3_endDue_39 ⟨Nat.zero_le _, Nat.zero_le _⟩) ?_
      refine z_if_eq (tgt := 54) hx hb dX3_endDue_42 (by decide) (fun c_42 => ?_) (fun c_42 => ?_)
      · refine lv_iinc (v := nI (k + 1)) (lv' := [(5, .int (nI (k + 1))), (4, .int (c_edN S O V x0 k)), (0, .ref (X 2)), (1, .int x0), (2, .ref (X 5)), (3, .ref (X 3))]) hx hb dX3_endDue_54 hl (k := 0) rfl (nI_1 _) (by decide) rfl (fun ls hl => ?_)
        refine lv_goto (tgt := 6) hx hb dX3_endDue_57 (by decide) ?_
        have e4 : c_edN S O V x0 (k + 1) = c_edN S O V x0 k := by simp [c_edN, c_edO, bi, c_22, c_42]
        have eO : c_edO S O V x0 (k + 1) = c_edO S O V x0 k := by simp [c_edN, c_edO, bi, c_22, c_42]
        exact ih_6 H locs ls (by show va_P D vwCl (hW cI cZ X S (c_edO S O V x0 (k + 1)) V) H; rw [eO]; exact hP) (by show va_D A (hW cI cZ X S (c_edO S O V x0 (k + 1)) V); rw [eO]; exact hD) hS (by show lv_has ls 6 [(5, .int (nI (k + 1))), (4, .int (c_edN S O V x0 (k + 1))), (0, .ref (X 2)), (1, .int x0), (2, .ref (X 5)), (3, .ref (X 3))]; rw [e4]; exact lv_sub hl [0, 1, 2, 3, 4, 5] rfl)
      · refine lv_aload_n hx hb dX3_endDue_45 rfl (lv_at hl 2 rfl) ?_
        refine lv_iload hx hb dX3_endDue_46 (lv_at hl 0 rfl) ?_
        have hF := z_free hD hS hA
        refine z_callWv (va_runV (As := [.int (nI k)]) (rest := []) ⟨hx, hb, hml, hown, hts⟩ (kX3_end l D cI cZ X S (c_edO S O V x0 k) V _ k (by omega)) (cwV 1 hts gX3_endDue_X3_end rfl rfl rfl (by decide +kernel) ⟨Nat.le_of_ble_eq_true rfl, Nat.le_of_ble_eq_true rfl⟩) (zW_preV 2 3 hK hP hD rfl rfl) rfl rfl hl.1 rfl (lv_room (Nat.le_of_ble_eq_true rfl)) dX3_endDue_48 ⟨Nat.zero_le _, Nat.zero_le _⟩) hS hF (fun H locs hP hD hS => ?_)
        refine lv_iinc (v := c_edN S O V x0 k + 1) (lv' := [(4, .int (c_edN S O V x0 k + 1)), (5, .int (nI k)), (0, .ref (X 2)), (1, .int x0), (2, .ref (X 5)), (3, .ref (X 3))]) hx hb dX3_endDue_51 hl (k := 1) rfl rfl (by decide) rfl (fun ls hl => ?_)
        refine lv_iinc (v := nI (k + 1)) (lv' := [(5, .int (nI (k + 1))), (4, .int (c_edN S O V x0 k + 1)), (0, .ref (X 2)), (1, .int x0), (2, .ref (X 5)), (3, .ref (X 3))]) hx hb dX3_endDue_54 hl (k := 1) rfl (nI_1 _) (by decide) rfl (fun ls hl => ?_)
        refine lv_goto (tgt := 6) hx hb dX3_endDue_57 (by decide) ?_
        have e4 : c_edN S O V x0 (k + 1) = c_edN S O V x0 k + 1 := by simp [c_edN, c_edO, bi, c_22, c_42]
        have eO : c_edO S O V x0 (k + 1) = va_up (c_edO S O V x0 k) k true := by simp [c_edN, c_edO, bi, c_22, c_42]
        exact ih_6 H locs ls (by show va_P D vwCl (hW cI cZ X S (c_edO S O V x0 (k + 1)) V) H; rw [eO]; exact hP) (by show va_D A (hW cI cZ X S (c_edO S O V x0 (k + 1)) V); rw [eO]; exact hD) hS (by show lv_has ls 6 [(5, .int (nI (k + 1))), (4, .int (c_edN S O V x0 (k + 1))), (0, .ref (X 2)), (1, .int x0), (2, .ref (X 5)), (3, .ref (X 3))]; rw [e4]; exact lv_sub hl [0, 1, 2, 3, 4, 5] rfl)
end
section
set_option maxHeartbeats 4000000 in
set_option maxRecDepth 100000 in
theorem kX0_cacheOf (l : Launch) (D : va_G) (cI cZ : ClassId) (X : Nat → Nat) (S : Nat → Nat → Int32) (O : Nat → Bool) (V : Nat → Int32) (ai : Nat) (hai : ai < 4) : Met l yX0_cacheOf wsX0_cacheOf ({ frames := 0, cells := 0, slots := 0, locals := 0 } : Room) (zR D (tyl cI cZ) (hW cI cZ X S O V) [.ref (X 4), .int (nI ai)]) (QcRead (S 16 ai)) 0 0 (fun _ => False) := by
  refine Met.ofW (cc := cX0_cacheOf) (maxL := 2) (ret := (some .int)) (by decide) rfl ?_
  intro p e s m args below meth c s₁ B hml hv
  obtain ⟨rfl, hP, hK⟩ := hv
  have hx := B.exec
  have hb := B.bytes
  have hr := B.returns
  have hts := atoms_spec (ws := wsX0_cacheOf) B.pre
  have hown : s.vm.findClass RX0 = some m.cls := findClass_of_methodNamed B.named
  have hlocks := B.notSynchronized
  have i0 : ∀ w ∈ u_ws RX0 TX0 3, w ∈ wsX0_cacheOf := by decide +kernel
  have fl_9 := hts (.fieldLink RX0 9 "SignOnHouse$Decisions" "caches" "[I") (by decide +kernel)
  have hl := lv_entry ([.ref (X 4), .int (nI ai)]) (n := 2) (Nat.le_of_ble_eq_true rfl)
  rw [lg_entry_eq]
  generalize (lg_sl ([.ref (X 4), .int (nI ai)]) ++ List.replicate (2 - (lg_sl ([.ref (X 4), .int (nI ai)])).length) Slot.unset).toArray = ls at hl ⊢
  have hl : lv_has ls 2 [(0, .ref (X 4)), (1, .int (nI ai))] := hl
  refine lv_aload_n hx hb dX0_cacheOf_0 rfl (lv_at hl 0 rfl) ?_
  refine va_get (D := D) (ci := 0) (v := .ref (X 16)) (C := RX0) (T := TX0) (N := 3) hx hb hts i0 hown hK hP 4 rfl rfl 0 (by decide) fl_9 (fun _ h9 => h9) rfl dX0_cacheOf_1 ?_
  refine lv_iload_n hx hb dX0_cacheOf_4 rfl (lv_at hl 1 rfl) ?_
  refine z_iald (D := D) (j := ai) (f := S 16) hx hb hK hP 16 0 rfl rfl (by omega) (by decide) dX0_cacheOf_5 ?_
  exact z_ret hx hb hr hlocks rfl dX0_cacheOf_6

set_option maxHeartbeats 4000000 in
set_option maxRecDepth 100000 in
theorem kX0_allowCache (l : Launch) (D : va_G) (cI cZ : ClassId) (X : Nat → Nat) (S : Nat → Nat → Int32) (O : Nat → Bool) (V : Nat → Int32) (sz : Nat) (ai : Nat) (x0 : Int32) (hai : ai < 4) : Met l yX0_allowCache wsX0_allowCache ({ frames := 0, cells := 0, slots := 0, locals := 0 } : Room) (zW D (tyl cI cZ) (hW cI cZ X S O V) sz [.ref (X 4), .int (nI ai), .int x0]) (zQv D (tyl cI cZ) (hW cI cZ X (va_up S 16 (upd (S 16) ai x0)) O V) (va_A (hW cI cZ X S O V) sz)) 0 0 (va_A (hW cI cZ X S O V) sz) := by
  refine Met.ofW (cc := cX0_allowCache) (maxL := 3) (ret := none) (by decide) rfl ?_
  intro p e s m args below meth c s₁ B hml hv
  obtain ⟨rfl, hsz, hP, hK, hD0⟩ := hv
  have hx := B.exec
  have hb := B.bytes
  have hr := B.returns
  have hts := atoms_spec (ws := wsX0_allowCache) B.pre
  have hown : s.vm.findClass RX0 = some m.cls := findClass_of_methodNamed B.named
  have hlocks := B.notSynchronized
  subst hsz
  have hD := hD0.self (sz := s.heap.size)
  generalize hAe : va_A (hW cI cZ X S O V) s.heap.size = A at hD ⊢
  have hA : ∀ q : Nat, s.heap.size ≤ q → A q := fun q h => by rw [← hAe]; exact Or.inr h
  have hS : va_S A s.heap s.heap [] := va_S.rf
  have i0 : ∀ w ∈ u_ws RX0 TX0 3, w ∈ wsX0_allowCache := by decide +kernel
  have fl_9 := hts (.fieldLink RX0 9 "SignOnHouse$Decisions" "caches" "[I") (by decide +kernel)
  have hl := lv_entry ([.ref (X 4), .int (nI ai), .int x0]) (n := 3) (Nat.le_of_ble_eq_true rfl)
  rw [lg_entry_eq]
  generalize (lg_sl ([.ref (X 4), .int (nI ai), .int x0]) ++ List.replicate (3 - (lg_sl ([.ref (X 4), .int (nI ai), .int x0])).length) Slot.unset).toArray = ls at hl ⊢
  have hl : lv_has ls 3 [(0, .ref (X 4)), (1, .int (nI ai)), (2, .int x0)] := hl
  refine lv_aload_n hx hb dX0_allowCache_0 rfl (lv_at hl 0 rfl) ?_
  refine va_get (D := D) (ci := 0) (v := .ref (X 16)) (C := RX0) (T := TX0) (N := 3) hx hb hts i0 hown hK hP 4 rfl rfl 0 (by decide) fl_9 (fun _ h9 => h9) rfl dX0_allowCache_1 ?_
  refine lv_iload_n hx hb dX0_allowCache_4 rfl (lv_at hl 1 rfl) ?_
  refine lv_iload_n hx hb dX0_allowCache_5 rfl (lv_at hl 2 rfl) ?_
  refine z_iast (D := D) (j := ai) (f := S 16) hx hb hK hP hD hS 16 0 rfl rfl (by omega) (by decide) dX0_allowCache_6 (fun H locs hP hD hS => ?_)
  have hP : va_P D vwCl (hW cI cZ X (va_up S 16 (upd (S 16) ai x0)) O V) H := hP
  have hD : va_D A (hW cI cZ X (va_up S 16 (upd (S 16) ai x0)) O V) := hD
  exact z_wvret hx hb hr hlocks hP hK hD hS dX0_allowCache_7

set_option maxHeartbeats 4000000 in
set_option maxRecDepth 100000 in
theorem kX0_place (l : Launch) (ai : Nat) (pi : Nat) (ri : Nat) : Met l yX0_place wsX0_place ({ frames := 0, cells := 0, slots := 0, locals := 0 } : Room) (zP [.int (nI ai), .int (nI pi), .int (nI ri)]) (QcRead (nI (ai * 60 + pi * 6 + ri))) 0 0 (fun _ => False) := by
  refine Met.ofW (cc := cX0_place) (maxL := 3) (ret := (some .int)) (by decide) rfl ?_
  intro p e s m args below meth c s₁ B hml hv
  obtain rfl := hv
  have hx := B.exec
  have hb := B.bytes
  have hr := B.returns
  have hts := atoms_spec (ws := wsX0_place) B.pre
  have hown : s.vm.findClass RX0 = some m.cls := findClass_of_methodNamed B.named
  have hlocks := B.notSynchronized
  have hl := lv_entry ([.int (nI ai), .int (nI pi), .int (nI ri)]) (n := 3) (Nat.le_of_ble_eq_true rfl)
  rw [lg_entry_eq]
  generalize (lg_sl ([.int (nI ai), .int (nI pi), .int (nI ri)]) ++ List.replicate (3 - (lg_sl ([.int (nI ai), .int (nI pi), .int (nI ri)])).length) Slot.unset).toArray = ls at hl ⊢
  have hl : lv_has ls 3 [(0, .int (nI ai)), (1, .int (nI pi)), (2, .int (nI ri))] := hl
  refine lv_iload_n hx hb dX0_place_0 rfl (lv_at hl 0 rfl) ?_
  refine lv_bipush (v := 60) hx hb dX0_place_1 (by decide) ?_
  refine lv_imul hx hb dX0_place_3 ?_
  refine lv_iload_n hx hb dX0_place_4 rfl (lv_at hl 1 rfl) ?_
  refine lv_bipush (v := 6) hx hb dX0_place_5 (by decide) ?_
  refine lv_imul hx hb dX0_place_7 ?_
  refine lv_iadd hx hb dX0_place_8 ?_
  refine lv_iload_n hx hb dX0_place_9 rfl (lv_at hl 2 rfl) ?_
  refine lv_iadd hx hb dX0_place_10 ?_
  exact z_ret hx hb hr hlocks (by simp only [show (60 : Int32) = nI 60 from rfl, show (6 : Int32) = nI 6 from rfl, pk_mul, nI_add]) dX0_place_11

set_option maxHeartbeats 4000000 in
set_option maxRecDepth 100000 in
theorem kX0_areKept (l : Launch) (D : va_G) (cI cZ : ClassId) (X : Nat → Nat) (S : Nat → Nat → Int32) (O : Nat → Bool) (V : Nat → Int32) (ai : Nat) (pi : Nat) (ri : Nat) (hai : ai < 4) (hpi : pi < 10) (hri : ri < 6) : Met l yX0_areKept wsX0_areKept ({ frames := 1, cells := 0, slots := 0, locals := 22 } : Room) (zR D (tyl cI cZ) (hW cI cZ X S O V) [.ref (X 4), .int (nI ai), .int (nI pi), .int (nI ri)]) (QcRead (bi (!decide (S 17 (ai * 60 + pi * 6 + ri) = (-1))))) 0 0 (fun _ => False) := by
  refine Met.ofW (cc := cX0_areKept) (maxL := 4) (ret := (some .boolean)) (by decide) rfl ?_
  intro p e s m args below meth c s₁ B hml hv
  obtain ⟨rfl, hP, hK⟩ := hv
  have hx := B.exec
  have hb := B.bytes
  have hr := B.returns
  have hts := atoms_spec (ws := wsX0_areKept) B.pre
  have hown : s.vm.findClass RX0 = some m.cls := findClass_of_methodNamed B.named
  have hlocks := B.notSynchronized
  have i0 : ∀ w ∈ u_ws RX0 TX0 3, w ∈ wsX0_areKept := by decide +kernel
  have fl_15 := hts (.fieldLink RX0 15 "SignOnHouse$Decisions" "answers" "[I") (by decide +kernel)
  have hl := lv_entry ([.ref (X 4), .int (nI ai), .int (nI pi), .int (nI ri)]) (n := 4) (Nat.le_of_ble_eq_true rfl)
  rw [lg_entry_eq]
  generalize (lg_sl ([.ref (X 4), .int (nI ai), .int (nI pi), .int (nI ri)]) ++ List.replicate (4 - (lg_sl ([.ref (X 4), .int (nI ai), .int (nI pi), .int (nI ri)])).length) Slot.unset).toArray = ls at hl ⊢
  have hl : lv_has ls 4 [(0, .ref (X 4)), (1, .int (nI ai)), (2, .int (nI pi)), (3, .int (nI ri))] := hl
  refine lv_aload_n hx hb dX0_areKept_0 rfl (lv_at hl 0 rfl) ?_
  refine va_get (D := D) (ci := 0) (v := .ref (X 17)) (C := RX0) (T := TX0) (N := 3) hx hb hts i0 hown hK hP 4 rfl rfl 1 (by decide) fl_15 (fun _ h9 => h9) rfl dX0_areKept_1 ?_
  refine lv_iload_n hx hb dX0_areKept_4 rfl (lv_at hl 1 rfl) ?_
  refine lv_iload_n hx hb dX0_areKept_5 rfl (lv_at hl 2 rfl) ?_
  refine lv_iload_n hx hb dX0_areKept_6 rfl (lv_at hl 3 rfl) ?_
  refine z_callR (W.runS (As := [.int (nI ai), .int (nI pi), .int (nI ri)]) (rest := [.ref (X 17)]) ⟨hx, hb, hml, hown, hts⟩ (kX0_place l ai pi ri) (va_cwS 3 hts gX0_areKept_X0_place rfl rfl rfl (by decide +kernel) ⟨Nat.le_of_ble_eq_true rfl, Nat.le_of_ble_eq_true rfl⟩) zP_pre rfl rfl hl.1 rfl (lv_room (Nat.le_of_ble_eq_true rfl)) dX0_areKept_7 ⟨Nat.zero_le _, Nat.zero_le _⟩) ?_
  refine z_iald (D := D) (j := (ai * 60 + pi * 6 + ri)) (f := S 17) hx hb hK hP 17 0 rfl rfl (by omega) (by decide) dX0_areKept_10 ?_
  refine lv_iconst (v := (-1)) hx hb dX0_areKept_11 rfl ?_
  refine z_sel_icmp_eq hx hb dX0_areKept_12 dX0_areKept_15 dX0_areKept_16 dX0_areKept_19 ?_
  exact z_zret hx hb hr hlocks rfl dX0_areKept_20

set_option maxHeartbeats 4000000 in
set_option maxRecDepth 100000 in
theorem kX0_answer (l : Launch) (D : va_G) (cI cZ : ClassId) (X : Nat → Nat) (S : Nat → Nat → Int32) (O : Nat → Bool) (V : Nat → Int32) (ai : Nat) (pi : Nat) (ri : Nat) (hai : ai < 4) (hpi : pi < 10) (hri : ri < 6) : Met l yX0_answer wsX0_answer ({ frames := 1, cells := 0, slots := 0, locals := 22 } : Room) (zR D (tyl cI cZ) (hW cI cZ X S O V) [.ref (X 4), .int (nI ai), .int (nI pi), .int (nI ri)]) (QcRead (S 17 (ai * 60 + pi * 6 + ri))) 0 0 (fun _ => False) := by
  refine Met.ofW (cc := cX0_answer) (maxL := 4) (ret := (some .int)) (by decide) rfl ?_
  intro p e s m args below meth c s₁ B hml hv
  obtain ⟨rfl, hP, hK⟩ := hv
  have hx := B.exec
  have hb := B.bytes
  have hr := B.returns
  have hts := atoms_spec (ws := wsX0_answer) B.pre
  have hown : s.vm.findClass RX0 = some m.cls := findClass_of_methodNamed B.named
  have hlocks := B.notSynchronized
  have i0 : ∀ w ∈ u_ws RX0 TX0 3, w ∈ wsX0_answer := by decide +kernel
  have fl_15 := hts (.fieldLink RX0 15 "SignOnHouse$Decisions" "answers" "[I") (by decide +kernel)
  have hl := lv_entry ([.ref (X 4), .int (nI ai), .int (nI pi), .int (nI ri)]) (n := 4) (Nat.le_of_ble_eq_true rfl)
  rw [lg_entry_eq]
  generalize (lg_sl ([.ref (X 4), .int (nI ai), .int (nI pi), .int (nI ri)]) ++ List.replicate (4 - (lg_sl ([.ref (X 4), .int (nI ai), .int (nI pi), .int (nI ri)])).length) Slot.unset).toArray = ls at hl ⊢
  have hl : lv_has ls 4 [(0, .ref (X 4)), (1, .int (nI ai)), (2, .int (nI pi)), (3, .int (nI ri))] := hl
  refine lv_aload_n hx hb dX0_answer_0 rfl (lv_at hl 0 rfl) ?_
  refine va_get (D := D) (ci := 0) (v := .ref (X 17)) (C := RX0) (T := TX0) (N := 3) hx hb hts i0 hown hK hP 4 rfl rfl 1 (by decide) fl_15 (fun _ h9 => h9) rfl dX0_answer_1 ?_
  refine lv_iload_n hx hb dX0_answer_4 rfl (lv_at hl 1 rfl) ?_
  refine lv_iload_n hx hb dX0_answer_5 rfl (lv_at hl 2 rfl) ?_
  refine lv_iload_n hx hb dX0_answer_6 rfl (lv_at hl 3 rfl) ?_
  refine z_callR (W.runS (As := [.int (nI ai), .int (nI pi), .int (nI ri)]) (rest := [.ref (X 17)]) ⟨hx, hb, hml, hown, hts⟩ (kX0_place l ai pi ri) (va_cwS 3 hts gX0_answer_X0_place rfl rfl rfl (by decide +kernel) ⟨Nat.le_of_ble_eq_true rfl, Nat.le_of_ble_eq_true rfl⟩) zP_pre rfl rfl hl.1 rfl (lv_room (Nat.le_of_ble_eq_true rfl)) dX0_answer_7 ⟨Nat.zero_le _, Nat.zero_le _⟩) ?_
  refine z_iald (D := D) (j := (ai * 60 + pi * 6 + ri)) (f := S 17) hx hb hK hP 17 0 rfl rfl (by omega) (by decide) dX0_answer_10 ?_
  exact z_ret hx hb hr hlocks rfl dX0_answer_11

set_option maxHeartbeats 4000000 in
set_option maxRecDepth 100000 in
theorem kX0_keep (l : Launch) (D : va_G) (cI cZ : ClassId) (X : Nat → Nat) (S : Nat → Nat → Int32) (O : Nat → Bool) (V : Nat → Int32) (sz : Nat) (ai : Nat) (pi : Nat) (ri : Nat) (x0 : Int32) (x1 : Int32) (hai : ai < 4) (hpi : pi < 10) (hri : ri < 6) : Met l yX0_keep wsX0_keep ({ frames := 1, cells := 0, slots := 0, locals := 22 } : Room) (zW D (tyl cI cZ) (hW cI cZ X S O V) sz [.ref (X 4), .int (nI ai), .int (nI pi), .int (nI ri), .int x0, .int x1]) (zQv D (tyl cI cZ) (hW cI cZ X (c_keep S ai pi ri x0 x1) O V) (va_A (hW cI cZ X S O V) sz)) 0 0 (va_A (hW cI cZ X S O V) sz) := by
  refine Met.ofW (cc := cX0_keep) (maxL := 6) (ret := none) (by decide) rfl ?_
  intro p e s m args below meth c s₁ B hml hv
  obtain ⟨rfl, hsz, hP, hK, hD0⟩ := hv
  have hx := B.exec
  have hb := B.bytes
  have hr := B.returns
  have hts := atoms_spec (ws := wsX0_keep) B.pre
  have hown : s.vm.findClass RX0 = some m.cls := findClass_of_methodNamed B.named
  have hlocks := B.notSynchronized
  subst hsz
  have hD := hD0.self (sz := s.heap.size)
  generalize hAe : va_A (hW cI cZ X S O V) s.heap.size = A at hD ⊢
  have hA : ∀ q : Nat, s.heap.size ≤ q → A q := fun q h => by rw [← hAe]; exact Or.inr h
  have hS : va_S A s.heap s.heap [] := va_S.rf
  have i0 : ∀ w ∈ u_ws RX0 TX0 3, w ∈ wsX0_keep := by decide +kernel
  have fl_9 := hts (.fieldLink RX0 9 "SignOnHouse$Decisions" "caches" "[I") (by decide +kernel)
  have fl_15 := hts (.fieldLink RX0 15 "SignOnHouse$Decisions" "answers" "[I") (by decide +kernel)
  have fl_18 := hts (.fieldLink RX0 18 "SignOnHouse$Decisions" "keptSince" "[I") (by decide +kernel)
  have hl := lv_entry ([.ref (X 4), .int (nI ai), .int (nI pi), .int (nI ri), .int x0, .int x1]) (n := 6) (Nat.le_of_ble_eq_true rfl)
  rw [lg_entry_eq]
  generalize (lg_sl ([.ref (X 4), .int (nI ai), .int (nI pi), .int (nI ri), .int x0, .int x1]) ++ List.replicate (6 - (lg_sl ([.ref (X 4), .int (nI ai), .int (nI pi), .int (nI ri), .int x0, .int x1])).length) Slot.unset).toArray = ls at hl ⊢
  have hl : lv_has ls 6 [(0, .ref (X 4)), (1, .int (nI ai)), (2, .int (nI pi)), (3, .int (nI ri)), (4, .int x0), (5, .int x1)] := hl
  refine lv_aload_n hx hb dX0_keep_0 rfl (lv_at hl 0 rfl) ?_
  refine va_get (D := D) (ci := 0) (v := .ref (X 16)) (C := RX0) (T := TX0) (N := 3) hx hb hts i0 hown hK hP 4 rfl rfl 0 (by decide) fl_9 (fun _ h9 => h9) rfl dX0_keep_1 ?_
  refine lv_iload_n hx hb dX0_keep_4 rfl (lv_at hl 1 rfl) ?_
  refine z_iald (D := D) (j := ai) (f := S 16) hx hb hK hP 16 0 rfl rfl (by omega) (by decide) dX0_keep_5 ?_
  refine lv_if_ne (tgt := 10) hx hb dX0_keep_6 (by decide) (fun c_6 => ?_) (fun c_6 => ?_)
  · refine lv_aload_n hx hb dX0_keep_10 rfl (lv_at hl 0 rfl) ?_
    refine va_get (D := D) (ci := 0) (v := .ref (X 17)) (C := RX0) (T := TX0) (N := 3) hx hb hts i0 hown hK hP 4 rfl rfl 1 (by decide) fl_15 (fun _ h9 => h9) rfl dX0_keep_11 ?_
    refine lv_iload_n hx hb dX0_keep_14 rfl (lv_at hl 1 rfl) ?_
    refine lv_iload_n hx hb dX0_keep_15 rfl (lv_at hl 2 rfl) ?_
    refine lv_iload_n hx hb dX0_keep_16 rfl (lv_at hl 3 rfl) ?_
    refine z_callR (W.runS (As := [.int (nI ai), .int (nI pi), .int (nI ri)]) (rest := [.ref (X 17)]) ⟨hx, hb, hml, hown, hts⟩ (kX0_place l ai pi ri) (va_cwS 3 hts gX0_keep_X0_place rfl rfl rfl (by decide +kernel) ⟨Nat.le_of_ble_eq_true rfl, Nat.le_of_ble_eq_true rfl⟩) zP_pre rfl rfl hl.1 rfl (lv_room (Nat.le_of_ble_eq_true rfl)) dX0_keep_17 ⟨Nat.zero_le _, Nat.zero_le _⟩) ?_
    refine lv_iload hx hb dX0_keep_20 (lv_at hl 4 rfl) ?_
    refine z_iast (D := D) (j := (ai * 60 + pi * 6 + ri)) (f := S 17) hx hb hK hP hD hS 17 0 rfl rfl (by omega) (by decide) dX0_keep_22 (fun H locs hP hD hS => ?_)
    have hP : va_P D vwCl (hW cI cZ X (va_up S 17 (upd (S 17) (ai * 60 + pi * 6 + ri) x0)) O V) H := hP
    have hD : va_D A (hW cI cZ X (va_up S 17 (upd (S 17) (ai * 60 + pi * 6 + ri) x0)) O V) := hD
    refine lv_aload_n hx hb dX0_keep_23 rfl (lv_at hl 0 rfl) ?_
    refine va_get (D := D) (ci := 0) (v := .ref (X 18)) (C := RX0) (T := TX0) (N := 3) hx hb hts i0 hown hK hP 4 rfl rfl 2 (by decide) fl_18 (fun _ h9 => h9) rfl dX0_keep_24 ?_
    refine lv_iload_n hx hb dX0_keep_27 rfl (lv_at hl 1 rfl) ?_
    refine lv_iload_n hx hb dX0_keep_28 rfl (lv_at hl 2 rfl) ?_
    refine lv_iload_n hx hb dX0_keep_29 rfl (lv_at hl 3 rfl) ?_
    refine z_callR (W.runS (As := [.int (nI ai), .int (nI pi), .int (nI ri)]) (rest := [.ref (X 18)]) ⟨hx, hb, hml, hown, hts⟩ (kX0_place l ai pi ri) (va_cwS 3 hts gX0_keep_X0_place rfl rfl rfl (by decide +kernel) ⟨Nat.le_of_ble_eq_true rfl, Nat.le_of_ble_eq_true rfl⟩) zP_pre rfl rfl hl.1 rfl (lv_room (Nat.le_of_ble_eq_true rfl)) dX0_keep_30 ⟨Nat.zero_le _, Nat.zero_le _⟩) ?_
    refine lv_iload hx hb dX0_keep_33 (lv_at hl 5 rfl) ?_
    refine z_iast (D := D) (j := (ai * 60 + pi * 6 + ri)) (f := S 18) hx hb hK hP hD hS 18 0 rfl rfl (by omega) (by decide) dX0_keep_35 (fun H locs hP hD hS => ?_)
    have hP : va_P D vwCl (hW cI cZ X (va_up (va_up S 17 (upd (S 17) (ai * 60 + pi * 6 + ri) x0)) 18 (upd (S 18) (ai * 60 + pi * 6 + ri) x1)) O V) H := hP
    have hD : va_D A (hW cI cZ X (va_up (va_up S 17 (upd (S 17) (ai * 60 + pi * 6 + ri) x0)) 18 (upd (S 18) (ai * 60 + pi * 6 + ri) x1)) O V) := hD
    have eS : c_keep S ai pi ri x0 x1 = va_up (va_up S 17 (upd (S 17) (ai * 60 + pi * 6 + ri) x0)) 18 (upd (S 18) (ai * 60 + pi * 6 + ri) x1) := by simp [c_keep, bi, c_6]
    exact z_wvret hx hb hr hlocks (by rw [eS]; exact hP) hK (by rw [eS]; exact hD) hS dX0_keep_36
  · have eS : c_keep S ai pi ri x0 x1 = S := by simp [c_keep, bi, (eq_true c_6)]
    exact z_wvret hx hb hr hlocks (by rw [eS]; exact hP) hK (by rw [eS]; exact hD) hS dX0_keep_9

set_option maxHeartbeats 4000000 in
set_option maxRecDepth 100000 in
theorem kX0_dropAllOf (l : Launch) (D : va_G) (cI cZ : ClassId) (X : Nat → Nat) (S : Nat → Nat → Int32) (O : Nat → Bool) (V : Nat → Int32) (sz : Nat) (ai : Nat) (pi : Nat) (hai : ai < 4) (hpi : pi < 10) : Met l yX0_dropAllOf wsX0_dropAllOf ({ frames := 2, cells := 0, slots := 0, locals := 45 } : Room) (zW D (tyl cI cZ) (hW cI cZ X S O V) sz [.ref (X 4), .int (nI ai), .int (nI pi)]) (zQi D (tyl cI cZ) (hW cI cZ X (c_daS S ai pi 6) O V) (c_daN S ai pi 6) (va_A (hW cI cZ X S O V) sz)) 0 0 (va_A (hW cI cZ X S O V) sz) := by
  refine Met.ofW (cc := cX0_dropAllOf) (maxL := 5) (ret := (some .int)) (by decide) rfl ?_
  intro p e s m args below meth c s₁ B hml hv
  obtain ⟨rfl, hsz, hP, hK, hD0⟩ := hv
  have hx := B.exec
  have hb := B.bytes
  have hr := B.returns
  have hts := atoms_spec (ws := wsX0_dropAllOf) B.pre
  have hown : s.vm.findClass RX0 = some m.cls := findClass_of_methodNamed B.named
  have hlocks := B.notSynchronized
  subst hsz
  have hD := hD0.self (sz := s.heap.size)
  generalize hAe : va_A (hW cI cZ X S O V) s.heap.size = A at hD ⊢
  have hA : ∀ q : Nat, s.heap.size ≤ q → A q := fun q h => by rw [← hAe]; exact Or.inr h
  have hS : va_S A s.heap s.heap [] := va_S.rf
  have i0 : ∀ w ∈ u_ws RX0 TX0 3, w ∈ wsX0_dropAllOf := by decide +kernel
  have fl_15 := hts (.fieldLink RX0 15 "SignOnHouse$Decisions" "answers" "[I") (by decide +kernel)
  have hl := lv_entry ([.ref (X 4), .int (nI ai), .int (nI pi)]) (n := 5) (Nat.le_of_ble_eq_true rfl)
  rw [lg_entry_eq]
  generalize (lg_sl ([.ref (X 4), .int (nI ai), .int (nI pi)]) ++ List.replicate (5 - (lg_sl ([.ref (X 4), .int (nI ai), .int (nI pi)])).length) Slot.unset).toArray = ls at hl ⊢
  have hl : lv_has ls 5 [(0, .ref (X 4)), (1, .int (nI ai)), (2, .int (nI pi))] := hl
  refine lv_iconst (v := 0) hx hb dX0_dropAllOf_0 rfl ?_
  refine lv_istore_n (lv' := [(3, .int 0), (0, .ref (X 4)), (1, .int (nI ai)), (2, .int (nI pi))]) hx hb dX0_dropAllOf_1 rfl hl (by decide) rfl (fun ls hl => ?_)
  refine lv_iconst (v := nI 0) hx hb dX0_dropAllOf_2 rfl ?_
  refine lv_istore (lv' := [(4, .int (nI 0)), (3, .int 0), (0, .ref (X 4)), (1, .int (nI ai)), (2, .int (nI pi))]) hx hb dX0_dropAllOf_3 hl (by decide) rfl (fun ls hl => ?_)
  refine z_loopW (N := 6) (nL := 5) (Lc := (fun k => [(4, .int (nI k)), (3, .int (c_daN S ai pi k)), (0, .ref (X 4)), (1, .int (nI ai)), (2, .int (nI pi))])) (Wd := fun k => hW cI cZ X (c_daS S ai pi k) O V) (lv_sub hl [0, 1, 2, 3, 4] rfl) hP hD hS (fun H locs ls hP hD hS hl => ?_) (fun k H locs ls hk hP hD hS hl ih => ?_)
  · have hP : va_P D vwCl (hW cI cZ X (c_daS S ai pi 6) O V) H := hP
    have hD : va_D A (hW cI cZ X (c_daS S ai pi 6) O V) := hD
    have hl : lv_has ls 5 [(4, .int (nI 6)), (3, .int (c_daN S ai pi 6)), (0, .ref (X 4)), (1, .int (nI ai)), (2, .int (nI pi))] := hl
    refine lv_iload hx hb dX0_dropAllOf_5 (lv_at hl 0 rfl) ?_
    refine lv_bipush (v := nI 6) hx hb dX0_dropAllOf_7 (by decide) ?_
    refine z_ge_t (tgt := 45) (nI_le (by omega) (by omega)) hx hb dX0_dropAllOf_9 (by decide) ?_
    refine lv_iload_n hx hb dX0_dropAllOf_45 rfl (lv_at hl 1 rfl) ?_
    exact z_wret hx hb hr hlocks hP hK hD hS rfl dX0_dropAllOf_46
  · have hP : va_P D vwCl (hW cI cZ X (c_daS S ai pi k) O V) H := hP
    have hD : va_D A (hW cI cZ X (c_daS S ai pi k) O V) := hD
    have hl : lv_has ls 5 [(4, .int (nI k)), (3, .int (c_daN S ai pi k)), (0, .ref (X 4)), (1, .int (nI ai)), (2, .int (nI pi))] := hl
    have ih_5 := ih
    refine lv_iload hx hb dX0_dropAllOf_5 (lv_at hl 0 rfl) ?_
    refine lv_bipush (v := nI 6) hx hb dX0_dropAllOf_7 (by decide) ?_
    refine z_ge_f (tgt := 45) (nI_ge (by omega) (by omega)) hx hb dX0_dropAllOf_9 (by decide) ?_
    refine lv_aload_n hx hb dX0_dropAllOf_12 rfl (lv_at hl 2 rfl) ?_
    refine lv_iload_n hx hb dX0_dropAllOf_13 rfl (lv_at hl 3 rfl) ?_
    refine lv_iload_n hx hb dX0_dropAllOf_14 rfl (lv_at hl 4 rfl) ?_
    refine lv_iload hx hb dX0_dropAllOf_15 (lv_at hl 0 rfl) ?_
    refine z_callR (W.runV (As := [.int (nI ai), .int (nI pi), .int (nI k)]) (rest := []) ⟨hx, hb, hml, hown, hts⟩ (kX0_areKept l D cI cZ X (c_daS S ai pi k) O V ai pi k (by omega) (by omega) (by omega)) (cwV 3 hts gX0_dropAllOf_X0_areKept rfl rfl rfl (by decide +kernel) ⟨Nat.le_of_ble_eq_true rfl, Nat.le_of_ble_eq_true rfl⟩) (zR_preV 4 0 hK hP rfl rfl) rfl rfl hl.1 rfl (lv_room (Nat.le_of_ble_eq_true rfl)) dX0_dropAllOf_17 ⟨Nat.zero_le _, Nat.zero_le _⟩) ?_
    refine z_if_eq (tgt := 39) hx hb dX0_dropAllOf_20 (by decide) (fun c_20 => ?_) (fun c_20 => ?_)
    · refine lv_iinc (v := nI (k + 1)) (lv' := [(4, .int (nI (k + 1))), (3, .int (c_daN S ai pi k)), (0, .ref (X 4)), (1, .int (nI ai)), (2, .int (nI pi))]) hx hb dX0_dropAllOf_39 hl (k := 0) rfl (nI_1 _) (by decide) rfl (fun ls hl => ?_)
      refine lv_goto (tgt := 5) hx hb dX0_dropAllOf_42 (by decide) ?_
      have e3 : c_daN S ai pi (k + 1) = c_daN S ai pi k := by simp [c_daN, c_daS, bi, (eq_true (nd_f c_20))]
      have eS : c_daS S ai pi (k + 1) = c_daS S ai pi k := by simp [c_daN, c_daS, bi, (eq_true (nd_f c_20))]
      exact ih_5 H locs ls (by show va_P D vwCl (hW cI cZ X (c_daS S ai pi (k + 1)) O V) H; rw [eS]; exact hP) (by show va_D A (hW cI cZ X (c_daS S ai pi (k + 1)) O V); rw [eS]; exact hD) hS (by show lv_has ls 5 [(4, .int (nI (k + 1))), (3, .int (c_daN S ai pi (k + 1))), (0, .ref (X 4)), (1, .int (nI ai)), (2, .int (nI pi))]; rw [e3]; exact lv_sub hl [0, 1, 2, 3, 4] rfl)
    · refine lv_aload_n hx hb dX0_dropAllOf_23 rfl (lv_at hl 2 rfl) ?_
      refine va_get (D := D) (ci := 0) (v := .ref (X 17)) (C := RX0) (T := TX0) (N := 3) hx hb hts i0 hown hK hP 4 rfl rfl 1 (by decide) fl_15 (fun _ h9 => h9) rfl dX0_dropAllOf_24 ?_
      refine lv_iload_n hx hb dX0_dropAllOf_27 rfl (lv_at hl 3 rfl) ?_
      refine lv_iload_n hx hb dX0_dropAllOf_28 rfl (lv_at hl 4 rfl) ?_
      refine lv_iload hx hb dX0_dropAllOf_29 (lv_at hl 0 rfl) ?_
      refine z_callR (W.runS (As := [.int (nI ai), .int (nI pi), .int (nI k)]) (rest := [.ref (X 17)]) ⟨hx, hb, hml, hown, hts⟩ (kX0_place l ai pi k) (va_cwS 3 hts gX0_dropAllOf_X0_place rfl rfl rfl (by decide +kernel) ⟨Nat.le_of_ble_eq_true rfl, Nat.le_of_ble_eq_true rfl⟩) zP_pre rfl rfl hl.1 rfl (lv_room (Nat.le_of_ble_eq_true rfl)) dX0_dropAllOf_31 ⟨Nat.zero_le _, Nat.zero_le _⟩) ?_
      refine lv_iconst (v := (-1)) hx hb dX0_dropAllOf_34 rfl ?_
      refine z_iast (D := D) (j := (ai * 60 + pi * 6 + k)) (f := (c_daS S ai pi k) 17) hx hb hK hP hD hS 17 0 rfl rfl (by omega) (by decide) dX0_dropAllOf_35 (fun H locs hP hD hS => ?_)
      have hP : va_P D vwCl (hW cI cZ X (va_up (c_daS S ai pi k) 17 (upd ((c_daS S ai pi k) 17) (ai * 60 + pi * 6 + k) (-1))) O V) H := hP
      have hD : va_D A (hW cI cZ X (va_up (c_daS S ai pi k) 17 (upd ((c_daS S ai pi k) 17) (ai * 60 + pi * 6 + k) (-1))) O V) := hD
      refine lv_iinc (v := c_daN S ai pi k + 1) (lv' := [(3, .int (c_daN S ai pi k + 1)), (4, .int (nI k)), (0, .ref (X 4)), (1, .int (nI ai)), (2, .int (nI pi))]) hx hb dX0_dropAllOf_36 hl (k := 1) rfl rfl (by decide) rfl (fun ls hl => ?_)
      refine lv_iinc (v := nI (k + 1)) (lv' := [(4, .int (nI (k + 1))), (3, .int (c_daN S ai pi k + 1)), (0, .ref (X 4)), (1, .int (nI ai)), (2, .int (nI pi))]) hx hb dX0_dropAllOf_39 hl (k := 1) rfl (nI_1 _) (by decide) rfl (fun ls hl => ?_)
      refine lv_goto (tgt := 5) hx hb dX0_dropAllOf_42 (by decide) ?_
      have e3 : c_daN S ai pi (k + 1) = c_daN S ai pi k + 1 := by simp [c_daN, c_daS, bi, (nd_t c_20)]
      have eS : c_daS S ai pi (k + 1) = va_up (c_daS S ai pi k) 17 (upd ((c_daS S ai pi k) 17) (ai * 60 + pi * 6 + k) (-1)) := by simp [c_daN, c_daS, bi, (nd_t c_20)]
      exact ih_5 H locs ls (by show va_P D vwCl (hW cI cZ X (c_daS S ai pi (k + 1)) O V) H; rw [eS]; exact hP) (by show va_D A (hW cI cZ X (c_daS S ai pi (k + 1)) O V); rw [eS]; exact hD) hS (by show lv_has ls 5 [(4, .int (nI (k + 1))), (3, .int (c_daN S ai pi (k + 1))), (0, .ref (X 4)), (1, .int (nI ai)), (2, .int (nI pi))]; rw [e3]; exact lv_sub hl [0, 1, 2, 3, 4] rfl)

set_option maxHeartbeats 4000000 in
set_option maxRecDepth 100000 in
theorem kX0_dropDue (l : Launch) (D : va_G) (cI cZ : ClassId) (X : Nat → Nat) (S : Nat → Nat → Int32) (O : Nat → Bool) (V : Nat → Int32) (sz : Nat) (ai : Nat) (x0 : Int32) (hai : ai < 4) : Met l yX0_dropDue wsX0_dropDue ({ frames := 1, cells := 0, slots := 0, locals := 22 } : Room) (zW D (tyl cI cZ) (hW cI cZ X S O V) sz [.ref (X 4), .int (nI ai), .int x0]) (zQv D (tyl cI cZ) (hW cI cZ X (c_ddS S ai x0 60) O V) (va_A (hW cI cZ X S O V) sz)) 0 0 (va_A (hW cI cZ X S O V) sz) := by
  refine Met.ofW (cc := cX0_dropDue) (maxL := 5) (ret := none) (by decide) rfl ?_
  intro p e s m args below meth c s₁ B hml hv
  obtain ⟨rfl, hsz, hP, hK, hD0⟩ := hv
  have hx := B.exec
  have hb := B.bytes
  have hr := B.returns
  have hts := atoms_spec (ws := wsX0_dropDue) B.pre
  have hown : s.vm.findClass RX0 = some m.cls := findClass_of_methodNamed B.named
  have hlocks := B.notSynchronized
  subst hsz
  have hD := hD0.self (sz := s.heap.size)
  generalize hAe : va_A (hW cI cZ X S O V) s.heap.size = A at hD ⊢
  have hA : ∀ q : Nat, s.heap.size ≤ q → A q := fun q h => by rw [← hAe]; exact Or.inr h
  have hS : va_S A s.heap s.heap [] := va_S.rf
  have i0 : ∀ w ∈ u_ws RX0 TX0 3, w ∈ wsX0_dropDue := by decide +kernel
  have fl_9 := hts (.fieldLink RX0 9 "SignOnHouse$Decisions" "caches" "[I") (by decide +kernel)
  have fl_15 := hts (.fieldLink RX0 15 "SignOnHouse$Decisions" "answers" "[I") (by decide +kernel)
  have fl_18 := hts (.fieldLink RX0 18 "SignOnHouse$Decisions" "keptSince" "[I") (by decide +kernel)
  have hl := lv_entry ([.ref (X 4), .int (nI ai), .int x0]) (n := 5) (Nat.le_of_ble_eq_true rfl)
  rw [lg_entry_eq]
  generalize (lg_sl ([.ref (X 4), .int (nI ai), .int x0]) ++ List.replicate (5 - (lg_sl ([.ref (X 4), .int (nI ai), .int x0])).length) Slot.unset).toArray = ls at hl ⊢
  have hl : lv_has ls 5 [(0, .ref (X 4)), (1, .int (nI ai)), (2, .int x0)] := hl
  refine lv_iload_n hx hb dX0_dropDue_0 rfl (lv_at hl 1 rfl) ?_
  refine lv_iconst (v := nI 0) hx hb dX0_dropDue_1 rfl ?_
  refine lv_iconst (v := nI 0) hx hb dX0_dropDue_2 rfl ?_
  refine z_callR (W.runS (As := [.int (nI ai), .int (nI 0), .int (nI 0)]) (rest := []) ⟨hx, hb, hml, hown, hts⟩ (kX0_place l ai 0 0) (va_cwS 3 hts gX0_dropDue_X0_place rfl rfl rfl (by decide +kernel) ⟨Nat.le_of_ble_eq_true rfl, Nat.le_of_ble_eq_true rfl⟩) zP_pre rfl rfl hl.1 rfl (lv_room (Nat.le_of_ble_eq_true rfl)) dX0_dropDue_3 ⟨Nat.zero_le _, Nat.zero_le _⟩) ?_
  refine z_top (nI (ai * 60)) (by rw [show ai * 60 + 0 * 6 + 0 = ai * 60 by omega]) ?_
  refine lv_istore_n (lv' := [(3, .int (nI (ai * 60))), (0, .ref (X 4)), (1, .int (nI ai)), (2, .int x0)]) hx hb dX0_dropDue_6 rfl hl (by decide) rfl (fun ls hl => ?_)
  refine lv_iload_n hx hb dX0_dropDue_7 rfl (lv_at hl 0 rfl) ?_
  refine lv_istore (lv' := [(4, .int (nI (ai * 60))), (3, .int (nI (ai * 60))), (0, .ref (X 4)), (1, .int (nI ai)), (2, .int x0)]) hx hb dX0_dropDue_8 hl (by decide) rfl (fun ls hl => ?_)
  refine z_loopW (N := 60) (nL := 5) (Lc := (fun k => [(4, .int (nI (ai * 60 + k))), (3, .int (nI (ai * 60))), (0, .ref (X 4)), (1, .int (nI ai)), (2, .int x0)])) (Wd := fun k => hW cI cZ X (c_ddS S ai x0 k) O V) (lv_sub hl [0, 1, 2, 3, 4] rfl) hP hD hS (fun H locs ls hP hD hS hl => ?_) (fun k H locs ls hk hP hD hS hl ih => ?_)
  · have hP : va_P D vwCl (hW cI cZ X (c_ddS S ai x0 60) O V) H := hP
    have hD : va_D A (hW cI cZ X (c_ddS S ai x0 60) O V) := hD
    have hl : lv_has ls 5 [(4, .int (nI (ai * 60 + 60))), (3, .int (nI (ai * 60))), (0, .ref (X 4)), (1, .int (nI ai)), (2, .int x0)] := hl
    refine lv_iload hx hb dX0_dropDue_10 (lv_at hl 0 rfl) ?_
    refine lv_iload_n hx hb dX0_dropDue_12 rfl (lv_at hl 1 rfl) ?_
    refine lv_bipush (v := 60) hx hb dX0_dropDue_13 (by decide) ?_
    refine lv_iadd hx hb dX0_dropDue_15 ?_
    refine z_top (nI (ai * 60 + 60)) (by rw [show (60 : Int32) = nI 60 from rfl, nI_add]) ?_
    refine z_ge_t (tgt := 51) (nI_le (by omega) (by omega)) hx hb dX0_dropDue_16 (by decide) ?_
    exact z_wvret hx hb hr hlocks hP hK hD hS dX0_dropDue_51
  · have hP : va_P D vwCl (hW cI cZ X (c_ddS S ai x0 k) O V) H := hP
    have hD : va_D A (hW cI cZ X (c_ddS S ai x0 k) O V) := hD
    have hl : lv_has ls 5 [(4, .int (nI (ai * 60 + k))), (3, .int (nI (ai * 60))), (0, .ref (X 4)), (1, .int (nI ai)), (2, .int x0)] := hl
    have ih_10 := ih
    refine lv_iload hx hb dX0_dropDue_10 (lv_at hl 0 rfl) ?_
    refine lv_iload_n hx hb dX0_dropDue_12 rfl (lv_at hl 1 rfl) ?_
    refine lv_bipush (v := 60) hx hb dX0_dropDue_13 (by decide) ?_
    refine lv_iadd hx hb dX0_dropDue_15 ?_
    refine z_top (nI (ai * 60 + 60)) (by rw [show (60 : Int32) = nI 60 from rfl, nI_add]) ?_
    refine z_ge_f (tgt := 51) (nI_ge (by omega) (by omega)) hx hb dX0_dropDue_16 (by decide) ?_
    refine lv_iload_n hx hb dX0_dropDue_19 rfl (lv_at hl 4 rfl) ?_
    refine lv_aload_n hx hb dX0_dropDue_20 rfl (lv_at hl 2 rfl) ?_
    refine va_get (D := D) (ci := 0) (v := .ref (X 18)) (C := RX0) (T := TX0) (N := 3) hx hb hts i0 hown hK hP 4 rfl rfl 2 (by decide) fl_18 (fun _ h9 => h9) rfl dX0_dropDue_21 ?_
    refine lv_iload hx hb dX0_dropDue_24 (lv_at hl 0 rfl) ?_
    refine z_iald (D := D) (j := ai * 60 + k) (f := (c_ddS S ai x0 k) 18) hx hb hK hP 18 0 rfl rfl (by omega) (by decide) dX0_dropDue_26 ?_
    refine lv_isub hx hb dX0_dropDue_27 ?_
    refine lv_aload_n hx hb dX0_dropDue_28 rfl (lv_at hl 2 rfl) ?_
    refine va_get (D := D) (ci := 0) (v := .ref (X 16)) (C := RX0) (T := TX0) (N := 3) hx hb hts i0 hown hK hP 4 rfl rfl 0 (by decide) fl_9 (fun _ h9 => h9) rfl dX0_dropDue_29 ?_
    refine lv_iload_n hx hb dX0_dropDue_32 rfl (lv_at hl 3 rfl) ?_
    refine z_iald (D := D) (j := ai) (f := (c_ddS S ai x0 k) 16) hx hb hK hP 16 0 rfl rfl (by omega) (by decide) dX0_dropDue_33 ?_
    refine lv_icmp_lt (tgt := 45) hx hb dX0_dropDue_34 (by decide) (fun c_34 => ?_) (fun c_34 => ?_)
    · refine lv_iinc (v := nI (ai * 60 + k + 1)) (lv' := [(4, .int (nI (ai * 60 + k + 1))), (3, .int (nI (ai * 60))), (0, .ref (X 4)), (1, .int (nI ai)), (2, .int x0)]) hx hb dX0_dropDue_45 hl (k := 0) rfl (nI_1 _) (by decide) rfl (fun ls hl => ?_)
      refine lv_goto (tgt := 10) hx hb dX0_dropDue_48 (by decide) ?_
      have eS : c_ddS S ai x0 (k + 1) = c_ddS S ai x0 k := by simp [c_ddS, bi, c_34]
      exact ih_10 H locs ls (by show va_P D vwCl (hW cI cZ X (c_ddS S ai x0 (k + 1)) O V) H; rw [eS]; exact hP) (by show va_D A (hW cI cZ X (c_ddS S ai x0 (k + 1)) O V); rw [eS]; exact hD) hS (by show lv_has ls 5 [(4, .int (nI (ai * 60 + (k + 1)))), (3, .int (nI (ai * 60))), (0, .ref (X 4)), (1, .int (nI ai)), (2, .int x0)]; exact lv_sub hl [0, 1, 2, 3, 4] rfl)
    · refine lv_aload_n hx hb dX0_dropDue_37 rfl (lv_at hl 2 rfl) ?_
      refine va_get (D := D) (ci := 0) (v := .ref (X 17)) (C := RX0) (T := TX0) (N := 3) hx hb hts i0 hown hK hP 4 rfl rfl 1 (by decide) fl_15 (fun _ h9 => h9) rfl dX0_dropDue_38 ?_
      refine lv_iload hx hb dX0_dropDue_41 (lv_at hl 0 rfl) ?_
      refine lv_iconst (v := (-1)) hx hb dX0_dropDue_43 rfl ?_
      refine z_iast (D := D) (j := ai * 60 + k) (f := (c_ddS S ai x0 k) 17) hx hb hK hP hD hS 17 0 rfl rfl (by omega) (by decide) dX0_dropDue_44 (fun H locs hP hD hS => ?_)
      have hP : va_P D vwCl (hW cI cZ X (va_up (c_ddS S ai x0 k) 17 (upd ((c_ddS S ai x0 k) 17) (ai * 60 + k) (-1))) O V) H := hP
      have hD : va_D A (hW cI cZ X (va_up (c_ddS S ai x0 k) 17 (upd ((c_ddS S ai x0 k) 17) (ai * 60 + k) (-1))) O V) := hD
      refine lv_iinc (v := nI (ai * 60 + k + 1)) (lv' := [(4, .int (nI (ai * 60 + k + 1))), (3, .int (nI (ai * 60))), (0, .ref (X 4)), (1, .int (nI ai)), (2, .int x0)]) hx hb dX0_dropDue_45 hl (k := 0) rfl (nI_1 _) (by decide) rfl (fun ls hl => ?_)
      refine lv_goto (tgt := 10) hx hb dX0_dropDue_48 (by decide) ?_
      have eS : c_ddS S ai x0 (k + 1) = va_up (c_ddS S ai x0 k) 17 (upd ((c_ddS S ai x0 k) 17) (ai * 60 + k) (-1)) := by simp [c_ddS, bi, c_34]
      exact ih_10 H locs ls (by show va_P D vwCl (hW cI cZ X (c_ddS S ai x0 (k + 1)) O V) H; rw [eS]; exact hP) (by show va_D A (hW cI cZ X (c_ddS S ai x0 (k + 1)) O V); rw [eS]; exact hD) hS (by show lv_has ls 5 [(4, .int (nI (ai * 60 + (k + 1)))), (3, .int (nI (ai * 60))), (0, .ref (X 4)), (1, .int (nI ai)), (2, .int x0)]; exact lv_sub hl [0, 1, 2, 3, 4] rfl)

set_option maxHeartbeats 4000000 in
set_option maxRecDepth 100000 in
theorem kX0_dropDueOfAll (l : Launch) (D : va_G) (cI cZ : ClassId) (X : Nat → Nat) (S : Nat → Nat → Int32) (O : Nat → Bool) (V : Nat → Int32) (sz : Nat) (x0 : Int32) : Met l yX0_dropDueOfAll wsX0_dropDueOfAll ({ frames := 2, cells := 0, slots := 0, locals := 46 } : Room) (zW D (tyl cI cZ) (hW cI cZ X S O V) sz [.ref (X 4), .int x0]) (zQv D (tyl cI cZ) (hW cI cZ X (c_doS S x0 4) O V) (va_A (hW cI cZ X S O V) sz)) 0 0 (va_A (hW cI cZ X S O V) sz) := by
  refine Met.ofW (cc := cX0_dropDueOfAll) (maxL := 3) (ret := none) (by decide) rfl ?_
  intro p e s m args below meth c s₁ B hml hv
  obtain ⟨rfl, hsz, hP, hK, hD0⟩ := hv
  have hx := B.exec
  have hb := B.bytes
  have hr := B.returns
  have hts := atoms_spec (ws := wsX0_dropDueOfAll) B.pre
  have hown : s.vm.findClass RX0 = some m.cls := findClass_of_methodNamed B.named
  have hlocks := B.notSynchronized
  subst hsz
  have hD := hD0.self (sz := s.heap.size)
  generalize hAe : va_A (hW cI cZ X S O V) s.heap.size = A at hD ⊢
  have hA : ∀ q : Nat, s.heap.size ≤ q → A q := fun q h => by rw [← hAe]; exact Or.inr h
  have hS : va_S A s.heap s.heap [] := va_S.rf
  have hl := lv_entry ([.ref (X 4), .int x0]) (n := 3) (Nat.le_of_ble_eq_true rfl)
  rw [lg_entry_eq]
  generalize (lg_sl ([.ref (X 4), .int x0]) ++ List.replicate (3 - (lg_sl ([.ref (X 4), .int x0])).length) Slot.unset).toArray = ls at hl ⊢
  have hl : lv_has ls 3 [(0, .ref (X 4)), (1, .int x0)] := hl
  refine lv_iconst (v := nI 0) hx hb dX0_dropDueOfAll_0 rfl ?_
  refine lv_istore_n (lv' := [(2, .int (nI 0)), (0, .ref (X 4)), (1, .int x0)]) hx hb dX0_dropDueOfAll_1 rfl hl (by decide) rfl (fun ls hl => ?_)
  refine z_loopW (N := 4) (nL := 3) (Lc := (fun k => [(2, .int (nI k)), (0, .ref (X 4)), (1, .int x0)])) (Wd := fun k => hW cI cZ X (c_doS S x0 k) O V) (lv_sub hl [0, 1, 2] rfl) hP hD hS (fun H locs ls hP hD hS hl => ?_) (fun k H locs ls hk hP hD hS hl ih => ?_)
  · have hP : va_P D vwCl (hW cI cZ X (c_doS S x0 4) O V) H := hP
    have hD : va_D A (hW cI cZ X (c_doS S x0 4) O V) := hD
    have hl : lv_has ls 3 [(2, .int (nI 4)), (0, .ref (X 4)), (1, .int x0)] := hl
    refine lv_iload_n hx hb dX0_dropDueOfAll_2 rfl (lv_at hl 0 rfl) ?_
    refine lv_iconst (v := nI 4) hx hb dX0_dropDueOfAll_3 rfl ?_
    refine z_ge_t (tgt := 19) (nI_le (by omega) (by omega)) hx hb dX0_dropDueOfAll_4 (by decide) ?_
    exact z_wvret hx hb hr hlocks hP hK hD hS dX0_dropDueOfAll_19
  · have hP : va_P D vwCl (hW cI cZ X (c_doS S x0 k) O V) H := hP
    have hD : va_D A (hW cI cZ X (c_doS S x0 k) O V) := hD
    have hl : lv_has ls 3 [(2, .int (nI k)), (0, .ref (X 4)), (1, .int x0)] := hl
    have ih_2 := ih
    refine lv_iload_n hx hb dX0_dropDueOfAll_2 rfl (lv_at hl 0 rfl) ?_
    refine lv_iconst (v := nI 4) hx hb dX0_dropDueOfAll_3 rfl ?_
    refine z_ge_f (tgt := 19) (nI_ge (by omega) (by omega)) hx hb dX0_dropDueOfAll_4 (by decide) ?_
    refine lv_aload_n hx hb dX0_dropDueOfAll_7 rfl (lv_at hl 1 rfl) ?_
    refine lv_iload_n hx hb dX0_dropDueOfAll_8 rfl (lv_at hl 0 rfl) ?_
    refine lv_iload_n hx hb dX0_dropDueOfAll_9 rfl (lv_at hl 2 rfl) ?_
    have hF := z_free hD hS hA
    refine z_callWv (va_runV (As := [.int (nI k), .int x0]) (rest := []) ⟨hx, hb, hml, hown, hts⟩ (kX0_dropDue l D cI cZ X (c_doS S x0 k) O V _ k x0 (by omega)) (cwV 2 hts gX0_dropDueOfAll_X0_dropDue rfl rfl rfl (by decide +kernel) ⟨Nat.le_of_ble_eq_true rfl, Nat.le_of_ble_eq_true rfl⟩) (zW_preV 4 0 hK hP hD rfl rfl) rfl rfl hl.1 rfl (lv_room (Nat.le_of_ble_eq_true rfl)) dX0_dropDueOfAll_10 ⟨Nat.zero_le _, Nat.zero_le _⟩) hS hF (fun H locs hP hD hS => ?_)
    refine lv_iinc (v := nI (k + 1)) (lv' := [(2, .int (nI (k + 1))), (0, .ref (X 4)), (1, .int x0)]) hx hb dX0_dropDueOfAll_13 hl (k := 0) rfl (nI_1 _) (by decide) rfl (fun ls hl => ?_)
    refine lv_goto (tgt := 2) hx hb dX0_dropDueOfAll_16 (by decide) ?_
    have eS : c_doS S x0 (k + 1) = c_ddS (c_doS S x0 k) k x0 60 := by rfl
    exact ih_2 H locs ls (by show va_P D vwCl (hW cI cZ X (c_doS S x0 (k + 1)) O V) H; rw [eS]; exact hP) (by show va_D A (hW cI cZ X (c_doS S x0 (k + 1)) O V); rw [eS]; exact hD) hS (by show lv_has ls 3 [(2, .int (nI (k + 1))), (0, .ref (X 4)), (1, .int x0)]; exact lv_sub hl [0, 1, 2] rfl)
end
section
set_option maxHeartbeats 4000000 in
set_option maxRecDepth 100000 in
theorem kX4_isOutside (l : Launch) (x0 : Int32) (x1 : Int32) : Met l yX4_isOutside wsX4_isOutside ({ frames := 0, cells := 0, slots := 0, locals := 0 } : Room) (zP [.int x0, .int x1]) (QcRead (bi (c_out x0 x1))) 0 0 (fun _ => False) := by
  refine Met.ofW (cc := cX4_isOutside) (maxL := 2) (ret := (some .boolean)) (by decide) rfl ?_
  intro p e s m args below meth c s₁ B hml hv
  obtain rfl := hv
  have hx := B.exec
  have hb := B.bytes
  have hr := B.returns
  have hts := atoms_spec (ws := wsX4_isOutside) B.pre
  have hown : s.vm.findClass RX4 = some m.cls := findClass_of_methodNamed B.named
  have hlocks := B.notSynchronized
  have hl := lv_entry ([.int x0, .int x1]) (n := 2) (Nat.le_of_ble_eq_true rfl)
  rw [lg_entry_eq]
  generalize (lg_sl ([.int x0, .int x1]) ++ List.replicate (2 - (lg_sl ([.int x0, .int x1])).length) Slot.unset).toArray = ls at hl ⊢
  have hl : lv_has ls 2 [(0, .int x0), (1, .int x1)] := hl
  refine lv_iload_n hx hb dX4_isOutside_0 rfl (lv_at hl 0 rfl) ?_
  refine lv_if_lt (tgt := 9) hx hb dX4_isOutside_1 (by decide) (fun c_1 => ?_) (fun c_1 => ?_)
  · refine lv_iconst (v := 1) hx hb dX4_isOutside_9 rfl ?_
    refine lv_goto (tgt := 14) hx hb dX4_isOutside_10 (by decide) ?_
    exact z_zret hx hb hr hlocks (by simp [c_out, bi, c_1]) dX4_isOutside_14
  · refine lv_iload_n hx hb dX4_isOutside_4 rfl (lv_at hl 0 rfl) ?_
    refine lv_iload_n hx hb dX4_isOutside_5 rfl (lv_at hl 1 rfl) ?_
    refine z_sel_icmp_lt hx hb dX4_isOutside_6 dX4_isOutside_9 dX4_isOutside_10 dX4_isOutside_13 ?_
    exact z_zret hx hb hr hlocks (by simp [c_out, bi, c_1]) dX4_isOutside_14

set_option maxHeartbeats 4000000 in
set_option maxRecDepth 100000 in
theorem kX4_isBarred (l : Launch) (D : va_G) (cI cZ : ClassId) (X : Nat → Nat) (S : Nat → Nat → Int32) (O : Nat → Bool) (V : Nat → Int32) (pi : Nat) (hpi : pi < 10) : Met l yX4_isBarred wsX4_isBarred ({ frames := 0, cells := 0, slots := 0, locals := 0 } : Room) (zR D (tyl cI cZ) (hW cI cZ X S O V) [.ref (X 0), .int (nI pi)]) (QcRead (bi (decide (S 5 pi = 3)))) 0 0 (fun _ => False) := by
  refine Met.ofW (cc := cX4_isBarred) (maxL := 2) (ret := (some .boolean)) (by decide) rfl ?_
  intro p e s m args below meth c s₁ B hml hv
  obtain ⟨rfl, hP, hK⟩ := hv
  have hx := B.exec
  have hb := B.bytes
  have hr := B.returns
  have hts := atoms_spec (ws := wsX4_isBarred) B.pre
  have hown : s.vm.findClass RX4 = some m.cls := findClass_of_methodNamed B.named
  have hlocks := B.notSynchronized
  have i4 : ∀ w ∈ u_ws RX4 TX4 7, w ∈ wsX4_isBarred := by decide +kernel
  have fl_37 := hts (.fieldLink RX4 37 "SignOnHouse" "risks" "[I") (by decide +kernel)
  have hl := lv_entry ([.ref (X 0), .int (nI pi)]) (n := 2) (Nat.le_of_ble_eq_true rfl)
  rw [lg_entry_eq]
  generalize (lg_sl ([.ref (X 0), .int (nI pi)]) ++ List.replicate (2 - (lg_sl ([.ref (X 0), .int (nI pi)])).length) Slot.unset).toArray = ls at hl ⊢
  have hl : lv_has ls 2 [(0, .ref (X 0)), (1, .int (nI pi))] := hl
  refine lv_aload_n hx hb dX4_isBarred_0 rfl (lv_at hl 0 rfl) ?_
  refine va_get (D := D) (ci := 4) (v := .ref (X 5)) (C := RX4) (T := TX4) (N := 7) hx hb hts i4 hown hK hP 0 rfl rfl 4 (by decide) fl_37 (fun _ h9 => h9) rfl dX4_isBarred_1 ?_
  refine lv_iload_n hx hb dX4_isBarred_4 rfl (lv_at hl 1 rfl) ?_
  refine z_iald (D := D) (j := pi) (f := S 5) hx hb hK hP 5 0 rfl rfl (by omega) (by decide) dX4_isBarred_5 ?_
  refine lv_iconst (v := 3) hx hb dX4_isBarred_6 rfl ?_
  refine z_sel_icmp_ne hx hb dX4_isBarred_7 dX4_isBarred_10 dX4_isBarred_11 dX4_isBarred_14 ?_
  exact z_zret hx hb hr hlocks rfl dX4_isBarred_15

set_option maxHeartbeats 4000000 in
set_option maxRecDepth 100000 in
theorem kX4_holdsGlass (l : Launch) (D : va_G) (cI cZ : ClassId) (X : Nat → Nat) (S : Nat → Nat → Int32) (O : Nat → Bool) (V : Nat → Int32) (pi : Nat) (ri : Nat) (hpi : pi < 10) (hri : ri < 6) : Met l yX4_holdsGlass wsX4_holdsGlass ({ frames := 0, cells := 0, slots := 0, locals := 0 } : Room) (zR D (tyl cI cZ) (hW cI cZ X S O V) [.ref (X 0), .int (nI pi), .int (nI ri)]) (QcRead (bi (!decide (S 6 (pi * 6 + ri) ≤ V 0)))) 0 0 (fun _ => False) := by
  refine Met.ofW (cc := cX4_holdsGlass) (maxL := 3) (ret := (some .boolean)) (by decide) rfl ?_
  intro p e s m args below meth c s₁ B hml hv
  obtain ⟨rfl, hP, hK⟩ := hv
  have hx := B.exec
  have hb := B.bytes
  have hr := B.returns
  have hts := atoms_spec (ws := wsX4_holdsGlass) B.pre
  have hown : s.vm.findClass RX4 = some m.cls := findClass_of_methodNamed B.named
  have hlocks := B.notSynchronized
  have i4 : ∀ w ∈ u_ws RX4 TX4 7, w ∈ wsX4_holdsGlass := by decide +kernel
  have fl_41 := hts (.fieldLink RX4 41 "SignOnHouse" "glassEnds" "[I") (by decide +kernel)
  have fl_44 := hts (.fieldLink RX4 44 "SignOnHouse" "minute" "I") (by decide +kernel)
  have hl := lv_entry ([.ref (X 0), .int (nI pi), .int (nI ri)]) (n := 3) (Nat.le_of_ble_eq_true rfl)
  rw [lg_entry_eq]
  generalize (lg_sl ([.ref (X 0), .int (nI pi), .int (nI ri)]) ++ List.replicate (3 - (lg_sl ([.ref (X 0), .int (nI pi), .int (nI ri)])).length) Slot.unset).toArray = ls at hl ⊢
  have hl : lv_has ls 3 [(0, .ref (X 0)), (1, .int (nI pi)), (2, .int (nI ri))] := hl
  refine lv_aload_n hx hb dX4_holdsGlass_0 rfl (lv_at hl 0 rfl) ?_
  refine va_get (D := D) (ci := 4) (v := .int (V 0)) (C := RX4) (T := TX4) (N := 7) hx hb hts i4 hown hK hP 0 rfl rfl 6 (by decide) fl_44 (fun _ h9 => h9) rfl dX4_holdsGlass_1 ?_
  refine lv_aload_n hx hb dX4_holdsGlass_4 rfl (lv_at hl 0 rfl) ?_
  refine va_get (D := D) (ci := 4) (v := .ref (X 6)) (C := RX4) (T := TX4) (N := 7) hx hb hts i4 hown hK hP 0 rfl rfl 5 (by decide) fl_41 (fun _ h9 => h9) rfl dX4_holdsGlass_5 ?_
  refine lv_iload_n hx hb dX4_holdsGlass_8 rfl (lv_at hl 1 rfl) ?_
  refine lv_bipush (v := 6) hx hb dX4_holdsGlass_9 (by decide) ?_
  refine lv_imul hx hb dX4_holdsGlass_11 ?_
  refine lv_iload_n hx hb dX4_holdsGlass_12 rfl (lv_at hl 2 rfl) ?_
  refine lv_iadd hx hb dX4_holdsGlass_13 ?_
  refine z_top (nI (pi * 6 + ri)) (by simp only [show (6 : Int32) = nI 6 from rfl, pk_mul, nI_add]) ?_
  refine z_iald (D := D) (j := pi * 6 + ri) (f := S 6) hx hb hK hP 6 0 rfl rfl (by omega) (by decide) dX4_holdsGlass_14 ?_
  refine z_sel_icmp_ge hx hb dX4_holdsGlass_15 dX4_holdsGlass_18 dX4_holdsGlass_19 dX4_holdsGlass_22 ?_
  exact z_zret hx hb hr hlocks rfl dX4_holdsGlass_23

set_option maxHeartbeats 4000000 in
set_option maxRecDepth 100000 in
theorem kX4_servesAsWitness (l : Launch) (D : va_G) (cI cZ : ClassId) (X : Nat → Nat) (S : Nat → Nat → Int32) (O : Nat → Bool) (V : Nat → Int32) (pi : Nat) (ri : Nat) (hpi : pi < 10) (hri : ri < 6) : Met l yX4_servesAsWitness wsX4_servesAsWitness ({ frames := 4, cells := 0, slots := 0, locals := 89 } : Room) (zR D (tyl cI cZ) (hW cI cZ X S O V) [.ref (X 0), .int (nI pi), .int (nI ri)]) (QcRead (bi (c_serves S pi ri))) 0 0 (fun _ => False) := by
  refine Met.ofW (cc := cX4_servesAsWitness) (maxL := 3) (ret := (some .boolean)) (by decide) rfl ?_
  intro p e s m args below meth c s₁ B hml hv
  obtain ⟨rfl, hP, hK⟩ := hv
  have hx := B.exec
  have hb := B.bytes
  have hr := B.returns
  have hts := atoms_spec (ws := wsX4_servesAsWitness) B.pre
  have hown : s.vm.findClass RX4 = some m.cls := findClass_of_methodNamed B.named
  have hlocks := B.notSynchronized
  have i4 : ∀ w ∈ u_ws RX4 TX4 7, w ∈ wsX4_servesAsWitness := by decide +kernel
  have fl_10 := hts (.fieldLink RX4 10 "SignOnHouse" "groups" "LSignOnHouse$Groups;") (by decide +kernel)
  have hl := lv_entry ([.ref (X 0), .int (nI pi), .int (nI ri)]) (n := 3) (Nat.le_of_ble_eq_true rfl)
  rw [lg_entry_eq]
  generalize (lg_sl ([.ref (X 0), .int (nI pi), .int (nI ri)]) ++ List.replicate (3 - (lg_sl ([.ref (X 0), .int (nI pi), .int (nI ri)])).length) Slot.unset).toArray = ls at hl ⊢
  have hl : lv_has ls 3 [(0, .ref (X 0)), (1, .int (nI pi)), (2, .int (nI ri))] := hl
  refine lv_aload_n hx hb dX4_servesAsWitness_0 rfl (lv_at hl 0 rfl) ?_
  refine lv_iload_n hx hb dX4_servesAsWitness_1 rfl (lv_at hl 1 rfl) ?_
  refine z_callR (W.runV (As := [.int (nI pi)]) (rest := []) ⟨hx, hb, hml, hown, hts⟩ (kX4_isBarred l D cI cZ X S O V pi (by omega)) (cwV 1 hts gX4_servesAsWitness_X4_isBarred rfl rfl rfl (by decide +kernel) ⟨Nat.le_of_ble_eq_true rfl, Nat.le_of_ble_eq_true rfl⟩) (zR_preV 0 4 hK hP rfl rfl) rfl rfl hl.1 rfl (lv_room (Nat.le_of_ble_eq_true rfl)) dX4_servesAsWitness_2 ⟨Nat.zero_le _, Nat.zero_le _⟩) ?_
  refine z_if_ne (tgt := 24) hx hb dX4_servesAsWitness_5 (by decide) (fun c_5 => ?_) (fun c_5 => ?_)
  · refine lv_iconst (v := 0) hx hb dX4_servesAsWitness_24 rfl ?_
    exact z_zret hx hb hr hlocks (by simp [c_serves, bi, (eq_true (of_decide_eq_true c_5))]) dX4_servesAsWitness_25
  · refine lv_aload_n hx hb dX4_servesAsWitness_8 rfl (lv_at hl 0 rfl) ?_
    refine va_get (D := D) (ci := 4) (v := .ref (X 1)) (C := RX4) (T := TX4) (N := 7) hx hb hts i4 hown hK hP 0 rfl rfl 0 (by decide) fl_10 (fun _ h9 => h9) rfl dX4_servesAsWitness_9 ?_
    refine lv_iload_n hx hb dX4_servesAsWitness_12 rfl (lv_at hl 1 rfl) ?_
    refine lv_iload_n hx hb dX4_servesAsWitness_13 rfl (lv_at hl 2 rfl) ?_
    refine z_callR (W.runV (As := [.int (nI pi), .int (nI ri)]) (rest := []) ⟨hx, hb, hml, hown, hts⟩ (kX1_anyGrants l D cI cZ X S O V pi ri (by omega) (by omega)) (cwV 2 hts gX4_servesAsWitness_X1_anyGrants rfl rfl rfl (by decide +kernel) ⟨Nat.le_of_ble_eq_true rfl, Nat.le_of_ble_eq_true rfl⟩) (zR_preV 1 1 hK hP rfl rfl) rfl rfl hl.1 rfl (lv_room (Nat.le_of_ble_eq_true rfl)) dX4_servesAsWitness_14 ⟨Nat.zero_le _, Nat.zero_le _⟩) ?_
    refine z_if_eq (tgt := 24) hx hb dX4_servesAsWitness_17 (by decide) (fun c_17 => ?_) (fun c_17 => ?_)
    · refine lv_iconst (v := 0) hx hb dX4_servesAsWitness_24 rfl ?_
      exact z_zret hx hb hr hlocks (by simp [c_serves, bi, (of_decide_eq_false c_5), c_17]) dX4_servesAsWitness_25
    · refine lv_iconst (v := 1) hx hb dX4_servesAsWitness_20 rfl ?_
      refine lv_goto (tgt := 25) hx hb dX4_servesAsWitness_21 (by decide) ?_
      exact z_zret hx hb hr hlocks (by simp [c_serves, bi, (of_decide_eq_false c_5), c_17]) dX4_servesAsWitness_25

set_option maxHeartbeats 4000000 in
set_option maxRecDepth 100000 in
theorem kX4_answerOfHouse (l : Launch) (D : va_G) (cI cZ : ClassId) (X : Nat → Nat) (S : Nat → Nat → Int32) (O : Nat → Bool) (V : Nat → Int32) (pi : Nat) (ri : Nat) (hpi : pi < 10) (hri : ri < 6) : Met l yX4_answerOfHouse wsX4_answerOfHouse ({ frames := 4, cells := 0, slots := 0, locals := 89 } : Room) (zR D (tyl cI cZ) (hW cI cZ X S O V) [.ref (X 0), .int (nI pi), .int (nI ri)]) (QcRead (c_house S V pi ri)) 0 0 (fun _ => False) := by
  refine Met.ofW (cc := cX4_answerOfHouse) (maxL := 4) (ret := (some .int)) (by decide) rfl ?_
  intro p e s m args below meth c s₁ B hml hv
  obtain ⟨rfl, hP, hK⟩ := hv
  have hx := B.exec
  have hb := B.bytes
  have hr := B.returns
  have hts := atoms_spec (ws := wsX4_answerOfHouse) B.pre
  have hown : s.vm.findClass RX4 = some m.cls := findClass_of_methodNamed B.named
  have hlocks := B.notSynchronized
  have i4 : ∀ w ∈ u_ws RX4 TX4 7, w ∈ wsX4_answerOfHouse := by decide +kernel
  have fl_10 := hts (.fieldLink RX4 10 "SignOnHouse" "groups" "LSignOnHouse$Groups;") (by decide +kernel)
  have hl := lv_entry ([.ref (X 0), .int (nI pi), .int (nI ri)]) (n := 4) (Nat.le_of_ble_eq_true rfl)
  rw [lg_entry_eq]
  generalize (lg_sl ([.ref (X 0), .int (nI pi), .int (nI ri)]) ++ List.replicate (4 - (lg_sl ([.ref (X 0), .int (nI pi), .int (nI ri)])).length) Slot.unset).toArray = ls at hl ⊢
  have hl : lv_has ls 4 [(0, .ref (X 0)), (1, .int (nI pi)), (2, .int (nI ri))] := hl
  refine lv_aload_n hx hb dX4_answerOfHouse_0 rfl (lv_at hl 0 rfl) ?_
  refine lv_iload_n hx hb dX4_answerOfHouse_1 rfl (lv_at hl 1 rfl) ?_
  refine z_callR (W.runV (As := [.int (nI pi)]) (rest := []) ⟨hx, hb, hml, hown, hts⟩ (kX4_isBarred l D cI cZ X S O V pi (by omega)) (cwV 1 hts gX4_answerOfHouse_X4_isBarred rfl rfl rfl (by decide +kernel) ⟨Nat.le_of_ble_eq_true rfl, Nat.le_of_ble_eq_true rfl⟩) (zR_preV 0 4 hK hP rfl rfl) rfl rfl hl.1 rfl (lv_room (Nat.le_of_ble_eq_true rfl)) dX4_answerOfHouse_2 ⟨Nat.zero_le _, Nat.zero_le _⟩) ?_
  refine z_if_eq (tgt := 10) hx hb dX4_answerOfHouse_5 (by decide) (fun c_5 => ?_) (fun c_5 => ?_)
  · refine lv_aload_n hx hb dX4_answerOfHouse_10 rfl (lv_at hl 0 rfl) ?_
    refine va_get (D := D) (ci := 4) (v := .ref (X 1)) (C := RX4) (T := TX4) (N := 7) hx hb hts i4 hown hK hP 0 rfl rfl 0 (by decide) fl_10 (fun _ h9 => h9) rfl dX4_answerOfHouse_11 ?_
    refine lv_iload_n hx hb dX4_answerOfHouse_14 rfl (lv_at hl 1 rfl) ?_
    refine lv_iload_n hx hb dX4_answerOfHouse_15 rfl (lv_at hl 2 rfl) ?_
    refine z_callR (W.runV (As := [.int (nI pi), .int (nI ri)]) (rest := []) ⟨hx, hb, hml, hown, hts⟩ (kX1_anyGrants l D cI cZ X S O V pi ri (by omega) (by omega)) (cwV 2 hts gX4_answerOfHouse_X1_anyGrants rfl rfl rfl (by decide +kernel) ⟨Nat.le_of_ble_eq_true rfl, Nat.le_of_ble_eq_true rfl⟩) (zR_preV 1 1 hK hP rfl rfl) rfl rfl hl.1 rfl (lv_room (Nat.le_of_ble_eq_true rfl)) dX4_answerOfHouse_16 ⟨Nat.zero_le _, Nat.zero_le _⟩) ?_
    refine z_if_eq (tgt := 38) hx hb dX4_answerOfHouse_19 (by decide) (fun c_19 => ?_) (fun c_19 => ?_)
    · refine lv_iconst (v := 0) hx hb dX4_answerOfHouse_38 rfl ?_
      refine lv_istore_n (lv' := [(3, .int 0), (0, .ref (X 0)), (1, .int (nI pi)), (2, .int (nI ri))]) hx hb dX4_answerOfHouse_39 rfl hl (by decide) rfl (fun ls hl => ?_)
      refine lv_iload_n hx hb dX4_answerOfHouse_40 rfl (lv_at hl 0 rfl) ?_
      refine lv_if_ne (tgt := 53) hx hb dX4_answerOfHouse_41 (by decide) (fun q => absurd rfl q) (fun _ => ?_)
      refine lv_aload_n hx hb dX4_answerOfHouse_44 rfl (lv_at hl 1 rfl) ?_
      refine lv_iload_n hx hb dX4_answerOfHouse_45 rfl (lv_at hl 2 rfl) ?_
      refine lv_iload_n hx hb dX4_answerOfHouse_46 rfl (lv_at hl 3 rfl) ?_
      refine z_callR (W.runV (As := [.int (nI pi), .int (nI ri)]) (rest := []) ⟨hx, hb, hml, hown, hts⟩ (kX4_holdsGlass l D cI cZ X S O V pi ri (by omega) (by omega)) (cwV 2 hts gX4_answerOfHouse_X4_holdsGlass rfl rfl rfl (by decide +kernel) ⟨Nat.le_of_ble_eq_true rfl, Nat.le_of_ble_eq_true rfl⟩) (zR_preV 0 4 hK hP rfl rfl) rfl rfl hl.1 rfl (lv_room (Nat.le_of_ble_eq_true rfl)) dX4_answerOfHouse_47 ⟨Nat.zero_le _, Nat.zero_le _⟩) ?_
      refine z_if_eq (tgt := 57) hx hb dX4_answerOfHouse_50 (by decide) (fun c_50 => ?_) (fun c_50 => ?_)
      · refine lv_iconst (v := 1) hx hb dX4_answerOfHouse_57 rfl ?_
        exact z_ret hx hb hr hlocks (by simp [c_house, c_lets, bi, (of_decide_eq_false c_5), c_19, (eq_true (nd_f c_50))]) dX4_answerOfHouse_58
      · refine lv_iconst (v := 0) hx hb dX4_answerOfHouse_53 rfl ?_
        refine lv_goto (tgt := 58) hx hb dX4_answerOfHouse_54 (by decide) ?_
        exact z_ret hx hb hr hlocks (by simp [c_house, c_lets, bi, (of_decide_eq_false c_5), c_19, (nd_t c_50)]) dX4_answerOfHouse_58
    · refine lv_aload_n hx hb dX4_answerOfHouse_22 rfl (lv_at hl 0 rfl) ?_
      refine va_get (D := D) (ci := 4) (v := .ref (X 1)) (C := RX4) (T := TX4) (N := 7) hx hb hts i4 hown hK hP 0 rfl rfl 0 (by decide) fl_10 (fun _ h9 => h9) rfl dX4_answerOfHouse_23 ?_
      refine lv_iload_n hx hb dX4_answerOfHouse_26 rfl (lv_at hl 1 rfl) ?_
      refine lv_iload_n hx hb dX4_answerOfHouse_27 rfl (lv_at hl 2 rfl) ?_
      refine z_callR (W.runV (As := [.int (nI pi), .int (nI ri)]) (rest := []) ⟨hx, hb, hml, hown, hts⟩ (kX1_anyDenies l D cI cZ X S O V pi ri (by omega) (by omega)) (cwV 2 hts gX4_answerOfHouse_X1_anyDenies rfl rfl rfl (by decide +kernel) ⟨Nat.le_of_ble_eq_true rfl, Nat.le_of_ble_eq_true rfl⟩) (zR_preV 1 1 hK hP rfl rfl) rfl rfl hl.1 rfl (lv_room (Nat.le_of_ble_eq_true rfl)) dX4_answerOfHouse_28 ⟨Nat.zero_le _, Nat.zero_le _⟩) ?_
      refine z_if_ne (tgt := 38) hx hb dX4_answerOfHouse_31 (by decide) (fun c_31 => ?_) (fun c_31 => ?_)
      · refine lv_iconst (v := 0) hx hb dX4_answerOfHouse_38 rfl ?_
        refine lv_istore_n (lv' := [(3, .int 0), (0, .ref (X 0)), (1, .int (nI pi)), (2, .int (nI ri))]) hx hb dX4_answerOfHouse_39 rfl hl (by decide) rfl (fun ls hl => ?_)
        refine lv_iload_n hx hb dX4_answerOfHouse_40 rfl (lv_at hl 0 rfl) ?_
        refine lv_if_ne (tgt := 53) hx hb dX4_answerOfHouse_41 (by decide) (fun q => absurd rfl q) (fun _ => ?_)
        refine lv_aload_n hx hb dX4_answerOfHouse_44 rfl (lv_at hl 1 rfl) ?_
        refine lv_iload_n hx hb dX4_answerOfHouse_45 rfl (lv_at hl 2 rfl) ?_
        refine lv_iload_n hx hb dX4_answerOfHouse_46 rfl (lv_at hl 3 rfl) ?_
        refine z_callR (W.runV (As := [.int (nI pi), .int (nI ri)]) (rest := []) ⟨hx, hb, hml, hown, hts⟩ (kX4_holdsGlass l D cI cZ X S O V pi ri (by omega) (by omega)) (cwV 2 hts gX4_answerOfHouse_X4_holdsGlass rfl rfl rfl (by decide +kernel) ⟨Nat.le_of_ble_eq_true rfl, Nat.le_of_ble_eq_true rfl⟩) (zR_preV 0 4 hK hP rfl rfl) rfl rfl hl.1 rfl (lv_room (Nat.le_of_ble_eq_true rfl)) dX4_answerOfHouse_47 ⟨Nat.zero_le _, Nat.zero_le _⟩) ?_
        refine z_if_eq (tgt := 57) hx hb dX4_answerOfHouse_50 (by decide) (fun c_50 => ?_) (fun c_50 => ?_)
        · refine lv_iconst (v := 1) hx hb dX4_answerOfHouse_57 rfl ?_
          exact z_ret hx hb hr hlocks (by simp [c_house, c_lets, bi, (of_decide_eq_false c_5), c_19, c_31, (eq_true (nd_f c_50))]) dX4_answerOfHouse_58
        · refine lv_iconst (v := 0) hx hb dX4_answerOfHouse_53 rfl ?_
          refine lv_goto (tgt := 58) hx hb dX4_answerOfHouse_54 (by decide) ?_
          exact z_ret hx hb hr hlocks (by simp [c_house, c_lets, bi, (of_decide_eq_false c_5), c_19, c_31, (nd_t c_50)]) dX4_answerOfHouse_58
      · refine lv_iconst (v := 1) hx hb dX4_answerOfHouse_34 rfl ?_
        refine lv_goto (tgt := 39) hx hb dX4_answerOfHouse_35 (by decide) ?_
        refine lv_istore_n (lv' := [(3, .int 1), (0, .ref (X 0)), (1, .int (nI pi)), (2, .int (nI ri))]) hx hb dX4_answerOfHouse_39 rfl hl (by decide) rfl (fun ls hl => ?_)
        refine lv_iload_n hx hb dX4_answerOfHouse_40 rfl (lv_at hl 0 rfl) ?_
        refine lv_if_ne (tgt := 53) hx hb dX4_answerOfHouse_41 (by decide) (fun _ => ?_) (fun q => absurd q (by decide))
        refine lv_iconst (v := 0) hx hb dX4_answerOfHouse_53 rfl ?_
        refine lv_goto (tgt := 58) hx hb dX4_answerOfHouse_54 (by decide) ?_
        exact z_ret hx hb hr hlocks (by simp [c_house, c_lets, bi, (of_decide_eq_false c_5), c_19, c_31]) dX4_answerOfHouse_58
  · refine lv_iconst (v := 1) hx hb dX4_answerOfHouse_8 rfl ?_
    exact z_ret hx hb hr hlocks (by simp [c_house, c_lets, bi, (eq_true (of_decide_eq_true c_5))]) dX4_answerOfHouse_9

set_option maxHeartbeats 4000000 in
set_option maxRecDepth 100000 in
theorem kX4_answerOfApp (l : Launch) (D : va_G) (cI cZ : ClassId) (X : Nat → Nat) (S : Nat → Nat → Int32) (O : Nat → Bool) (V : Nat → Int32) (sz : Nat) (ai : Nat) (pi : Nat) (ri : Nat) (hai : ai < 4) (hpi : pi < 10) (hri : ri < 6) : Met l yX4_answerOfApp wsX4_answerOfApp ({ frames := 5, cells := 0, slots := 0, locals := 112 } : Room) (zW D (tyl cI cZ) (hW cI cZ X S O V) sz [.ref (X 0), .int (nI ai), .int (nI pi), .int (nI ri)]) (zQi D (tyl cI cZ) (hW cI cZ X (c_appS S V ai pi ri) O V) (c_appR S V ai pi ri) (va_A (hW cI cZ X S O V) sz)) 0 0 (va_A (hW cI cZ X S O V) sz) := by
  refine Met.ofW (cc := cX4_answerOfApp) (maxL := 5) (ret := (some .int)) (by decide) rfl ?_
  intro p e s m args below meth c s₁ B hml hv
  obtain ⟨rfl, hsz, hP, hK, hD0⟩ := hv
  have hx := B.exec
  have hb := B.bytes
  have hr := B.returns
  have hts := atoms_spec (ws := wsX4_answerOfApp) B.pre
  have hown : s.vm.findClass RX4 = some m.cls := findClass_of_methodNamed B.named
  have hlocks := B.notSynchronized
  subst hsz
  have hD := hD0.self (sz := s.heap.size)
  generalize hAe : va_A (hW cI cZ X S O V) s.heap.size = A at hD ⊢
  have hA : ∀ q : Nat, s.heap.size ≤ q → A q := fun q h => by rw [← hAe]; exact Or.inr h
  have hS : va_S A s.heap s.heap [] := va_S.rf
  have i4 : ∀ w ∈ u_ws RX4 TX4 7, w ∈ wsX4_answerOfApp := by decide +kernel
  have fl_33 := hts (.fieldLink RX4 33 "SignOnHouse" "decisions" "LSignOnHouse$Decisions;") (by decide +kernel)
  have fl_44 := hts (.fieldLink RX4 44 "SignOnHouse" "minute" "I") (by decide +kernel)
  have hl := lv_entry ([.ref (X 0), .int (nI ai), .int (nI pi), .int (nI ri)]) (n := 5) (Nat.le_of_ble_eq_true rfl)
  rw [lg_entry_eq]
  generalize (lg_sl ([.ref (X 0), .int (nI ai), .int (nI pi), .int (nI ri)]) ++ List.replicate (5 - (lg_sl ([.ref (X 0), .int (nI ai), .int (nI pi), .int (nI ri)])).length) Slot.unset).toArray = ls at hl ⊢
  have hl : lv_has ls 5 [(0, .ref (X 0)), (1, .int (nI ai)), (2, .int (nI pi)), (3, .int (nI ri))] := hl
  refine lv_aload_n hx hb dX4_answerOfApp_0 rfl (lv_at hl 0 rfl) ?_
  refine va_get (D := D) (ci := 4) (v := .ref (X 4)) (C := RX4) (T := TX4) (N := 7) hx hb hts i4 hown hK hP 0 rfl rfl 3 (by decide) fl_33 (fun _ h9 => h9) rfl dX4_answerOfApp_1 ?_
  refine lv_iload_n hx hb dX4_answerOfApp_4 rfl (lv_at hl 1 rfl) ?_
  refine lv_iload_n hx hb dX4_answerOfApp_5 rfl (lv_at hl 2 rfl) ?_
  refine lv_iload_n hx hb dX4_answerOfApp_6 rfl (lv_at hl 3 rfl) ?_
  refine z_callR (W.runV (As := [.int (nI ai), .int (nI pi), .int (nI ri)]) (rest := []) ⟨hx, hb, hml, hown, hts⟩ (kX0_areKept l D cI cZ X S O V ai pi ri (by omega) (by omega) (by omega)) (cwV 3 hts gX4_answerOfApp_X0_areKept rfl rfl rfl (by decide +kernel) ⟨Nat.le_of_ble_eq_true rfl, Nat.le_of_ble_eq_true rfl⟩) (zR_preV 4 0 hK hP rfl rfl) rfl rfl hl.1 rfl (lv_room (Nat.le_of_ble_eq_true rfl)) dX4_answerOfApp_7 ⟨Nat.zero_le _, Nat.zero_le _⟩) ?_
  refine z_if_eq (tgt := 24) hx hb dX4_answerOfApp_10 (by decide) (fun c_10 => ?_) (fun c_10 => ?_)
  · refine lv_aload_n hx hb dX4_answerOfApp_24 rfl (lv_at hl 0 rfl) ?_
    refine lv_iload_n hx hb dX4_answerOfApp_25 rfl (lv_at hl 2 rfl) ?_
    refine lv_iload_n hx hb dX4_answerOfApp_26 rfl (lv_at hl 3 rfl) ?_
    refine z_callR (W.runV (As := [.int (nI pi), .int (nI ri)]) (rest := []) ⟨hx, hb, hml, hown, hts⟩ (kX4_answerOfHouse l D cI cZ X S O V pi ri (by omega) (by omega)) (cwV 2 hts gX4_answerOfApp_X4_answerOfHouse rfl rfl rfl (by decide +kernel) ⟨Nat.le_of_ble_eq_true rfl, Nat.le_of_ble_eq_true rfl⟩) (zR_preV 0 4 hK hP rfl rfl) rfl rfl hl.1 rfl (lv_room (Nat.le_of_ble_eq_true rfl)) dX4_answerOfApp_27 ⟨Nat.zero_le _, Nat.zero_le _⟩) ?_
    refine lv_istore (lv' := [(4, .int (c_house S V pi ri)), (0, .ref (X 0)), (1, .int (nI ai)), (2, .int (nI pi)), (3, .int (nI ri))]) hx hb dX4_answerOfApp_30 hl (by decide) rfl (fun ls hl => ?_)
    refine lv_aload_n hx hb dX4_answerOfApp_32 rfl (lv_at hl 1 rfl) ?_
    refine va_get (D := D) (ci := 4) (v := .ref (X 4)) (C := RX4) (T := TX4) (N := 7) hx hb hts i4 hown hK hP 0 rfl rfl 3 (by decide) fl_33 (fun _ h9 => h9) rfl dX4_answerOfApp_33 ?_
    refine lv_iload_n hx hb dX4_answerOfApp_36 rfl (lv_at hl 2 rfl) ?_
    refine lv_iload_n hx hb dX4_answerOfApp_37 rfl (lv_at hl 3 rfl) ?_
    refine lv_iload_n hx hb dX4_answerOfApp_38 rfl (lv_at hl 4 rfl) ?_
    refine lv_iload hx hb dX4_answerOfApp_39 (lv_at hl 0 rfl) ?_
    refine lv_aload_n hx hb dX4_answerOfApp_41 rfl (lv_at hl 1 rfl) ?_
    refine va_get (D := D) (ci := 4) (v := .int (V 0)) (C := RX4) (T := TX4) (N := 7) hx hb hts i4 hown hK hP 0 rfl rfl 6 (by decide) fl_44 (fun _ h9 => h9) rfl dX4_answerOfApp_42 ?_
    have hF := z_free hD hS hA
    refine z_callWv (va_runV (As := [.int (nI ai), .int (nI pi), .int (nI ri), .int (c_house S V pi ri), .int (V 0)]) (rest := []) ⟨hx, hb, hml, hown, hts⟩ (kX0_keep l D cI cZ X S O V _ ai pi ri (c_house S V pi ri) (V 0) (by omega) (by omega) (by omega)) (cwV 5 hts gX4_answerOfApp_X0_keep rfl rfl rfl (by decide +kernel) ⟨Nat.le_of_ble_eq_true rfl, Nat.le_of_ble_eq_true rfl⟩) (zW_preV 4 0 hK hP hD rfl rfl) rfl rfl hl.1 rfl (lv_room (Nat.le_of_ble_eq_true rfl)) dX4_answerOfApp_45 ⟨Nat.zero_le _, Nat.zero_le _⟩) hS hF (fun H locs hP hD hS => ?_)
    refine lv_iload hx hb dX4_answerOfApp_48 (lv_at hl 0 rfl) ?_
    have eS : c_appS S V ai pi ri = c_keep S ai pi ri (c_house S V pi ri) (V 0) := by simp [c_appR, c_appS, bi, (eq_true (nd_f c_10))]
    exact z_wret hx hb hr hlocks (by rw [eS]; exact hP) hK (by rw [eS]; exact hD) hS (by simp [c_appR, c_appS, bi, (eq_true (nd_f c_10))]) dX4_answerOfApp_50
  · refine lv_aload_n hx hb dX4_answerOfApp_13 rfl (lv_at hl 0 rfl) ?_
    refine va_get (D := D) (ci := 4) (v := .ref (X 4)) (C := RX4) (T := TX4) (N := 7) hx hb hts i4 hown hK hP 0 rfl rfl 3 (by decide) fl_33 (fun _ h9 => h9) rfl dX4_answerOfApp_14 ?_
    refine lv_iload_n hx hb dX4_answerOfApp_17 rfl (lv_at hl 1 rfl) ?_
    refine lv_iload_n hx hb dX4_answerOfApp_18 rfl (lv_at hl 2 rfl) ?_
    refine lv_iload_n hx hb dX4_answerOfApp_19 rfl (lv_at hl 3 rfl) ?_
    refine z_callR (W.runV (As := [.int (nI ai), .int (nI pi), .int (nI ri)]) (rest := []) ⟨hx, hb, hml, hown, hts⟩ (kX0_answer l D cI cZ X S O V ai pi ri (by omega) (by omega) (by omega)) (cwV 3 hts gX4_answerOfApp_X0_answer rfl rfl rfl (by decide +kernel) ⟨Nat.le_of_ble_eq_true rfl, Nat.le_of_ble_eq_true rfl⟩) (zR_preV 4 0 hK hP rfl rfl) rfl rfl hl.1 rfl (lv_room (Nat.le_of_ble_eq_true rfl)) dX4_answerOfApp_20 ⟨Nat.zero_le _, Nat.zero_le _⟩) ?_
    have eS : c_appS S V ai pi ri = S := by simp [c_appR, c_appS, bi, (nd_t c_10)]
    exact z_wret hx hb hr hlocks (by rw [eS]; exact hP) hK (by rw [eS]; exact hD) hS (by simp [c_appR, c_appS, bi, (nd_t c_10)]) dX4_answerOfApp_23

set_option maxHeartbeats 4000000 in
set_option maxRecDepth 100000 in
theorem kX4_isStale (l : Launch) (D : va_G) (cI cZ : ClassId) (X : Nat → Nat) (S : Nat → Nat → Int32) (O : Nat → Bool) (V : Nat → Int32) (ai : Nat) (pi : Nat) (ri : Nat) (hai : ai < 4) (hpi : pi < 10) (hri : ri < 6) : Met l yX4_isStale wsX4_isStale ({ frames := 5, cells := 0, slots := 0, locals := 112 } : Room) (zR D (tyl cI cZ) (hW cI cZ X S O V) [.ref (X 0), .int (nI ai), .int (nI pi), .int (nI ri)]) (QcRead (bi (c_stale1 S V ai pi ri))) 0 0 (fun _ => False) := by
  refine Met.ofW (cc := cX4_isStale) (maxL := 4) (ret := (some .boolean)) (by decide) rfl ?_
  intro p e s m args below meth c s₁ B hml hv
  obtain ⟨rfl, hP, hK⟩ := hv
  have hx := B.exec
  have hb := B.bytes
  have hr := B.returns
  have hts := atoms_spec (ws := wsX4_isStale) B.pre
  have hown : s.vm.findClass RX4 = some m.cls := findClass_of_methodNamed B.named
  have hlocks := B.notSynchronized
  have i4 : ∀ w ∈ u_ws RX4 TX4 7, w ∈ wsX4_isStale := by decide +kernel
  have fl_33 := hts (.fieldLink RX4 33 "SignOnHouse" "decisions" "LSignOnHouse$Decisions;") (by decide +kernel)
  have hl := lv_entry ([.ref (X 0), .int (nI ai), .int (nI pi), .int (nI ri)]) (n := 4) (Nat.le_of_ble_eq_true rfl)
  rw [lg_entry_eq]
  generalize (lg_sl ([.ref (X 0), .int (nI ai), .int (nI pi), .int (nI ri)]) ++ List.replicate (4 - (lg_sl ([.ref (X 0), .int (nI ai), .int (nI pi), .int (nI ri)])).length) Slot.unset).toArray = ls at hl ⊢
  have hl : lv_has ls 4 [(0, .ref (X 0)), (1, .int (nI ai)), (2, .int (nI pi)), (3, .int (nI ri))] := hl
  refine lv_aload_n hx hb dX4_isStale_0 rfl (lv_at hl 0 rfl) ?_
  refine va_get (D := D) (ci := 4) (v := .ref (X 4)) (C := RX4) (T := TX4) (N := 7) hx hb hts i4 hown hK hP 0 rfl rfl 3 (by decide) fl_33 (fun _ h9 => h9) rfl dX4_isStale_1 ?_
  refine lv_iload_n hx hb dX4_isStale_4 rfl (lv_at hl 1 rfl) ?_
  refine lv_iload_n hx hb dX4_isStale_5 rfl (lv_at hl 2 rfl) ?_
  refine lv_iload_n hx hb dX4_isStale_6 rfl (lv_at hl 3 rfl) ?_
  refine z_callR (W.runV (As := [.int (nI ai), .int (nI pi), .int (nI ri)]) (rest := []) ⟨hx, hb, hml, hown, hts⟩ (kX0_areKept l D cI cZ X S O V ai pi ri (by omega) (by omega) (by omega)) (cwV 3 hts gX4_isStale_X0_areKept rfl rfl rfl (by decide +kernel) ⟨Nat.le_of_ble_eq_true rfl, Nat.le_of_ble_eq_true rfl⟩) (zR_preV 4 0 hK hP rfl rfl) rfl rfl hl.1 rfl (lv_room (Nat.le_of_ble_eq_true rfl)) dX4_isStale_7 ⟨Nat.zero_le _, Nat.zero_le _⟩) ?_
  refine z_if_eq (tgt := 36) hx hb dX4_isStale_10 (by decide) (fun c_10 => ?_) (fun c_10 => ?_)
  · refine lv_iconst (v := 0) hx hb dX4_isStale_36 rfl ?_
    exact z_zret hx hb hr hlocks (by simp [c_stale1, bi, (eq_true (nd_f c_10))]) dX4_isStale_37
  · refine lv_aload_n hx hb dX4_isStale_13 rfl (lv_at hl 0 rfl) ?_
    refine va_get (D := D) (ci := 4) (v := .ref (X 4)) (C := RX4) (T := TX4) (N := 7) hx hb hts i4 hown hK hP 0 rfl rfl 3 (by decide) fl_33 (fun _ h9 => h9) rfl dX4_isStale_14 ?_
    refine lv_iload_n hx hb dX4_isStale_17 rfl (lv_at hl 1 rfl) ?_
    refine lv_iload_n hx hb dX4_isStale_18 rfl (lv_at hl 2 rfl) ?_
    refine lv_iload_n hx hb dX4_isStale_19 rfl (lv_at hl 3 rfl) ?_
    refine z_callR (W.runV (As := [.int (nI ai), .int (nI pi), .int (nI ri)]) (rest := []) ⟨hx, hb, hml, hown, hts⟩ (kX0_answer l D cI cZ X S O V ai pi ri (by omega) (by omega) (by omega)) (cwV 3 hts gX4_isStale_X0_answer rfl rfl rfl (by decide +kernel) ⟨Nat.le_of_ble_eq_true rfl, Nat.le_of_ble_eq_true rfl⟩) (zR_preV 4 0 hK hP rfl rfl) rfl rfl hl.1 rfl (lv_room (Nat.le_of_ble_eq_true rfl)) dX4_isStale_20 ⟨Nat.zero_le _, Nat.zero_le _⟩) ?_
    refine lv_aload_n hx hb dX4_isStale_23 rfl (lv_at hl 0 rfl) ?_
    refine lv_iload_n hx hb dX4_isStale_24 rfl (lv_at hl 2 rfl) ?_
    refine lv_iload_n hx hb dX4_isStale_25 rfl (lv_at hl 3 rfl) ?_
    refine z_callR (W.runV (As := [.int (nI pi), .int (nI ri)]) (rest := [.int (S 17 (ai * 60 + pi * 6 + ri))]) ⟨hx, hb, hml, hown, hts⟩ (kX4_answerOfHouse l D cI cZ X S O V pi ri (by omega) (by omega)) (cwV 2 hts gX4_isStale_X4_answerOfHouse rfl rfl rfl (by decide +kernel) ⟨Nat.le_of_ble_eq_true rfl, Nat.le_of_ble_eq_true rfl⟩) (zR_preV 0 4 hK hP rfl rfl) rfl rfl hl.1 rfl (lv_room (Nat.le_of_ble_eq_true rfl)) dX4_isStale_26 ⟨Nat.zero_le _, Nat.zero_le _⟩) ?_
    refine z_sel_icmp_eq hx hb dX4_isStale_29 dX4_isStale_32 dX4_isStale_33 dX4_isStale_36 ?_
    exact z_zret hx hb hr hlocks (by simp [c_stale1, bi, (nd_t c_10)]) dX4_isStale_37
end
