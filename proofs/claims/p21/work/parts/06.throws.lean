/-! ===== methods that throw: what stands ready for a throw, its row, and the end of a method that may throw ===== -/
def xnames : List String := ["java/lang/RuntimeException", "java/lang/Exception"]
def zBad : List Cond := [.castable "java/lang/IllegalArgumentException" "java/lang/IllegalArgumentException", .castable "java/lang/IllegalStateException" "java/lang/IllegalStateException", .castable "java/lang/IndexOutOfBoundsException" "java/lang/IndexOutOfBoundsException", .declares (Bundle.initS Bundle.tN), .declares (Bundle.initS "java/lang/RuntimeException"), .declares (Bundle.initS "java/lang/Exception")]
def zStr : List (Nat × String) := [(54, "group or person is out of range"), (63, "group or inner is out of range"), (65, "group and inner are the same"), (72, "a group would be in itself"), (78, "group or role is out of range"), (80, "what is out of range"), (86, "person or risk is out of range"), (95, "person or role is out of range"), (101, "person is out of range"), (107, "the account is barred"), (113, "no more sessions can be opened"), (127, "there is no such session"), (133, "the session is over"), (142, "minutes is out of range"), (151, "there is no such key"), (159, "a witness is out of range"), (161, "two of the three people are the same"), (166, "a witness does not serve"), (168, "app or minutes is out of range"), (180, "app or role is out of range"), (191, "app or person is out of range"), (196, "app is out of range")]
def zX (A : Nat → Prop) (U : State) : Prop := vx_Zq Bundle.tN "UNASSIGNED_STACK" Bundle.steD A U U.heap ∧ vx_Zq Bundle.tN "SUPPRESSED_SENTINEL" Bundle.listD A U U.heap ∧ (∀ w ∈ zBad, va_Nw w U) ∧ (∀ q ∈ zStr, ∃ sa, vk_R RX4 q.1 q.2 sa U)
theorem zxI_fit : Bundle.fit "java/lang/IllegalArgumentException" = true := by decide +kernel
theorem zxI_bad : ∀ w ∈ (vx_atS RX4 56 "java/lang/IllegalArgumentException" xnames).filter (fun w => !goodWord w), w ∈ zBad := by decide +kernel
theorem zxI_ot : ∀ w ∈ Cond.classLink RX4 52 "java/lang/IllegalArgumentException" :: Cond.initialized "java/lang/IllegalArgumentException" :: vx_atS RX4 56 "java/lang/IllegalArgumentException" xnames, vx_ot w = true := by decide +kernel
theorem zxS_fit : Bundle.fit "java/lang/IllegalStateException" = true := by decide +kernel
theorem zxS_bad : ∀ w ∈ (vx_atS RX4 74 "java/lang/IllegalStateException" xnames).filter (fun w => !goodWord w), w ∈ zBad := by decide +kernel
theorem zxS_ot : ∀ w ∈ Cond.classLink RX4 70 "java/lang/IllegalStateException" :: Cond.initialized "java/lang/IllegalStateException" :: vx_atS RX4 74 "java/lang/IllegalStateException" xnames, vx_ot w = true := by decide +kernel
theorem zxB_fit : Bundle.fit "java/lang/IndexOutOfBoundsException" = true := by decide +kernel
theorem zxB_bad : ∀ w ∈ (vx_atS RX4 129 "java/lang/IndexOutOfBoundsException" xnames).filter (fun w => !goodWord w), w ∈ zBad := by decide +kernel
theorem zxB_ot : ∀ w ∈ Cond.classLink RX4 125 "java/lang/IndexOutOfBoundsException" :: Cond.initialized "java/lang/IndexOutOfBoundsException" :: vx_atS RX4 129 "java/lang/IndexOutOfBoundsException" xnames, vx_ot w = true := by decide +kernel
theorem zx_names : ∀ n ∈ xnames, Bundle.fit n = true := by decide +kernel
theorem zx_on : ∀ w ∈ zBad, w.onTables = true := by decide +kernel
theorem zX_warm {A : Nat → Prop} {s U : State} (hW : s.WarmedH U.vm) (hU : U.heap = s.heap) (h : zX A s) : zX A U := by
  obtain ⟨h1, h2, h3, h4⟩ := h
  refine ⟨by rw [hU]; exact vx_Zq.moved hW.alike h1, by rw [hU]; exact vx_Zq.moved hW.alike h2, fun w hw => ?_, fun q hq => ?_⟩
  · have h5 := h3 w hw
    simp only [zBad, List.mem_cons, List.not_mem_nil, or_false] at hw
    rcases hw with rfl | rfl | rfl | rfl | rfl | rfl
    · exact va_Nw.warmC hW h5
    · exact va_Nw.warmC hW h5
    · exact va_Nw.warmC hW h5
    · exact va_Nw.warmD hW h5
    · exact va_Nw.warmD hW h5
    · exact va_Nw.warmD hW h5
  · obtain ⟨sa, h5⟩ := h4 q hq
    exact ⟨sa, vk_R.warm hW h5⟩
theorem zX_same {A : Nat → Prop} {s U : State} (hv : U.vm = s.vm) (hU : U.heap = s.heap) (h : zX A s) : zX A U := by
  obtain ⟨h1, h2, h3, h4⟩ := h
  refine ⟨?_, ?_, fun w hw => va_Nw.same (zx_on w hw) hv.symm (h3 w hw), fun q hq => ?_⟩
  · rw [hU]; exact vx_Zq.moved (by rw [hv]; exact Vm.Alike.refl _) h1
  · rw [hU]; exact vx_Zq.moved (by rw [hv]; exact Vm.Alike.refl _) h2
  · obtain ⟨sa, h5⟩ := h4 q hq
    exact ⟨sa, vk_R.same hv h5⟩
abbrev zT (D : va_G) (tys : List (ClassId × FieldType)) (ws : va_W) (sz : Nat) (av : List Value) : Array Value → State → Prop := va_Pc av (fun U => U.heap.size = sz ∧ va_P D vwCl ws U.heap ∧ va_K D vwCl tys U ∧ va_D (fun _ => True) ws ∧ zX (va_A ws sz) U)
theorem zT_blind {D : va_G} {tys : List (ClassId × FieldType)} {ws : va_W} {sz : Nat} {av : List Value} : FrameBlind (zT D tys ws sz av) := fun a U g mk q => ⟨q.1, q.2.1, q.2.2.1, va_K.moved (u := U) (U := U.calling g mk a) (Vm.Alike.refl U.vm) q.2.2.2.1, q.2.2.2.2.1, zX_same (s := U) (U := U.calling g mk a) rfl rfl q.2.2.2.2.2⟩
abbrev zTi (D : va_G) (tys : List (ClassId × FieldType)) (ws' : va_W) (k r : Int32) (A : Nat → Prop) : Array Value → State → Outcome → State → Prop := va_Qi (fun x (_ : Unit) => k = 0 ∧ x = r) (fun _ t => zB D tys ws' A t) A
abbrev zXC (D : va_G) (tys : List (ClassId × FieldType)) (ws : va_W) (A : Nat → Prop) (EX : String → Prop) : String → State → State → Prop := vx_X (fun (_ : Unit) => True) (fun E _ t => EX E ∧ zB D tys ws A t) A
section ZT
variable {p : Program} {l : Launch} {e : Env} {R : Room} {s : State} {m : MethodId} {args : Array Value} {below : List Frame} {meth : Method} {c : Code} {H : Heap} {locs : List Loc} {cc : ByteArray} {pc : Nat} {ls : Array Slot} {rest : List Value} {D : va_G} {ws ws' : va_W} {tys : List (ClassId × FieldType)} {A : Nat → Prop} {EX : String → Prop} {Qc : Array Value → State → Outcome → State → Prop} {XC : String → State → State → Prop}
theorem z_throw {cls text : String} {ik is ic : Nat} (hx : p.tables.exec = Jvm.exec) (hb : c.code = cc) (hl : l.stackTraces = false) (hown : s.vm.findClass RX4 = some m.cls) (hcls : Bundle.fit cls = true)
    (hk : (Cond.classLink RX4 ik cls).before args s = true) (hini : (Cond.initialized cls).before args s = true) (hat : ∀ w ∈ (vx_atS RX4 ic cls xnames).filter goodWord, w.before args s = true) (hnb : ∀ w ∈ (vx_atS RX4 ic cls xnames).filter (fun w => !goodWord w), w ∈ zBad) (hgood : ∀ w ∈ Cond.classLink RX4 ik cls :: Cond.initialized cls :: vx_atS RX4 ic cls xnames, vx_ot w = true)
    (hZ : zX A s) (hst : (is, text) ∈ zStr) (hS : va_S A s.heap H locs) (hsize : ls.size = c.maxLocals)
    (d0 : decode cc pc = .ok (.new ik, 3)) (d3 : decode cc (pc + 3) = .ok (.dup, 1)) (d4 : decode cc (pc + 4) = .ok (.ldc is, 2)) (d6 : decode cc (pc + 6) = .ok (.invokespecial ic, 3)) (d9 : decode cc (pc + 9) = .ok (.athrow, 1))
    (ht : ∀ x ∈ c.exceptionTable.toList, False) (hRf : 5 < R.frames) (hRl : 82 ≤ R.locals) (hRc : 1 ≤ R.cells) (hRs : 6 ≤ R.slots) (hlocks : meth.locks = false)
    (hP : va_P D vwCl ws H) (hK : va_K D vwCl tys s) (hD : va_D A ws) (hE : EX cls) :
    W p l e R s m args below meth c H locs 0 0 (vx_MQ below Qc (zXC D tys ws A EX) args s 1 6 A) (F0 m pc ls []) := by
  obtain ⟨hU, hN, hbad, hstr⟩ := hZ
  obtain ⟨sa, hsa⟩ := hstr _ hst
  refine vx_throwS hx hb hl hown hcls zx_names hk hini hsa (vx_hat hat hnb (fun w hw => va_Nw.use (zx_on w hw) (hbad w hw))) hgood hU hN hS hsize d0 d3 d4 d6 d9 (fun x h => (ht x h).elim) hRf (by simpa [xnames] using hRl) (by omega) (by omega) hlocks (fun t hal f1 f2 => ?_) hS.2.2 (by omega) (by omega)
  exact ⟨(), trivial, ⟨hE, hP.kept (fun k q hq => f2 q.1 ((hP k q hq).lt)), va_K.moved hal hK, hD⟩, Nat.le_trans hS.1 f1, fun q h1 h2 => (f2 q (Nat.lt_of_lt_of_le h1 hS.1)).trans (hS.2.1 q h1 h2)⟩
theorem z_tret {k v r : Int32} (hx : p.tables.exec = Jvm.exec) (hb : c.code = cc) (hr : meth.sig.returnType = some .int) (hlocks : meth.locks = false) (hP : va_P D vwCl ws' H) (hK : va_K D vwCl tys s) (hD : va_D A ws') (hS : va_S A s.heap H locs) (hk : k = 0) (h : v = r) (hdg : decode cc pc = .ok (.ireturn, 1)) : W p l e R s m args below meth c H locs 0 0 (vx_MQ below (zTi D tys ws' k r A) XC args s 1 6 A) (F0 m pc ls [.int v]) := by
  subst h
  exact W.widen (k := 1) (n := 6) (by omega) (by omega) (vx_ret (W.iret hx hb hr (fun t ht hW => ⟨⟨_, (), rfl, ⟨hk, rfl⟩, by rw [ht]; exact hP, va_K.moved hW.alike hK, hD⟩, hS.F ht⟩) hS.2.2 hdg hlocks))
theorem z_tzret {k v : Int32} {b : Bool} (hx : p.tables.exec = Jvm.exec) (hb : c.code = cc) (hr : meth.sig.returnType = some .boolean) (hlocks : meth.locks = false) (hP : va_P D vwCl ws' H) (hK : va_K D vwCl tys s) (hD : va_D A ws') (hS : va_S A s.heap H locs) (hk : k = 0) (h : v = bi b) (hdg : decode cc pc = .ok (.ireturn, 1)) : W p l e R s m args below meth c H locs 0 0 (vx_MQ below (zTi D tys ws' k (bi b) A) XC args s 1 6 A) (F0 m pc ls [.int v]) := by
  subst h
  exact W.widen (k := 1) (n := 6) (by omega) (by omega) (vx_ret (W.zret hx hb hr (bi_nar b) (fun t ht hW => ⟨⟨_, (), rfl, ⟨hk, rfl⟩, by rw [ht]; exact hP, va_K.moved hW.alike hK, hD⟩, hS.F ht⟩) hS.2.2 hdg hlocks))
end ZT
theorem zT_preV {s : State} {H : Heap} {D : va_G} {tys : List (ClassId × FieldType)} {ws : va_W} {A : Nat → Prop} {As : List Value} {a : Nat} (q0 ci : Nat) {q : vw_C} {fs : List Value} (hK : va_K D vwCl tys s) (hP : va_P D vwCl ws H) (hD : va_D A ws) (hZ : ∀ U : State, U.heap = H → s.WarmedH U.vm → zX (va_A ws H.size) U) (hc : vwCl[ci]? = some q) (he : ws[q0]? = some (a, .inr (ci, fs))) : PreV s H q.1 a (zT D tys ws H.size (.ref a :: As)) As :=
  ⟨zT_blind, va_recv hK hP hc he, fun U hU hW => ⟨rfl, by rw [hU], by rw [hU]; exact hP, va_K.moved hW.alike hK, hD.weaken (fun _ _ _ _ => trivial), hZ U hU hW⟩⟩
