/-! ===== the law's world: the row for answers, the class's cells, the reference's cells ===== -/
def lW (cI cZ cJ : ClassId) (X Y : Nat → Nat) (o : Nat) (g : Nat → Int64) (S : Nat → Nat → Int32) (O : Nat → Bool) (V : Nat → Int32) (T : Nat → Nat → Int32) (P : Nat → Bool) (U : Nat → Int32) : va_W := oW cJ o g (hW cI cZ X S O V) ++ mW cI cZ Y T P U
theorem zX_at {A : Nat → Prop} {s U : State} {H : Heap} {locs : List Loc} (hZ : zX A s) (hS : va_S A s.heap H locs) (hU : U.heap = H) (hW : s.WarmedH U.vm) : zX A U := by
  obtain ⟨h1, h2, h3, h4⟩ := hZ
  refine ⟨by rw [hU]; exact vx_Zq.moved hW.alike (vx_Zq.kept h1 hS.2.1), by rw [hU]; exact vx_Zq.moved hW.alike (vx_Zq.kept h2 hS.2.1), fun w hw => ?_, fun q hq => ?_⟩
  · have h5 := h3 w hw
    simp only [zBad, List.mem_cons, List.not_mem_nil, or_false] at hw
    rcases hw with rfl | rfl | rfl | rfl | rfl | rfl
    · exact va_Nw.warmC hW h5
    · exact va_Nw.warmC hW h5
    · exact va_Nw.warmC hW h5
    · exact va_Nw.warmD hW h5
    · exact va_Nw.warmD hW h5
    · exact va_Nw.warmD hW h5
  · obtain ⟨sa, h5⟩ := h4 q hq
    exact ⟨sa, vk_R.warm hW h5⟩
section ZLAW
variable {p : Program} {l : Launch} {e : Env} {R : Room} {s : State} {m : MethodId} {args : Array Value} {below : List Frame} {meth : Method} {c : Code} {H : Heap} {locs : List Loc} {cells slots : Nat} {Q : State → Prop} {cc : ByteArray} {pc : Nat} {ls : Array Slot} {rest st0 : List Value} {D : va_G} {A : Nat → Prop} {av : Array Value}
variable {cI cZ cJ : ClassId} {X Y : Nat → Nat} {o : Nat} {g g1 : Nat → Int64} {S S1 : Nat → Nat → Int32} {O O1 : Nat → Bool} {V V1 : Nat → Int32} {T T1 : Nat → Nat → Int32} {P P1 : Nat → Bool} {U U1 : Nat → Int32}
theorem z_lawPreL {al : List Value} (hK : va_K D vwCl (tyx cI cZ cJ) s) (hP : va_P D vwCl (lW cI cZ cJ X Y o g S O V T P U) H) (hD : va_D A (lW cI cZ cJ X Y o g S O V T P U)) (hS : va_S A s.heap H locs) (hA : ∀ q, s.heap.size ≤ q → A q) (hZ : zX A s) (hY : zY s) : PreS s H (zL D (tyx cI cZ cJ) (oW cJ o g (hW cI cZ X S O V)) H.size al) al := by
  have hPc := hP.sub (ws' := oW cJ o g (hW cI cZ X S O V)) [0, 1, 2, 3, 4, 5, 6, 7, 8, 9, 10, 11, 12, 13, 14, 15, 16, 17, 18, 19] rfl
  have hDc := hD.sub (ws' := oW cJ o g (hW cI cZ X S O V)) [0, 1, 2, 3, 4, 5, 6, 7, 8, 9, 10, 11, 12, 13, 14, 15, 16, 17, 18, 19] (by decide) rfl
  exact zL_preS hK hPc hDc (fun U' hU hW => zX_narrow (zX_at hZ hS hU hW) (z_free hDc hS hA)) hY
theorem z_lawCallL {r : Int32} (hr : va_Run p l e R s m args below meth c H locs cells slots 1 6 (F0 m pc ls st0) rest (zQi D (tyx cI cZ cJ) (oW cJ o g1 (hW cI cZ X S1 O1 V1)) r (va_A (oW cJ o g (hW cI cZ X S O V)) H.size) av) (va_A (oW cJ o g (hW cI cZ X S O V)) H.size)) (hP : va_P D vwCl (lW cI cZ cJ X Y o g S O V T P U) H) (hD : va_D A (lW cI cZ cJ X Y o g S O V T P U)) (hS : va_S A s.heap H locs) (hA : ∀ q, s.heap.size ≤ q → A q)
    (kk : ∀ (H1 : Heap) (locs1 : List Loc), va_P D vwCl (lW cI cZ cJ X Y o g1 S1 O1 V1 T P U) H1 → va_D A (lW cI cZ cJ X Y o g1 S1 O1 V1 T P U) → va_S A s.heap H1 locs1 → W p l e R s m args below meth c H1 locs1 (cells + 1) (slots + 6) Q (F0 m (pc + 3) ls (.int r :: rest))) : W p l e R s m args below meth c H locs cells slots Q (F0 m pc ls st0) := by
  have hF : ∀ q, va_A (oW cJ o g (hW cI cZ X S O V)) H.size q → A q := va_free (wc := oW cJ o g (hW cI cZ X S O V)) hD hS hA [0, 1, 2, 3, 4, 5, 6, 7, 8, 9, 10, 11, 12, 13, 14, 15, 16, 17, 18, 19] rfl
  refine va_calli hr hS (fun q _ h => hF q h) hF (fun r' u t H1 locs1 ht _ hw hB _ hk hS1 => ?_)
  subst hw
  obtain ⟨hP1, -, hD1⟩ := hB
  rw [ht] at hP1
  obtain ⟨hP2, hD2⟩ := va_join (wr := mW cI cZ Y T P U) (w1 := oW cJ o g1 (hW cI cZ X S1 O1 V1)) hP hD [0, 1, 2, 3, 4, 5, 6, 7, 8, 9, 10, 11, 12, 13, 14, 15, 16, 17, 18, 19] [20, 21, 22, 23, 24, 25, 26, 27, 28, 29, 30, 31, 32] rfl rfl (by decide) (by decide) hk hF hP1 hD1
  exact kk H1 locs1 (hP2.sub [13, 14, 15, 16, 17, 18, 19, 20, 21, 22, 23, 24, 25, 26, 27, 28, 29, 30, 31, 32, 0, 1, 2, 3, 4, 5, 6, 7, 8, 9, 10, 11, 12] rfl) (hD2.sub [13, 14, 15, 16, 17, 18, 19, 20, 21, 22, 23, 24, 25, 26, 27, 28, 29, 30, 31, 32, 0, 1, 2, 3, 4, 5, 6, 7, 8, 9, 10, 11, 12] (by decide) rfl) hS1
theorem z_lawPreM {al : List Value} (hK : va_K D vwCl (tyx cI cZ cJ) s) (hP : va_P D vwCl (lW cI cZ cJ X Y o g S O V T P U) H) (hD : va_D A (lW cI cZ cJ X Y o g S O V T P U)) : PreV s H RX5 (Y 0) (zW D (tyl cI cZ) (mW cI cZ Y T P U) H.size (.ref (Y 0) :: al)) al :=
  zW_preV 0 5 (A := A) (hK.sub [0, 1] rfl) (hP.sub (ws' := mW cI cZ Y T P U) [20, 21, 22, 23, 24, 25, 26, 27, 28, 29, 30, 31, 32] rfl) (hD.sub (ws' := mW cI cZ Y T P U) [20, 21, 22, 23, 24, 25, 26, 27, 28, 29, 30, 31, 32] (by decide) rfl) rfl rfl
theorem z_lawPreMR {al : List Value} (hK : va_K D vwCl (tyx cI cZ cJ) s) (hP : va_P D vwCl (lW cI cZ cJ X Y o g S O V T P U) H) : PreV s H RX5 (Y 0) (zR D (tyl cI cZ) (mW cI cZ Y T P U) (.ref (Y 0) :: al)) al :=
  zR_preV 0 5 (hK.sub [0, 1] rfl) (hP.sub (ws' := mW cI cZ Y T P U) [20, 21, 22, 23, 24, 25, 26, 27, 28, 29, 30, 31, 32] rfl) rfl rfl
theorem z_lawPreHR {al : List Value} (hK : va_K D vwCl (tyx cI cZ cJ) s) (hP : va_P D vwCl (lW cI cZ cJ X Y o g S O V T P U) H) : PreV s H RX4 (X 0) (zR D (tyl cI cZ) (hW cI cZ X S O V) (.ref (X 0) :: al)) al :=
  zR_preV 0 4 (hK.sub [0, 1] rfl) (hP.sub (ws' := hW cI cZ X S O V) [1, 2, 3, 4, 5, 6, 7, 8, 9, 10, 11, 12, 13, 14, 15, 16, 17, 18, 19] rfl) rfl rfl
theorem z_lawCallM {r : Int32} (hr : va_Run p l e R s m args below meth c H locs cells slots 0 0 (F0 m pc ls st0) rest (zQi D (tyl cI cZ) (mW cI cZ Y T1 P1 U1) r (va_A (mW cI cZ Y T P U) H.size) av) (va_A (mW cI cZ Y T P U) H.size)) (hP : va_P D vwCl (lW cI cZ cJ X Y o g S O V T P U) H) (hD : va_D A (lW cI cZ cJ X Y o g S O V T P U)) (hS : va_S A s.heap H locs) (hA : ∀ q, s.heap.size ≤ q → A q)
    (kk : ∀ (H1 : Heap) (locs1 : List Loc), va_P D vwCl (lW cI cZ cJ X Y o g S O V T1 P1 U1) H1 → va_D A (lW cI cZ cJ X Y o g S O V T1 P1 U1) → va_S A s.heap H1 locs1 → W p l e R s m args below meth c H1 locs1 cells slots Q (F0 m (pc + 3) ls (.int r :: rest))) : W p l e R s m args below meth c H locs cells slots Q (F0 m pc ls st0) := by
  have hF : ∀ q, va_A (mW cI cZ Y T P U) H.size q → A q := va_free (wc := mW cI cZ Y T P U) hD hS hA [20, 21, 22, 23, 24, 25, 26, 27, 28, 29, 30, 31, 32] rfl
  refine va_calli hr hS (fun q _ h => hF q h) hF (fun r' u t H1 locs1 ht _ hw hB _ hk hS1 => ?_)
  subst hw
  obtain ⟨hP1, -, hD1⟩ := hB
  rw [ht] at hP1
  obtain ⟨hP2, hD2⟩ := va_join (wr := oW cJ o g (hW cI cZ X S O V)) (w1 := mW cI cZ Y T1 P1 U1) hP hD [20, 21, 22, 23, 24, 25, 26, 27, 28, 29, 30, 31, 32] [0, 1, 2, 3, 4, 5, 6, 7, 8, 9, 10, 11, 12, 13, 14, 15, 16, 17, 18, 19] rfl rfl (by decide) (by decide) hk hF hP1 hD1
  exact kk H1 locs1 hP2 hD2 hS1
theorem z_sld {b L j : Nat} {xs : Nat → Int32} (hx : p.tables.exec = Jvm.exec) (hb : c.code = cc) (hX : va_X b L xs s s.heap) (hbl : b < s.heap.size) (hbA : ¬ A b) (hS : va_S A s.heap H locs) (hj : j < L) (hL : L ≤ 2560) (hdg : decode cc pc = .ok (.iaload, 1)) (kk : W p l e R s m args below meth c H locs cells slots Q (F0 m (pc + 1) ls (.int (xs j) :: rest))) : W p l e R s m args below meth c H locs cells slots Q (F0 m pc ls (.int (nI j) :: .ref b :: rest)) :=
  va_sld hx hb hX hbl hbA hS (vp_in_nI hj (by omega)) hdg (by rw [nI_clamp (by omega)]; exact kk)
theorem z_icmpeq_t {x y : Int32} {off : Int} {tgt : Nat} (h : x = y) (hx : p.tables.exec = Jvm.exec) (hb : c.code = cc) (hdg : decode cc pc = .ok (.if_icmp .eq off, 3)) (ht : (pc : Int) + off = (tgt : Int)) (kt : W p l e R s m args below meth c H locs cells slots Q (F0 m tgt ls rest)) : W p l e R s m args below meth c H locs cells slots Q (F0 m pc ls (.int y :: .int x :: rest)) :=
  lv_icmp_eq hx hb hdg ht (fun _ => kt) (fun q => absurd h q)
theorem z_ifeq_t {x : Int32} {off : Int} {tgt : Nat} (h : x = 0) (hx : p.tables.exec = Jvm.exec) (hb : c.code = cc) (hdg : decode cc pc = .ok (.ifCond .eq off, 3)) (ht : (pc : Int) + off = (tgt : Int)) (kt : W p l e R s m args below meth c H locs cells slots Q (F0 m tgt ls rest)) : W p l e R s m args below meth c H locs cells slots Q (F0 m pc ls (.int x :: rest)) :=
  lv_if_eq hx hb hdg ht (fun _ => kt) (fun q => absurd h q)
end ZLAW
theorem z_cmp_eq {x y : Int64} (h : x = y) : lg_cmp x y = 0 := by subst h; simp [lg_cmp]
