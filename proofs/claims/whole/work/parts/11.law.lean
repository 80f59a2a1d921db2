set_option maxHeartbeats 4000000 in
set_option maxRecDepth 100000 in
theorem law_setPerson {p : Program} {l : Launch} {e : Env} {s : State} {m : MethodId} {below : List Frame} {meth : Method} {c : Code} {D : va_G} {cI cZ cJ : ClassId} {X Y : Nat → Nat} {o b L : Nat} {xs : Nat → Int32} {A : Nat → Prop} {Q : State → Prop} (hl0 : l.stackTraces = false) (hL : L ≤ 2560) (C0 : lw_At p s m meth c b L xs) (hK : va_K D vwCl (tyx cI cZ cJ) s) (hZ : zX A s) (hY : zY s) (hA : ∀ q : Nat, s.heap.size ≤ q → A q) (hbA : ¬ A b) {k : Nat} (hk : 5 * k + 5 ≤ L) {cells slots : Nat} (hcs : cells + 1 ≤ 1084 ∧ slots + 6 ≤ 9656) {g : Nat → Int64} {S : Nat → Nat → Int32} {O : Nat → Bool} {V : Nat → Int32} {T : Nat → Nat → Int32} {P : Nat → Bool} {U : Nat → Int32} {H : Heap} {locs : List Loc} {ls : Array Slot} (hR : Rel k S O V T P U) (hP : va_P D vwCl (lW cI cZ cJ X Y o g S O V T P U) H) (hD : va_D A (lW cI cZ cJ X Y o g S O V T P U)) (hS : va_S A s.heap H locs) (hl : lv_has ls 7 [(0, .ref b), (1, .ref (X 0)), (2, .ref (Y 0)), (3, .ref o), (4, .int (nI (5 * k)))]) (next : ∀ (g : Nat → Int64) (S : Nat → Nat → Int32) (O : Nat → Bool) (V : Nat → Int32) (T : Nat → Nat → Int32) (P : Nat → Bool) (U : Nat → Int32) (H : Heap) (locs : List Loc) (ls : Array Slot), Rel (k + 1) S O V T P U → va_P D vwCl (lW cI cZ cJ X Y o g S O V T P U) H → va_D A (lW cI cZ cJ X Y o g S O V T P U) → va_S A s.heap H locs → lv_has ls 7 [(0, .ref b), (1, .ref (X 0)), (2, .ref (Y 0)), (3, .ref o), (4, .int (nI (5 * k)))] → W p l e room_1 s m #[Value.ref b] below meth c H locs (cells + 1) (slots + 6) Q (F0 m 1355 ls [])) : W p l e room_1 s m #[Value.ref b] below meth c H locs cells slots Q (F0 m 124 ls []) := by
  obtain ⟨hx, hb, hr, hml, hown, hts, hX, hbl, hlocks, hgv⟩ := C0
  have hts := fun w h => hts w (wsL_law_in w h)
  obtain ⟨n0, hn0, hct, hctm, hpe, hpem⟩ := Rel_n hR
  refine lv_aload_n hx hb dL_law_124 rfl (lv_at hl 1 rfl) ?_
  refine lv_aload_n hx hb dL_law_125 rfl (lv_at hl 0 rfl) ?_
  refine lv_iload hx hb dL_law_126 (lv_at hl 4 rfl) ?_
  refine lv_iconst (v := nI 1) hx hb dL_law_128 rfl ?_
  refine lv_iadd hx hb dL_law_129 ?_
  refine z_top (nI (5 * k + 1)) (nI_add _ _) ?_
  refine z_sld hx hb hX hbl hbA hS (by omega) hL dL_law_130 ?_
  refine lv_aload_n hx hb dL_law_131 rfl (lv_at hl 0 rfl) ?_
  refine lv_iload hx hb dL_law_132 (lv_at hl 4 rfl) ?_
  refine lv_iconst (v := nI 2) hx hb dL_law_134 rfl ?_
  refine lv_iadd hx hb dL_law_135 ?_
  refine z_top (nI (5 * k + 2)) (nI_add _ _) ?_
  refine z_sld hx hb hX hbl hbA hS (by omega) hL dL_law_136 ?_
  refine lv_aload_n hx hb dL_law_137 rfl (lv_at hl 0 rfl) ?_
  refine lv_iload hx hb dL_law_138 (lv_at hl 4 rfl) ?_
  refine lv_iconst (v := nI 3) hx hb dL_law_140 rfl ?_
  refine lv_iadd hx hb dL_law_141 ?_
  refine z_top (nI (5 * k + 3)) (nI_add _ _) ?_
  refine z_sld hx hb hX hbl hbA hS (by omega) hL dL_law_142 ?_
  refine z_sel_if_eq hx hb dL_law_143 dL_law_146 dL_law_147 dL_law_150 ?_
  refine lv_aload_n hx hb dL_law_151 rfl (lv_at hl 3 rfl) ?_
  refine z_lawCallL (vx_runSW (hh := [(0, 19, 22, 13)]) (As := [.ref (X 0), .int (xs (5 * k + 1)), .int (xs (5 * k + 2)), .int (bi (!decide (xs (5 * k + 3) = 0))), .ref o]) (rest := []) ⟨hx, hb, hml, hown, hts⟩ (kL_setPerson l hl0 D cI cZ cJ X S O V o g _ (xs (5 * k + 1)) (xs (5 * k + 2)) (!decide (xs (5 * k + 3) = 0))) (vx_cwSW 5 hts gL_law_L_setPerson rfl rfl rfl (by decide +kernel) ⟨Nat.le_of_ble_eq_true rfl, Nat.le_of_ble_eq_true rfl⟩) (z_lawPreL hK hP hD hS hA hZ hY) rfl rfl hl.1 rfl (lv_room (Nat.le_of_ble_eq_true rfl)) dL_law_152 ⟨hcs.1, hcs.2⟩) hP hD hS hA (fun H locs hP hD hS => ?_)
  refine lv_istore (lv' := [(5, .int (c_spK (xs (5 * k + 1)) (xs (5 * k + 2)))), (0, .ref b), (1, .ref (X 0)), (2, .ref (Y 0)), (3, .ref o), (4, .int (nI (5 * k)))]) hx hb dL_law_155 hl (by decide) rfl (fun ls hl => ?_)
  refine lv_aload_n hx hb dL_law_157 rfl (lv_at hl 3 rfl) ?_
  refine lv_aload_n hx hb dL_law_158 rfl (lv_at hl 1 rfl) ?_
  refine lv_iload hx hb dL_law_159 (lv_at hl 5 rfl) ?_
  refine lv_iconst (v := nI 1) hx hb dL_law_161 rfl ?_
  refine lv_iadd hx hb dL_law_162 ?_
  refine z_top (nI (5 * k + 1)) (nI_add _ _) ?_
  refine z_sld hx hb hX hbl hbA hS (by omega) hL dL_law_163 ?_
  refine lv_aload_n hx hb dL_law_164 rfl (lv_at hl 1 rfl) ?_
  refine lv_iload hx hb dL_law_165 (lv_at hl 5 rfl) ?_
  refine lv_iconst (v := nI 2) hx hb dL_law_167 rfl ?_
  refine lv_iadd hx hb dL_law_168 ?_
  refine z_top (nI (5 * k + 2)) (nI_add _ _) ?_
  refine z_sld hx hb hX hbl hbA hS (by omega) hL dL_law_169 ?_
  refine lv_aload_n hx hb dL_law_170 rfl (lv_at hl 1 rfl) ?_
  refine lv_iload hx hb dL_law_171 (lv_at hl 5 rfl) ?_
  refine lv_iconst (v := nI 3) hx hb dL_law_173 rfl ?_
  refine lv_iadd hx hb dL_law_174 ?_
  refine z_top (nI (5 * k + 3)) (nI_add _ _) ?_
  refine z_sld hx hb hX hbl hbA hS (by omega) hL dL_law_175 ?_
  refine z_sel_if_eq hx hb dL_law_176 dL_law_179 dL_law_180 dL_law_183 ?_
  refine z_lawCallM (va_runV (As := [.int (xs (5 * k + 1)), .int (xs (5 * k + 2)), .int (bi (!decide (xs (5 * k + 3) = 0)))]) (rest := []) ⟨hx, hb, hml, hown, hts⟩ (kX5_setPerson l D cI cZ Y T P U _ (xs (5 * k + 1)) (xs (5 * k + 2)) (!decide (xs (5 * k + 3) = 0))) (cwV 3 hts gL_law_X5_setPerson rfl rfl rfl (by decide +kernel) ⟨Nat.le_of_ble_eq_true rfl, Nat.le_of_ble_eq_true rfl⟩) (z_lawPreM hK hP hD) rfl rfl hl.1 rfl (lv_room (Nat.le_of_ble_eq_true rfl)) dL_law_184 ⟨by show cells + 1 + 0 ≤ 1084; omega, by show slots + 6 + 0 ≤ 9656; omega⟩) hP hD hS hA (fun H locs hP hD hS => ?_)
  refine lv_istore (lv' := [(6, .int (bi (m_spOk (xs (5 * k + 1)) (xs (5 * k + 2)) && hasB (T 1 (ix (xs (5 * k + 1)))) (xs (5 * k + 2))))), (5, .int (c_spK (xs (5 * k + 1)) (xs (5 * k + 2)))), (0, .ref b), (1, .ref (X 0)), (2, .ref (Y 0)), (3, .ref o), (4, .int (nI (5 * k)))]) hx hb dL_law_187 hl (by decide) rfl (fun ls hl => ?_)
  obtain ⟨q1, q2, q3⟩ := q_setPerson hR (by omega) hn0 hct hctm hpe hpem (xs (5 * k + 1)) (xs (5 * k + 2)) (!decide (xs (5 * k + 3) = 0))
  refine lv_aload_n hx hb dL_law_189 rfl (lv_at hl 4 rfl) ?_
  refine z_callR (W.runV (As := []) (rest := []) ⟨hx, hb, hml, hown, hts⟩ (kX5_thrown l D cI cZ Y _ _ _) (cwV 0 hts gL_law_X5_thrown rfl rfl rfl (by decide +kernel) ⟨Nat.le_of_ble_eq_true rfl, Nat.le_of_ble_eq_true rfl⟩) (z_lawPreMR hK hP) rfl rfl hl.1 rfl (lv_room (Nat.le_of_ble_eq_true rfl)) dL_law_190 ⟨by show cells + 1 + 0 ≤ 1084; omega, by show slots + 6 + 0 ≤ 9656; omega⟩) ?_
  refine lv_iload hx hb dL_law_193 (lv_at hl 1 rfl) ?_
  refine z_icmpeq_t (tgt := 200) q1 hx hb dL_law_195 (by decide) ?_
  refine lv_iload hx hb dL_law_200 (lv_at hl 1 rfl) ?_
  refine lv_if_ne (tgt := 224) hx hb dL_law_202 (by decide) (fun cK => ?_) (fun cK => ?_)
  · refine lv_goto (tgt := 1355) hx hb dL_law_224 (by decide) ?_
    exact next _ _ _ _ _ _ _ _ _ ls q3 hP hD hS (lv_sub hl [2, 3, 4, 5, 6] rfl)
  · refine lv_aload_n hx hb dL_law_205 rfl (lv_at hl 5 rfl) ?_
    refine lv_iconst (v := nI 0) hx hb dL_law_206 rfl ?_
    refine z_lald (D := D) (j := 0) (f := (if c_spK (xs (5 * k + 1)) (xs (5 * k + 2)) = 0 then vp_updL g 0 (if (hasB (S 7 (ix (xs (5 * k + 2)))) (nI (ix (xs (5 * k + 1))))) = true then 1 else 0) else g)) hx hb hK hP 0 2 rfl rfl (by decide) (by decide) dL_law_207 ?_
    have eg : (if c_spK (xs (5 * k + 1)) (xs (5 * k + 2)) = 0 then vp_updL g 0 (if (hasB (S 7 (ix (xs (5 * k + 2)))) (nI (ix (xs (5 * k + 1))))) = true then 1 else 0) else g) 0 = (if (hasB (S 7 (ix (xs (5 * k + 2)))) (nI (ix (xs (5 * k + 1))))) = true then 1 else 0) := by rw [if_pos cK]; rfl
    refine lv_iload hx hb dL_law_208 (lv_at hl 0 rfl) ?_
    refine z_if_eq (tgt := 217) hx hb dL_law_210 (by decide) (fun cb => ?_) (fun cb => ?_)
    · refine lv_lconst (v := 0) hx hb dL_law_217 rfl ?_
      refine W.lcmp hx hb dL_law_218 ?_
      refine z_ifeq_t (tgt := 224) (z_cmp_eq (by rw [eg]; exact if_neg (by rw [q2 cK, cb]; decide))) hx hb dL_law_219 (by decide) ?_
      refine lv_goto (tgt := 1355) hx hb dL_law_224 (by decide) ?_
      exact next _ _ _ _ _ _ _ _ _ ls q3 hP hD hS (lv_sub hl [2, 3, 4, 5, 6] rfl)
    · refine lv_lconst (v := 1) hx hb dL_law_213 rfl ?_
      refine lv_goto (tgt := 218) hx hb dL_law_214 (by decide) ?_
      refine W.lcmp hx hb dL_law_218 ?_
      refine z_ifeq_t (tgt := 224) (z_cmp_eq (by rw [eg]; exact if_pos (by rw [q2 cK, cb]))) hx hb dL_law_219 (by decide) ?_
      refine lv_goto (tgt := 1355) hx hb dL_law_224 (by decide) ?_
      exact next _ _ _ _ _ _ _ _ _ ls q3 hP hD hS (lv_sub hl [2, 3, 4, 5, 6] rfl)

set_option maxHeartbeats 4000000 in
set_option maxRecDepth 100000 in
theorem law_setGroup {p : Program} {l : Launch} {e : Env} {s : State} {m : MethodId} {below : List Frame} {meth : Method} {c : Code} {D : va_G} {cI cZ cJ : ClassId} {X Y : Nat → Nat} {o b L : Nat} {xs : Nat → Int32} {A : Nat → Prop} {Q : State → Prop} (hl0 : l.stackTraces = false) (hL : L ≤ 2560) (C0 : lw_At p s m meth c b L xs) (hK : va_K D vwCl (tyx cI cZ cJ) s) (hZ : zX A s) (hY : zY s) (hA : ∀ q : Nat, s.heap.size ≤ q → A q) (hbA : ¬ A b) {k : Nat} (hk : 5 * k + 5 ≤ L) {cells slots : Nat} (hcs : cells + 1 ≤ 1084 ∧ slots + 6 ≤ 9656) {g : Nat → Int64} {S : Nat → Nat → Int32} {O : Nat → Bool} {V : Nat → Int32} {T : Nat → Nat → Int32} {P : Nat → Bool} {U : Nat → Int32} {H : Heap} {locs : List Loc} {ls : Array Slot} (hR : Rel k S O V T P U) (hP : va_P D vwCl (lW cI cZ cJ X Y o g S O V T P U) H) (hD : va_D A (lW cI cZ cJ X Y o g S O V T P U)) (hS : va_S A s.heap H locs) (hl : lv_has ls 7 [(0, .ref b), (1, .ref (X 0)), (2, .ref (Y 0)), (3, .ref o), (4, .int (nI (5 * k)))]) (next : ∀ (g : Nat → Int64) (S : Nat → Nat → Int32) (O : Nat → Bool) (V : Nat → Int32) (T : Nat → Nat → Int32) (P : Nat → Bool) (U : Nat → Int32) (H : Heap) (locs : List Loc) (ls : Array Slot), Rel (k + 1) S O V T P U → va_P D vwCl (lW cI cZ cJ X Y o g S O V T P U) H → va_D A (lW cI cZ cJ X Y o g S O V T P U) → va_S A s.heap H locs → lv_has ls 7 [(0, .ref b), (1, .ref (X 0)), (2, .ref (Y 0)), (3, .ref o), (4, .int (nI (5 * k)))] → W p l e room_1 s m #[Value.ref b] below meth c H locs (cells + 1) (slots + 6) Q (F0 m 1355 ls [])) : W p l e room_1 s m #[Value.ref b] below meth c H locs cells slots Q (F0 m 227 ls []) := by
  obtain ⟨hx, hb, hr, hml, hown, hts, hX, hbl, hlocks, hgv⟩ := C0
  have hts := fun w h => hts w (wsL_law_in w h)
  obtain ⟨n0, hn0, hct, hctm, hpe, hpem⟩ := Rel_n hR
  refine lv_aload_n hx hb dL_law_227 rfl (lv_at hl 1 rfl) ?_
  refine lv_aload_n hx hb dL_law_228 rfl (lv_at hl 0 rfl) ?_
  refine lv_iload hx hb dL_law_229 (lv_at hl 4 rfl) ?_
  refine lv_iconst (v := nI 1) hx hb dL_law_231 rfl ?_
  refine lv_iadd hx hb dL_law_232 ?_
  refine z_top (nI (5 * k + 1)) (nI_add _ _) ?_
  refine z_sld hx hb hX hbl hbA hS (by omega) hL dL_law_233 ?_
  refine lv_aload_n hx hb dL_law_234 rfl (lv_at hl 0 rfl) ?_
  refine lv_iload hx hb dL_law_235 (lv_at hl 4 rfl) ?_
  refine lv_iconst (v := nI 2) hx hb dL_law_237 rfl ?_
  refine lv_iadd hx hb dL_law_238 ?_
  refine z_top (nI (5 * k + 2)) (nI_add _ _) ?_
  refine z_sld hx hb hX hbl hbA hS (by omega) hL dL_law_239 ?_
  refine lv_aload_n hx hb dL_law_240 rfl (lv_at hl 0 rfl) ?_
  refine lv_iload hx hb dL_law_241 (lv_at hl 4 rfl) ?_
  refine lv_iconst (v := nI 3) hx hb dL_law_243 rfl ?_
  refine lv_iadd hx hb dL_law_244 ?_
  refine z_top (nI (5 * k + 3)) (nI_add _ _) ?_
  refine z_sld hx hb hX hbl hbA hS (by omega) hL dL_law_245 ?_
  refine z_sel_if_eq hx hb dL_law_246 dL_law_249 dL_law_250 dL_law_253 ?_
  refine lv_aload_n hx hb dL_law_254 rfl (lv_at hl 3 rfl) ?_
  refine z_lawCallL (vx_runSW (hh := [(0, 19, 22, 13), (0, 19, 26, 18)]) (As := [.ref (X 0), .int (xs (5 * k + 1)), .int (xs (5 * k + 2)), .int (bi (!decide (xs (5 * k + 3) = 0))), .ref o]) (rest := []) ⟨hx, hb, hml, hown, hts⟩ (kL_setGroup l hl0 D cI cZ cJ X S O V o g _ (xs (5 * k + 1)) (xs (5 * k + 2)) (!decide (xs (5 * k + 3) = 0))) (vx_cwSW 5 hts gL_law_L_setGroup rfl rfl rfl (by decide +kernel) ⟨Nat.le_of_ble_eq_true rfl, Nat.le_of_ble_eq_true rfl⟩) (z_lawPreL hK hP hD hS hA hZ hY) rfl rfl hl.1 rfl (lv_room (Nat.le_of_ble_eq_true rfl)) dL_law_255 ⟨hcs.1, hcs.2⟩) hP hD hS hA (fun H locs hP hD hS => ?_)
  refine lv_istore (lv' := [(5, .int (c_sgK S (xs (5 * k + 1)) (xs (5 * k + 2)) (!decide (xs (5 * k + 3) = 0)))), (0, .ref b), (1, .ref (X 0)), (2, .ref (Y 0)), (3, .ref o), (4, .int (nI (5 * k)))]) hx hb dL_law_258 hl (by decide) rfl (fun ls hl => ?_)
  refine lv_aload_n hx hb dL_law_260 rfl (lv_at hl 3 rfl) ?_
  refine lv_aload_n hx hb dL_law_261 rfl (lv_at hl 1 rfl) ?_
  refine lv_iload hx hb dL_law_262 (lv_at hl 5 rfl) ?_
  refine lv_iconst (v := nI 1) hx hb dL_law_264 rfl ?_
  refine lv_iadd hx hb dL_law_265 ?_
  refine z_top (nI (5 * k + 1)) (nI_add _ _) ?_
  refine z_sld hx hb hX hbl hbA hS (by omega) hL dL_law_266 ?_
  refine lv_aload_n hx hb dL_law_267 rfl (lv_at hl 1 rfl) ?_
  refine lv_iload hx hb dL_law_268 (lv_at hl 5 rfl) ?_
  refine lv_iconst (v := nI 2) hx hb dL_law_270 rfl ?_
  refine lv_iadd hx hb dL_law_271 ?_
  refine z_top (nI (5 * k + 2)) (nI_add _ _) ?_
  refine z_sld hx hb hX hbl hbA hS (by omega) hL dL_law_272 ?_
  refine lv_aload_n hx hb dL_law_273 rfl (lv_at hl 1 rfl) ?_
  refine lv_iload hx hb dL_law_274 (lv_at hl 5 rfl) ?_
  refine lv_iconst (v := nI 3) hx hb dL_law_276 rfl ?_
  refine lv_iadd hx hb dL_law_277 ?_
  refine z_top (nI (5 * k + 3)) (nI_add _ _) ?_
  refine z_sld hx hb hX hbl hbA hS (by omega) hL dL_law_278 ?_
  refine z_sel_if_eq hx hb dL_law_279 dL_law_282 dL_law_283 dL_law_286 ?_
  refine z_lawCallM (va_runV (As := [.int (xs (5 * k + 1)), .int (xs (5 * k + 2)), .int (bi (!decide (xs (5 * k + 3) = 0)))]) (rest := []) ⟨hx, hb, hml, hown, hts⟩ (kX5_setGroup l D cI cZ Y T P U _ (xs (5 * k + 1)) (xs (5 * k + 2)) (!decide (xs (5 * k + 3) = 0))) (cwV 3 hts gL_law_X5_setGroup rfl rfl rfl (by decide +kernel) ⟨Nat.le_of_ble_eq_true rfl, Nat.le_of_ble_eq_true rfl⟩) (z_lawPreM hK hP hD) rfl rfl hl.1 rfl (lv_room (Nat.le_of_ble_eq_true rfl)) dL_law_287 ⟨by show cells + 1 + 0 ≤ 1084; omega, by show slots + 6 + 0 ≤ 9656; omega⟩) hP hD hS hA (fun H locs hP hD hS => ?_)
  refine lv_istore (lv' := [(6, .int (bi (decide (m_sgK T (xs (5 * k + 1)) (xs (5 * k + 2)) (!decide (xs (5 * k + 3) = 0)) = 0) && hasB (T 2 (ix (xs (5 * k + 1)))) (xs (5 * k + 2))))), (5, .int (c_sgK S (xs (5 * k + 1)) (xs (5 * k + 2)) (!decide (xs (5 * k + 3) = 0)))), (0, .ref b), (1, .ref (X 0)), (2, .ref (Y 0)), (3, .ref o), (4, .int (nI (5 * k)))]) hx hb dL_law_290 hl (by decide) rfl (fun ls hl => ?_)
  obtain ⟨q1, q2, q3⟩ := q_setGroup hR (by omega) hn0 hct hctm hpe hpem (xs (5 * k + 1)) (xs (5 * k + 2)) (!decide (xs (5 * k + 3) = 0))
  refine lv_aload_n hx hb dL_law_292 rfl (lv_at hl 4 rfl) ?_
  refine z_callR (W.runV (As := []) (rest := []) ⟨hx, hb, hml, hown, hts⟩ (kX5_thrown l D cI cZ Y _ _ _) (cwV 0 hts gL_law_X5_thrown rfl rfl rfl (by decide +kernel) ⟨Nat.le_of_ble_eq_true rfl, Nat.le_of_ble_eq_true rfl⟩) (z_lawPreMR hK hP) rfl rfl hl.1 rfl (lv_room (Nat.le_of_ble_eq_true rfl)) dL_law_293 ⟨by show cells + 1 + 0 ≤ 1084; omega, by show slots + 6 + 0 ≤ 9656; omega⟩) ?_
  refine lv_iload hx hb dL_law_296 (lv_at hl 1 rfl) ?_
  refine z_icmpeq_t (tgt := 303) q1 hx hb dL_law_298 (by decide) ?_
  refine lv_iload hx hb dL_law_303 (lv_at hl 1 rfl) ?_
  refine lv_if_ne (tgt := 327) hx hb dL_law_305 (by decide) (fun cK => ?_) (fun cK => ?_)
  · refine lv_goto (tgt := 1355) hx hb dL_law_327 (by decide) ?_
    exact next _ _ _ _ _ _ _ _ _ ls q3 hP hD hS (lv_sub hl [2, 3, 4, 5, 6] rfl)
  · refine lv_aload_n hx hb dL_law_308 rfl (lv_at hl 5 rfl) ?_
    refine lv_iconst (v := nI 0) hx hb dL_law_309 rfl ?_
    refine z_lald (D := D) (j := 0) (f := (if c_sgK S (xs (5 * k + 1)) (xs (5 * k + 2)) (!decide (xs (5 * k + 3) = 0)) = 0 then vp_updL g 0 (if (hasB (S 8 (ix (xs (5 * k + 2)))) (nI (ix (xs (5 * k + 1))))) = true then 1 else 0) else g)) hx hb hK hP 0 2 rfl rfl (by decide) (by decide) dL_law_310 ?_
    have eg : (if c_sgK S (xs (5 * k + 1)) (xs (5 * k + 2)) (!decide (xs (5 * k + 3) = 0)) = 0 then vp_updL g 0 (if (hasB (S 8 (ix (xs (5 * k + 2)))) (nI (ix (xs (5 * k + 1))))) = true then 1 else 0) else g) 0 = (if (hasB (S 8 (ix (xs (5 * k + 2)))) (nI (ix (xs (5 * k + 1))))) = true then 1 else 0) := by rw [if_pos cK]; rfl
    refine lv_iload hx hb dL_law_311 (lv_at hl 0 rfl) ?_
    refine z_if_eq (tgt := 320) hx hb dL_law_313 (by decide) (fun cb => ?_) (fun cb => ?_)
    · refine lv_lconst (v := 0) hx hb dL_law_320 rfl ?_
      refine W.lcmp hx hb dL_law_321 ?_
      refine z_ifeq_t (tgt := 327) (z_cmp_eq (by rw [eg]; exact if_neg (by rw [q2 cK, cb]; decide))) hx hb dL_law_322 (by decide) ?_
      refine lv_goto (tgt := 1355) hx hb dL_law_327 (by decide) ?_
      exact next _ _ _ _ _ _ _ _ _ ls q3 hP hD hS (lv_sub hl [2, 3, 4, 5, 6] rfl)
    · refine lv_lconst (v := 1) hx hb dL_law_316 rfl ?_
      refine lv_goto (tgt := 321) hx hb dL_law_317 (by decide) ?_
      refine W.lcmp hx hb dL_law_321 ?_
      refine z_ifeq_t (tgt := 327) (z_cmp_eq (by rw [eg]; exact if_pos (by rw [q2 cK, cb]))) hx hb dL_law_322 (by decide) ?_
      refine lv_goto (tgt := 1355) hx hb dL_law_327 (by decide) ?_
      exact next _ _ _ _ _ _ _ _ _ ls q3 hP hD hS (lv_sub hl [2, 3, 4, 5, 6] rfl)

set_option maxHeartbeats 4000000 in
set_option maxRecDepth 100000 in
theorem law_setRole {p : Program} {l : Launch} {e : Env} {s : State} {m : MethodId} {below : List Frame} {meth : Method} {c : Code} {D : va_G} {cI cZ cJ : ClassId} {X Y : Nat → Nat} {o b L : Nat} {xs : Nat → Int32} {A : Nat → Prop} {Q : State → Prop} (hl0 : l.stackTraces = false) (hL : L ≤ 2560) (C0 : lw_At p s m meth c b L xs) (hK : va_K D vwCl (tyx cI cZ cJ) s) (hZ : zX A s) (hY : zY s) (hA : ∀ q : Nat, s.heap.size ≤ q → A q) (hbA : ¬ A b) {k : Nat} (hk : 5 * k + 5 ≤ L) {cells slots : Nat} (hcs : cells + 1 ≤ 1084 ∧ slots + 6 ≤ 9656) {g : Nat → Int64} {S : Nat → Nat → Int32} {O : Nat → Bool} {V : Nat → Int32} {T : Nat → Nat → Int32} {P : Nat → Bool} {U : Nat → Int32} {H : Heap} {locs : List Loc} {ls : Array Slot} (hR : Rel k S O V T P U) (hP : va_P D vwCl (lW cI cZ cJ X Y o g S O V T P U) H) (hD : va_D A (lW cI cZ cJ X Y o g S O V T P U)) (hS : va_S A s.heap H locs) (hl : lv_has ls 7 [(0, .ref b), (1, .ref (X 0)), (2, .ref (Y 0)), (3, .ref o), (4, .int (nI (5 * k)))]) (next : ∀ (g : Nat → Int64) (S : Nat → Nat → Int32) (O : Nat → Bool) (V : Nat → Int32) (T : Nat → Nat → Int32) (P : Nat → Bool) (U : Nat → Int32) (H : Heap) (locs : List Loc) (ls : Array Slot), Rel (k + 1) S O V T P U → va_P D vwCl (lW cI cZ cJ X Y o g S O V T P U) H → va_D A (lW cI cZ cJ X Y o g S O V T P U) → va_S A s.heap H locs → lv_has ls 7 [(0, .ref b), (1, .ref (X 0)), (2, .ref (Y 0)), (3, .ref o), (4, .int (nI (5 * k)))] → W p l e room_1 s m #[Value.ref b] below meth c H locs (cells + 1) (slots + 6) Q (F0 m 1355 ls [])) : W p l e room_1 s m #[Value.ref b] below meth c H locs cells slots Q (F0 m 330 ls []) := by
  obtain ⟨hx, hb, hr, hml, hown, hts, hX, hbl, hlocks, hgv⟩ := C0
  have hts := fun w h => hts w (wsL_law_in w h)
  obtain ⟨n0, hn0, hct, hctm, hpe, hpem⟩ := Rel_n hR
  refine lv_aload_n hx hb dL_law_330 rfl (lv_at hl 1 rfl) ?_
  refine lv_aload_n hx hb dL_law_331 rfl (lv_at hl 0 rfl) ?_
  refine lv_iload hx hb dL_law_332 (lv_at hl 4 rfl) ?_
  refine lv_iconst (v := nI 1) hx hb dL_law_334 rfl ?_
  refine lv_iadd hx hb dL_law_335 ?_
  refine z_top (nI (5 * k + 1)) (nI_add _ _) ?_
  refine z_sld hx hb hX hbl hbA hS (by omega) hL dL_law_336 ?_
  refine lv_aload_n hx hb dL_law_337 rfl (lv_at hl 0 rfl) ?_
  refine lv_iload hx hb dL_law_338 (lv_at hl 4 rfl) ?_
  refine lv_iconst (v := nI 2) hx hb dL_law_340 rfl ?_
  refine lv_iadd hx hb dL_law_341 ?_
  refine z_top (nI (5 * k + 2)) (nI_add _ _) ?_
  refine z_sld hx hb hX hbl hbA hS (by omega) hL dL_law_342 ?_
  refine lv_aload_n hx hb dL_law_343 rfl (lv_at hl 0 rfl) ?_
  refine lv_iload hx hb dL_law_344 (lv_at hl 4 rfl) ?_
  refine lv_iconst (v := nI 3) hx hb dL_law_346 rfl ?_
  refine lv_iadd hx hb dL_law_347 ?_
  refine z_top (nI (5 * k + 3)) (nI_add _ _) ?_
  refine z_sld hx hb hX hbl hbA hS (by omega) hL dL_law_348 ?_
  refine lv_aload_n hx hb dL_law_349 rfl (lv_at hl 3 rfl) ?_
  refine z_lawCallL (vx_runSW (hh := [(0, 12, 15, 13)]) (As := [.ref (X 0), .int (xs (5 * k + 1)), .int (xs (5 * k + 2)), .int (xs (5 * k + 3)), .ref o]) (rest := []) ⟨hx, hb, hml, hown, hts⟩ (kL_setRole l hl0 D cI cZ cJ X S O V o g _ (xs (5 * k + 1)) (xs (5 * k + 2)) (xs (5 * k + 3))) (vx_cwSW 5 hts gL_law_L_setRole rfl rfl rfl (by decide +kernel) ⟨Nat.le_of_ble_eq_true rfl, Nat.le_of_ble_eq_true rfl⟩) (z_lawPreL hK hP hD hS hA hZ hY) rfl rfl hl.1 rfl (lv_room (Nat.le_of_ble_eq_true rfl)) dL_law_350 ⟨hcs.1, hcs.2⟩) hP hD hS hA (fun H locs hP hD hS => ?_)
  refine lv_istore (lv' := [(5, .int (c_srK (xs (5 * k + 1)) (xs (5 * k + 2)) (xs (5 * k + 3)))), (0, .ref b), (1, .ref (X 0)), (2, .ref (Y 0)), (3, .ref o), (4, .int (nI (5 * k)))]) hx hb dL_law_353 hl (by decide) rfl (fun ls hl => ?_)
  refine lv_aload_n hx hb dL_law_355 rfl (lv_at hl 3 rfl) ?_
  refine lv_aload_n hx hb dL_law_356 rfl (lv_at hl 1 rfl) ?_
  refine lv_iload hx hb dL_law_357 (lv_at hl 5 rfl) ?_
  refine lv_iconst (v := nI 1) hx hb dL_law_359 rfl ?_
  refine lv_iadd hx hb dL_law_360 ?_
  refine z_top (nI (5 * k + 1)) (nI_add _ _) ?_
  refine z_sld hx hb hX hbl hbA hS (by omega) hL dL_law_361 ?_
  refine lv_aload_n hx hb dL_law_362 rfl (lv_at hl 1 rfl) ?_
  refine lv_iload hx hb dL_law_363 (lv_at hl 5 rfl) ?_
  refine lv_iconst (v := nI 2) hx hb dL_law_365 rfl ?_
  refine lv_iadd hx hb dL_law_366 ?_
  refine z_top (nI (5 * k + 2)) (nI_add _ _) ?_
  refine z_sld hx hb hX hbl hbA hS (by omega) hL dL_law_367 ?_
  refine lv_aload_n hx hb dL_law_368 rfl (lv_at hl 1 rfl) ?_
  refine lv_iload hx hb dL_law_369 (lv_at hl 5 rfl) ?_
  refine lv_iconst (v := nI 3) hx hb dL_law_371 rfl ?_
  refine lv_iadd hx hb dL_law_372 ?_
  refine z_top (nI (5 * k + 3)) (nI_add _ _) ?_
  refine z_sld hx hb hX hbl hbA hS (by omega) hL dL_law_373 ?_
  refine z_lawCallM (va_runV (As := [.int (xs (5 * k + 1)), .int (xs (5 * k + 2)), .int (xs (5 * k + 3))]) (rest := []) ⟨hx, hb, hml, hown, hts⟩ (kX5_setRole l D cI cZ Y T P U _ (xs (5 * k + 1)) (xs (5 * k + 2)) (xs (5 * k + 3))) (cwV 3 hts gL_law_X5_setRole rfl rfl rfl (by decide +kernel) ⟨Nat.le_of_ble_eq_true rfl, Nat.le_of_ble_eq_true rfl⟩) (z_lawPreM hK hP hD) rfl rfl hl.1 rfl (lv_room (Nat.le_of_ble_eq_true rfl)) dL_law_374 ⟨by show cells + 1 + 0 ≤ 1084; omega, by show slots + 6 + 0 ≤ 9656; omega⟩) hP hD hS hA (fun H locs hP hD hS => ?_)
  refine lv_istore (lv' := [(6, .int (if m_srOk (xs (5 * k + 1)) (xs (5 * k + 2)) (xs (5 * k + 3)) = true then T 3 (6 * ix (xs (5 * k + 1)) + ix (xs (5 * k + 2))) else 0)), (5, .int (c_srK (xs (5 * k + 1)) (xs (5 * k + 2)) (xs (5 * k + 3)))), (0, .ref b), (1, .ref (X 0)), (2, .ref (Y 0)), (3, .ref o), (4, .int (nI (5 * k)))]) hx hb dL_law_377 hl (by decide) rfl (fun ls hl => ?_)
  obtain ⟨q1, q2, q3⟩ := q_setRole hR (by omega) hn0 hct hctm hpe hpem (xs (5 * k + 1)) (xs (5 * k + 2)) (xs (5 * k + 3))
  refine lv_aload_n hx hb dL_law_379 rfl (lv_at hl 4 rfl) ?_
  refine z_callR (W.runV (As := []) (rest := []) ⟨hx, hb, hml, hown, hts⟩ (kX5_thrown l D cI cZ Y _ _ _) (cwV 0 hts gL_law_X5_thrown rfl rfl rfl (by decide +kernel) ⟨Nat.le_of_ble_eq_true rfl, Nat.le_of_ble_eq_true rfl⟩) (z_lawPreMR hK hP) rfl rfl hl.1 rfl (lv_room (Nat.le_of_ble_eq_true rfl)) dL_law_380 ⟨by show cells + 1 + 0 ≤ 1084; omega, by show slots + 6 + 0 ≤ 9656; omega⟩) ?_
  refine lv_iload hx hb dL_law_383 (lv_at hl 1 rfl) ?_
  refine z_icmpeq_t (tgt := 390) q1 hx hb dL_law_385 (by decide) ?_
  refine lv_iload hx hb dL_law_390 (lv_at hl 1 rfl) ?_
  refine lv_if_ne (tgt := 407) hx hb dL_law_392 (by decide) (fun cK => ?_) (fun cK => ?_)
  · refine lv_goto (tgt := 1355) hx hb dL_law_407 (by decide) ?_
    exact next _ _ _ _ _ _ _ _ _ ls q3 hP hD hS (lv_sub hl [2, 3, 4, 5, 6] rfl)
  · refine lv_aload_n hx hb dL_law_395 rfl (lv_at hl 5 rfl) ?_
    refine lv_iconst (v := nI 0) hx hb dL_law_396 rfl ?_
    refine z_lald (D := D) (j := 0) (f := (if c_srK (xs (5 * k + 1)) (xs (5 * k + 2)) (xs (5 * k + 3)) = 0 then vp_updL g 0 (c_roleOf S (ix (xs (5 * k + 1))) (ix (xs (5 * k + 2)))).toInt64 else g)) hx hb hK hP 0 2 rfl rfl (by decide) (by decide) dL_law_397 ?_
    have eg : (if c_srK (xs (5 * k + 1)) (xs (5 * k + 2)) (xs (5 * k + 3)) = 0 then vp_updL g 0 (c_roleOf S (ix (xs (5 * k + 1))) (ix (xs (5 * k + 2)))).toInt64 else g) 0 = (c_roleOf S (ix (xs (5 * k + 1))) (ix (xs (5 * k + 2)))).toInt64 := by rw [if_pos cK]; rfl
    refine lv_iload hx hb dL_law_398 (lv_at hl 0 rfl) ?_
    refine lv_i2l (v := (if m_srOk (xs (5 * k + 1)) (xs (5 * k + 2)) (xs (5 * k + 3)) = true then T 3 (6 * ix (xs (5 * k + 1)) + ix (xs (5 * k + 2))) else 0).toInt64) hx hb dL_law_400 rfl ?_
    refine W.lcmp hx hb dL_law_401 ?_
    refine z_ifeq_t (tgt := 407) (z_cmp_eq (by rw [eg]; rw [q2 cK])) hx hb dL_law_402 (by decide) ?_
    refine lv_goto (tgt := 1355) hx hb dL_law_407 (by decide) ?_
    exact next _ _ _ _ _ _ _ _ _ ls q3 hP hD hS (lv_sub hl [2, 3, 4, 5, 6] rfl)

set_option maxHeartbeats 4000000 in
set_option maxRecDepth 100000 in
theorem law_setRisk {p : Program} {l : Launch} {e : Env} {s : State} {m : MethodId} {below : List Frame} {meth : Method} {c : Code} {D : va_G} {cI cZ cJ : ClassId} {X Y : Nat → Nat} {o b L : Nat} {xs : Nat → Int32} {A : Nat → Prop} {Q : State → Prop} (hl0 : l.stackTraces = false) (hL : L ≤ 2560) (C0 : lw_At p s m meth c b L xs) (hK : va_K D vwCl (tyx cI cZ cJ) s) (hZ : zX A s) (hY : zY s) (hA : ∀ q : Nat, s.heap.size ≤ q → A q) (hbA : ¬ A b) {k : Nat} (hk : 5 * k + 5 ≤ L) {cells slots : Nat} (hcs : cells + 1 ≤ 1084 ∧ slots + 6 ≤ 9656) {g : Nat → Int64} {S : Nat → Nat → Int32} {O : Nat → Bool} {V : Nat → Int32} {T : Nat → Nat → Int32} {P : Nat → Bool} {U : Nat → Int32} {H : Heap} {locs : List Loc} {ls : Array Slot} (hR : Rel k S O V T P U) (hP : va_P D vwCl (lW cI cZ cJ X Y o g S O V T P U) H) (hD : va_D A (lW cI cZ cJ X Y o g S O V T P U)) (hS : va_S A s.heap H locs) (hl : lv_has ls 7 [(0, .ref b), (1, .ref (X 0)), (2, .ref (Y 0)), (3, .ref o), (4, .int (nI (5 * k)))]) (next : ∀ (g : Nat → Int64) (S : Nat → Nat → Int32) (O : Nat → Bool) (V : Nat → Int32) (T : Nat → Nat → Int32) (P : Nat → Bool) (U : Nat → Int32) (H : Heap) (locs : List Loc) (ls : Array Slot), Rel (k + 1) S O V T P U → va_P D vwCl (lW cI cZ cJ X Y o g S O V T P U) H → va_D A (lW cI cZ cJ X Y o g S O V T P U) → va_S A s.heap H locs → lv_has ls 7 [(0, .ref b), (1, .ref (X 0)), (2, .ref (Y 0)), (3, .ref o), (4, .int (nI (5 * k)))] → W p l e room_1 s m #[Value.ref b] below meth c H locs (cells + 1) (slots + 6) Q (F0 m 1355 ls [])) : W p l e room_1 s m #[Value.ref b] below meth c H locs cells slots Q (F0 m 410 ls []) := by
  obtain ⟨hx, hb, hr, hml, hown, hts, hX, hbl, hlocks, hgv⟩ := C0
  have hts := fun w h => hts w (wsL_law_in w h)
  obtain ⟨n0, hn0, hct, hctm, hpe, hpem⟩ := Rel_n hR
  refine lv_aload_n hx hb dL_law_410 rfl (lv_at hl 1 rfl) ?_
  refine lv_aload_n hx hb dL_law_411 rfl (lv_at hl 0 rfl) ?_
  refine lv_iload hx hb dL_law_412 (lv_at hl 4 rfl) ?_
  refine lv_iconst (v := nI 1) hx hb dL_law_414 rfl ?_
  refine lv_iadd hx hb dL_law_415 ?_
  refine z_top (nI (5 * k + 1)) (nI_add _ _) ?_
  refine z_sld hx hb hX hbl hbA hS (by omega) hL dL_law_416 ?_
  refine lv_aload_n hx hb dL_law_417 rfl (lv_at hl 0 rfl) ?_
  refine lv_iload hx hb dL_law_418 (lv_at hl 4 rfl) ?_
  refine lv_iconst (v := nI 2) hx hb dL_law_420 rfl ?_
  refine lv_iadd hx hb dL_law_421 ?_
  refine z_top (nI (5 * k + 2)) (nI_add _ _) ?_
  refine z_sld hx hb hX hbl hbA hS (by omega) hL dL_law_422 ?_
  refine lv_aload_n hx hb dL_law_423 rfl (lv_at hl 3 rfl) ?_
  refine z_lawCallL (vx_runSW (hh := [(0, 10, 13, 13)]) (As := [.ref (X 0), .int (xs (5 * k + 1)), .int (xs (5 * k + 2)), .ref o]) (rest := []) ⟨hx, hb, hml, hown, hts⟩ (kL_setRisk l hl0 D cI cZ cJ X S O V o g _ (xs (5 * k + 1)) (xs (5 * k + 2)) n0 hn0 hct) (vx_cwSW 4 hts gL_law_L_setRisk rfl rfl rfl (by decide +kernel) ⟨Nat.le_of_ble_eq_true rfl, Nat.le_of_ble_eq_true rfl⟩) (z_lawPreL hK hP hD hS hA hZ hY) rfl rfl hl.1 rfl (lv_room (Nat.le_of_ble_eq_true rfl)) dL_law_424 ⟨hcs.1, hcs.2⟩) hP hD hS hA (fun H locs hP hD hS => ?_)
  refine lv_istore (lv' := [(5, .int (c_riK (xs (5 * k + 1)) (xs (5 * k + 2)))), (0, .ref b), (1, .ref (X 0)), (2, .ref (Y 0)), (3, .ref o), (4, .int (nI (5 * k)))]) hx hb dL_law_427 hl (by decide) rfl (fun ls hl => ?_)
  refine lv_aload_n hx hb dL_law_429 rfl (lv_at hl 3 rfl) ?_
  refine lv_aload_n hx hb dL_law_430 rfl (lv_at hl 1 rfl) ?_
  refine lv_iload hx hb dL_law_431 (lv_at hl 5 rfl) ?_
  refine lv_iconst (v := nI 1) hx hb dL_law_433 rfl ?_
  refine lv_iadd hx hb dL_law_434 ?_
  refine z_top (nI (5 * k + 1)) (nI_add _ _) ?_
  refine z_sld hx hb hX hbl hbA hS (by omega) hL dL_law_435 ?_
  refine lv_aload_n hx hb dL_law_436 rfl (lv_at hl 1 rfl) ?_
  refine lv_iload hx hb dL_law_437 (lv_at hl 5 rfl) ?_
  refine lv_iconst (v := nI 2) hx hb dL_law_439 rfl ?_
  refine lv_iadd hx hb dL_law_440 ?_
  refine z_top (nI (5 * k + 2)) (nI_add _ _) ?_
  refine z_sld hx hb hX hbl hbA hS (by omega) hL dL_law_441 ?_
  refine z_lawCallM (va_runV (As := [.int (xs (5 * k + 1)), .int (xs (5 * k + 2))]) (rest := []) ⟨hx, hb, hml, hown, hts⟩ (kX5_setRisk l D cI cZ Y T P U _ (xs (5 * k + 1)) (xs (5 * k + 2)) n0 hn0 hctm) (cwV 2 hts gL_law_X5_setRisk rfl rfl rfl (by decide +kernel) ⟨Nat.le_of_ble_eq_true rfl, Nat.le_of_ble_eq_true rfl⟩) (z_lawPreM hK hP hD) rfl rfl hl.1 rfl (lv_room (Nat.le_of_ble_eq_true rfl)) dL_law_442 ⟨by show cells + 1 + 0 ≤ 1084; omega, by show slots + 6 + 0 ≤ 9656; omega⟩) hP hD hS hA (fun H locs hP hD hS => ?_)
  refine lv_istore (lv' := [(6, .int (if m_riOk (xs (5 * k + 1)) (xs (5 * k + 2)) = true then m_srN T P (xs (5 * k + 1)) (xs (5 * k + 2)) n0 else 0)), (5, .int (c_riK (xs (5 * k + 1)) (xs (5 * k + 2)))), (0, .ref b), (1, .ref (X 0)), (2, .ref (Y 0)), (3, .ref o), (4, .int (nI (5 * k)))]) hx hb dL_law_445 hl (by decide) rfl (fun ls hl => ?_)
  obtain ⟨q1, q2, q3⟩ := q_setRisk hR (by omega) hn0 hct hctm hpe hpem (xs (5 * k + 1)) (xs (5 * k + 2))
  refine lv_aload_n hx hb dL_law_447 rfl (lv_at hl 4 rfl) ?_
  refine z_callR (W.runV (As := []) (rest := []) ⟨hx, hb, hml, hown, hts⟩ (kX5_thrown l D cI cZ Y _ _ _) (cwV 0 hts gL_law_X5_thrown rfl rfl rfl (by decide +kernel) ⟨Nat.le_of_ble_eq_true rfl, Nat.le_of_ble_eq_true rfl⟩) (z_lawPreMR hK hP) rfl rfl hl.1 rfl (lv_room (Nat.le_of_ble_eq_true rfl)) dL_law_448 ⟨by show cells + 1 + 0 ≤ 1084; omega, by show slots + 6 + 0 ≤ 9656; omega⟩) ?_
  refine lv_iload hx hb dL_law_451 (lv_at hl 1 rfl) ?_
  refine z_icmpeq_t (tgt := 458) q1 hx hb dL_law_453 (by decide) ?_
  refine lv_iload hx hb dL_law_458 (lv_at hl 1 rfl) ?_
  refine lv_if_ne (tgt := 475) hx hb dL_law_460 (by decide) (fun cK => ?_) (fun cK => ?_)
  · refine lv_goto (tgt := 1355) hx hb dL_law_475 (by decide) ?_
    exact next _ _ _ _ _ _ _ _ _ ls q3 hP hD hS (lv_sub hl [2, 3, 4, 5, 6] rfl)
  · refine lv_aload_n hx hb dL_law_463 rfl (lv_at hl 5 rfl) ?_
    refine lv_iconst (v := nI 0) hx hb dL_law_464 rfl ?_
    refine z_lald (D := D) (j := 0) (f := (if c_riK (xs (5 * k + 1)) (xs (5 * k + 2)) = 0 then vp_updL g 0 (if (xs (5 * k + 2)) ≤ S 5 (ix (xs (5 * k + 1))) then 0 else c_eaN (c_riS S (xs (5 * k + 1)) (xs (5 * k + 2))) O (nI (ix (xs (5 * k + 1)))) n0).toInt64 else g)) hx hb hK hP 0 2 rfl rfl (by decide) (by decide) dL_law_465 ?_
    have eg : (if c_riK (xs (5 * k + 1)) (xs (5 * k + 2)) = 0 then vp_updL g 0 (if (xs (5 * k + 2)) ≤ S 5 (ix (xs (5 * k + 1))) then 0 else c_eaN (c_riS S (xs (5 * k + 1)) (xs (5 * k + 2))) O (nI (ix (xs (5 * k + 1)))) n0).toInt64 else g) 0 = (if (xs (5 * k + 2)) ≤ S 5 (ix (xs (5 * k + 1))) then 0 else c_eaN (c_riS S (xs (5 * k + 1)) (xs (5 * k + 2))) O (nI (ix (xs (5 * k + 1)))) n0).toInt64 := by rw [if_pos cK]; rfl
    refine lv_iload hx hb dL_law_466 (lv_at hl 0 rfl) ?_
    refine lv_i2l (v := (if m_riOk (xs (5 * k + 1)) (xs (5 * k + 2)) = true then m_srN T P (xs (5 * k + 1)) (xs (5 * k + 2)) n0 else 0).toInt64) hx hb dL_law_468 rfl ?_
    refine W.lcmp hx hb dL_law_469 ?_
    refine z_ifeq_t (tgt := 475) (z_cmp_eq (by rw [eg]; rw [q2 cK])) hx hb dL_law_470 (by decide) ?_
    refine lv_goto (tgt := 1355) hx hb dL_law_475 (by decide) ?_
    exact next _ _ _ _ _ _ _ _ _ ls q3 hP hD hS (lv_sub hl [2, 3, 4, 5, 6] rfl)

set_option maxHeartbeats 4000000 in
set_option maxRecDepth 100000 in
theorem law_isIn {p : Program} {l : Launch} {e : Env} {s : State} {m : MethodId} {below : List Frame} {meth : Method} {c : Code} {D : va_G} {cI cZ cJ : ClassId} {X Y : Nat → Nat} {o b L : Nat} {xs : Nat → Int32} {A : Nat → Prop} {Q : State → Prop} (hl0 : l.stackTraces = false) (hL : L ≤ 2560) (C0 : lw_At p s m meth c b L xs) (hK : va_K D vwCl (tyx cI cZ cJ) s) (hZ : zX A s) (hY : zY s) (hA : ∀ q : Nat, s.heap.size ≤ q → A q) (hbA : ¬ A b) {k : Nat} (hk : 5 * k + 5 ≤ L) {cells slots : Nat} (hcs : cells + 1 ≤ 1084 ∧ slots + 6 ≤ 9656) {g : Nat → Int64} {S : Nat → Nat → Int32} {O : Nat → Bool} {V : Nat → Int32} {T : Nat → Nat → Int32} {P : Nat → Bool} {U : Nat → Int32} {H : Heap} {locs : List Loc} {ls : Array Slot} (hR : Rel k S O V T P U) (hP : va_P D vwCl (lW cI cZ cJ X Y o g S O V T P U) H) (hD : va_D A (lW cI cZ cJ X Y o g S O V T P U)) (hS : va_S A s.heap H locs) (hl : lv_has ls 7 [(0, .ref b), (1, .ref (X 0)), (2, .ref (Y 0)), (3, .ref o), (4, .int (nI (5 * k)))]) (next : ∀ (g : Nat → Int64) (S : Nat → Nat → Int32) (O : Nat → Bool) (V : Nat → Int32) (T : Nat → Nat → Int32) (P : Nat → Bool) (U : Nat → Int32) (H : Heap) (locs : List Loc) (ls : Array Slot), Rel (k + 1) S O V T P U → va_P D vwCl (lW cI cZ cJ X Y o g S O V T P U) H → va_D A (lW cI cZ cJ X Y o g S O V T P U) → va_S A s.heap H locs → lv_has ls 7 [(0, .ref b), (1, .ref (X 0)), (2, .ref (Y 0)), (3, .ref o), (4, .int (nI (5 * k)))] → W p l e room_1 s m #[Value.ref b] below meth c H locs (cells + 1) (slots + 6) Q (F0 m 1355 ls [])) : W p l e room_1 s m #[Value.ref b] below meth c H locs cells slots Q (F0 m 478 ls []) := by
  obtain ⟨hx, hb, hr, hml, hown, hts, hX, hbl, hlocks, hgv⟩ := C0
  have hts := fun w h => hts w (wsL_law_in w h)
  obtain ⟨n0, hn0, hct, hctm, hpe, hpem⟩ := Rel_n hR
  refine lv_aload_n hx hb dL_law_478 rfl (lv_at hl 1 rfl) ?_
  refine lv_aload_n hx hb dL_law_479 rfl (lv_at hl 0 rfl) ?_
  refine lv_iload hx hb dL_law_480 (lv_at hl 4 rfl) ?_
  refine lv_iconst (v := nI 1) hx hb dL_law_482 rfl ?_
  refine lv_iadd hx hb dL_law_483 ?_
  refine z_top (nI (5 * k + 1)) (nI_add _ _) ?_
  refine z_sld hx hb hX hbl hbA hS (by omega) hL dL_law_484 ?_
  refine lv_aload_n hx hb dL_law_485 rfl (lv_at hl 0 rfl) ?_
  refine lv_iload hx hb dL_law_486 (lv_at hl 4 rfl) ?_
  refine lv_iconst (v := nI 2) hx hb dL_law_488 rfl ?_
  refine lv_iadd hx hb dL_law_489 ?_
  refine z_top (nI (5 * k + 2)) (nI_add _ _) ?_
  refine z_sld hx hb hX hbl hbA hS (by omega) hL dL_law_490 ?_
  refine lv_aload_n hx hb dL_law_491 rfl (lv_at hl 3 rfl) ?_
  refine z_lawCallL (vx_runSW (hh := [(0, 17, 20, 13)]) (As := [.ref (X 0), .int (xs (5 * k + 1)), .int (xs (5 * k + 2)), .ref o]) (rest := []) ⟨hx, hb, hml, hown, hts⟩ (kL_isIn l hl0 D cI cZ cJ X S O V o g _ (xs (5 * k + 1)) (xs (5 * k + 2))) (vx_cwSW 4 hts gL_law_L_isIn rfl rfl rfl (by decide +kernel) ⟨Nat.le_of_ble_eq_true rfl, Nat.le_of_ble_eq_true rfl⟩) (z_lawPreL hK hP hD hS hA hZ hY) rfl rfl hl.1 rfl (lv_room (Nat.le_of_ble_eq_true rfl)) dL_law_492 ⟨hcs.1, hcs.2⟩) hP hD hS hA (fun H locs hP hD hS => ?_)
  refine lv_istore (lv' := [(5, .int (c_spK (xs (5 * k + 1)) (xs (5 * k + 2)))), (0, .ref b), (1, .ref (X 0)), (2, .ref (Y 0)), (3, .ref o), (4, .int (nI (5 * k)))]) hx hb dL_law_495 hl (by decide) rfl (fun ls hl => ?_)
  refine lv_aload_n hx hb dL_law_497 rfl (lv_at hl 3 rfl) ?_
  refine lv_aload_n hx hb dL_law_498 rfl (lv_at hl 1 rfl) ?_
  refine lv_iload hx hb dL_law_499 (lv_at hl 5 rfl) ?_
  refine lv_iconst (v := nI 1) hx hb dL_law_501 rfl ?_
  refine lv_iadd hx hb dL_law_502 ?_
  refine z_top (nI (5 * k + 1)) (nI_add _ _) ?_
  refine z_sld hx hb hX hbl hbA hS (by omega) hL dL_law_503 ?_
  refine lv_aload_n hx hb dL_law_504 rfl (lv_at hl 1 rfl) ?_
  refine lv_iload hx hb dL_law_505 (lv_at hl 5 rfl) ?_
  refine lv_iconst (v := nI 2) hx hb dL_law_507 rfl ?_
  refine lv_iadd hx hb dL_law_508 ?_
  refine z_top (nI (5 * k + 2)) (nI_add _ _) ?_
  refine z_sld hx hb hX hbl hbA hS (by omega) hL dL_law_509 ?_
  refine z_lawCallM (va_runV (As := [.int (xs (5 * k + 1)), .int (xs (5 * k + 2))]) (rest := []) ⟨hx, hb, hml, hown, hts⟩ (kX5_isIn l D cI cZ Y T P U _ (xs (5 * k + 1)) (xs (5 * k + 2))) (cwV 2 hts gL_law_X5_isIn rfl rfl rfl (by decide +kernel) ⟨Nat.le_of_ble_eq_true rfl, Nat.le_of_ble_eq_true rfl⟩) (z_lawPreM hK hP hD) rfl rfl hl.1 rfl (lv_room (Nat.le_of_ble_eq_true rfl)) dL_law_510 ⟨by show cells + 1 + 0 ≤ 1084; omega, by show slots + 6 + 0 ≤ 9656; omega⟩) hP hD hS hA (fun H locs hP hD hS => ?_)
  refine lv_istore (lv' := [(6, .int (bi (m_spOk (xs (5 * k + 1)) (xs (5 * k + 2)) && m_be T (xs (5 * k + 1)) (xs (5 * k + 2)) 8))), (5, .int (c_spK (xs (5 * k + 1)) (xs (5 * k + 2)))), (0, .ref b), (1, .ref (X 0)), (2, .ref (Y 0)), (3, .ref o), (4, .int (nI (5 * k)))]) hx hb dL_law_513 hl (by decide) rfl (fun ls hl => ?_)
  obtain ⟨q1, q2, q3⟩ := q_isIn hR (by omega) hn0 hct hctm hpe hpem (xs (5 * k + 1)) (xs (5 * k + 2))
  refine lv_aload_n hx hb dL_law_515 rfl (lv_at hl 4 rfl) ?_
  refine z_callR (W.runV (As := []) (rest := []) ⟨hx, hb, hml, hown, hts⟩ (kX5_thrown l D cI cZ Y _ _ _) (cwV 0 hts gL_law_X5_thrown rfl rfl rfl (by decide +kernel) ⟨Nat.le_of_ble_eq_true rfl, Nat.le_of_ble_eq_true rfl⟩) (z_lawPreMR hK hP) rfl rfl hl.1 rfl (lv_room (Nat.le_of_ble_eq_true rfl)) dL_law_516 ⟨by show cells + 1 + 0 ≤ 1084; omega, by show slots + 6 + 0 ≤ 9656; omega⟩) ?_
  refine lv_iload hx hb dL_law_519 (lv_at hl 1 rfl) ?_
  refine z_icmpeq_t (tgt := 526) q1 hx hb dL_law_521 (by decide) ?_
  refine lv_iload hx hb dL_law_526 (lv_at hl 1 rfl) ?_
  refine lv_if_ne (tgt := 550) hx hb dL_law_528 (by decide) (fun cK => ?_) (fun cK => ?_)
  · refine lv_goto (tgt := 1355) hx hb dL_law_550 (by decide) ?_
    exact next _ _ _ _ _ _ _ _ _ ls q3 hP hD hS (lv_sub hl [2, 3, 4, 5, 6] rfl)
  · refine lv_aload_n hx hb dL_law_531 rfl (lv_at hl 5 rfl) ?_
    refine lv_iconst (v := nI 0) hx hb dL_law_532 rfl ?_
    refine z_lald (D := D) (j := 0) (f := (if c_spK (xs (5 * k + 1)) (xs (5 * k + 2)) = 0 then vp_updL g 0 (if (hasB (c_allA S (S 7 (ix (xs (5 * k + 2)))) 8) (nI (ix (xs (5 * k + 1))))) = true then 1 else 0) else g)) hx hb hK hP 0 2 rfl rfl (by decide) (by decide) dL_law_533 ?_
    have eg : (if c_spK (xs (5 * k + 1)) (xs (5 * k + 2)) = 0 then vp_updL g 0 (if (hasB (c_allA S (S 7 (ix (xs (5 * k + 2)))) 8) (nI (ix (xs (5 * k + 1))))) = true then 1 else 0) else g) 0 = (if (hasB (c_allA S (S 7 (ix (xs (5 * k + 2)))) 8) (nI (ix (xs (5 * k + 1))))) = true then 1 else 0) := by rw [if_pos cK]; rfl
    refine lv_iload hx hb dL_law_534 (lv_at hl 0 rfl) ?_
    refine z_if_eq (tgt := 543) hx hb dL_law_536 (by decide) (fun cb => ?_) (fun cb => ?_)
    · refine lv_lconst (v := 0) hx hb dL_law_543 rfl ?_
      refine W.lcmp hx hb dL_law_544 ?_
      refine z_ifeq_t (tgt := 550) (z_cmp_eq (by rw [eg]; exact if_neg (by rw [q2 cK, cb]; decide))) hx hb dL_law_545 (by decide) ?_
      refine lv_goto (tgt := 1355) hx hb dL_law_550 (by decide) ?_
      exact next _ _ _ _ _ _ _ _ _ ls q3 hP hD hS (lv_sub hl [2, 3, 4, 5, 6] rfl)
    · refine lv_lconst (v := 1) hx hb dL_law_539 rfl ?_
      refine lv_goto (tgt := 544) hx hb dL_law_540 (by decide) ?_
      refine W.lcmp hx hb dL_law_544 ?_
      refine z_ifeq_t (tgt := 550) (z_cmp_eq (by rw [eg]; exact if_pos (by rw [q2 cK, cb]))) hx hb dL_law_545 (by decide) ?_
      refine lv_goto (tgt := 1355) hx hb dL_law_550 (by decide) ?_
      exact next _ _ _ _ _ _ _ _ _ ls q3 hP hD hS (lv_sub hl [2, 3, 4, 5, 6] rfl)

set_option maxHeartbeats 4000000 in
set_option maxRecDepth 100000 in
theorem law_allows {p : Program} {l : Launch} {e : Env} {s : State} {m : MethodId} {below : List Frame} {meth : Method} {c : Code} {D : va_G} {cI cZ cJ : ClassId} {X Y : Nat → Nat} {o b L : Nat} {xs : Nat → Int32} {A : Nat → Prop} {Q : State → Prop} (hl0 : l.stackTraces = false) (hL : L ≤ 2560) (C0 : lw_At p s m meth c b L xs) (hK : va_K D vwCl (tyx cI cZ cJ) s) (hZ : zX A s) (hY : zY s) (hA : ∀ q : Nat, s.heap.size ≤ q → A q) (hbA : ¬ A b) {k : Nat} (hk : 5 * k + 5 ≤ L) {cells slots : Nat} (hcs : cells + 1 ≤ 1084 ∧ slots + 6 ≤ 9656) {g : Nat → Int64} {S : Nat → Nat → Int32} {O : Nat → Bool} {V : Nat → Int32} {T : Nat → Nat → Int32} {P : Nat → Bool} {U : Nat → Int32} {H : Heap} {locs : List Loc} {ls : Array Slot} (hR : Rel k S O V T P U) (hP : va_P D vwCl (lW cI cZ cJ X Y o g S O V T P U) H) (hD : va_D A (lW cI cZ cJ X Y o g S O V T P U)) (hS : va_S A s.heap H locs) (hl : lv_has ls 7 [(0, .ref b), (1, .ref (X 0)), (2, .ref (Y 0)), (3, .ref o), (4, .int (nI (5 * k)))]) (next : ∀ (g : Nat → Int64) (S : Nat → Nat → Int32) (O : Nat → Bool) (V : Nat → Int32) (T : Nat → Nat → Int32) (P : Nat → Bool) (U : Nat → Int32) (H : Heap) (locs : List Loc) (ls : Array Slot), Rel (k + 1) S O V T P U → va_P D vwCl (lW cI cZ cJ X Y o g S O V T P U) H → va_D A (lW cI cZ cJ X Y o g S O V T P U) → va_S A s.heap H locs → lv_has ls 7 [(0, .ref b), (1, .ref (X 0)), (2, .ref (Y 0)), (3, .ref o), (4, .int (nI (5 * k)))] → W p l e room_1 s m #[Value.ref b] below meth c H locs (cells + 1) (slots + 6) Q (F0 m 1355 ls [])) : W p l e room_1 s m #[Value.ref b] below meth c H locs cells slots Q (F0 m 553 ls []) := by
  obtain ⟨hx, hb, hr, hml, hown, hts, hX, hbl, hlocks, hgv⟩ := C0
  have hts := fun w h => hts w (wsL_law_in w h)
  obtain ⟨n0, hn0, hct, hctm, hpe, hpem⟩ := Rel_n hR
  refine lv_aload_n hx hb dL_law_553 rfl (lv_at hl 1 rfl) ?_
  refine lv_aload_n hx hb dL_law_554 rfl (lv_at hl 0 rfl) ?_
  refine lv_iload hx hb dL_law_555 (lv_at hl 4 rfl) ?_
  refine lv_iconst (v := nI 1) hx hb dL_law_557 rfl ?_
  refine lv_iadd hx hb dL_law_558 ?_
  refine z_top (nI (5 * k + 1)) (nI_add _ _) ?_
  refine z_sld hx hb hX hbl hbA hS (by omega) hL dL_law_559 ?_
  refine lv_aload_n hx hb dL_law_560 rfl (lv_at hl 0 rfl) ?_
  refine lv_iload hx hb dL_law_561 (lv_at hl 4 rfl) ?_
  refine lv_iconst (v := nI 2) hx hb dL_law_563 rfl ?_
  refine lv_iadd hx hb dL_law_564 ?_
  refine z_top (nI (5 * k + 2)) (nI_add _ _) ?_
  refine z_sld hx hb hX hbl hbA hS (by omega) hL dL_law_565 ?_
  refine lv_aload_n hx hb dL_law_566 rfl (lv_at hl 3 rfl) ?_
  refine z_lawCallL (vx_runSW (hh := [(0, 17, 20, 13)]) (As := [.ref (X 0), .int (xs (5 * k + 1)), .int (xs (5 * k + 2)), .ref o]) (rest := []) ⟨hx, hb, hml, hown, hts⟩ (kL_allows l hl0 D cI cZ cJ X S O V o g _ (xs (5 * k + 1)) (xs (5 * k + 2))) (vx_cwSW 4 hts gL_law_L_allows rfl rfl rfl (by decide +kernel) ⟨Nat.le_of_ble_eq_true rfl, Nat.le_of_ble_eq_true rfl⟩) (z_lawPreL hK hP hD hS hA hZ hY) rfl rfl hl.1 rfl (lv_room (Nat.le_of_ble_eq_true rfl)) dL_law_567 ⟨hcs.1, hcs.2⟩) hP hD hS hA (fun H locs hP hD hS => ?_)
  refine lv_istore (lv' := [(5, .int (c_alK (xs (5 * k + 1)) (xs (5 * k + 2)))), (0, .ref b), (1, .ref (X 0)), (2, .ref (Y 0)), (3, .ref o), (4, .int (nI (5 * k)))]) hx hb dL_law_570 hl (by decide) rfl (fun ls hl => ?_)
  refine lv_aload_n hx hb dL_law_572 rfl (lv_at hl 3 rfl) ?_
  refine lv_aload_n hx hb dL_law_573 rfl (lv_at hl 1 rfl) ?_
  refine lv_iload hx hb dL_law_574 (lv_at hl 5 rfl) ?_
  refine lv_iconst (v := nI 1) hx hb dL_law_576 rfl ?_
  refine lv_iadd hx hb dL_law_577 ?_
  refine z_top (nI (5 * k + 1)) (nI_add _ _) ?_
  refine z_sld hx hb hX hbl hbA hS (by omega) hL dL_law_578 ?_
  refine lv_aload_n hx hb dL_law_579 rfl (lv_at hl 1 rfl) ?_
  refine lv_iload hx hb dL_law_580 (lv_at hl 5 rfl) ?_
  refine lv_iconst (v := nI 2) hx hb dL_law_582 rfl ?_
  refine lv_iadd hx hb dL_law_583 ?_
  refine z_top (nI (5 * k + 2)) (nI_add _ _) ?_
  refine z_sld hx hb hX hbl hbA hS (by omega) hL dL_law_584 ?_
  refine z_lawCallM (va_runV (As := [.int (xs (5 * k + 1)), .int (xs (5 * k + 2))]) (rest := []) ⟨hx, hb, hml, hown, hts⟩ (kX5_allows l D cI cZ Y T P U _ (xs (5 * k + 1)) (xs (5 * k + 2))) (cwV 2 hts gL_law_X5_allows rfl rfl rfl (by decide +kernel) ⟨Nat.le_of_ble_eq_true rfl, Nat.le_of_ble_eq_true rfl⟩) (z_lawPreM hK hP hD) rfl rfl hl.1 rfl (lv_room (Nat.le_of_ble_eq_true rfl)) dL_law_585 ⟨by show cells + 1 + 0 ≤ 1084; omega, by show slots + 6 + 0 ≤ 9656; omega⟩) hP hD hS hA (fun H locs hP hD hS => ?_)
  refine lv_istore (lv' := [(6, .int (bi (m_in (xs (5 * k + 1)) 0 9 && (m_in (xs (5 * k + 2)) 0 5 && m_lets T U (ix (xs (5 * k + 1))) (ix (xs (5 * k + 2))))))), (5, .int (c_alK (xs (5 * k + 1)) (xs (5 * k + 2)))), (0, .ref b), (1, .ref (X 0)), (2, .ref (Y 0)), (3, .ref o), (4, .int (nI (5 * k)))]) hx hb dL_law_588 hl (by decide) rfl (fun ls hl => ?_)
  obtain ⟨q1, q2, q3⟩ := q_allows hR (by omega) hn0 hct hctm hpe hpem (xs (5 * k + 1)) (xs (5 * k + 2))
  refine lv_aload_n hx hb dL_law_590 rfl (lv_at hl 4 rfl) ?_
  refine z_callR (W.runV (As := []) (rest := []) ⟨hx, hb, hml, hown, hts⟩ (kX5_thrown l D cI cZ Y _ _ _) (cwV 0 hts gL_law_X5_thrown rfl rfl rfl (by decide +kernel) ⟨Nat.le_of_ble_eq_true rfl, Nat.le_of_ble_eq_true rfl⟩) (z_lawPreMR hK hP) rfl rfl hl.1 rfl (lv_room (Nat.le_of_ble_eq_true rfl)) dL_law_591 ⟨by show cells + 1 + 0 ≤ 1084; omega, by show slots + 6 + 0 ≤ 9656; omega⟩) ?_
  refine lv_iload hx hb dL_law_594 (lv_at hl 1 rfl) ?_
  refine z_icmpeq_t (tgt := 601) q1 hx hb dL_law_596 (by decide) ?_
  refine lv_iload hx hb dL_law_601 (lv_at hl 1 rfl) ?_
  refine lv_if_ne (tgt := 625) hx hb dL_law_603 (by decide) (fun cK => ?_) (fun cK => ?_)
  · refine lv_goto (tgt := 1355) hx hb dL_law_625 (by decide) ?_
    exact next _ _ _ _ _ _ _ _ _ ls q3 hP hD hS (lv_sub hl [2, 3, 4, 5, 6] rfl)
  · refine lv_aload_n hx hb dL_law_606 rfl (lv_at hl 5 rfl) ?_
    refine lv_iconst (v := nI 0) hx hb dL_law_607 rfl ?_
    refine z_lald (D := D) (j := 0) (f := (if c_alK (xs (5 * k + 1)) (xs (5 * k + 2)) = 0 then vp_updL g 0 (if (decide (c_house S V (ix (xs (5 * k + 1))) (ix (xs (5 * k + 2))) = 0)) = true then 1 else 0) else g)) hx hb hK hP 0 2 rfl rfl (by decide) (by decide) dL_law_608 ?_
    have eg : (if c_alK (xs (5 * k + 1)) (xs (5 * k + 2)) = 0 then vp_updL g 0 (if (decide (c_house S V (ix (xs (5 * k + 1))) (ix (xs (5 * k + 2))) = 0)) = true then 1 else 0) else g) 0 = (if (decide (c_house S V (ix (xs (5 * k + 1))) (ix (xs (5 * k + 2))) = 0)) = true then 1 else 0) := by rw [if_pos cK]; rfl
    refine lv_iload hx hb dL_law_609 (lv_at hl 0 rfl) ?_
    refine z_if_eq (tgt := 618) hx hb dL_law_611 (by decide) (fun cb => ?_) (fun cb => ?_)
    · refine lv_lconst (v := 0) hx hb dL_law_618 rfl ?_
      refine W.lcmp hx hb dL_law_619 ?_
      refine z_ifeq_t (tgt := 625) (z_cmp_eq (by rw [eg]; exact if_neg (by rw [q2 cK, cb]; decide))) hx hb dL_law_620 (by decide) ?_
      refine lv_goto (tgt := 1355) hx hb dL_law_625 (by decide) ?_
      exact next _ _ _ _ _ _ _ _ _ ls q3 hP hD hS (lv_sub hl [2, 3, 4, 5, 6] rfl)
    · refine lv_lconst (v := 1) hx hb dL_law_614 rfl ?_
      refine lv_goto (tgt := 619) hx hb dL_law_615 (by decide) ?_
      refine W.lcmp hx hb dL_law_619 ?_
      refine z_ifeq_t (tgt := 625) (z_cmp_eq (by rw [eg]; exact if_pos (by rw [q2 cK, cb]))) hx hb dL_law_620 (by decide) ?_
      refine lv_goto (tgt := 1355) hx hb dL_law_625 (by decide) ?_
      exact next _ _ _ _ _ _ _ _ _ ls q3 hP hD hS (lv_sub hl [2, 3, 4, 5, 6] rfl)

set_option maxHeartbeats 4000000 in
set_option maxRecDepth 100000 in
theorem law_open {p : Program} {l : Launch} {e : Env} {s : State} {m : MethodId} {below : List Frame} {meth : Method} {c : Code} {D : va_G} {cI cZ cJ : ClassId} {X Y : Nat → Nat} {o b L : Nat} {xs : Nat → Int32} {A : Nat → Prop} {Q : State → Prop} (hl0 : l.stackTraces = false) (hL : L ≤ 2560) (C0 : lw_At p s m meth c b L xs) (hK : va_K D vwCl (tyx cI cZ cJ) s) (hZ : zX A s) (hY : zY s) (hA : ∀ q : Nat, s.heap.size ≤ q → A q) (hbA : ¬ A b) {k : Nat} (hk : 5 * k + 5 ≤ L) {cells slots : Nat} (hcs : cells + 1 ≤ 1084 ∧ slots + 6 ≤ 9656) {g : Nat → Int64} {S : Nat → Nat → Int32} {O : Nat → Bool} {V : Nat → Int32} {T : Nat → Nat → Int32} {P : Nat → Bool} {U : Nat → Int32} {H : Heap} {locs : List Loc} {ls : Array Slot} (hR : Rel k S O V T P U) (hP : va_P D vwCl (lW cI cZ cJ X Y o g S O V T P U) H) (hD : va_D A (lW cI cZ cJ X Y o g S O V T P U)) (hS : va_S A s.heap H locs) (hl : lv_has ls 7 [(0, .ref b), (1, .ref (X 0)), (2, .ref (Y 0)), (3, .ref o), (4, .int (nI (5 * k)))]) (next : ∀ (g : Nat → Int64) (S : Nat → Nat → Int32) (O : Nat → Bool) (V : Nat → Int32) (T : Nat → Nat → Int32) (P : Nat → Bool) (U : Nat → Int32) (H : Heap) (locs : List Loc) (ls : Array Slot), Rel (k + 1) S O V T P U → va_P D vwCl (lW cI cZ cJ X Y o g S O V T P U) H → va_D A (lW cI cZ cJ X Y o g S O V T P U) → va_S A s.heap H locs → lv_has ls 7 [(0, .ref b), (1, .ref (X 0)), (2, .ref (Y 0)), (3, .ref o), (4, .int (nI (5 * k)))] → W p l e room_1 s m #[Value.ref b] below meth c H locs (cells + 1) (slots + 6) Q (F0 m 1355 ls [])) : W p l e room_1 s m #[Value.ref b] below meth c H locs cells slots Q (F0 m 628 ls []) := by
  obtain ⟨hx, hb, hr, hml, hown, hts, hX, hbl, hlocks, hgv⟩ := C0
  have hts := fun w h => hts w (wsL_law_in w h)
  obtain ⟨n0, hn0, hct, hctm, hpe, hpem⟩ := Rel_n hR
  refine lv_aload_n hx hb dL_law_628 rfl (lv_at hl 1 rfl) ?_
  refine lv_aload_n hx hb dL_law_629 rfl (lv_at hl 0 rfl) ?_
  refine lv_iload hx hb dL_law_630 (lv_at hl 4 rfl) ?_
  refine lv_iconst (v := nI 1) hx hb dL_law_632 rfl ?_
  refine lv_iadd hx hb dL_law_633 ?_
  refine z_top (nI (5 * k + 1)) (nI_add _ _) ?_
  refine z_sld hx hb hX hbl hbA hS (by omega) hL dL_law_634 ?_
  refine lv_aload_n hx hb dL_law_635 rfl (lv_at hl 3 rfl) ?_
  refine z_lawCallL (vx_runSW (hh := [(0, 9, 12, 13), (0, 9, 15, 18)]) (As := [.ref (X 0), .int (xs (5 * k + 1)), .ref o]) (rest := []) ⟨hx, hb, hml, hown, hts⟩ (kL_open l hl0 D cI cZ cJ X S O V o g _ (xs (5 * k + 1)) n0 hn0 hct) (vx_cwSW 3 hts gL_law_L_open rfl rfl rfl (by decide +kernel) ⟨Nat.le_of_ble_eq_true rfl, Nat.le_of_ble_eq_true rfl⟩) (z_lawPreL hK hP hD hS hA hZ hY) rfl rfl hl.1 rfl (lv_room (Nat.le_of_ble_eq_true rfl)) dL_law_636 ⟨hcs.1, hcs.2⟩) hP hD hS hA (fun H locs hP hD hS => ?_)
  refine lv_istore (lv' := [(5, .int (c_opK S V (xs (5 * k + 1)))), (0, .ref b), (1, .ref (X 0)), (2, .ref (Y 0)), (3, .ref o), (4, .int (nI (5 * k)))]) hx hb dL_law_639 hl (by decide) rfl (fun ls hl => ?_)
  refine lv_aload_n hx hb dL_law_641 rfl (lv_at hl 3 rfl) ?_
  refine lv_aload_n hx hb dL_law_642 rfl (lv_at hl 1 rfl) ?_
  refine lv_iload hx hb dL_law_643 (lv_at hl 5 rfl) ?_
  refine lv_iconst (v := nI 1) hx hb dL_law_645 rfl ?_
  refine lv_iadd hx hb dL_law_646 ?_
  refine z_top (nI (5 * k + 1)) (nI_add _ _) ?_
  refine z_sld hx hb hX hbl hbA hS (by omega) hL dL_law_647 ?_
  refine z_lawCallM (va_runV (As := [.int (xs (5 * k + 1))]) (rest := []) ⟨hx, hb, hml, hown, hts⟩ (kX5_open l D cI cZ Y T P U _ (xs (5 * k + 1)) n0 hn0 hctm) (cwV 1 hts gL_law_X5_open rfl rfl rfl (by decide +kernel) ⟨Nat.le_of_ble_eq_true rfl, Nat.le_of_ble_eq_true rfl⟩) (z_lawPreM hK hP hD) rfl rfl hl.1 rfl (lv_room (Nat.le_of_ble_eq_true rfl)) dL_law_648 ⟨by show cells + 1 + 0 ≤ 1084; omega, by show slots + 6 + 0 ≤ 9656; omega⟩) hP hD hS hA (fun H locs hP hD hS => ?_)
  refine lv_istore (lv' := [(6, .int (if m_opK T U (xs (5 * k + 1)) = 0 then U 2 + 1 - 1 else 0)), (5, .int (c_opK S V (xs (5 * k + 1)))), (0, .ref b), (1, .ref (X 0)), (2, .ref (Y 0)), (3, .ref o), (4, .int (nI (5 * k)))]) hx hb dL_law_651 hl (by decide) rfl (fun ls hl => ?_)
  obtain ⟨q1, q2, q3⟩ := q_open hR (by omega) hn0 hct hctm hpe hpem (xs (5 * k + 1))
  refine lv_aload_n hx hb dL_law_653 rfl (lv_at hl 4 rfl) ?_
  refine z_callR (W.runV (As := []) (rest := []) ⟨hx, hb, hml, hown, hts⟩ (kX5_thrown l D cI cZ Y _ _ _) (cwV 0 hts gL_law_X5_thrown rfl rfl rfl (by decide +kernel) ⟨Nat.le_of_ble_eq_true rfl, Nat.le_of_ble_eq_true rfl⟩) (z_lawPreMR hK hP) rfl rfl hl.1 rfl (lv_room (Nat.le_of_ble_eq_true rfl)) dL_law_654 ⟨by show cells + 1 + 0 ≤ 1084; omega, by show slots + 6 + 0 ≤ 9656; omega⟩) ?_
  refine lv_iload hx hb dL_law_657 (lv_at hl 1 rfl) ?_
  refine z_icmpeq_t (tgt := 664) q1 hx hb dL_law_659 (by decide) ?_
  refine lv_iload hx hb dL_law_664 (lv_at hl 1 rfl) ?_
  refine lv_if_ne (tgt := 681) hx hb dL_law_666 (by decide) (fun cK => ?_) (fun cK => ?_)
  · refine lv_goto (tgt := 1355) hx hb dL_law_681 (by decide) ?_
    exact next _ _ _ _ _ _ _ _ _ ls q3 hP hD hS (lv_sub hl [2, 3, 4, 5, 6] rfl)
  · refine lv_aload_n hx hb dL_law_669 rfl (lv_at hl 5 rfl) ?_
    refine lv_iconst (v := nI 0) hx hb dL_law_670 rfl ?_
    refine z_lald (D := D) (j := 0) (f := (if c_opK S V (xs (5 * k + 1)) = 0 then vp_updL g 0 (nI n0).toInt64 else g)) hx hb hK hP 0 2 rfl rfl (by decide) (by decide) dL_law_671 ?_
    have eg : (if c_opK S V (xs (5 * k + 1)) = 0 then vp_updL g 0 (nI n0).toInt64 else g) 0 = (nI n0).toInt64 := by rw [if_pos cK]; rfl
    refine lv_iload hx hb dL_law_672 (lv_at hl 0 rfl) ?_
    refine lv_i2l (v := (if m_opK T U (xs (5 * k + 1)) = 0 then U 2 + 1 - 1 else 0).toInt64) hx hb dL_law_674 rfl ?_
    refine W.lcmp hx hb dL_law_675 ?_
    refine z_ifeq_t (tgt := 681) (z_cmp_eq (by rw [eg]; rw [q2 cK])) hx hb dL_law_676 (by decide) ?_
    refine lv_goto (tgt := 1355) hx hb dL_law_681 (by decide) ?_
    exact next _ _ _ _ _ _ _ _ _ ls q3 hP hD hS (lv_sub hl [2, 3, 4, 5, 6] rfl)

set_option maxHeartbeats 4000000 in
set_option maxRecDepth 100000 in
theorem law_close {p : Program} {l : Launch} {e : Env} {s : State} {m : MethodId} {below : List Frame} {meth : Method} {c : Code} {D : va_G} {cI cZ cJ : ClassId} {X Y : Nat → Nat} {o b L : Nat} {xs : Nat → Int32} {A : Nat → Prop} {Q : State → Prop} (hl0 : l.stackTraces = false) (hL : L ≤ 2560) (C0 : lw_At p s m meth c b L xs) (hK : va_K D vwCl (tyx cI cZ cJ) s) (hZ : zX A s) (hY : zY s) (hA : ∀ q : Nat, s.heap.size ≤ q → A q) (hbA : ¬ A b) {k : Nat} (hk : 5 * k + 5 ≤ L) {cells slots : Nat} (hcs : cells + 1 ≤ 1084 ∧ slots + 6 ≤ 9656) {g : Nat → Int64} {S : Nat → Nat → Int32} {O : Nat → Bool} {V : Nat → Int32} {T : Nat → Nat → Int32} {P : Nat → Bool} {U : Nat → Int32} {H : Heap} {locs : List Loc} {ls : Array Slot} (hR : Rel k S O V T P U) (hP : va_P D vwCl (lW cI cZ cJ X Y o g S O V T P U) H) (hD : va_D A (lW cI cZ cJ X Y o g S O V T P U)) (hS : va_S A s.heap H locs) (hl : lv_has ls 7 [(0, .ref b), (1, .ref (X 0)), (2, .ref (Y 0)), (3, .ref o), (4, .int (nI (5 * k)))]) (next : ∀ (g : Nat → Int64) (S : Nat → Nat → Int32) (O : Nat → Bool) (V : Nat → Int32) (T : Nat → Nat → Int32) (P : Nat → Bool) (U : Nat → Int32) (H : Heap) (locs : List Loc) (ls : Array Slot), Rel (k + 1) S O V T P U → va_P D vwCl (lW cI cZ cJ X Y o g S O V T P U) H → va_D A (lW cI cZ cJ X Y o g S O V T P U) → va_S A s.heap H locs → lv_has ls 7 [(0, .ref b), (1, .ref (X 0)), (2, .ref (Y 0)), (3, .ref o), (4, .int (nI (5 * k)))] → W p l e room_1 s m #[Value.ref b] below meth c H locs (cells + 1) (slots + 6) Q (F0 m 1355 ls [])) : W p l e room_1 s m #[Value.ref b] below meth c H locs cells slots Q (F0 m 684 ls []) := by
  obtain ⟨hx, hb, hr, hml, hown, hts, hX, hbl, hlocks, hgv⟩ := C0
  have hts := fun w h => hts w (wsL_law_in w h)
  obtain ⟨n0, hn0, hct, hctm, hpe, hpem⟩ := Rel_n hR
  refine lv_aload_n hx hb dL_law_684 rfl (lv_at hl 1 rfl) ?_
  refine lv_aload_n hx hb dL_law_685 rfl (lv_at hl 0 rfl) ?_
  refine lv_iload hx hb dL_law_686 (lv_at hl 4 rfl) ?_
  refine lv_iconst (v := nI 1) hx hb dL_law_688 rfl ?_
  refine lv_iadd hx hb dL_law_689 ?_
  refine z_top (nI (5 * k + 1)) (nI_add _ _) ?_
  refine z_sld hx hb hX hbl hbA hS (by omega) hL dL_law_690 ?_
  refine lv_aload_n hx hb dL_law_691 rfl (lv_at hl 3 rfl) ?_
  refine z_lawCallL (vx_runSW (hh := [(0, 9, 12, 42), (0, 9, 15, 18)]) (As := [.ref (X 0), .int (xs (5 * k + 1)), .ref o]) (rest := []) ⟨hx, hb, hml, hown, hts⟩ (kL_close l hl0 D cI cZ cJ X S O V o g _ (xs (5 * k + 1)) n0 hn0 hct) (vx_cwSW 3 hts gL_law_L_close rfl rfl rfl (by decide +kernel) ⟨Nat.le_of_ble_eq_true rfl, Nat.le_of_ble_eq_true rfl⟩) (z_lawPreL hK hP hD hS hA hZ hY) rfl rfl hl.1 rfl (lv_room (Nat.le_of_ble_eq_true rfl)) dL_law_692 ⟨hcs.1, hcs.2⟩) hP hD hS hA (fun H locs hP hD hS => ?_)
  refine lv_istore (lv' := [(5, .int (c_clK O V (xs (5 * k + 1)))), (0, .ref b), (1, .ref (X 0)), (2, .ref (Y 0)), (3, .ref o), (4, .int (nI (5 * k)))]) hx hb dL_law_695 hl (by decide) rfl (fun ls hl => ?_)
  refine lv_aload_n hx hb dL_law_697 rfl (lv_at hl 3 rfl) ?_
  refine lv_aload_n hx hb dL_law_698 rfl (lv_at hl 1 rfl) ?_
  refine lv_iload hx hb dL_law_699 (lv_at hl 5 rfl) ?_
  refine lv_iconst (v := nI 1) hx hb dL_law_701 rfl ?_
  refine lv_iadd hx hb dL_law_702 ?_
  refine z_top (nI (5 * k + 1)) (nI_add _ _) ?_
  refine z_sld hx hb hX hbl hbA hS (by omega) hL dL_law_703 ?_
  refine z_lawCallM (va_runV (As := [.int (xs (5 * k + 1))]) (rest := []) ⟨hx, hb, hml, hown, hts⟩ (kX5_close l D cI cZ Y T P U _ (xs (5 * k + 1)) n0 hn0 hctm) (cwV 1 hts gL_law_X5_close rfl rfl rfl (by decide +kernel) ⟨Nat.le_of_ble_eq_true rfl, Nat.le_of_ble_eq_true rfl⟩) (z_lawPreM hK hP hD) rfl rfl hl.1 rfl (lv_room (Nat.le_of_ble_eq_true rfl)) dL_law_704 ⟨by show cells + 1 + 0 ≤ 1084; omega, by show slots + 6 + 0 ≤ 9656; omega⟩) hP hD hS hA (fun H locs hP hD hS => ?_)
  refine lv_istore (lv' := [(6, .int (if m_clK P U (xs (5 * k + 1)) = 0 then U 1 - T 8 (ix (xs (5 * k + 1))) else 0)), (5, .int (c_clK O V (xs (5 * k + 1)))), (0, .ref b), (1, .ref (X 0)), (2, .ref (Y 0)), (3, .ref o), (4, .int (nI (5 * k)))]) hx hb dL_law_707 hl (by decide) rfl (fun ls hl => ?_)
  obtain ⟨q1, q2, q3⟩ := q_close hR (by omega) hn0 hct hctm hpe hpem (xs (5 * k + 1))
  refine lv_aload_n hx hb dL_law_709 rfl (lv_at hl 4 rfl) ?_
  refine z_callR (W.runV (As := []) (rest := []) ⟨hx, hb, hml, hown, hts⟩ (kX5_thrown l D cI cZ Y _ _ _) (cwV 0 hts gL_law_X5_thrown rfl rfl rfl (by decide +kernel) ⟨Nat.le_of_ble_eq_true rfl, Nat.le_of_ble_eq_true rfl⟩) (z_lawPreMR hK hP) rfl rfl hl.1 rfl (lv_room (Nat.le_of_ble_eq_true rfl)) dL_law_710 ⟨by show cells + 1 + 0 ≤ 1084; omega, by show slots + 6 + 0 ≤ 9656; omega⟩) ?_
  refine lv_iload hx hb dL_law_713 (lv_at hl 1 rfl) ?_
  refine z_icmpeq_t (tgt := 720) q1 hx hb dL_law_715 (by decide) ?_
  refine lv_iload hx hb dL_law_720 (lv_at hl 1 rfl) ?_
  refine lv_if_ne (tgt := 737) hx hb dL_law_722 (by decide) (fun cK => ?_) (fun cK => ?_)
  · refine lv_goto (tgt := 1355) hx hb dL_law_737 (by decide) ?_
    exact next _ _ _ _ _ _ _ _ _ ls q3 hP hD hS (lv_sub hl [2, 3, 4, 5, 6] rfl)
  · refine lv_aload_n hx hb dL_law_725 rfl (lv_at hl 5 rfl) ?_
    refine lv_iconst (v := nI 0) hx hb dL_law_726 rfl ?_
    refine z_lald (D := D) (j := 0) (f := (if c_clK O V (xs (5 * k + 1)) = 0 then vp_updL g 0 (V 0 - S 13 (ix (xs (5 * k + 1)))).toInt64 else g)) hx hb hK hP 0 2 rfl rfl (by decide) (by decide) dL_law_727 ?_
    have eg : (if c_clK O V (xs (5 * k + 1)) = 0 then vp_updL g 0 (V 0 - S 13 (ix (xs (5 * k + 1)))).toInt64 else g) 0 = (V 0 - S 13 (ix (xs (5 * k + 1)))).toInt64 := by rw [if_pos cK]; rfl
    refine lv_iload hx hb dL_law_728 (lv_at hl 0 rfl) ?_
    refine lv_i2l (v := (if m_clK P U (xs (5 * k + 1)) = 0 then U 1 - T 8 (ix (xs (5 * k + 1))) else 0).toInt64) hx hb dL_law_730 rfl ?_
    refine W.lcmp hx hb dL_law_731 ?_
    refine z_ifeq_t (tgt := 737) (z_cmp_eq (by rw [eg]; rw [q2 cK])) hx hb dL_law_732 (by decide) ?_
    refine lv_goto (tgt := 1355) hx hb dL_law_737 (by decide) ?_
    exact next _ _ _ _ _ _ _ _ _ ls q3 hP hD hS (lv_sub hl [2, 3, 4, 5, 6] rfl)

set_option maxHeartbeats 4000000 in
set_option maxRecDepth 100000 in
theorem law_goesOn {p : Program} {l : Launch} {e : Env} {s : State} {m : MethodId} {below : List Frame} {meth : Method} {c : Code} {D : va_G} {cI cZ cJ : ClassId} {X Y : Nat → Nat} {o b L : Nat} {xs : Nat → Int32} {A : Nat → Prop} {Q : State → Prop} (hl0 : l.stackTraces = false) (hL : L ≤ 2560) (C0 : lw_At p s m meth c b L xs) (hK : va_K D vwCl (tyx cI cZ cJ) s) (hZ : zX A s) (hY : zY s) (hA : ∀ q : Nat, s.heap.size ≤ q → A q) (hbA : ¬ A b) {k : Nat} (hk : 5 * k + 5 ≤ L) {cells slots : Nat} (hcs : cells + 1 ≤ 1084 ∧ slots + 6 ≤ 9656) {g : Nat → Int64} {S : Nat → Nat → Int32} {O : Nat → Bool} {V : Nat → Int32} {T : Nat → Nat → Int32} {P : Nat → Bool} {U : Nat → Int32} {H : Heap} {locs : List Loc} {ls : Array Slot} (hR : Rel k S O V T P U) (hP : va_P D vwCl (lW cI cZ cJ X Y o g S O V T P U) H) (hD : va_D A (lW cI cZ cJ X Y o g S O V T P U)) (hS : va_S A s.heap H locs) (hl : lv_has ls 7 [(0, .ref b), (1, .ref (X 0)), (2, .ref (Y 0)), (3, .ref o), (4, .int (nI (5 * k)))]) (next : ∀ (g : Nat → Int64) (S : Nat → Nat → Int32) (O : Nat → Bool) (V : Nat → Int32) (T : Nat → Nat → Int32) (P : Nat → Bool) (U : Nat → Int32) (H : Heap) (locs : List Loc) (ls : Array Slot), Rel (k + 1) S O V T P U → va_P D vwCl (lW cI cZ cJ X Y o g S O V T P U) H → va_D A (lW cI cZ cJ X Y o g S O V T P U) → va_S A s.heap H locs → lv_has ls 7 [(0, .ref b), (1, .ref (X 0)), (2, .ref (Y 0)), (3, .ref o), (4, .int (nI (5 * k)))] → W p l e room_1 s m #[Value.ref b] below meth c H locs (cells + 1) (slots + 6) Q (F0 m 1355 ls [])) : W p l e room_1 s m #[Value.ref b] below meth c H locs cells slots Q (F0 m 740 ls []) := by
  obtain ⟨hx, hb, hr, hml, hown, hts, hX, hbl, hlocks, hgv⟩ := C0
  have hts := fun w h => hts w (wsL_law_in w h)
  obtain ⟨n0, hn0, hct, hctm, hpe, hpem⟩ := Rel_n hR
  refine lv_aload_n hx hb dL_law_740 rfl (lv_at hl 1 rfl) ?_
  refine lv_aload_n hx hb dL_law_741 rfl (lv_at hl 0 rfl) ?_
  refine lv_iload hx hb dL_law_742 (lv_at hl 4 rfl) ?_
  refine lv_iconst (v := nI 1) hx hb dL_law_744 rfl ?_
  refine lv_iadd hx hb dL_law_745 ?_
  refine z_top (nI (5 * k + 1)) (nI_add _ _) ?_
  refine z_sld hx hb hX hbl hbA hS (by omega) hL dL_law_746 ?_
  refine lv_aload_n hx hb dL_law_747 rfl (lv_at hl 3 rfl) ?_
  refine z_lawCallL (vx_runSW (hh := [(0, 16, 19, 42)]) (As := [.ref (X 0), .int (xs (5 * k + 1)), .ref o]) (rest := []) ⟨hx, hb, hml, hown, hts⟩ (kL_goesOn l hl0 D cI cZ cJ X S O V o g _ (xs (5 * k + 1)) n0 hn0 hct) (vx_cwSW 3 hts gL_law_L_goesOn rfl rfl rfl (by decide +kernel) ⟨Nat.le_of_ble_eq_true rfl, Nat.le_of_ble_eq_true rfl⟩) (z_lawPreL hK hP hD hS hA hZ hY) rfl rfl hl.1 rfl (lv_room (Nat.le_of_ble_eq_true rfl)) dL_law_748 ⟨hcs.1, hcs.2⟩) hP hD hS hA (fun H locs hP hD hS => ?_)
  refine lv_istore (lv' := [(5, .int (c_goK V (xs (5 * k + 1)))), (0, .ref b), (1, .ref (X 0)), (2, .ref (Y 0)), (3, .ref o), (4, .int (nI (5 * k)))]) hx hb dL_law_751 hl (by decide) rfl (fun ls hl => ?_)
  refine lv_aload_n hx hb dL_law_753 rfl (lv_at hl 3 rfl) ?_
  refine lv_aload_n hx hb dL_law_754 rfl (lv_at hl 1 rfl) ?_
  refine lv_iload hx hb dL_law_755 (lv_at hl 5 rfl) ?_
  refine lv_iconst (v := nI 1) hx hb dL_law_757 rfl ?_
  refine lv_iadd hx hb dL_law_758 ?_
  refine z_top (nI (5 * k + 1)) (nI_add _ _) ?_
  refine z_sld hx hb hX hbl hbA hS (by omega) hL dL_law_759 ?_
  refine z_lawCallM (va_runV (As := [.int (xs (5 * k + 1))]) (rest := []) ⟨hx, hb, hml, hown, hts⟩ (kX5_goesOn l D cI cZ Y T P U _ (xs (5 * k + 1)) n0 hn0 hctm) (cwV 1 hts gL_law_X5_goesOn rfl rfl rfl (by decide +kernel) ⟨Nat.le_of_ble_eq_true rfl, Nat.le_of_ble_eq_true rfl⟩) (z_lawPreM hK hP hD) rfl rfl hl.1 rfl (lv_room (Nat.le_of_ble_eq_true rfl)) dL_law_760 ⟨by show cells + 1 + 0 ≤ 1084; omega, by show slots + 6 + 0 ≤ 9656; omega⟩) hP hD hS hA (fun H locs hP hD hS => ?_)
  refine lv_istore (lv' := [(6, .int (bi (m_in (xs (5 * k + 1)) 0 (U 2 - 1) && !P (ix (xs (5 * k + 1)))))), (5, .int (c_goK V (xs (5 * k + 1)))), (0, .ref b), (1, .ref (X 0)), (2, .ref (Y 0)), (3, .ref o), (4, .int (nI (5 * k)))]) hx hb dL_law_763 hl (by decide) rfl (fun ls hl => ?_)
  obtain ⟨q1, q2, q3⟩ := q_goesOn hR (by omega) hn0 hct hctm hpe hpem (xs (5 * k + 1))
  refine lv_aload_n hx hb dL_law_765 rfl (lv_at hl 4 rfl) ?_
  refine z_callR (W.runV (As := []) (rest := []) ⟨hx, hb, hml, hown, hts⟩ (kX5_thrown l D cI cZ Y _ _ _) (cwV 0 hts gL_law_X5_thrown rfl rfl rfl (by decide +kernel) ⟨Nat.le_of_ble_eq_true rfl, Nat.le_of_ble_eq_true rfl⟩) (z_lawPreMR hK hP) rfl rfl hl.1 rfl (lv_room (Nat.le_of_ble_eq_true rfl)) dL_law_766 ⟨by show cells + 1 + 0 ≤ 1084; omega, by show slots + 6 + 0 ≤ 9656; omega⟩) ?_
  refine lv_iload hx hb dL_law_769 (lv_at hl 1 rfl) ?_
  refine z_icmpeq_t (tgt := 776) q1 hx hb dL_law_771 (by decide) ?_
  refine lv_iload hx hb dL_law_776 (lv_at hl 1 rfl) ?_
  refine lv_if_ne (tgt := 800) hx hb dL_law_778 (by decide) (fun cK => ?_) (fun cK => ?_)
  · refine lv_goto (tgt := 1355) hx hb dL_law_800 (by decide) ?_
    exact next _ _ _ _ _ _ _ _ _ ls q3 hP hD hS (lv_sub hl [2, 3, 4, 5, 6] rfl)
  · refine lv_aload_n hx hb dL_law_781 rfl (lv_at hl 5 rfl) ?_
    refine lv_iconst (v := nI 0) hx hb dL_law_782 rfl ?_
    refine z_lald (D := D) (j := 0) (f := (if c_goK V (xs (5 * k + 1)) = 0 then vp_updL g 0 (if (!O (ix (xs (5 * k + 1)))) = true then 1 else 0) else g)) hx hb hK hP 0 2 rfl rfl (by decide) (by decide) dL_law_783 ?_
    have eg : (if c_goK V (xs (5 * k + 1)) = 0 then vp_updL g 0 (if (!O (ix (xs (5 * k + 1)))) = true then 1 else 0) else g) 0 = (if (!O (ix (xs (5 * k + 1)))) = true then 1 else 0) := by rw [if_pos cK]; rfl
    refine lv_iload hx hb dL_law_784 (lv_at hl 0 rfl) ?_
    refine z_if_eq (tgt := 793) hx hb dL_law_786 (by decide) (fun cb => ?_) (fun cb => ?_)
    · refine lv_lconst (v := 0) hx hb dL_law_793 rfl ?_
      refine W.lcmp hx hb dL_law_794 ?_
      refine z_ifeq_t (tgt := 800) (z_cmp_eq (by rw [eg]; exact if_neg (by rw [q2 cK, cb]; decide))) hx hb dL_law_795 (by decide) ?_
      refine lv_goto (tgt := 1355) hx hb dL_law_800 (by decide) ?_
      exact next _ _ _ _ _ _ _ _ _ ls q3 hP hD hS (lv_sub hl [2, 3, 4, 5, 6] rfl)
    · refine lv_lconst (v := 1) hx hb dL_law_789 rfl ?_
      refine lv_goto (tgt := 794) hx hb dL_law_790 (by decide) ?_
      refine W.lcmp hx hb dL_law_794 ?_
      refine z_ifeq_t (tgt := 800) (z_cmp_eq (by rw [eg]; exact if_pos (by rw [q2 cK, cb]))) hx hb dL_law_795 (by decide) ?_
      refine lv_goto (tgt := 1355) hx hb dL_law_800 (by decide) ?_
      exact next _ _ _ _ _ _ _ _ _ ls q3 hP hD hS (lv_sub hl [2, 3, 4, 5, 6] rfl)

set_option maxHeartbeats 4000000 in
set_option maxRecDepth 100000 in
theorem law_changeKeys {p : Program} {l : Launch} {e : Env} {s : State} {m : MethodId} {below : List Frame} {meth : Method} {c : Code} {D : va_G} {cI cZ cJ : ClassId} {X Y : Nat → Nat} {o b L : Nat} {xs : Nat → Int32} {A : Nat → Prop} {Q : State → Prop} (hl0 : l.stackTraces = false) (hL : L ≤ 2560) (C0 : lw_At p s m meth c b L xs) (hK : va_K D vwCl (tyx cI cZ cJ) s) (hZ : zX A s) (hY : zY s) (hA : ∀ q : Nat, s.heap.size ≤ q → A q) (hbA : ¬ A b) {k : Nat} (hk : 5 * k + 5 ≤ L) {cells slots : Nat} (hcs : cells + 1 ≤ 1084 ∧ slots + 6 ≤ 9656) {g : Nat → Int64} {S : Nat → Nat → Int32} {O : Nat → Bool} {V : Nat → Int32} {T : Nat → Nat → Int32} {P : Nat → Bool} {U : Nat → Int32} {H : Heap} {locs : List Loc} {ls : Array Slot} (hR : Rel k S O V T P U) (hP : va_P D vwCl (lW cI cZ cJ X Y o g S O V T P U) H) (hD : va_D A (lW cI cZ cJ X Y o g S O V T P U)) (hS : va_S A s.heap H locs) (hl : lv_has ls 7 [(0, .ref b), (1, .ref (X 0)), (2, .ref (Y 0)), (3, .ref o), (4, .int (nI (5 * k)))]) (next : ∀ (g : Nat → Int64) (S : Nat → Nat → Int32) (O : Nat → Bool) (V : Nat → Int32) (T : Nat → Nat → Int32) (P : Nat → Bool) (U : Nat → Int32) (H : Heap) (locs : List Loc) (ls : Array Slot), Rel (k + 1) S O V T P U → va_P D vwCl (lW cI cZ cJ X Y o g S O V T P U) H → va_D A (lW cI cZ cJ X Y o g S O V T P U) → va_S A s.heap H locs → lv_has ls 7 [(0, .ref b), (1, .ref (X 0)), (2, .ref (Y 0)), (3, .ref o), (4, .int (nI (5 * k)))] → W p l e room_1 s m #[Value.ref b] below meth c H locs (cells + 1) (slots + 6) Q (F0 m 1355 ls [])) : W p l e room_1 s m #[Value.ref b] below meth c H locs cells slots Q (F0 m 803 ls []) := by
  obtain ⟨hx, hb, hr, hml, hown, hts, hX, hbl, hlocks, hgv⟩ := C0
  have hts := fun w h => hts w (wsL_law_in w h)
  obtain ⟨n0, hn0, hct, hctm, hpe, hpem⟩ := Rel_n hR
  refine lv_aload_n hx hb dL_law_803 rfl (lv_at hl 1 rfl) ?_
  refine lv_aload_n hx hb dL_law_804 rfl (lv_at hl 0 rfl) ?_
  refine lv_iload hx hb dL_law_805 (lv_at hl 4 rfl) ?_
  refine lv_iconst (v := nI 1) hx hb dL_law_807 rfl ?_
  refine lv_iadd hx hb dL_law_808 ?_
  refine z_top (nI (5 * k + 1)) (nI_add _ _) ?_
  refine z_sld hx hb hX hbl hbA hS (by omega) hL dL_law_809 ?_
  refine lv_aload_n hx hb dL_law_810 rfl (lv_at hl 3 rfl) ?_
  refine z_lawCallL (vx_runSW (hh := [(0, 9, 12, 13)]) (As := [.ref (X 0), .int (xs (5 * k + 1)), .ref o]) (rest := []) ⟨hx, hb, hml, hown, hts⟩ (kL_changeKeys l hl0 D cI cZ cJ X S O V o g _ (xs (5 * k + 1)) n0 hn0 hct hpe) (vx_cwSW 3 hts gL_law_L_changeKeys rfl rfl rfl (by decide +kernel) ⟨Nat.le_of_ble_eq_true rfl, Nat.le_of_ble_eq_true rfl⟩) (z_lawPreL hK hP hD hS hA hZ hY) rfl rfl hl.1 rfl (lv_room (Nat.le_of_ble_eq_true rfl)) dL_law_811 ⟨hcs.1, hcs.2⟩) hP hD hS hA (fun H locs hP hD hS => ?_)
  refine lv_istore (lv' := [(5, .int (c_ckK (xs (5 * k + 1)))), (0, .ref b), (1, .ref (X 0)), (2, .ref (Y 0)), (3, .ref o), (4, .int (nI (5 * k)))]) hx hb dL_law_814 hl (by decide) rfl (fun ls hl => ?_)
  refine lv_aload_n hx hb dL_law_816 rfl (lv_at hl 3 rfl) ?_
  refine lv_aload_n hx hb dL_law_817 rfl (lv_at hl 1 rfl) ?_
  refine lv_iload hx hb dL_law_818 (lv_at hl 5 rfl) ?_
  refine lv_iconst (v := nI 1) hx hb dL_law_820 rfl ?_
  refine lv_iadd hx hb dL_law_821 ?_
  refine z_top (nI (5 * k + 1)) (nI_add _ _) ?_
  refine z_sld hx hb hX hbl hbA hS (by omega) hL dL_law_822 ?_
  refine z_lawCallM (va_runV (As := [.int (xs (5 * k + 1))]) (rest := []) ⟨hx, hb, hml, hown, hts⟩ (kX5_changeKeys l D cI cZ Y T P U _ (xs (5 * k + 1)) n0 hn0 hctm hpem) (cwV 1 hts gL_law_X5_changeKeys rfl rfl rfl (by decide +kernel) ⟨Nat.le_of_ble_eq_true rfl, Nat.le_of_ble_eq_true rfl⟩) (z_lawPreM hK hP hD) rfl rfl hl.1 rfl (lv_room (Nat.le_of_ble_eq_true rfl)) dL_law_823 ⟨by show cells + 1 + 0 ≤ 1084; omega, by show slots + 6 + 0 ≤ 9656; omega⟩) hP hD hS hA (fun H locs hP hD hS => ?_)
  refine lv_istore (lv' := [(6, .int (if m_in (xs (5 * k + 1)) 0 300 = true then U 3 + 1 else 0)), (5, .int (c_ckK (xs (5 * k + 1)))), (0, .ref b), (1, .ref (X 0)), (2, .ref (Y 0)), (3, .ref o), (4, .int (nI (5 * k)))]) hx hb dL_law_826 hl (by decide) rfl (fun ls hl => ?_)
  obtain ⟨q1, q2, q3⟩ := q_changeKeys hR (by omega) hn0 hct hctm hpe hpem (xs (5 * k + 1))
  refine lv_aload_n hx hb dL_law_828 rfl (lv_at hl 4 rfl) ?_
  refine z_callR (W.runV (As := []) (rest := []) ⟨hx, hb, hml, hown, hts⟩ (kX5_thrown l D cI cZ Y _ _ _) (cwV 0 hts gL_law_X5_thrown rfl rfl rfl (by decide +kernel) ⟨Nat.le_of_ble_eq_true rfl, Nat.le_of_ble_eq_true rfl⟩) (z_lawPreMR hK hP) rfl rfl hl.1 rfl (lv_room (Nat.le_of_ble_eq_true rfl)) dL_law_829 ⟨by show cells + 1 + 0 ≤ 1084; omega, by show slots + 6 + 0 ≤ 9656; omega⟩) ?_
  refine lv_iload hx hb dL_law_832 (lv_at hl 1 rfl) ?_
  refine z_icmpeq_t (tgt := 839) q1 hx hb dL_law_834 (by decide) ?_
  refine lv_iload hx hb dL_law_839 (lv_at hl 1 rfl) ?_
  refine lv_if_ne (tgt := 856) hx hb dL_law_841 (by decide) (fun cK => ?_) (fun cK => ?_)
  · refine lv_goto (tgt := 1355) hx hb dL_law_856 (by decide) ?_
    exact next _ _ _ _ _ _ _ _ _ ls q3 hP hD hS (lv_sub hl [2, 3, 4, 5, 6] rfl)
  · refine lv_aload_n hx hb dL_law_844 rfl (lv_at hl 5 rfl) ?_
    refine lv_iconst (v := nI 0) hx hb dL_law_845 rfl ?_
    refine z_lald (D := D) (j := 0) (f := (if c_ckK (xs (5 * k + 1)) = 0 then vp_updL g 0 (V 2 + 1).toInt64 else g)) hx hb hK hP 0 2 rfl rfl (by decide) (by decide) dL_law_846 ?_
    have eg : (if c_ckK (xs (5 * k + 1)) = 0 then vp_updL g 0 (V 2 + 1).toInt64 else g) 0 = (V 2 + 1).toInt64 := by rw [if_pos cK]; rfl
    refine lv_iload hx hb dL_law_847 (lv_at hl 0 rfl) ?_
    refine lv_i2l (v := (if m_in (xs (5 * k + 1)) 0 300 = true then U 3 + 1 else 0).toInt64) hx hb dL_law_849 rfl ?_
    refine W.lcmp hx hb dL_law_850 ?_
    refine z_ifeq_t (tgt := 856) (z_cmp_eq (by rw [eg]; rw [q2 cK])) hx hb dL_law_851 (by decide) ?_
    refine lv_goto (tgt := 1355) hx hb dL_law_856 (by decide) ?_
    exact next _ _ _ _ _ _ _ _ _ ls q3 hP hD hS (lv_sub hl [2, 3, 4, 5, 6] rfl)

set_option maxHeartbeats 4000000 in
set_option maxRecDepth 100000 in
theorem law_isTaken {p : Program} {l : Launch} {e : Env} {s : State} {m : MethodId} {below : List Frame} {meth : Method} {c : Code} {D : va_G} {cI cZ cJ : ClassId} {X Y : Nat → Nat} {o b L : Nat} {xs : Nat → Int32} {A : Nat → Prop} {Q : State → Prop} (hl0 : l.stackTraces = false) (hL : L ≤ 2560) (C0 : lw_At p s m meth c b L xs) (hK : va_K D vwCl (tyx cI cZ cJ) s) (hZ : zX A s) (hY : zY s) (hA : ∀ q : Nat, s.heap.size ≤ q → A q) (hbA : ¬ A b) {k : Nat} (hk : 5 * k + 5 ≤ L) {cells slots : Nat} (hcs : cells + 1 ≤ 1084 ∧ slots + 6 ≤ 9656) {g : Nat → Int64} {S : Nat → Nat → Int32} {O : Nat → Bool} {V : Nat → Int32} {T : Nat → Nat → Int32} {P : Nat → Bool} {U : Nat → Int32} {H : Heap} {locs : List Loc} {ls : Array Slot} (hR : Rel k S O V T P U) (hP : va_P D vwCl (lW cI cZ cJ X Y o g S O V T P U) H) (hD : va_D A (lW cI cZ cJ X Y o g S O V T P U)) (hS : va_S A s.heap H locs) (hl : lv_has ls 7 [(0, .ref b), (1, .ref (X 0)), (2, .ref (Y 0)), (3, .ref o), (4, .int (nI (5 * k)))]) (next : ∀ (g : Nat → Int64) (S : Nat → Nat → Int32) (O : Nat → Bool) (V : Nat → Int32) (T : Nat → Nat → Int32) (P : Nat → Bool) (U : Nat → Int32) (H : Heap) (locs : List Loc) (ls : Array Slot), Rel (k + 1) S O V T P U → va_P D vwCl (lW cI cZ cJ X Y o g S O V T P U) H → va_D A (lW cI cZ cJ X Y o g S O V T P U) → va_S A s.heap H locs → lv_has ls 7 [(0, .ref b), (1, .ref (X 0)), (2, .ref (Y 0)), (3, .ref o), (4, .int (nI (5 * k)))] → W p l e room_1 s m #[Value.ref b] below meth c H locs (cells + 1) (slots + 6) Q (F0 m 1355 ls [])) : W p l e room_1 s m #[Value.ref b] below meth c H locs cells slots Q (F0 m 859 ls []) := by
  obtain ⟨hx, hb, hr, hml, hown, hts, hX, hbl, hlocks, hgv⟩ := C0
  have hts := fun w h => hts w (wsL_law_in w h)
  obtain ⟨n0, hn0, hct, hctm, hpe, hpem⟩ := Rel_n hR
  refine lv_aload_n hx hb dL_law_859 rfl (lv_at hl 1 rfl) ?_
  refine lv_aload_n hx hb dL_law_860 rfl (lv_at hl 0 rfl) ?_
  refine lv_iload hx hb dL_law_861 (lv_at hl 4 rfl) ?_
  refine lv_iconst (v := nI 1) hx hb dL_law_863 rfl ?_
  refine lv_iadd hx hb dL_law_864 ?_
  refine z_top (nI (5 * k + 1)) (nI_add _ _) ?_
  refine z_sld hx hb hX hbl hbA hS (by omega) hL dL_law_865 ?_
  refine lv_aload_n hx hb dL_law_866 rfl (lv_at hl 3 rfl) ?_
  refine z_lawCallL (vx_runSW (hh := [(0, 16, 19, 13)]) (As := [.ref (X 0), .int (xs (5 * k + 1)), .ref o]) (rest := []) ⟨hx, hb, hml, hown, hts⟩ (kL_isTaken l hl0 D cI cZ cJ X S O V o g _ (xs (5 * k + 1))) (vx_cwSW 3 hts gL_law_L_isTaken rfl rfl rfl (by decide +kernel) ⟨Nat.le_of_ble_eq_true rfl, Nat.le_of_ble_eq_true rfl⟩) (z_lawPreL hK hP hD hS hA hZ hY) rfl rfl hl.1 rfl (lv_room (Nat.le_of_ble_eq_true rfl)) dL_law_867 ⟨hcs.1, hcs.2⟩) hP hD hS hA (fun H locs hP hD hS => ?_)
  refine lv_istore (lv' := [(5, .int (c_itK V (xs (5 * k + 1)))), (0, .ref b), (1, .ref (X 0)), (2, .ref (Y 0)), (3, .ref o), (4, .int (nI (5 * k)))]) hx hb dL_law_870 hl (by decide) rfl (fun ls hl => ?_)
  refine lv_aload_n hx hb dL_law_872 rfl (lv_at hl 3 rfl) ?_
  refine lv_aload_n hx hb dL_law_873 rfl (lv_at hl 1 rfl) ?_
  refine lv_iload hx hb dL_law_874 (lv_at hl 5 rfl) ?_
  refine lv_iconst (v := nI 1) hx hb dL_law_876 rfl ?_
  refine lv_iadd hx hb dL_law_877 ?_
  refine z_top (nI (5 * k + 1)) (nI_add _ _) ?_
  refine z_sld hx hb hX hbl hbA hS (by omega) hL dL_law_878 ?_
  refine z_lawCallM (va_runV (As := [.int (xs (5 * k + 1))]) (rest := []) ⟨hx, hb, hml, hown, hts⟩ (kX5_isTaken l D cI cZ Y T P U _ (xs (5 * k + 1))) (cwV 1 hts gL_law_X5_isTaken rfl rfl rfl (by decide +kernel) ⟨Nat.le_of_ble_eq_true rfl, Nat.le_of_ble_eq_true rfl⟩) (z_lawPreM hK hP hD) rfl rfl hl.1 rfl (lv_room (Nat.le_of_ble_eq_true rfl)) dL_law_879 ⟨by show cells + 1 + 0 ≤ 1084; omega, by show slots + 6 + 0 ≤ 9656; omega⟩) hP hD hS hA (fun H locs hP hD hS => ?_)
  refine lv_istore (lv' := [(6, .int (bi (m_in (xs (5 * k + 1)) 0 (U 3) && m_isKey U (xs (5 * k + 1))))), (5, .int (c_itK V (xs (5 * k + 1)))), (0, .ref b), (1, .ref (X 0)), (2, .ref (Y 0)), (3, .ref o), (4, .int (nI (5 * k)))]) hx hb dL_law_882 hl (by decide) rfl (fun ls hl => ?_)
  obtain ⟨q1, q2, q3⟩ := q_isTaken hR (by omega) hn0 hct hctm hpe hpem (xs (5 * k + 1))
  refine lv_aload_n hx hb dL_law_884 rfl (lv_at hl 4 rfl) ?_
  refine z_callR (W.runV (As := []) (rest := []) ⟨hx, hb, hml, hown, hts⟩ (kX5_thrown l D cI cZ Y _ _ _) (cwV 0 hts gL_law_X5_thrown rfl rfl rfl (by decide +kernel) ⟨Nat.le_of_ble_eq_true rfl, Nat.le_of_ble_eq_true rfl⟩) (z_lawPreMR hK hP) rfl rfl hl.1 rfl (lv_room (Nat.le_of_ble_eq_true rfl)) dL_law_885 ⟨by show cells + 1 + 0 ≤ 1084; omega, by show slots + 6 + 0 ≤ 9656; omega⟩) ?_
  refine lv_iload hx hb dL_law_888 (lv_at hl 1 rfl) ?_
  refine z_icmpeq_t (tgt := 895) q1 hx hb dL_law_890 (by decide) ?_
  refine lv_iload hx hb dL_law_895 (lv_at hl 1 rfl) ?_
  refine lv_if_ne (tgt := 919) hx hb dL_law_897 (by decide) (fun cK => ?_) (fun cK => ?_)
  · refine lv_goto (tgt := 1355) hx hb dL_law_919 (by decide) ?_
    exact next _ _ _ _ _ _ _ _ _ ls q3 hP hD hS (lv_sub hl [2, 3, 4, 5, 6] rfl)
  · refine lv_aload_n hx hb dL_law_900 rfl (lv_at hl 5 rfl) ?_
    refine lv_iconst (v := nI 0) hx hb dL_law_901 rfl ?_
    refine z_lald (D := D) (j := 0) (f := (if c_itK V (xs (5 * k + 1)) = 0 then vp_updL g 0 (if (c_takes V (xs (5 * k + 1)) (V 0)) = true then 1 else 0) else g)) hx hb hK hP 0 2 rfl rfl (by decide) (by decide) dL_law_902 ?_
    have eg : (if c_itK V (xs (5 * k + 1)) = 0 then vp_updL g 0 (if (c_takes V (xs (5 * k + 1)) (V 0)) = true then 1 else 0) else g) 0 = (if (c_takes V (xs (5 * k + 1)) (V 0)) = true then 1 else 0) := by rw [if_pos cK]; rfl
    refine lv_iload hx hb dL_law_903 (lv_at hl 0 rfl) ?_
    refine z_if_eq (tgt := 912) hx hb dL_law_905 (by decide) (fun cb => ?_) (fun cb => ?_)
    · refine lv_lconst (v := 0) hx hb dL_law_912 rfl ?_
      refine W.lcmp hx hb dL_law_913 ?_
      refine z_ifeq_t (tgt := 919) (z_cmp_eq (by rw [eg]; exact if_neg (by rw [q2 cK, cb]; decide))) hx hb dL_law_914 (by decide) ?_
      refine lv_goto (tgt := 1355) hx hb dL_law_919 (by decide) ?_
      exact next _ _ _ _ _ _ _ _ _ ls q3 hP hD hS (lv_sub hl [2, 3, 4, 5, 6] rfl)
    · refine lv_lconst (v := 1) hx hb dL_law_908 rfl ?_
      refine lv_goto (tgt := 913) hx hb dL_law_909 (by decide) ?_
      refine W.lcmp hx hb dL_law_913 ?_
      refine z_ifeq_t (tgt := 919) (z_cmp_eq (by rw [eg]; exact if_pos (by rw [q2 cK, cb]))) hx hb dL_law_914 (by decide) ?_
      refine lv_goto (tgt := 1355) hx hb dL_law_919 (by decide) ?_
      exact next _ _ _ _ _ _ _ _ _ ls q3 hP hD hS (lv_sub hl [2, 3, 4, 5, 6] rfl)

set_option maxHeartbeats 4000000 in
set_option maxRecDepth 100000 in
theorem law_pass {p : Program} {l : Launch} {e : Env} {s : State} {m : MethodId} {below : List Frame} {meth : Method} {c : Code} {D : va_G} {cI cZ cJ : ClassId} {X Y : Nat → Nat} {o b L : Nat} {xs : Nat → Int32} {A : Nat → Prop} {Q : State → Prop} (hl0 : l.stackTraces = false) (hL : L ≤ 2560) (C0 : lw_At p s m meth c b L xs) (hK : va_K D vwCl (tyx cI cZ cJ) s) (hZ : zX A s) (hY : zY s) (hA : ∀ q : Nat, s.heap.size ≤ q → A q) (hbA : ¬ A b) {k : Nat} (hk : 5 * k + 5 ≤ L) {cells slots : Nat} (hcs : cells + 1 ≤ 1084 ∧ slots + 6 ≤ 9656) {g : Nat → Int64} {S : Nat → Nat → Int32} {O : Nat → Bool} {V : Nat → Int32} {T : Nat → Nat → Int32} {P : Nat → Bool} {U : Nat → Int32} {H : Heap} {locs : List Loc} {ls : Array Slot} (hR : Rel k S O V T P U) (hP : va_P D vwCl (lW cI cZ cJ X Y o g S O V T P U) H) (hD : va_D A (lW cI cZ cJ X Y o g S O V T P U)) (hS : va_S A s.heap H locs) (hl : lv_has ls 7 [(0, .ref b), (1, .ref (X 0)), (2, .ref (Y 0)), (3, .ref o), (4, .int (nI (5 * k)))]) (next : ∀ (g : Nat → Int64) (S : Nat → Nat → Int32) (O : Nat → Bool) (V : Nat → Int32) (T : Nat → Nat → Int32) (P : Nat → Bool) (U : Nat → Int32) (H : Heap) (locs : List Loc) (ls : Array Slot), Rel (k + 1) S O V T P U → va_P D vwCl (lW cI cZ cJ X Y o g S O V T P U) H → va_D A (lW cI cZ cJ X Y o g S O V T P U) → va_S A s.heap H locs → lv_has ls 7 [(0, .ref b), (1, .ref (X 0)), (2, .ref (Y 0)), (3, .ref o), (4, .int (nI (5 * k)))] → W p l e room_1 s m #[Value.ref b] below meth c H locs (cells + 1) (slots + 6) Q (F0 m 1355 ls [])) : W p l e room_1 s m #[Value.ref b] below meth c H locs cells slots Q (F0 m 922 ls []) := by
  obtain ⟨hx, hb, hr, hml, hown, hts, hX, hbl, hlocks, hgv⟩ := C0
  have hts := fun w h => hts w (wsL_law_in w h)
  obtain ⟨n0, hn0, hct, hctm, hpe, hpem⟩ := Rel_n hR
  refine lv_aload_n hx hb dL_law_922 rfl (lv_at hl 1 rfl) ?_
  refine lv_aload_n hx hb dL_law_923 rfl (lv_at hl 0 rfl) ?_
  refine lv_iload hx hb dL_law_924 (lv_at hl 4 rfl) ?_
  refine lv_iconst (v := nI 1) hx hb dL_law_926 rfl ?_
  refine lv_iadd hx hb dL_law_927 ?_
  refine z_top (nI (5 * k + 1)) (nI_add _ _) ?_
  refine z_sld hx hb hX hbl hbA hS (by omega) hL dL_law_928 ?_
  refine lv_aload_n hx hb dL_law_929 rfl (lv_at hl 3 rfl) ?_
  refine z_lawCallL (vx_runSW (hh := [(0, 9, 12, 13)]) (As := [.ref (X 0), .int (xs (5 * k + 1)), .ref o]) (rest := []) ⟨hx, hb, hml, hown, hts⟩ (kL_pass l hl0 D cI cZ cJ X S O V o g _ (xs (5 * k + 1)) n0 hn0 hct hpe) (vx_cwSW 3 hts gL_law_L_pass rfl rfl rfl (by decide +kernel) ⟨Nat.le_of_ble_eq_true rfl, Nat.le_of_ble_eq_true rfl⟩) (z_lawPreL hK hP hD hS hA hZ hY) rfl rfl hl.1 rfl (lv_room (Nat.le_of_ble_eq_true rfl)) dL_law_930 ⟨hcs.1, hcs.2⟩) hP hD hS hA (fun H locs hP hD hS => ?_)
  refine lv_istore (lv' := [(5, .int (c_paK (xs (5 * k + 1)))), (0, .ref b), (1, .ref (X 0)), (2, .ref (Y 0)), (3, .ref o), (4, .int (nI (5 * k)))]) hx hb dL_law_933 hl (by decide) rfl (fun ls hl => ?_)
  refine lv_aload_n hx hb dL_law_935 rfl (lv_at hl 3 rfl) ?_
  refine lv_aload_n hx hb dL_law_936 rfl (lv_at hl 1 rfl) ?_
  refine lv_iload hx hb dL_law_937 (lv_at hl 5 rfl) ?_
  refine lv_iconst (v := nI 1) hx hb dL_law_939 rfl ?_
  refine lv_iadd hx hb dL_law_940 ?_
  refine z_top (nI (5 * k + 1)) (nI_add _ _) ?_
  refine z_sld hx hb hX hbl hbA hS (by omega) hL dL_law_941 ?_
  refine z_lawCallM (va_runV (As := [.int (xs (5 * k + 1))]) (rest := []) ⟨hx, hb, hml, hown, hts⟩ (kX5_pass l D cI cZ Y T P U _ (xs (5 * k + 1)) n0 hn0 hctm hpem) (cwV 1 hts gL_law_X5_pass rfl rfl rfl (by decide +kernel) ⟨Nat.le_of_ble_eq_true rfl, Nat.le_of_ble_eq_true rfl⟩) (z_lawPreM hK hP hD) rfl rfl hl.1 rfl (lv_room (Nat.le_of_ble_eq_true rfl)) dL_law_942 ⟨by show cells + 1 + 0 ≤ 1084; omega, by show slots + 6 + 0 ≤ 9656; omega⟩) hP hD hS hA (fun H locs hP hD hS => ?_)
  refine lv_istore (lv' := [(6, .int (if m_in (xs (5 * k + 1)) 1 300 = true then m_swN T P (m_paV U (xs (5 * k + 1))) n0 else 0)), (5, .int (c_paK (xs (5 * k + 1)))), (0, .ref b), (1, .ref (X 0)), (2, .ref (Y 0)), (3, .ref o), (4, .int (nI (5 * k)))]) hx hb dL_law_945 hl (by decide) rfl (fun ls hl => ?_)
  obtain ⟨q1, q2, q3⟩ := q_pass hR (by omega) hn0 hct hctm hpe hpem (xs (5 * k + 1))
  refine lv_aload_n hx hb dL_law_947 rfl (lv_at hl 4 rfl) ?_
  refine z_callR (W.runV (As := []) (rest := []) ⟨hx, hb, hml, hown, hts⟩ (kX5_thrown l D cI cZ Y _ _ _) (cwV 0 hts gL_law_X5_thrown rfl rfl rfl (by decide +kernel) ⟨Nat.le_of_ble_eq_true rfl, Nat.le_of_ble_eq_true rfl⟩) (z_lawPreMR hK hP) rfl rfl hl.1 rfl (lv_room (Nat.le_of_ble_eq_true rfl)) dL_law_948 ⟨by show cells + 1 + 0 ≤ 1084; omega, by show slots + 6 + 0 ≤ 9656; omega⟩) ?_
  refine lv_iload hx hb dL_law_951 (lv_at hl 1 rfl) ?_
  refine z_icmpeq_t (tgt := 958) q1 hx hb dL_law_953 (by decide) ?_
  refine lv_iload hx hb dL_law_958 (lv_at hl 1 rfl) ?_
  refine lv_if_ne (tgt := 975) hx hb dL_law_960 (by decide) (fun cK => ?_) (fun cK => ?_)
  · refine lv_goto (tgt := 1355) hx hb dL_law_975 (by decide) ?_
    exact next _ _ _ _ _ _ _ _ _ ls q3 hP hD hS (lv_sub hl [2, 3, 4, 5, 6] rfl)
  · refine lv_aload_n hx hb dL_law_963 rfl (lv_at hl 5 rfl) ?_
    refine lv_iconst (v := nI 0) hx hb dL_law_964 rfl ?_
    refine z_lald (D := D) (j := 0) (f := (if c_paK (xs (5 * k + 1)) = 0 then vp_updL g 0 (c_edN (c_doS S (V 0 + (xs (5 * k + 1))) 4) O (c_paV V (xs (5 * k + 1))) (V 0 + (xs (5 * k + 1))) n0).toInt64 else g)) hx hb hK hP 0 2 rfl rfl (by decide) (by decide) dL_law_965 ?_
    have eg : (if c_paK (xs (5 * k + 1)) = 0 then vp_updL g 0 (c_edN (c_doS S (V 0 + (xs (5 * k + 1))) 4) O (c_paV V (xs (5 * k + 1))) (V 0 + (xs (5 * k + 1))) n0).toInt64 else g) 0 = (c_edN (c_doS S (V 0 + (xs (5 * k + 1))) 4) O (c_paV V (xs (5 * k + 1))) (V 0 + (xs (5 * k + 1))) n0).toInt64 := by rw [if_pos cK]; rfl
    refine lv_iload hx hb dL_law_966 (lv_at hl 0 rfl) ?_
    refine lv_i2l (v := (if m_in (xs (5 * k + 1)) 1 300 = true then m_swN T P (m_paV U (xs (5 * k + 1))) n0 else 0).toInt64) hx hb dL_law_968 rfl ?_
    refine W.lcmp hx hb dL_law_969 ?_
    refine z_ifeq_t (tgt := 975) (z_cmp_eq (by rw [eg]; rw [q2 cK])) hx hb dL_law_970 (by decide) ?_
    refine lv_goto (tgt := 1355) hx hb dL_law_975 (by decide) ?_
    exact next _ _ _ _ _ _ _ _ _ ls q3 hP hD hS (lv_sub hl [2, 3, 4, 5, 6] rfl)

set_option maxHeartbeats 4000000 in
set_option maxRecDepth 100000 in
theorem law_now {p : Program} {l : Launch} {e : Env} {s : State} {m : MethodId} {below : List Frame} {meth : Method} {c : Code} {D : va_G} {cI cZ cJ : ClassId} {X Y : Nat → Nat} {o b L : Nat} {xs : Nat → Int32} {A : Nat → Prop} {Q : State → Prop} (hl0 : l.stackTraces = false) (hL : L ≤ 2560) (C0 : lw_At p s m meth c b L xs) (hK : va_K D vwCl (tyx cI cZ cJ) s) (hZ : zX A s) (hY : zY s) (hA : ∀ q : Nat, s.heap.size ≤ q → A q) (hbA : ¬ A b) {k : Nat} (hk : 5 * k + 5 ≤ L) {cells slots : Nat} (hcs : cells + 1 ≤ 1084 ∧ slots + 6 ≤ 9656) {g : Nat → Int64} {S : Nat → Nat → Int32} {O : Nat → Bool} {V : Nat → Int32} {T : Nat → Nat → Int32} {P : Nat → Bool} {U : Nat → Int32} {H : Heap} {locs : List Loc} {ls : Array Slot} (hR : Rel k S O V T P U) (hP : va_P D vwCl (lW cI cZ cJ X Y o g S O V T P U) H) (hD : va_D A (lW cI cZ cJ X Y o g S O V T P U)) (hS : va_S A s.heap H locs) (hl : lv_has ls 7 [(0, .ref b), (1, .ref (X 0)), (2, .ref (Y 0)), (3, .ref o), (4, .int (nI (5 * k)))]) (next : ∀ (g : Nat → Int64) (S : Nat → Nat → Int32) (O : Nat → Bool) (V : Nat → Int32) (T : Nat → Nat → Int32) (P : Nat → Bool) (U : Nat → Int32) (H : Heap) (locs : List Loc) (ls : Array Slot), Rel (k + 1) S O V T P U → va_P D vwCl (lW cI cZ cJ X Y o g S O V T P U) H → va_D A (lW cI cZ cJ X Y o g S O V T P U) → va_S A s.heap H locs → lv_has ls 7 [(0, .ref b), (1, .ref (X 0)), (2, .ref (Y 0)), (3, .ref o), (4, .int (nI (5 * k)))] → W p l e room_1 s m #[Value.ref b] below meth c H locs (cells + 1) (slots + 6) Q (F0 m 1355 ls [])) : W p l e room_1 s m #[Value.ref b] below meth c H locs cells slots Q (F0 m 978 ls []) := by
  obtain ⟨hx, hb, hr, hml, hown, hts, hX, hbl, hlocks, hgv⟩ := C0
  have hts := fun w h => hts w (wsL_law_in w h)
  obtain ⟨n0, hn0, hct, hctm, hpe, hpem⟩ := Rel_n hR
  refine lv_aload_n hx hb dL_law_978 rfl (lv_at hl 1 rfl) ?_
  refine z_callR (W.runV (As := []) (rest := []) ⟨hx, hb, hml, hown, hts⟩ (kX4_now l D cI cZ X S O V) (cwV 0 hts gL_law_X4_now rfl rfl rfl (by decide +kernel) ⟨Nat.le_of_ble_eq_true rfl, Nat.le_of_ble_eq_true rfl⟩) (z_lawPreHR hK hP) rfl rfl hl.1 rfl (lv_room (Nat.le_of_ble_eq_true rfl)) dL_law_979 ⟨by show cells + 0 ≤ 1084; omega, by show slots + 0 ≤ 9656; omega⟩) ?_
  refine lv_aload_n hx hb dL_law_982 rfl (lv_at hl 2 rfl) ?_
  refine z_lawCallM (va_runV (As := []) (rest := [.int (V 0)]) ⟨hx, hb, hml, hown, hts⟩ (kX5_now l D cI cZ Y T P U _) (cwV 0 hts gL_law_X5_now rfl rfl rfl (by decide +kernel) ⟨Nat.le_of_ble_eq_true rfl, Nat.le_of_ble_eq_true rfl⟩) (z_lawPreM hK hP hD) rfl rfl hl.1 rfl (lv_room (Nat.le_of_ble_eq_true rfl)) dL_law_983 ⟨by show cells + 0 ≤ 1084; omega, by show slots + 0 ≤ 9656; omega⟩) hP hD hS hA (fun H locs hP hD hS => ?_)
  obtain ⟨q1, q2⟩ := q_now hR
  refine z_icmpeq_t (tgt := 1355) q1 hx hb dL_law_986 (by decide) ?_
  refine W.widen (k := cells + 1) (n := slots + 6) (by omega) (by omega) ?_
  exact next _ _ _ _ _ _ _ _ _ ls q2 hP hD hS hl

set_option maxHeartbeats 4000000 in
set_option maxRecDepth 100000 in
theorem law_breakGlass {p : Program} {l : Launch} {e : Env} {s : State} {m : MethodId} {below : List Frame} {meth : Method} {c : Code} {D : va_G} {cI cZ cJ : ClassId} {X Y : Nat → Nat} {o b L : Nat} {xs : Nat → Int32} {A : Nat → Prop} {Q : State → Prop} (hl0 : l.stackTraces = false) (hL : L ≤ 2560) (C0 : lw_At p s m meth c b L xs) (hK : va_K D vwCl (tyx cI cZ cJ) s) (hZ : zX A s) (hY : zY s) (hA : ∀ q : Nat, s.heap.size ≤ q → A q) (hbA : ¬ A b) {k : Nat} (hk : 5 * k + 5 ≤ L) {cells slots : Nat} (hcs : cells + 1 ≤ 1084 ∧ slots + 6 ≤ 9656) {g : Nat → Int64} {S : Nat → Nat → Int32} {O : Nat → Bool} {V : Nat → Int32} {T : Nat → Nat → Int32} {P : Nat → Bool} {U : Nat → Int32} {H : Heap} {locs : List Loc} {ls : Array Slot} (hR : Rel k S O V T P U) (hP : va_P D vwCl (lW cI cZ cJ X Y o g S O V T P U) H) (hD : va_D A (lW cI cZ cJ X Y o g S O V T P U)) (hS : va_S A s.heap H locs) (hl : lv_has ls 7 [(0, .ref b), (1, .ref (X 0)), (2, .ref (Y 0)), (3, .ref o), (4, .int (nI (5 * k)))]) (next : ∀ (g : Nat → Int64) (S : Nat → Nat → Int32) (O : Nat → Bool) (V : Nat → Int32) (T : Nat → Nat → Int32) (P : Nat → Bool) (U : Nat → Int32) (H : Heap) (locs : List Loc) (ls : Array Slot), Rel (k + 1) S O V T P U → va_P D vwCl (lW cI cZ cJ X Y o g S O V T P U) H → va_D A (lW cI cZ cJ X Y o g S O V T P U) → va_S A s.heap H locs → lv_has ls 7 [(0, .ref b), (1, .ref (X 0)), (2, .ref (Y 0)), (3, .ref o), (4, .int (nI (5 * k)))] → W p l e room_1 s m #[Value.ref b] below meth c H locs (cells + 1) (slots + 6) Q (F0 m 1355 ls [])) : W p l e room_1 s m #[Value.ref b] below meth c H locs cells slots Q (F0 m 991 ls []) := by
  obtain ⟨hx, hb, hr, hml, hown, hts, hX, hbl, hlocks, hgv⟩ := C0
  have hts := fun w h => hts w (wsL_law_in w h)
  obtain ⟨n0, hn0, hct, hctm, hpe, hpem⟩ := Rel_n hR
  refine lv_aload_n hx hb dL_law_991 rfl (lv_at hl 1 rfl) ?_
  refine lv_aload_n hx hb dL_law_992 rfl (lv_at hl 0 rfl) ?_
  refine lv_iload hx hb dL_law_993 (lv_at hl 4 rfl) ?_
  refine lv_iconst (v := nI 1) hx hb dL_law_995 rfl ?_
  refine lv_iadd hx hb dL_law_996 ?_
  refine z_top (nI (5 * k + 1)) (nI_add _ _) ?_
  refine z_sld hx hb hX hbl hbA hS (by omega) hL dL_law_997 ?_
  refine lv_aload_n hx hb dL_law_998 rfl (lv_at hl 0 rfl) ?_
  refine lv_iload hx hb dL_law_999 (lv_at hl 4 rfl) ?_
  refine lv_iconst (v := nI 2) hx hb dL_law_1001 rfl ?_
  refine lv_iadd hx hb dL_law_1002 ?_
  refine z_top (nI (5 * k + 2)) (nI_add _ _) ?_
  refine z_sld hx hb hX hbl hbA hS (by omega) hL dL_law_1003 ?_
  refine lv_aload_n hx hb dL_law_1004 rfl (lv_at hl 0 rfl) ?_
  refine lv_iload hx hb dL_law_1005 (lv_at hl 4 rfl) ?_
  refine lv_iconst (v := nI 3) hx hb dL_law_1007 rfl ?_
  refine lv_iadd hx hb dL_law_1008 ?_
  refine z_top (nI (5 * k + 3)) (nI_add _ _) ?_
  refine z_sld hx hb hX hbl hbA hS (by omega) hL dL_law_1009 ?_
  refine lv_aload_n hx hb dL_law_1010 rfl (lv_at hl 0 rfl) ?_
  refine lv_iload hx hb dL_law_1011 (lv_at hl 4 rfl) ?_
  refine lv_iconst (v := nI 4) hx hb dL_law_1013 rfl ?_
  refine lv_iadd hx hb dL_law_1014 ?_
  refine z_top (nI (5 * k + 4)) (nI_add _ _) ?_
  refine z_sld hx hb hX hbl hbA hS (by omega) hL dL_law_1015 ?_
  refine lv_aload_n hx hb dL_law_1016 rfl (lv_at hl 3 rfl) ?_
  refine z_lawCallL (vx_runSW (hh := [(0, 14, 17, 13), (0, 14, 21, 18)]) (As := [.ref (X 0), .int (xs (5 * k + 1)), .int (xs (5 * k + 2)), .int (xs (5 * k + 3)), .int (xs (5 * k + 4)), .ref o]) (rest := []) ⟨hx, hb, hml, hown, hts⟩ (kL_breakGlass l hl0 D cI cZ cJ X S O V o g _ (xs (5 * k + 1)) (xs (5 * k + 2)) (xs (5 * k + 3)) (xs (5 * k + 4))) (vx_cwSW 6 hts gL_law_L_breakGlass rfl rfl rfl (by decide +kernel) ⟨Nat.le_of_ble_eq_true rfl, Nat.le_of_ble_eq_true rfl⟩) (z_lawPreL hK hP hD hS hA hZ hY) rfl rfl hl.1 rfl (lv_room (Nat.le_of_ble_eq_true rfl)) dL_law_1017 ⟨hcs.1, hcs.2⟩) hP hD hS hA (fun H locs hP hD hS => ?_)
  refine lv_istore (lv' := [(5, .int (c_bgK S (xs (5 * k + 1)) (xs (5 * k + 2)) (xs (5 * k + 3)) (xs (5 * k + 4)))), (0, .ref b), (1, .ref (X 0)), (2, .ref (Y 0)), (3, .ref o), (4, .int (nI (5 * k)))]) hx hb dL_law_1020 hl (by decide) rfl (fun ls hl => ?_)
  refine lv_aload_n hx hb dL_law_1022 rfl (lv_at hl 3 rfl) ?_
  refine lv_aload_n hx hb dL_law_1023 rfl (lv_at hl 1 rfl) ?_
  refine lv_iload hx hb dL_law_1024 (lv_at hl 5 rfl) ?_
  refine lv_iconst (v := nI 1) hx hb dL_law_1026 rfl ?_
  refine lv_iadd hx hb dL_law_1027 ?_
  refine z_top (nI (5 * k + 1)) (nI_add _ _) ?_
  refine z_sld hx hb hX hbl hbA hS (by omega) hL dL_law_1028 ?_
  refine lv_aload_n hx hb dL_law_1029 rfl (lv_at hl 1 rfl) ?_
  refine lv_iload hx hb dL_law_1030 (lv_at hl 5 rfl) ?_
  refine lv_iconst (v := nI 2) hx hb dL_law_1032 rfl ?_
  refine lv_iadd hx hb dL_law_1033 ?_
  refine z_top (nI (5 * k + 2)) (nI_add _ _) ?_
  refine z_sld hx hb hX hbl hbA hS (by omega) hL dL_law_1034 ?_
  refine lv_aload_n hx hb dL_law_1035 rfl (lv_at hl 1 rfl) ?_
  refine lv_iload hx hb dL_law_1036 (lv_at hl 5 rfl) ?_
  refine lv_iconst (v := nI 3) hx hb dL_law_1038 rfl ?_
  refine lv_iadd hx hb dL_law_1039 ?_
  refine z_top (nI (5 * k + 3)) (nI_add _ _) ?_
  refine z_sld hx hb hX hbl hbA hS (by omega) hL dL_law_1040 ?_
  refine lv_aload_n hx hb dL_law_1041 rfl (lv_at hl 1 rfl) ?_
  refine lv_iload hx hb dL_law_1042 (lv_at hl 5 rfl) ?_
  refine lv_iconst (v := nI 4) hx hb dL_law_1044 rfl ?_
  refine lv_iadd hx hb dL_law_1045 ?_
  refine z_top (nI (5 * k + 4)) (nI_add _ _) ?_
  refine z_sld hx hb hX hbl hbA hS (by omega) hL dL_law_1046 ?_
  refine z_lawCallM (va_runV (As := [.int (xs (5 * k + 1)), .int (xs (5 * k + 2)), .int (xs (5 * k + 3)), .int (xs (5 * k + 4))]) (rest := []) ⟨hx, hb, hml, hown, hts⟩ (kX5_breakGlass l D cI cZ Y T P U _ (xs (5 * k + 1)) (xs (5 * k + 2)) (xs (5 * k + 3)) (xs (5 * k + 4))) (cwV 4 hts gL_law_X5_breakGlass rfl rfl rfl (by decide +kernel) ⟨Nat.le_of_ble_eq_true rfl, Nat.le_of_ble_eq_true rfl⟩) (z_lawPreM hK hP hD) rfl rfl hl.1 rfl (lv_room (Nat.le_of_ble_eq_true rfl)) dL_law_1047 ⟨by show cells + 1 + 0 ≤ 1084; omega, by show slots + 6 + 0 ≤ 9656; omega⟩) hP hD hS hA (fun H locs hP hD hS => ?_)
  refine lv_istore (lv' := [(6, .int (if m_bgK T (xs (5 * k + 1)) (xs (5 * k + 2)) (xs (5 * k + 3)) (xs (5 * k + 4)) = 0 then U 1 + 60 else 0)), (5, .int (c_bgK S (xs (5 * k + 1)) (xs (5 * k + 2)) (xs (5 * k + 3)) (xs (5 * k + 4)))), (0, .ref b), (1, .ref (X 0)), (2, .ref (Y 0)), (3, .ref o), (4, .int (nI (5 * k)))]) hx hb dL_law_1050 hl (by decide) rfl (fun ls hl => ?_)
  obtain ⟨q1, q2, q3⟩ := q_breakGlass hR (by omega) hn0 hct hctm hpe hpem (xs (5 * k + 1)) (xs (5 * k + 2)) (xs (5 * k + 3)) (xs (5 * k + 4))
  refine lv_aload_n hx hb dL_law_1052 rfl (lv_at hl 4 rfl) ?_
  refine z_callR (W.runV (As := []) (rest := []) ⟨hx, hb, hml, hown, hts⟩ (kX5_thrown l D cI cZ Y _ _ _) (cwV 0 hts gL_law_X5_thrown rfl rfl rfl (by decide +kernel) ⟨Nat.le_of_ble_eq_true rfl, Nat.le_of_ble_eq_true rfl⟩) (z_lawPreMR hK hP) rfl rfl hl.1 rfl (lv_room (Nat.le_of_ble_eq_true rfl)) dL_law_1053 ⟨by show cells + 1 + 0 ≤ 1084; omega, by show slots + 6 + 0 ≤ 9656; omega⟩) ?_
  refine lv_iload hx hb dL_law_1056 (lv_at hl 1 rfl) ?_
  refine z_icmpeq_t (tgt := 1063) q1 hx hb dL_law_1058 (by decide) ?_
  refine lv_iload hx hb dL_law_1063 (lv_at hl 1 rfl) ?_
  refine lv_if_ne (tgt := 1080) hx hb dL_law_1065 (by decide) (fun cK => ?_) (fun cK => ?_)
  · refine lv_goto (tgt := 1355) hx hb dL_law_1080 (by decide) ?_
    exact next _ _ _ _ _ _ _ _ _ ls q3 hP hD hS (lv_sub hl [2, 3, 4, 5, 6] rfl)
  · refine lv_aload_n hx hb dL_law_1068 rfl (lv_at hl 5 rfl) ?_
    refine lv_iconst (v := nI 0) hx hb dL_law_1069 rfl ?_
    refine z_lald (D := D) (j := 0) (f := (if c_bgK S (xs (5 * k + 1)) (xs (5 * k + 2)) (xs (5 * k + 3)) (xs (5 * k + 4)) = 0 then vp_updL g 0 (V 0 + 60).toInt64 else g)) hx hb hK hP 0 2 rfl rfl (by decide) (by decide) dL_law_1070 ?_
    have eg : (if c_bgK S (xs (5 * k + 1)) (xs (5 * k + 2)) (xs (5 * k + 3)) (xs (5 * k + 4)) = 0 then vp_updL g 0 (V 0 + 60).toInt64 else g) 0 = (V 0 + 60).toInt64 := by rw [if_pos cK]; rfl
    refine lv_iload hx hb dL_law_1071 (lv_at hl 0 rfl) ?_
    refine lv_i2l (v := (if m_bgK T (xs (5 * k + 1)) (xs (5 * k + 2)) (xs (5 * k + 3)) (xs (5 * k + 4)) = 0 then U 1 + 60 else 0).toInt64) hx hb dL_law_1073 rfl ?_
    refine W.lcmp hx hb dL_law_1074 ?_
    refine z_ifeq_t (tgt := 1080) (z_cmp_eq (by rw [eg]; rw [q2 cK])) hx hb dL_law_1075 (by decide) ?_
    refine lv_goto (tgt := 1355) hx hb dL_law_1080 (by decide) ?_
    exact next _ _ _ _ _ _ _ _ _ ls q3 hP hD hS (lv_sub hl [2, 3, 4, 5, 6] rfl)

set_option maxHeartbeats 4000000 in
set_option maxRecDepth 100000 in
theorem law_setCache {p : Program} {l : Launch} {e : Env} {s : State} {m : MethodId} {below : List Frame} {meth : Method} {c : Code} {D : va_G} {cI cZ cJ : ClassId} {X Y : Nat → Nat} {o b L : Nat} {xs : Nat → Int32} {A : Nat → Prop} {Q : State → Prop} (hl0 : l.stackTraces = false) (hL : L ≤ 2560) (C0 : lw_At p s m meth c b L xs) (hK : va_K D vwCl (tyx cI cZ cJ) s) (hZ : zX A s) (hY : zY s) (hA : ∀ q : Nat, s.heap.size ≤ q → A q) (hbA : ¬ A b) {k : Nat} (hk : 5 * k + 5 ≤ L) {cells slots : Nat} (hcs : cells + 1 ≤ 1084 ∧ slots + 6 ≤ 9656) {g : Nat → Int64} {S : Nat → Nat → Int32} {O : Nat → Bool} {V : Nat → Int32} {T : Nat → Nat → Int32} {P : Nat → Bool} {U : Nat → Int32} {H : Heap} {locs : List Loc} {ls : Array Slot} (hR : Rel k S O V T P U) (hP : va_P D vwCl (lW cI cZ cJ X Y o g S O V T P U) H) (hD : va_D A (lW cI cZ cJ X Y o g S O V T P U)) (hS : va_S A s.heap H locs) (hl : lv_has ls 7 [(0, .ref b), (1, .ref (X 0)), (2, .ref (Y 0)), (3, .ref o), (4, .int (nI (5 * k)))]) (next : ∀ (g : Nat → Int64) (S : Nat → Nat → Int32) (O : Nat → Bool) (V : Nat → Int32) (T : Nat → Nat → Int32) (P : Nat → Bool) (U : Nat → Int32) (H : Heap) (locs : List Loc) (ls : Array Slot), Rel (k + 1) S O V T P U → va_P D vwCl (lW cI cZ cJ X Y o g S O V T P U) H → va_D A (lW cI cZ cJ X Y o g S O V T P U) → va_S A s.heap H locs → lv_has ls 7 [(0, .ref b), (1, .ref (X 0)), (2, .ref (Y 0)), (3, .ref o), (4, .int (nI (5 * k)))] → W p l e room_1 s m #[Value.ref b] below meth c H locs (cells + 1) (slots + 6) Q (F0 m 1355 ls [])) : W p l e room_1 s m #[Value.ref b] below meth c H locs cells slots Q (F0 m 1083 ls []) := by
  obtain ⟨hx, hb, hr, hml, hown, hts, hX, hbl, hlocks, hgv⟩ := C0
  have hts := fun w h => hts w (wsL_law_in w h)
  obtain ⟨n0, hn0, hct, hctm, hpe, hpem⟩ := Rel_n hR
  refine lv_aload_n hx hb dL_law_1083 rfl (lv_at hl 1 rfl) ?_
  refine lv_aload_n hx hb dL_law_1084 rfl (lv_at hl 0 rfl) ?_
  refine lv_iload hx hb dL_law_1085 (lv_at hl 4 rfl) ?_
  refine lv_iconst (v := nI 1) hx hb dL_law_1087 rfl ?_
  refine lv_iadd hx hb dL_law_1088 ?_
  refine z_top (nI (5 * k + 1)) (nI_add _ _) ?_
  refine z_sld hx hb hX hbl hbA hS (by omega) hL dL_law_1089 ?_
  refine lv_aload_n hx hb dL_law_1090 rfl (lv_at hl 0 rfl) ?_
  refine lv_iload hx hb dL_law_1091 (lv_at hl 4 rfl) ?_
  refine lv_iconst (v := nI 2) hx hb dL_law_1093 rfl ?_
  refine lv_iadd hx hb dL_law_1094 ?_
  refine z_top (nI (5 * k + 2)) (nI_add _ _) ?_
  refine z_sld hx hb hX hbl hbA hS (by omega) hL dL_law_1095 ?_
  refine lv_aload_n hx hb dL_law_1096 rfl (lv_at hl 3 rfl) ?_
  refine z_lawCallL (vx_runSW (hh := [(0, 10, 13, 13)]) (As := [.ref (X 0), .int (xs (5 * k + 1)), .int (xs (5 * k + 2)), .ref o]) (rest := []) ⟨hx, hb, hml, hown, hts⟩ (kL_setCache l hl0 D cI cZ cJ X S O V o g _ (xs (5 * k + 1)) (xs (5 * k + 2))) (vx_cwSW 4 hts gL_law_L_setCache rfl rfl rfl (by decide +kernel) ⟨Nat.le_of_ble_eq_true rfl, Nat.le_of_ble_eq_true rfl⟩) (z_lawPreL hK hP hD hS hA hZ hY) rfl rfl hl.1 rfl (lv_room (Nat.le_of_ble_eq_true rfl)) dL_law_1097 ⟨hcs.1, hcs.2⟩) hP hD hS hA (fun H locs hP hD hS => ?_)
  refine lv_istore (lv' := [(5, .int (c_scK (xs (5 * k + 1)) (xs (5 * k + 2)))), (0, .ref b), (1, .ref (X 0)), (2, .ref (Y 0)), (3, .ref o), (4, .int (nI (5 * k)))]) hx hb dL_law_1100 hl (by decide) rfl (fun ls hl => ?_)
  refine lv_aload_n hx hb dL_law_1102 rfl (lv_at hl 3 rfl) ?_
  refine lv_aload_n hx hb dL_law_1103 rfl (lv_at hl 1 rfl) ?_
  refine lv_iload hx hb dL_law_1104 (lv_at hl 5 rfl) ?_
  refine lv_iconst (v := nI 1) hx hb dL_law_1106 rfl ?_
  refine lv_iadd hx hb dL_law_1107 ?_
  refine z_top (nI (5 * k + 1)) (nI_add _ _) ?_
  refine z_sld hx hb hX hbl hbA hS (by omega) hL dL_law_1108 ?_
  refine lv_aload_n hx hb dL_law_1109 rfl (lv_at hl 1 rfl) ?_
  refine lv_iload hx hb dL_law_1110 (lv_at hl 5 rfl) ?_
  refine lv_iconst (v := nI 2) hx hb dL_law_1112 rfl ?_
  refine lv_iadd hx hb dL_law_1113 ?_
  refine z_top (nI (5 * k + 2)) (nI_add _ _) ?_
  refine z_sld hx hb hX hbl hbA hS (by omega) hL dL_law_1114 ?_
  refine z_lawCallM (va_runV (As := [.int (xs (5 * k + 1)), .int (xs (5 * k + 2))]) (rest := []) ⟨hx, hb, hml, hown, hts⟩ (kX5_setCache l D cI cZ Y T P U _ (xs (5 * k + 1)) (xs (5 * k + 2))) (cwV 2 hts gL_law_X5_setCache rfl rfl rfl (by decide +kernel) ⟨Nat.le_of_ble_eq_true rfl, Nat.le_of_ble_eq_true rfl⟩) (z_lawPreM hK hP hD) rfl rfl hl.1 rfl (lv_room (Nat.le_of_ble_eq_true rfl)) dL_law_1115 ⟨by show cells + 1 + 0 ≤ 1084; omega, by show slots + 6 + 0 ≤ 9656; omega⟩) hP hD hS hA (fun H locs hP hD hS => ?_)
  refine lv_istore (lv' := [(6, .int (if m_scOk (xs (5 * k + 1)) (xs (5 * k + 2)) = true then T 11 (ix (xs (5 * k + 1))) else 0)), (5, .int (c_scK (xs (5 * k + 1)) (xs (5 * k + 2)))), (0, .ref b), (1, .ref (X 0)), (2, .ref (Y 0)), (3, .ref o), (4, .int (nI (5 * k)))]) hx hb dL_law_1118 hl (by decide) rfl (fun ls hl => ?_)
  obtain ⟨q1, q2, q3⟩ := q_setCache hR (by omega) hn0 hct hctm hpe hpem (xs (5 * k + 1)) (xs (5 * k + 2))
  refine lv_aload_n hx hb dL_law_1120 rfl (lv_at hl 4 rfl) ?_
  refine z_callR (W.runV (As := []) (rest := []) ⟨hx, hb, hml, hown, hts⟩ (kX5_thrown l D cI cZ Y _ _ _) (cwV 0 hts gL_law_X5_thrown rfl rfl rfl (by decide +kernel) ⟨Nat.le_of_ble_eq_true rfl, Nat.le_of_ble_eq_true rfl⟩) (z_lawPreMR hK hP) rfl rfl hl.1 rfl (lv_room (Nat.le_of_ble_eq_true rfl)) dL_law_1121 ⟨by show cells + 1 + 0 ≤ 1084; omega, by show slots + 6 + 0 ≤ 9656; omega⟩) ?_
  refine lv_iload hx hb dL_law_1124 (lv_at hl 1 rfl) ?_
  refine z_icmpeq_t (tgt := 1131) q1 hx hb dL_law_1126 (by decide) ?_
  refine lv_iload hx hb dL_law_1131 (lv_at hl 1 rfl) ?_
  refine lv_if_ne (tgt := 1148) hx hb dL_law_1133 (by decide) (fun cK => ?_) (fun cK => ?_)
  · refine lv_goto (tgt := 1355) hx hb dL_law_1148 (by decide) ?_
    exact next _ _ _ _ _ _ _ _ _ ls q3 hP hD hS (lv_sub hl [2, 3, 4, 5, 6] rfl)
  · refine lv_aload_n hx hb dL_law_1136 rfl (lv_at hl 5 rfl) ?_
    refine lv_iconst (v := nI 0) hx hb dL_law_1137 rfl ?_
    refine z_lald (D := D) (j := 0) (f := (if c_scK (xs (5 * k + 1)) (xs (5 * k + 2)) = 0 then vp_updL g 0 (S 16 (ix (xs (5 * k + 1)))).toInt64 else g)) hx hb hK hP 0 2 rfl rfl (by decide) (by decide) dL_law_1138 ?_
    have eg : (if c_scK (xs (5 * k + 1)) (xs (5 * k + 2)) = 0 then vp_updL g 0 (S 16 (ix (xs (5 * k + 1)))).toInt64 else g) 0 = (S 16 (ix (xs (5 * k + 1)))).toInt64 := by rw [if_pos cK]; rfl
    refine lv_iload hx hb dL_law_1139 (lv_at hl 0 rfl) ?_
    refine lv_i2l (v := (if m_scOk (xs (5 * k + 1)) (xs (5 * k + 2)) = true then T 11 (ix (xs (5 * k + 1))) else 0).toInt64) hx hb dL_law_1141 rfl ?_
    refine W.lcmp hx hb dL_law_1142 ?_
    refine z_ifeq_t (tgt := 1148) (z_cmp_eq (by rw [eg]; rw [q2 cK])) hx hb dL_law_1143 (by decide) ?_
    refine lv_goto (tgt := 1355) hx hb dL_law_1148 (by decide) ?_
    exact next _ _ _ _ _ _ _ _ _ ls q3 hP hD hS (lv_sub hl [2, 3, 4, 5, 6] rfl)

set_option maxHeartbeats 4000000 in
set_option maxRecDepth 100000 in
theorem law_decide {p : Program} {l : Launch} {e : Env} {s : State} {m : MethodId} {below : List Frame} {meth : Method} {c : Code} {D : va_G} {cI cZ cJ : ClassId} {X Y : Nat → Nat} {o b L : Nat} {xs : Nat → Int32} {A : Nat → Prop} {Q : State → Prop} (hl0 : l.stackTraces = false) (hL : L ≤ 2560) (C0 : lw_At p s m meth c b L xs) (hK : va_K D vwCl (tyx cI cZ cJ) s) (hZ : zX A s) (hY : zY s) (hA : ∀ q : Nat, s.heap.size ≤ q → A q) (hbA : ¬ A b) {k : Nat} (hk : 5 * k + 5 ≤ L) {cells slots : Nat} (hcs : cells + 1 ≤ 1084 ∧ slots + 6 ≤ 9656) {g : Nat → Int64} {S : Nat → Nat → Int32} {O : Nat → Bool} {V : Nat → Int32} {T : Nat → Nat → Int32} {P : Nat → Bool} {U : Nat → Int32} {H : Heap} {locs : List Loc} {ls : Array Slot} (hR : Rel k S O V T P U) (hP : va_P D vwCl (lW cI cZ cJ X Y o g S O V T P U) H) (hD : va_D A (lW cI cZ cJ X Y o g S O V T P U)) (hS : va_S A s.heap H locs) (hl : lv_has ls 7 [(0, .ref b), (1, .ref (X 0)), (2, .ref (Y 0)), (3, .ref o), (4, .int (nI (5 * k)))]) (next : ∀ (g : Nat → Int64) (S : Nat → Nat → Int32) (O : Nat → Bool) (V : Nat → Int32) (T : Nat → Nat → Int32) (P : Nat → Bool) (U : Nat → Int32) (H : Heap) (locs : List Loc) (ls : Array Slot), Rel (k + 1) S O V T P U → va_P D vwCl (lW cI cZ cJ X Y o g S O V T P U) H → va_D A (lW cI cZ cJ X Y o g S O V T P U) → va_S A s.heap H locs → lv_has ls 7 [(0, .ref b), (1, .ref (X 0)), (2, .ref (Y 0)), (3, .ref o), (4, .int (nI (5 * k)))] → W p l e room_1 s m #[Value.ref b] below meth c H locs (cells + 1) (slots + 6) Q (F0 m 1355 ls [])) : W p l e room_1 s m #[Value.ref b] below meth c H locs cells slots Q (F0 m 1151 ls []) := by
  obtain ⟨hx, hb, hr, hml, hown, hts, hX, hbl, hlocks, hgv⟩ := C0
  have hts := fun w h => hts w (wsL_law_in w h)
  obtain ⟨n0, hn0, hct, hctm, hpe, hpem⟩ := Rel_n hR
  refine lv_aload_n hx hb dL_law_1151 rfl (lv_at hl 1 rfl) ?_
  refine lv_aload_n hx hb dL_law_1152 rfl (lv_at hl 0 rfl) ?_
  refine lv_iload hx hb dL_law_1153 (lv_at hl 4 rfl) ?_
  refine lv_iconst (v := nI 1) hx hb dL_law_1155 rfl ?_
  refine lv_iadd hx hb dL_law_1156 ?_
  refine z_top (nI (5 * k + 1)) (nI_add _ _) ?_
  refine z_sld hx hb hX hbl hbA hS (by omega) hL dL_law_1157 ?_
  refine lv_aload_n hx hb dL_law_1158 rfl (lv_at hl 0 rfl) ?_
  refine lv_iload hx hb dL_law_1159 (lv_at hl 4 rfl) ?_
  refine lv_iconst (v := nI 2) hx hb dL_law_1161 rfl ?_
  refine lv_iadd hx hb dL_law_1162 ?_
  refine z_top (nI (5 * k + 2)) (nI_add _ _) ?_
  refine z_sld hx hb hX hbl hbA hS (by omega) hL dL_law_1163 ?_
  refine lv_aload_n hx hb dL_law_1164 rfl (lv_at hl 0 rfl) ?_
  refine lv_iload hx hb dL_law_1165 (lv_at hl 4 rfl) ?_
  refine lv_iconst (v := nI 3) hx hb dL_law_1167 rfl ?_
  refine lv_iadd hx hb dL_law_1168 ?_
  refine z_top (nI (5 * k + 3)) (nI_add _ _) ?_
  refine z_sld hx hb hX hbl hbA hS (by omega) hL dL_law_1169 ?_
  refine lv_aload_n hx hb dL_law_1170 rfl (lv_at hl 3 rfl) ?_
  refine z_lawCallL (vx_runSW (hh := [(0, 12, 15, 13), (0, 12, 19, 42)]) (As := [.ref (X 0), .int (xs (5 * k + 1)), .int (xs (5 * k + 2)), .int (xs (5 * k + 3)), .ref o]) (rest := []) ⟨hx, hb, hml, hown, hts⟩ (kL_decide l hl0 D cI cZ cJ X S O V o g _ (xs (5 * k + 1)) (xs (5 * k + 2)) (xs (5 * k + 3)) n0 hn0 hct hpe) (vx_cwSW 5 hts gL_law_L_decide rfl rfl rfl (by decide +kernel) ⟨Nat.le_of_ble_eq_true rfl, Nat.le_of_ble_eq_true rfl⟩) (z_lawPreL hK hP hD hS hA hZ hY) rfl rfl hl.1 rfl (lv_room (Nat.le_of_ble_eq_true rfl)) dL_law_1171 ⟨hcs.1, hcs.2⟩) hP hD hS hA (fun H locs hP hD hS => ?_)
  refine lv_istore (lv' := [(5, .int (c_deK V (xs (5 * k + 1)) (xs (5 * k + 2)) (xs (5 * k + 3)))), (0, .ref b), (1, .ref (X 0)), (2, .ref (Y 0)), (3, .ref o), (4, .int (nI (5 * k)))]) hx hb dL_law_1174 hl (by decide) rfl (fun ls hl => ?_)
  refine lv_aload_n hx hb dL_law_1176 rfl (lv_at hl 3 rfl) ?_
  refine lv_aload_n hx hb dL_law_1177 rfl (lv_at hl 1 rfl) ?_
  refine lv_iload hx hb dL_law_1178 (lv_at hl 5 rfl) ?_
  refine lv_iconst (v := nI 1) hx hb dL_law_1180 rfl ?_
  refine lv_iadd hx hb dL_law_1181 ?_
  refine z_top (nI (5 * k + 1)) (nI_add _ _) ?_
  refine z_sld hx hb hX hbl hbA hS (by omega) hL dL_law_1182 ?_
  refine lv_aload_n hx hb dL_law_1183 rfl (lv_at hl 1 rfl) ?_
  refine lv_iload hx hb dL_law_1184 (lv_at hl 5 rfl) ?_
  refine lv_iconst (v := nI 2) hx hb dL_law_1186 rfl ?_
  refine lv_iadd hx hb dL_law_1187 ?_
  refine z_top (nI (5 * k + 2)) (nI_add _ _) ?_
  refine z_sld hx hb hX hbl hbA hS (by omega) hL dL_law_1188 ?_
  refine lv_aload_n hx hb dL_law_1189 rfl (lv_at hl 1 rfl) ?_
  refine lv_iload hx hb dL_law_1190 (lv_at hl 5 rfl) ?_
  refine lv_iconst (v := nI 3) hx hb dL_law_1192 rfl ?_
  refine lv_iadd hx hb dL_law_1193 ?_
  refine z_top (nI (5 * k + 3)) (nI_add _ _) ?_
  refine z_sld hx hb hX hbl hbA hS (by omega) hL dL_law_1194 ?_
  refine z_lawCallM (va_runV (As := [.int (xs (5 * k + 1)), .int (xs (5 * k + 2)), .int (xs (5 * k + 3))]) (rest := []) ⟨hx, hb, hml, hown, hts⟩ (kX5_decide l D cI cZ Y T P U _ (xs (5 * k + 1)) (xs (5 * k + 2)) (xs (5 * k + 3)) n0 hn0 hctm hpem) (cwV 3 hts gL_law_X5_decide rfl rfl rfl (by decide +kernel) ⟨Nat.le_of_ble_eq_true rfl, Nat.le_of_ble_eq_true rfl⟩) (z_lawPreM hK hP hD) rfl rfl hl.1 rfl (lv_room (Nat.le_of_ble_eq_true rfl)) dL_law_1195 ⟨by show cells + 1 + 0 ≤ 1084; omega, by show slots + 6 + 0 ≤ 9656; omega⟩) hP hD hS hA (fun H locs hP hD hS => ?_)
  refine lv_istore (lv' := [(6, .int (if m_deK U (xs (5 * k + 1)) (xs (5 * k + 2)) (xs (5 * k + 3)) = 0 then (if P (ix (xs (5 * k + 2))) = true then 2 else m_deR T U (ix (xs (5 * k + 1))) (ix (xs (5 * k + 2))) (ix (xs (5 * k + 3)))) else 0)), (5, .int (c_deK V (xs (5 * k + 1)) (xs (5 * k + 2)) (xs (5 * k + 3)))), (0, .ref b), (1, .ref (X 0)), (2, .ref (Y 0)), (3, .ref o), (4, .int (nI (5 * k)))]) hx hb dL_law_1198 hl (by decide) rfl (fun ls hl => ?_)
  obtain ⟨q1, q2, q3⟩ := q_decide hR (by omega) hn0 hct hctm hpe hpem (xs (5 * k + 1)) (xs (5 * k + 2)) (xs (5 * k + 3))
  refine lv_aload_n hx hb dL_law_1200 rfl (lv_at hl 4 rfl) ?_
  refine z_callR (W.runV (As := []) (rest := []) ⟨hx, hb, hml, hown, hts⟩ (kX5_thrown l D cI cZ Y _ _ _) (cwV 0 hts gL_law_X5_thrown rfl rfl rfl (by decide +kernel) ⟨Nat.le_of_ble_eq_true rfl, Nat.le_of_ble_eq_true rfl⟩) (z_lawPreMR hK hP) rfl rfl hl.1 rfl (lv_room (Nat.le_of_ble_eq_true rfl)) dL_law_1201 ⟨by show cells + 1 + 0 ≤ 1084; omega, by show slots + 6 + 0 ≤ 9656; omega⟩) ?_
  refine lv_iload hx hb dL_law_1204 (lv_at hl 1 rfl) ?_
  refine z_icmpeq_t (tgt := 1211) q1 hx hb dL_law_1206 (by decide) ?_
  refine lv_iload hx hb dL_law_1211 (lv_at hl 1 rfl) ?_
  refine lv_if_ne (tgt := 1228) hx hb dL_law_1213 (by decide) (fun cK => ?_) (fun cK => ?_)
  · refine lv_goto (tgt := 1355) hx hb dL_law_1228 (by decide) ?_
    exact next _ _ _ _ _ _ _ _ _ ls q3 hP hD hS (lv_sub hl [2, 3, 4, 5, 6] rfl)
  · refine lv_aload_n hx hb dL_law_1216 rfl (lv_at hl 5 rfl) ?_
    refine lv_iconst (v := nI 0) hx hb dL_law_1217 rfl ?_
    refine z_lald (D := D) (j := 0) (f := (if c_deK V (xs (5 * k + 1)) (xs (5 * k + 2)) (xs (5 * k + 3)) = 0 then vp_updL g 0 (if O (ix (xs (5 * k + 2))) = true then 2 else c_appR (c_deS1 S V (ix (xs (5 * k + 2)))) V (ix (xs (5 * k + 1))) (ix (S 11 (ix (xs (5 * k + 2))))) (ix (xs (5 * k + 3)))).toInt64 else g)) hx hb hK hP 0 2 rfl rfl (by decide) (by decide) dL_law_1218 ?_
    have eg : (if c_deK V (xs (5 * k + 1)) (xs (5 * k + 2)) (xs (5 * k + 3)) = 0 then vp_updL g 0 (if O (ix (xs (5 * k + 2))) = true then 2 else c_appR (c_deS1 S V (ix (xs (5 * k + 2)))) V (ix (xs (5 * k + 1))) (ix (S 11 (ix (xs (5 * k + 2))))) (ix (xs (5 * k + 3)))).toInt64 else g) 0 = (if O (ix (xs (5 * k + 2))) = true then 2 else c_appR (c_deS1 S V (ix (xs (5 * k + 2)))) V (ix (xs (5 * k + 1))) (ix (S 11 (ix (xs (5 * k + 2))))) (ix (xs (5 * k + 3)))).toInt64 := by rw [if_pos cK]; rfl
    refine lv_iload hx hb dL_law_1219 (lv_at hl 0 rfl) ?_
    refine lv_i2l (v := (if m_deK U (xs (5 * k + 1)) (xs (5 * k + 2)) (xs (5 * k + 3)) = 0 then (if P (ix (xs (5 * k + 2))) = true then 2 else m_deR T U (ix (xs (5 * k + 1))) (ix (xs (5 * k + 2))) (ix (xs (5 * k + 3)))) else 0).toInt64) hx hb dL_law_1221 rfl ?_
    refine W.lcmp hx hb dL_law_1222 ?_
    refine z_ifeq_t (tgt := 1228) (z_cmp_eq (by rw [eg]; rw [q2 cK])) hx hb dL_law_1223 (by decide) ?_
    refine lv_goto (tgt := 1355) hx hb dL_law_1228 (by decide) ?_
    exact next _ _ _ _ _ _ _ _ _ ls q3 hP hD hS (lv_sub hl [2, 3, 4, 5, 6] rfl)

set_option maxHeartbeats 4000000 in
set_option maxRecDepth 100000 in
theorem law_forget {p : Program} {l : Launch} {e : Env} {s : State} {m : MethodId} {below : List Frame} {meth : Method} {c : Code} {D : va_G} {cI cZ cJ : ClassId} {X Y : Nat → Nat} {o b L : Nat} {xs : Nat → Int32} {A : Nat → Prop} {Q : State → Prop} (hl0 : l.stackTraces = false) (hL : L ≤ 2560) (C0 : lw_At p s m meth c b L xs) (hK : va_K D vwCl (tyx cI cZ cJ) s) (hZ : zX A s) (hY : zY s) (hA : ∀ q : Nat, s.heap.size ≤ q → A q) (hbA : ¬ A b) {k : Nat} (hk : 5 * k + 5 ≤ L) {cells slots : Nat} (hcs : cells + 1 ≤ 1084 ∧ slots + 6 ≤ 9656) {g : Nat → Int64} {S : Nat → Nat → Int32} {O : Nat → Bool} {V : Nat → Int32} {T : Nat → Nat → Int32} {P : Nat → Bool} {U : Nat → Int32} {H : Heap} {locs : List Loc} {ls : Array Slot} (hR : Rel k S O V T P U) (hP : va_P D vwCl (lW cI cZ cJ X Y o g S O V T P U) H) (hD : va_D A (lW cI cZ cJ X Y o g S O V T P U)) (hS : va_S A s.heap H locs) (hl : lv_has ls 7 [(0, .ref b), (1, .ref (X 0)), (2, .ref (Y 0)), (3, .ref o), (4, .int (nI (5 * k)))]) (next : ∀ (g : Nat → Int64) (S : Nat → Nat → Int32) (O : Nat → Bool) (V : Nat → Int32) (T : Nat → Nat → Int32) (P : Nat → Bool) (U : Nat → Int32) (H : Heap) (locs : List Loc) (ls : Array Slot), Rel (k + 1) S O V T P U → va_P D vwCl (lW cI cZ cJ X Y o g S O V T P U) H → va_D A (lW cI cZ cJ X Y o g S O V T P U) → va_S A s.heap H locs → lv_has ls 7 [(0, .ref b), (1, .ref (X 0)), (2, .ref (Y 0)), (3, .ref o), (4, .int (nI (5 * k)))] → W p l e room_1 s m #[Value.ref b] below meth c H locs (cells + 1) (slots + 6) Q (F0 m 1355 ls [])) : W p l e room_1 s m #[Value.ref b] below meth c H locs cells slots Q (F0 m 1231 ls []) := by
  obtain ⟨hx, hb, hr, hml, hown, hts, hX, hbl, hlocks, hgv⟩ := C0
  have hts := fun w h => hts w (wsL_law_in w h)
  obtain ⟨n0, hn0, hct, hctm, hpe, hpem⟩ := Rel_n hR
  refine lv_aload_n hx hb dL_law_1231 rfl (lv_at hl 1 rfl) ?_
  refine lv_aload_n hx hb dL_law_1232 rfl (lv_at hl 0 rfl) ?_
  refine lv_iload hx hb dL_law_1233 (lv_at hl 4 rfl) ?_
  refine lv_iconst (v := nI 1) hx hb dL_law_1235 rfl ?_
  refine lv_iadd hx hb dL_law_1236 ?_
  refine z_top (nI (5 * k + 1)) (nI_add _ _) ?_
  refine z_sld hx hb hX hbl hbA hS (by omega) hL dL_law_1237 ?_
  refine lv_aload_n hx hb dL_law_1238 rfl (lv_at hl 0 rfl) ?_
  refine lv_iload hx hb dL_law_1239 (lv_at hl 4 rfl) ?_
  refine lv_iconst (v := nI 2) hx hb dL_law_1241 rfl ?_
  refine lv_iadd hx hb dL_law_1242 ?_
  refine z_top (nI (5 * k + 2)) (nI_add _ _) ?_
  refine z_sld hx hb hX hbl hbA hS (by omega) hL dL_law_1243 ?_
  refine lv_aload_n hx hb dL_law_1244 rfl (lv_at hl 3 rfl) ?_
  refine z_lawCallL (vx_runSW (hh := [(0, 10, 13, 13)]) (As := [.ref (X 0), .int (xs (5 * k + 1)), .int (xs (5 * k + 2)), .ref o]) (rest := []) ⟨hx, hb, hml, hown, hts⟩ (kL_forget l hl0 D cI cZ cJ X S O V o g _ (xs (5 * k + 1)) (xs (5 * k + 2))) (vx_cwSW 4 hts gL_law_L_forget rfl rfl rfl (by decide +kernel) ⟨Nat.le_of_ble_eq_true rfl, Nat.le_of_ble_eq_true rfl⟩) (z_lawPreL hK hP hD hS hA hZ hY) rfl rfl hl.1 rfl (lv_room (Nat.le_of_ble_eq_true rfl)) dL_law_1245 ⟨hcs.1, hcs.2⟩) hP hD hS hA (fun H locs hP hD hS => ?_)
  refine lv_istore (lv' := [(5, .int (c_foK (xs (5 * k + 1)) (xs (5 * k + 2)))), (0, .ref b), (1, .ref (X 0)), (2, .ref (Y 0)), (3, .ref o), (4, .int (nI (5 * k)))]) hx hb dL_law_1248 hl (by decide) rfl (fun ls hl => ?_)
  refine lv_aload_n hx hb dL_law_1250 rfl (lv_at hl 3 rfl) ?_
  refine lv_aload_n hx hb dL_law_1251 rfl (lv_at hl 1 rfl) ?_
  refine lv_iload hx hb dL_law_1252 (lv_at hl 5 rfl) ?_
  refine lv_iconst (v := nI 1) hx hb dL_law_1254 rfl ?_
  refine lv_iadd hx hb dL_law_1255 ?_
  refine z_top (nI (5 * k + 1)) (nI_add _ _) ?_
  refine z_sld hx hb hX hbl hbA hS (by omega) hL dL_law_1256 ?_
  refine lv_aload_n hx hb dL_law_1257 rfl (lv_at hl 1 rfl) ?_
  refine lv_iload hx hb dL_law_1258 (lv_at hl 5 rfl) ?_
  refine lv_iconst (v := nI 2) hx hb dL_law_1260 rfl ?_
  refine lv_iadd hx hb dL_law_1261 ?_
  refine z_top (nI (5 * k + 2)) (nI_add _ _) ?_
  refine z_sld hx hb hX hbl hbA hS (by omega) hL dL_law_1262 ?_
  refine z_lawCallM (va_runV (As := [.int (xs (5 * k + 1)), .int (xs (5 * k + 2))]) (rest := []) ⟨hx, hb, hml, hown, hts⟩ (kX5_forget l D cI cZ Y T P U _ (xs (5 * k + 1)) (xs (5 * k + 2))) (cwV 2 hts gL_law_X5_forget rfl rfl rfl (by decide +kernel) ⟨Nat.le_of_ble_eq_true rfl, Nat.le_of_ble_eq_true rfl⟩) (z_lawPreM hK hP hD) rfl rfl hl.1 rfl (lv_room (Nat.le_of_ble_eq_true rfl)) dL_law_1263 ⟨by show cells + 1 + 0 ≤ 1084; omega, by show slots + 6 + 0 ≤ 9656; omega⟩) hP hD hS hA (fun H locs hP hD hS => ?_)
  refine lv_istore (lv' := [(6, .int (if m_foOk (xs (5 * k + 1)) (xs (5 * k + 2)) = true then m_foN T (va_up U 0 0) (ix (xs (5 * k + 1))) (ix (xs (5 * k + 2))) 6 else 0)), (5, .int (c_foK (xs (5 * k + 1)) (xs (5 * k + 2)))), (0, .ref b), (1, .ref (X 0)), (2, .ref (Y 0)), (3, .ref o), (4, .int (nI (5 * k)))]) hx hb dL_law_1266 hl (by decide) rfl (fun ls hl => ?_)
  obtain ⟨q1, q2, q3⟩ := q_forget hR (by omega) hn0 hct hctm hpe hpem (xs (5 * k + 1)) (xs (5 * k + 2))
  refine lv_aload_n hx hb dL_law_1268 rfl (lv_at hl 4 rfl) ?_
  refine z_callR (W.runV (As := []) (rest := []) ⟨hx, hb, hml, hown, hts⟩ (kX5_thrown l D cI cZ Y _ _ _) (cwV 0 hts gL_law_X5_thrown rfl rfl rfl (by decide +kernel) ⟨Nat.le_of_ble_eq_true rfl, Nat.le_of_ble_eq_true rfl⟩) (z_lawPreMR hK hP) rfl rfl hl.1 rfl (lv_room (Nat.le_of_ble_eq_true rfl)) dL_law_1269 ⟨by show cells + 1 + 0 ≤ 1084; omega, by show slots + 6 + 0 ≤ 9656; omega⟩) ?_
  refine lv_iload hx hb dL_law_1272 (lv_at hl 1 rfl) ?_
  refine z_icmpeq_t (tgt := 1279) q1 hx hb dL_law_1274 (by decide) ?_
  refine lv_iload hx hb dL_law_1279 (lv_at hl 1 rfl) ?_
  refine lv_if_ne (tgt := 1296) hx hb dL_law_1281 (by decide) (fun cK => ?_) (fun cK => ?_)
  · refine lv_goto (tgt := 1355) hx hb dL_law_1296 (by decide) ?_
    exact next _ _ _ _ _ _ _ _ _ ls q3 hP hD hS (lv_sub hl [2, 3, 4, 5, 6] rfl)
  · refine lv_aload_n hx hb dL_law_1284 rfl (lv_at hl 5 rfl) ?_
    refine lv_iconst (v := nI 0) hx hb dL_law_1285 rfl ?_
    refine z_lald (D := D) (j := 0) (f := (if c_foK (xs (5 * k + 1)) (xs (5 * k + 2)) = 0 then vp_updL g 0 (c_daN S (ix (xs (5 * k + 1))) (ix (xs (5 * k + 2))) 6).toInt64 else g)) hx hb hK hP 0 2 rfl rfl (by decide) (by decide) dL_law_1286 ?_
    have eg : (if c_foK (xs (5 * k + 1)) (xs (5 * k + 2)) = 0 then vp_updL g 0 (c_daN S (ix (xs (5 * k + 1))) (ix (xs (5 * k + 2))) 6).toInt64 else g) 0 = (c_daN S (ix (xs (5 * k + 1))) (ix (xs (5 * k + 2))) 6).toInt64 := by rw [if_pos cK]; rfl
    refine lv_iload hx hb dL_law_1287 (lv_at hl 0 rfl) ?_
    refine lv_i2l (v := (if m_foOk (xs (5 * k + 1)) (xs (5 * k + 2)) = true then m_foN T (va_up U 0 0) (ix (xs (5 * k + 1))) (ix (xs (5 * k + 2))) 6 else 0).toInt64) hx hb dL_law_1289 rfl ?_
    refine W.lcmp hx hb dL_law_1290 ?_
    refine z_ifeq_t (tgt := 1296) (z_cmp_eq (by rw [eg]; rw [q2 cK])) hx hb dL_law_1291 (by decide) ?_
    refine lv_goto (tgt := 1355) hx hb dL_law_1296 (by decide) ?_
    exact next _ _ _ _ _ _ _ _ _ ls q3 hP hD hS (lv_sub hl [2, 3, 4, 5, 6] rfl)

set_option maxHeartbeats 4000000 in
set_option maxRecDepth 100000 in
theorem law_stale {p : Program} {l : Launch} {e : Env} {s : State} {m : MethodId} {below : List Frame} {meth : Method} {c : Code} {D : va_G} {cI cZ cJ : ClassId} {X Y : Nat → Nat} {o b L : Nat} {xs : Nat → Int32} {A : Nat → Prop} {Q : State → Prop} (hl0 : l.stackTraces = false) (hL : L ≤ 2560) (C0 : lw_At p s m meth c b L xs) (hK : va_K D vwCl (tyx cI cZ cJ) s) (hZ : zX A s) (hY : zY s) (hA : ∀ q : Nat, s.heap.size ≤ q → A q) (hbA : ¬ A b) {k : Nat} (hk : 5 * k + 5 ≤ L) {cells slots : Nat} (hcs : cells + 1 ≤ 1084 ∧ slots + 6 ≤ 9656) {g : Nat → Int64} {S : Nat → Nat → Int32} {O : Nat → Bool} {V : Nat → Int32} {T : Nat → Nat → Int32} {P : Nat → Bool} {U : Nat → Int32} {H : Heap} {locs : List Loc} {ls : Array Slot} (hR : Rel k S O V T P U) (hP : va_P D vwCl (lW cI cZ cJ X Y o g S O V T P U) H) (hD : va_D A (lW cI cZ cJ X Y o g S O V T P U)) (hS : va_S A s.heap H locs) (hl : lv_has ls 7 [(0, .ref b), (1, .ref (X 0)), (2, .ref (Y 0)), (3, .ref o), (4, .int (nI (5 * k)))]) (next : ∀ (g : Nat → Int64) (S : Nat → Nat → Int32) (O : Nat → Bool) (V : Nat → Int32) (T : Nat → Nat → Int32) (P : Nat → Bool) (U : Nat → Int32) (H : Heap) (locs : List Loc) (ls : Array Slot), Rel (k + 1) S O V T P U → va_P D vwCl (lW cI cZ cJ X Y o g S O V T P U) H → va_D A (lW cI cZ cJ X Y o g S O V T P U) → va_S A s.heap H locs → lv_has ls 7 [(0, .ref b), (1, .ref (X 0)), (2, .ref (Y 0)), (3, .ref o), (4, .int (nI (5 * k)))] → W p l e room_1 s m #[Value.ref b] below meth c H locs (cells + 1) (slots + 6) Q (F0 m 1355 ls [])) : W p l e room_1 s m #[Value.ref b] below meth c H locs cells slots Q (F0 m 1299 ls []) := by
  obtain ⟨hx, hb, hr, hml, hown, hts, hX, hbl, hlocks, hgv⟩ := C0
  have hts := fun w h => hts w (wsL_law_in w h)
  obtain ⟨n0, hn0, hct, hctm, hpe, hpem⟩ := Rel_n hR
  refine lv_aload_n hx hb dL_law_1299 rfl (lv_at hl 1 rfl) ?_
  refine lv_aload_n hx hb dL_law_1300 rfl (lv_at hl 0 rfl) ?_
  refine lv_iload hx hb dL_law_1301 (lv_at hl 4 rfl) ?_
  refine lv_iconst (v := nI 1) hx hb dL_law_1303 rfl ?_
  refine lv_iadd hx hb dL_law_1304 ?_
  refine z_top (nI (5 * k + 1)) (nI_add _ _) ?_
  refine z_sld hx hb hX hbl hbA hS (by omega) hL dL_law_1305 ?_
  refine lv_aload_n hx hb dL_law_1306 rfl (lv_at hl 3 rfl) ?_
  refine z_lawCallL (vx_runSW (hh := [(0, 9, 12, 13)]) (As := [.ref (X 0), .int (xs (5 * k + 1)), .ref o]) (rest := []) ⟨hx, hb, hml, hown, hts⟩ (kL_stale l hl0 D cI cZ cJ X S O V o g _ (xs (5 * k + 1))) (vx_cwSW 3 hts gL_law_L_stale rfl rfl rfl (by decide +kernel) ⟨Nat.le_of_ble_eq_true rfl, Nat.le_of_ble_eq_true rfl⟩) (z_lawPreL hK hP hD hS hA hZ hY) rfl rfl hl.1 rfl (lv_room (Nat.le_of_ble_eq_true rfl)) dL_law_1307 ⟨hcs.1, hcs.2⟩) hP hD hS hA (fun H locs hP hD hS => ?_)
  refine lv_istore (lv' := [(5, .int (c_stK (xs (5 * k + 1)))), (0, .ref b), (1, .ref (X 0)), (2, .ref (Y 0)), (3, .ref o), (4, .int (nI (5 * k)))]) hx hb dL_law_1310 hl (by decide) rfl (fun ls hl => ?_)
  refine lv_aload_n hx hb dL_law_1312 rfl (lv_at hl 3 rfl) ?_
  refine lv_aload_n hx hb dL_law_1313 rfl (lv_at hl 1 rfl) ?_
  refine lv_iload hx hb dL_law_1314 (lv_at hl 5 rfl) ?_
  refine lv_iconst (v := nI 1) hx hb dL_law_1316 rfl ?_
  refine lv_iadd hx hb dL_law_1317 ?_
  refine z_top (nI (5 * k + 1)) (nI_add _ _) ?_
  refine z_sld hx hb hX hbl hbA hS (by omega) hL dL_law_1318 ?_
  refine z_lawCallM (va_runV (As := [.int (xs (5 * k + 1))]) (rest := []) ⟨hx, hb, hml, hown, hts⟩ (kX5_stale l D cI cZ Y T P U _ (xs (5 * k + 1))) (cwV 1 hts gL_law_X5_stale rfl rfl rfl (by decide +kernel) ⟨Nat.le_of_ble_eq_true rfl, Nat.le_of_ble_eq_true rfl⟩) (z_lawPreM hK hP hD) rfl rfl hl.1 rfl (lv_room (Nat.le_of_ble_eq_true rfl)) dL_law_1319 ⟨by show cells + 1 + 0 ≤ 1084; omega, by show slots + 6 + 0 ≤ 9656; omega⟩) hP hD hS hA (fun H locs hP hD hS => ?_)
  refine lv_istore (lv' := [(6, .int (if m_in (xs (5 * k + 1)) 0 3 = true then m_stN T (va_up U 0 0) (ix (xs (5 * k + 1))) 60 else 0)), (5, .int (c_stK (xs (5 * k + 1)))), (0, .ref b), (1, .ref (X 0)), (2, .ref (Y 0)), (3, .ref o), (4, .int (nI (5 * k)))]) hx hb dL_law_1322 hl (by decide) rfl (fun ls hl => ?_)
  obtain ⟨q1, q2, q3⟩ := q_stale hR (by omega) hn0 hct hctm hpe hpem (xs (5 * k + 1))
  refine lv_aload_n hx hb dL_law_1324 rfl (lv_at hl 4 rfl) ?_
  refine z_callR (W.runV (As := []) (rest := []) ⟨hx, hb, hml, hown, hts⟩ (kX5_thrown l D cI cZ Y _ _ _) (cwV 0 hts gL_law_X5_thrown rfl rfl rfl (by decide +kernel) ⟨Nat.le_of_ble_eq_true rfl, Nat.le_of_ble_eq_true rfl⟩) (z_lawPreMR hK hP) rfl rfl hl.1 rfl (lv_room (Nat.le_of_ble_eq_true rfl)) dL_law_1325 ⟨by show cells + 1 + 0 ≤ 1084; omega, by show slots + 6 + 0 ≤ 9656; omega⟩) ?_
  refine lv_iload hx hb dL_law_1328 (lv_at hl 1 rfl) ?_
  refine z_icmpeq_t (tgt := 1335) q1 hx hb dL_law_1330 (by decide) ?_
  refine lv_iload hx hb dL_law_1335 (lv_at hl 1 rfl) ?_
  refine lv_if_ne (tgt := 1352) hx hb dL_law_1337 (by decide) (fun cK => ?_) (fun cK => ?_)
  · refine lv_goto (tgt := 1355) hx hb dL_law_1352 (by decide) ?_
    exact next _ _ _ _ _ _ _ _ _ ls q3 hP hD hS (lv_sub hl [2, 3, 4, 5, 6] rfl)
  · refine lv_aload_n hx hb dL_law_1340 rfl (lv_at hl 5 rfl) ?_
    refine lv_iconst (v := nI 0) hx hb dL_law_1341 rfl ?_
    refine z_lald (D := D) (j := 0) (f := (if c_stK (xs (5 * k + 1)) = 0 then vp_updL g 0 (c_stO S V (ix (xs (5 * k + 1))) 10).toInt64 else g)) hx hb hK hP 0 2 rfl rfl (by decide) (by decide) dL_law_1342 ?_
    have eg : (if c_stK (xs (5 * k + 1)) = 0 then vp_updL g 0 (c_stO S V (ix (xs (5 * k + 1))) 10).toInt64 else g) 0 = (c_stO S V (ix (xs (5 * k + 1))) 10).toInt64 := by rw [if_pos cK]; rfl
    refine lv_iload hx hb dL_law_1343 (lv_at hl 0 rfl) ?_
    refine lv_i2l (v := (if m_in (xs (5 * k + 1)) 0 3 = true then m_stN T (va_up U 0 0) (ix (xs (5 * k + 1))) 60 else 0).toInt64) hx hb dL_law_1345 rfl ?_
    refine W.lcmp hx hb dL_law_1346 ?_
    refine z_ifeq_t (tgt := 1352) (z_cmp_eq (by rw [eg]; rw [q2 cK])) hx hb dL_law_1347 (by decide) ?_
    refine lv_goto (tgt := 1355) hx hb dL_law_1352 (by decide) ?_
    exact next _ _ _ _ _ _ _ _ _ ls q3 hP hD hS (lv_sub hl [2, 3, 4, 5, 6] rfl)
