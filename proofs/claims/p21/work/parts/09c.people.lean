/-! ===== a turn on people, groups, roles and risks ===== -/
theorem RelK_mono {n t : Nat} {V : Nat → Int32} {T : Nat → Nat → Int32} (h : RelK n t V T) : RelK (n + 1) t V T := by
  obtain ⟨h1, h2, h3, ⟨k, h4, h5⟩, ⟨x, h6, h7⟩⟩ := h
  exact ⟨by omega, h2, h3, ⟨k, by omega, h5⟩, ⟨x, by omega, h7⟩⟩
theorem RelT_mono {n t n0 : Nat} {S : Nat → Nat → Int32} {O : Nat → Bool} {V : Nat → Int32} {T : Nat → Nat → Int32} (h : RelT n t n0 S O V T) : RelQ (n + 1) S O V T := by
  obtain ⟨h1, h2, h3, h4, h5⟩ := h
  exact ⟨t, n0, h1, h2, h3, RelK_mono h4, h5⟩
theorem set_bits {F G : Nat → Int32} {g p g' p' : Nat} (b : Bool) (hg : g < 32) (hp : p < 32) (h : bt (F p') g' = bt (G g') p') : bt (upd F p (c_changed (F p) (nI g) b) p') g' = bt (upd G g (c_changed (G g) (nI p) b) g') p' := by
  by_cases e1 : p' = p
  · by_cases e2 : g' = g
    · subst e1; subst e2
      simp [upd, bt_changed _ b hg, bt_changed _ b hp]
    · subst e1
      simp [upd, bt_changed _ b hg, e2, h]
  · by_cases e2 : g' = g
    · subst e2
      simp [upd, bt_changed _ b hp, e1, h]
    · simp [upd, e1, e2, h]
theorem off_bits {F : Nat → Int32} {g p q a : Nat} (b : Bool) (hg : g < 32) (ha : a ≠ g) (h : bt (F q) a = false) : bt (upd F p (c_changed (F p) (nI g) b) q) a = false := by
  by_cases e : q = p
  · subst e; rw [pk_us, bt_changed _ b hg, if_neg ha]; exact h
  · rw [pk_un e]; exact h
theorem off_bits2 {F : Nat → Int32} {g p q a : Nat} (b : Bool) (hq : q ≠ p) (h : bt (F q) a = false) : bt (upd F p (c_changed (F p) (nI g) b) q) a = false := by
  rw [pk_un hq]; exact h
theorem chg_lt32 : ∀ x : Nat, x < 32 → ∀ p : Nat, p < 5 → ∀ b : Bool, (c_changed (nI x) (nI p) b).toNatClampNeg < 32 ∧ c_changed (nI x) (nI p) b = nI (c_changed (nI x) (nI p) b).toNatClampNeg := by decide +kernel
theorem chg_lt16 : ∀ x : Nat, x < 16 → ∀ p : Nat, p < 4 → ∀ b : Bool, (c_changed (nI x) (nI p) b).toNatClampNeg < 16 ∧ c_changed (nI x) (nI p) b = nI (c_changed (nI x) (nI p) b).toNatClampNeg := by decide +kernel
theorem upd_self (f : Nat → Int32) (k : Nat) : upd f k (f k) = f := by
  funext j
  by_cases e : j = k
  · subst e; exact pk_us
  · exact pk_un e
theorem up_self (T : Nat → Nat → Int32) (k : Nat) : va_up T k (T k) = T := by
  funext j
  by_cases e : j = k
  · subst e; exact if_pos rfl
  · exact if_neg e
theorem sp_G {S T : Nat → Nat → Int32} (hG : RelG S T) {gi pi : Nat} (hgi : gi < 4) (hpi : pi < 5) (b : Bool) : RelG (va_up S 7 (upd (S 7) pi (c_changed (S 7 pi) (nI gi) b))) (va_up T 20 (upd (T 20) gi (c_changed (T 20 gi) (nI pi) b))) := by
  obtain ⟨g1, g2, g3, g4, g5, g6, g7⟩ := hG
  refine ⟨fun g p hg hp => ?_, fun g p hg hp => ?_, fun a c ha hc => ?_, g4, fun a ha => ?_, fun a ha => ?_, g7⟩
  · exact set_bits (F := S 7) (G := T 20) b (by omega) (by omega) (g1 g p hg hp)
  · exact off_bits (F := S 7) b (by omega) (by omega) (g2 g p hg hp)
  · show bt (S 8 c) a = bt (upd (T 20) gi (c_changed (T 20 gi) (nI pi) b) (4 + a)) c
    rw [pk_un (by omega)]; exact g3 a c ha hc
  · show ∃ x : Nat, x < 32 ∧ upd (T 20) gi (c_changed (T 20 gi) (nI pi) b) a = nI x
    by_cases e : a = gi
    · subst e
      obtain ⟨x, hx, ex⟩ := g5 a ha
      rw [pk_us, ex]
      exact ⟨_, chg_lt32 x hx pi hpi b⟩
    · rw [pk_un e]; exact g5 a ha
  · show ∃ x : Nat, x < 16 ∧ upd (T 20) gi (c_changed (T 20 gi) (nI pi) b) (4 + a) = nI x
    rw [pk_un (by omega)]; exact g6 a ha
theorem sg_G {S T : Nat → Nat → Int32} (hG : RelG S T) {gi ii : Nat} (hgi : gi < 4) (hii : ii < 4) (b : Bool) : RelG (va_up S 8 (upd (S 8) ii (c_changed (S 8 ii) (nI gi) b))) (va_up T 20 (upd (T 20) (4 + gi) (c_changed (T 20 (4 + gi)) (nI ii) b))) := by
  obtain ⟨g1, g2, g3, g4, g5, g6, g7⟩ := hG
  refine ⟨fun g p hg hp => ?_, g2, fun a c ha hc => ?_, fun a c hc ho => ?_, fun a ha => ?_, fun a ha => ?_, g7⟩
  · show bt (S 7 p) g = bt (upd (T 20) (4 + gi) (c_changed (T 20 (4 + gi)) (nI ii) b) g) p
    rw [pk_un (by omega)]; exact g1 g p hg hp
  · show bt (upd (S 8) ii (c_changed (S 8 ii) (nI gi) b) c) a = bt (upd (T 20) (4 + gi) (c_changed (T 20 (4 + gi)) (nI ii) b) (4 + a)) c
    have h := set_bits (F := S 8) (G := fun a => T 20 (4 + a)) (g := gi) (p := ii) (g' := a) (p' := c) b (by omega) (by omega) (g3 a c ha hc)
    rw [h]
    by_cases e : a = gi
    · subst e; rw [pk_us, pk_us]
    · rw [pk_un e, pk_un (by omega)]
  · show bt (upd (S 8) ii (c_changed (S 8 ii) (nI gi) b) c) a = false
    rcases ho with ho | ho
    · exact off_bits (F := S 8) b (by omega) (by omega) (g4 a c hc (Or.inl ho))
    · exact off_bits2 (F := S 8) b (by omega) (g4 a c hc (Or.inr ho))
  · show ∃ x : Nat, x < 32 ∧ upd (T 20) (4 + gi) (c_changed (T 20 (4 + gi)) (nI ii) b) a = nI x
    rw [pk_un (by omega)]; exact g5 a ha
  · show ∃ x : Nat, x < 16 ∧ upd (T 20) (4 + gi) (c_changed (T 20 (4 + gi)) (nI ii) b) (4 + a) = nI x
    by_cases e : a = gi
    · subst e
      obtain ⟨x, hx, ex⟩ := g6 a ha
      rw [pk_us, ex]
      exact ⟨_, chg_lt16 x hx ii hii b⟩
    · rw [pk_un (by omega)]; exact g6 a ha
theorem c_out_no {j : Nat} (h : j < 4) : c_out (nI j) 8 = false := c_out_lt (n := 8) (by omega) (by decide)
theorem ixI {j : Nat} (h : j < 1000) : ix (nI j) = j := nI_clamp (by omega)
theorem loop_eq {S T : Nat → Nat → Int32} (hG : RelG S T) {gi ii : Nat} (hgi : gi < 4) (hii : ii < 4) (hne : gi ≠ ii) : hasB (c_allA S (S 8 gi) 8) (nI ii) = hasB (l_gp T (1 <<< (nI ii &&& 31)) 16) (nI gi) := by
  apply Bool.eq_iff_iff.mpr
  rw [hasB_bt (by omega), hasB_bt (by omega), around_iff hG hgi hii hne, gp_cl hG.2.2.2.2.2.1 hii (by omega)]
theorem sgK_same {S : Nat → Nat → Int32} {gi : Nat} (hgi : gi < 4) (b : Bool) : c_sgK S (nI gi) (nI gi) b = 1 := by
  rw [c_sgK, c_out_no hgi]; simp
theorem sgK_eq {S T : Nat → Nat → Int32} (hG : RelG S T) {gi ii : Nat} (hgi : gi < 4) (hii : ii < 4) (hne : gi ≠ ii) (b : Bool) : c_sgK S (nI gi) (nI ii) b = if (b && hasB (l_gp T (1 <<< (nI ii &&& 31)) 16) (nI gi)) = true then 2 else 0 := by
  have h1 : ¬ nI gi = nI ii := fun q => hne ((nI_eq (by omega) (by omega)).mp q)
  rw [c_sgK, c_out_no hgi, c_out_no hii, if_neg (by decide), if_neg (by decide), if_neg h1, ixI (show gi < 1000 by omega), ixI (show ii < 1000 by omega), loop_eq hG hgi hii hne]
  cases b
  · simp
  · simp
theorem bi_nn (b : Bool) : (0 : Int32) ≤ bi b := by cases b <;> decide
theorem due_else {p : Prop} [Decidable p] {b c : Bool} (h : ¬ p) (hb : b = false) : l_due (decide p) b c = bi c := by
  rw [l_due, decide_eq_false h, hb]
  cases c <;> rfl
section QQ2
variable {n t n0 : Nat} {S : Nat → Nat → Int32} {O : Nat → Bool} {V : Nat → Int32} {T : Nat → Nat → Int32}
theorem sp_rel (hR : RelT n t n0 S O V T) {gi pi : Nat} (hgi : gi < 4) (hpi : pi < 5) (b : Bool) : RelQ (n + 1) (va_up S 7 (upd (S 7) pi (c_changed (S 7 pi) (nI gi) b))) O V (va_up T 20 (upd (T 20) gi (c_changed (T 20 gi) (nI pi) b))) := by
  obtain ⟨h1, h2, h3, h4, h5⟩ := hR
  exact ⟨t, n0, sp_G h1 hgi hpi b, h2, h3, RelK_mono h4, h5⟩
theorem sg_ans (hR : RelT n t n0 S O V T) {gi ii : Nat} (hgi : gi < 4) (hii : ii < 4) (b : Bool) : l_thr (c_sgK S (nI gi) (nI ii) b) (bi (hasB (S 8 (ix (nI ii))) (nI (ix (nI gi))))) = l_due (decide (nI gi = nI ii)) (b && (!decide (nI gi = nI ii) && hasB (l_gp T (1 <<< (nI ii &&& 31)) 16) (nI gi))) (hasB (T 20 (4 + gi)) (nI ii)) := by
  have hG := hR.1
  by_cases e : gi = ii
  · subst e
    rw [sgK_same hgi, ← l_due_2 rfl]; rfl
  · have h1 : ¬ nI gi = nI ii := fun q => e ((nI_eq (by omega) (by omega)).mp q)
    rw [sgK_eq hG hgi hii e, ixI (show gi < 1000 by omega), ixI (show ii < 1000 by omega)]
    have h2 : (b && (!decide (nI gi = nI ii) && hasB (l_gp T (1 <<< (nI ii &&& 31)) 16) (nI gi))) = (b && hasB (l_gp T (1 <<< (nI ii &&& 31)) 16) (nI gi)) := by
      rw [decide_eq_false h1]; simp
    rw [h2]
    cases hb : (b && hasB (l_gp T (1 <<< (nI ii &&& 31)) 16) (nI gi))
    · rw [due_else h1 rfl, if_neg (by decide), l_thr, if_pos rfl, hasB_bt (by omega), hasB_bt (by omega), hG.2.2.1 gi ii hgi hii]
    · rw [if_pos rfl, ← l_due_3 h1 rfl]; rfl
theorem sg_rel (hR : RelT n t n0 S O V T) {gi ii : Nat} (hgi : gi < 4) (hii : ii < 4) (b : Bool) : RelQ (n + 1) (if c_sgK S (nI gi) (nI ii) b = 0 then va_up S 8 (upd (S 8) (ix (nI ii)) (c_changed (S 8 (ix (nI ii))) (nI (ix (nI gi))) b)) else S) O V (va_up T 20 (upd (T 20) (4 + gi) (if (0 : Int32) ≤ l_due (decide (nI gi = nI ii)) (b && (!decide (nI gi = nI ii) && hasB (l_gp T (1 <<< (nI ii &&& 31)) 16) (nI gi))) (hasB (T 20 (4 + gi)) (nI ii)) then c_changed (T 20 (4 + gi)) (nI ii) b else T 20 (4 + gi)))) := by
  have hG := hR.1
  have none : ∀ k : Int32, ¬ k = 0 → ∀ d : Int32, ¬ (0 : Int32) ≤ d → RelQ (n + 1) (if k = 0 then va_up S 8 (upd (S 8) (ix (nI ii)) (c_changed (S 8 (ix (nI ii))) (nI (ix (nI gi))) b)) else S) O V (va_up T 20 (upd (T 20) (4 + gi) (if (0 : Int32) ≤ d then c_changed (T 20 (4 + gi)) (nI ii) b else T 20 (4 + gi)))) := by
    intro k hk d hd
    rw [if_neg hk, if_neg hd, upd_self, up_self]
    exact RelT_mono hR
  by_cases e : gi = ii
  · subst e
    exact none _ (by rw [sgK_same hgi]; decide) _ (by rw [← l_due_2 rfl]; decide)
  · have h1 : ¬ nI gi = nI ii := fun q => e ((nI_eq (by omega) (by omega)).mp q)
    have h2 : (b && (!decide (nI gi = nI ii) && hasB (l_gp T (1 <<< (nI ii &&& 31)) 16) (nI gi))) = (b && hasB (l_gp T (1 <<< (nI ii &&& 31)) 16) (nI gi)) := by
      rw [decide_eq_false h1]; simp
    cases hb : (b && hasB (l_gp T (1 <<< (nI ii &&& 31)) 16) (nI gi))
    · have hk : c_sgK S (nI gi) (nI ii) b = 0 := by rw [sgK_eq hG hgi hii e, hb]; rfl
      rw [h2, hb, due_else h1 rfl, if_pos (bi_nn _), if_pos hk, ixI (show gi < 1000 by omega), ixI (show ii < 1000 by omega)]
      obtain ⟨r1, r2, r3, r4, r5⟩ := hR
      exact ⟨t, n0, sg_G r1 hgi hii b, r2, r3, RelK_mono r4, r5⟩
    · exact none _ (by rw [sgK_eq hG hgi hii e, hb]; decide) _ (by rw [h2, hb, ← l_due_3 h1 rfl]; decide)
theorem sr_rel (hR : RelT n t n0 S O V T) {gi ri wx : Nat} (hgi : gi < 4) (hri : ri < 3) (hwx : wx < 3) : RelQ (n + 1) (va_up (va_up S 9 (upd (S 9) ri (c_changed (S 9 ri) (nI gi) (decide (nI wx = 1))))) 10 (upd (S 10) ri (c_changed (S 10 ri) (nI gi) (decide (nI wx = 2))))) O V (va_up T 21 (upd (T 21) (3 * gi + ri) (nI wx))) := by
  obtain ⟨⟨g1, g2, g3, g4, g5, g6, g7, g8, g9, g10, g11⟩, h2, h3, h4, h5⟩ := hR
  have hw1 : decide (nI wx = 1) = decide (wx = 1) := decide_eq_decide.mpr (nI_eq (b := 1) (by omega) (by decide))
  have hw2 : decide (nI wx = 2) = decide (wx = 2) := decide_eq_decide.mpr (nI_eq (b := 2) (by omega) (by decide))
  rw [hw1, hw2]
  have lt8u : ∀ (F : Nat → Int32) (b : Bool), (∀ r : Nat, r < 3 → lt8 (F r)) → ∀ r : Nat, r < 3 → lt8 (upd F ri (c_changed (F ri) (nI gi) b) r) := by
    intro F b h r hr
    by_cases e : r = ri
    · subst e; rw [pk_us]; exact lt8_changed b (by omega) (h r hr)
    · rw [pk_un e]; exact h r hr
  have at_ : ∀ (F : Nat → Int32) (b : Bool) (g r : Nat), bt (upd F ri (c_changed (F ri) (nI gi) b) r) g = if r = ri ∧ g = gi then b else bt (F r) g := by
    intro F b g r
    by_cases e : r = ri
    · subst e
      rw [pk_us, bt_changed _ b (by omega)]
      by_cases e2 : g = gi <;> simp [e2]
    · rw [pk_un e, if_neg (fun q => e q.1)]
  refine ⟨t, n0, ⟨g1, g2, g3, g4, g5, g6, lt8u (S 9) _ g7, lt8u (S 10) _ g8, fun g r hg hr => ⟨?_, ?_⟩, fun g r hg hr => ?_, fun g r hg hr => ?_⟩, h2, h3, RelK_mono h4, h5⟩
  · show bt (upd (S 9) ri _ r) g = false
    rw [at_, if_neg (by omega)]; exact (g9 g r hg hr).1
  · show bt (upd (S 10) ri _ r) g = false
    rw [at_, if_neg (by omega)]; exact (g9 g r hg hr).2
  · show upd (T 21) (3 * gi + ri) (nI wx) (3 * g + r) = c_roleOf (va_up (va_up S 9 (upd (S 9) ri (c_changed (S 9 ri) (nI gi) (decide (wx = 1))))) 10 (upd (S 10) ri (c_changed (S 10 ri) (nI gi) (decide (wx = 2))))) g r
    rw [c_roleOf, hasB_bt (by omega), hasB_bt (by omega)]
    show upd (T 21) (3 * gi + ri) (nI wx) (3 * g + r) = if bt (upd (S 9) ri (c_changed (S 9 ri) (nI gi) (decide (wx = 1))) r) g = true then 1 else if bt (upd (S 10) ri (c_changed (S 10 ri) (nI gi) (decide (wx = 2))) r) g = true then 2 else 0
    rw [at_, at_]
    by_cases e : r = ri ∧ g = gi
    · rw [if_pos e, if_pos e, e.1, e.2, pk_us]
      rcases (show wx = 0 ∨ wx = 1 ∨ wx = 2 by omega) with rfl | rfl | rfl <;> rfl
    · rw [if_neg e, if_neg e, pk_un (by omega), g10 g r hg hr, c_roleOf, hasB_bt (by omega), hasB_bt (by omega)]
  · show bt (upd (S 9) ri _ r) g = true → bt (upd (S 10) ri _ r) g = false
    rw [at_, at_]
    by_cases e : r = ri ∧ g = gi
    · rw [if_pos e, if_pos e]
      intro h
      rw [decide_eq_true_iff] at h
      exact decide_eq_false (by omega)
    · rw [if_neg e, if_neg e]; exact g11 g r hg hr
end QQ2
/-! sessions that end -/
theorem cntI_num (F : Nat → Bool) (k : Nat) : cntI F k = l_num F k := by
  induction k with
  | zero => rfl
  | succ k ih => rw [cntI, l_num, ih, bi]
theorem RelS_to {t t' n0 : Nat} {S S' : Nat → Nat → Int32} {O : Nat → Bool} {V V' : Nat → Int32} {T T1 : Nat → Nat → Int32} (h : RelS t n0 S O V T) (ht : t ≤ t') (hV : V' 1 = V 1) (hT1 : T1 19 1 = T 19 1) (hT : T1 24 = T 24) (h11 : S' 11 = S 11) (h12 : S' 12 = S 12) (h13 : S' 13 = S 13) (h14 : S' 14 = S 14) : RelS t' n0 S' O V' T1 := by
  obtain ⟨a1, a2, a3, a4, a5, a6⟩ := h
  refine ⟨a1, hV.trans a2, hT1.trans a3, fun j hj => ?_, fun j hj => ?_, a6⟩
  · rw [hT, h11, h12, h13, h14]
    obtain ⟨b1, b2, ⟨x, b3, b4⟩, ⟨y, b5, b6⟩⟩ := a4 j hj
    exact ⟨b1, b2, ⟨x, by omega, b4⟩, ⟨y, by omega, b6⟩⟩
  · rw [hT]; exact a5 j hj
theorem up_marks {t n0 : Nat} {S : Nat → Nat → Int32} {O O' : Nat → Bool} {V : Nat → Int32} {T : Nat → Nat → Int32} (G : Nat → Bool) (h : RelS t n0 S O V T) (hO : ∀ j, j < n0 → O' j = (O j || G j)) (hO2 : ∀ j, n0 ≤ j → O' j = O j) : RelS t n0 S O' V (va_up T 24 (l_upR T G n0)) := by
  obtain ⟨a1, a2, a3, a4, a5, a6⟩ := h
  have ne : ∀ i : Nat, (∀ j : Nat, j < n0 → i ≠ 5 * j + 4) → va_up T 24 (l_upR T G n0) 24 i = T 24 i := fun i hi => l_upR_ne T G hi
  refine ⟨a1, a2, a3, fun j hj => ?_, fun j hj => ?_, fun j hj hj2 => (hO2 j hj).trans (a6 j hj hj2)⟩
  · rw [ne (5 * j) (fun k hk => by omega), ne (5 * j + 1) (fun k hk => by omega), ne (5 * j + 2) (fun k hk => by omega), ne (5 * j + 3) (fun k hk => by omega)]
    exact a4 j hj
  · rcases Nat.lt_or_ge j n0 with h1 | h1
    · have e : va_up T 24 (l_upR T G n0) 24 (5 * j + 4) = if G j = true then 1 else T 24 (5 * j + 4) := l_upR_at T G h1
      rw [e, hO j h1, a5 j hj]
      cases G j <;> cases O j <;> rfl
    · rw [ne (5 * j + 4) (fun k hk => by omega), hO2 j h1]; exact a5 j hj
theorem over0 {O : Nat → Bool} {j : Nat} : decide (bi (O j) = 0) = !O j := by cases O j <;> simp [bi]
section QQ3
variable {n t n0 : Nat} {S : Nat → Nat → Int32} {O : Nat → Bool} {V : Nat → Int32} {T : Nat → Nat → Int32}
theorem cuts_eq (hR : RelT n t n0 S O V T) {pi wx j : Nat} (hpi : pi < 5) (hj : j < n0) : l_cuts T (nI wx) pi j = (!decide (nI wx ≤ S 5 pi) && (!O j && decide (S 11 j = nI pi))) := by
  obtain ⟨⟨q, hq, e1, e2⟩, -⟩ := hR.2.2.1.2.2.2.1 j hj
  have hj12 := hR.2.2.1.1
  rw [l_cuts, (hR.2.1.1 pi hpi).1, e1, e2, hR.2.2.1.2.2.2.2.1 j (by omega), over0, Bool.and_comm (!O j)]
theorem ri_ans (hR : RelT n t n0 S O V T) {pi wx : Nat} (hpi : pi < 5) (hwx : wx < 4) : (if nI wx ≤ S 5 pi then 0 else c_eaN (va_up S 5 (upd (S 5) pi (nI wx))) O (nI pi) n0) = l_num (l_cuts T (nI wx) pi) n0 := by
  rw [l_num_congr (fun j hj => cuts_eq hR hpi hj)]
  by_cases h : nI wx ≤ S 5 pi
  · rw [if_pos h, decide_eq_true h, l_num_cnt]
    exact (congrArg nI ((cnt_zero _ n0).mpr (fun j _ => rfl))).symm
  · rw [if_neg h, ea_n, cntI_num, decide_eq_false h]
    exact l_num_congr (fun j hj => by simp; rfl)
theorem ri_rel (hR : RelT n t n0 S O V T) {pi wx : Nat} (hpi : pi < 5) (hwx : wx < 4) : RelQ (n + 1) (va_up S 5 (upd (S 5) pi (nI wx))) (if nI wx ≤ S 5 pi then O else c_eaO (va_up S 5 (upd (S 5) pi (nI wx))) O (nI pi) n0) V (va_up (va_up T 24 (l_upR T (l_cuts T (nI wx) pi) n0)) 22 (upd (T 22) pi (nI wx))) := by
  have hcut := fun j hj => cuts_eq (wx := wx) (j := j) hR hpi hj
  obtain ⟨h1, ⟨p1, p2⟩, h3, h4, h5⟩ := hR
  have hS : RelS t n0 (va_up S 5 (upd (S 5) pi (nI wx))) (if nI wx ≤ S 5 pi then O else c_eaO (va_up S 5 (upd (S 5) pi (nI wx))) O (nI pi) n0) V (va_up T 24 (l_upR T (l_cuts T (nI wx) pi) n0)) := by
    refine up_marks (S := va_up S 5 (upd (S 5) pi (nI wx))) (l_cuts T (nI wx) pi) h3 (fun j hj => ?_) (fun j hj => ?_)
    · rw [hcut j hj]
      by_cases h : nI wx ≤ S 5 pi
      · rw [if_pos h, decide_eq_true h]; simp
      · rw [if_neg h, ea_pt, decide_eq_false h, decide_eq_true hj]
        show (O j || (true && decide (S 11 j = nI pi))) = _
        cases O j <;> simp
    · by_cases h : nI wx ≤ S 5 pi
      · rw [if_pos h]
      · rw [if_neg h, ea_pt, decide_eq_false (by omega)]; simp
  refine ⟨t, n0, h1, ⟨fun p hp => ?_, p2⟩, hS, RelK_mono h4, h5⟩
  show upd (S 5) pi (nI wx) p = upd (T 22) pi (nI wx) p ∧ ∃ x : Nat, x ≤ 3 ∧ upd (T 22) pi (nI wx) p = nI x
  by_cases e : p = pi
  · subst e; rw [pk_us, pk_us]; exact ⟨rfl, wx, by omega, rfl⟩
  · rw [pk_un e, pk_un e]; exact p1 p hp
end QQ3
