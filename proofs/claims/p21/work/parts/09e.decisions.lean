/-! ===== a turn on what the apps keep ===== -/
theorem Dec_kept {t c : Nat} {A ks K v : Int32} (h : Dec t c A ks K v) (ht : t < 2 ^ 28) (hc : c ≤ 60) : decide (K ≤ nI t) = decide (A = -1) := by
  rcases h with ⟨hA, x, hx, hK⟩ | ⟨x, b, hb, hx, hl, hA, hks, hK, hv⟩
  · rw [hK, decide_eq_true hA, decide_eq_true (nI_le hx (by omega))]
  · rw [hK, hA, decide_eq_false (nI_ge hl (by omega)), decide_eq_false (nI_ne1 (by omega))]
theorem sub_bi : ∀ b : Bool, (if b = true then (0 : Int32) else 1) = 1 - bi b := by decide
theorem nI_bi : ∀ b : Nat, b ≤ 1 → nI b = bi (decide (b = 1)) := by
  intro b hb
  rcases (show b = 0 ∨ b = 1 by omega) with rfl | rfl <;> rfl
theorem sti_s (S : Nat → Nat → Int32) (V : Nat → Int32) (a : Nat) (c0 : Int32) (p k : Nat) : c_stI S V a c0 p (k + 1) = c_stI S V a c0 p k + bi (c_stale1 S V a p k) := by
  rw [c_stI]
  cases c_stale1 S V a p k
  · rw [if_neg (by decide), bi_f, Int32.add_zero]
  · rw [if_pos rfl]; rfl
section QQ6
variable {n t n0 : Nat} {S : Nat → Nat → Int32} {O : Nat → Bool} {V : Nat → Int32} {T : Nat → Nat → Int32}
theorem st_eq (hR : RelT n t n0 S O V T) (hn : n ≤ 111) {a p r : Nat} (ha : a < 2) (hp : p < 5) (hr : r < 3) : c_stale1 S V a p r = l_st S T V a (3 * p + r) := by
  obtain ⟨c, c1, c2, c3, c4⟩ := hR.2.2.2.2.1 a ha
  have h := c4 p r hp hr
  have ht := hR.2.2.2.1.1
  have hk := Dec_kept h (by omega) c1
  rw [c_stale1, l_st, hR.2.2.2.1.2.2.1, show 15 * a + (3 * p + r) = 15 * a + 3 * p + r by omega, hk, show (3 * p + r) / 3 = p by omega, show (3 * p + r) % 3 = r by omega]
  rcases h with ⟨hA, -⟩ | ⟨x, b, hb, hx, hl, hA, hks, hK, hv⟩
  · rw [decide_eq_true hA]; rfl
  · congr 2
    rw [hA, hv, c_house]
    rcases (show b = 0 ∨ b = 1 by omega) with rfl | rfl <;> cases c_lets S V p r <;> decide
theorem st_off (hR : RelT n t n0 S O V T) {a p r : Nat} (ha : a < 2) (hp : p < 10) (hr : r < 6) (ho : 5 ≤ p ∨ 3 ≤ r) : c_stale1 S V a p r = false := by
  rw [c_stale1, hR.2.2.2.2.2 a p r ha hp hr ho]; rfl
theorem sti_lo (hR : RelT n t n0 S O V T) (hn : n ≤ 111) {a p : Nat} (ha : a < 2) (hp : p < 5) : c_stI S V a (l_num (l_st S T V a) (3 * p)) p 6 = l_num (l_st S T V a) (3 * (p + 1)) := by
  rw [sti_s, sti_s, sti_s, sti_s, sti_s, sti_s, st_off hR (r := 3) ha (by omega) (by decide) (Or.inr (by decide)), st_off hR (r := 4) ha (by omega) (by decide) (Or.inr (by decide)), st_off hR (r := 5) ha (by omega) (by decide) (Or.inr (by decide)), st_eq hR hn (r := 0) ha hp (by decide), st_eq hR hn (r := 1) ha hp (by decide), st_eq hR hn (r := 2) ha hp (by decide), bi_f, Int32.add_zero, Int32.add_zero, Int32.add_zero]
  rfl
theorem sti_hi (hR : RelT n t n0 S O V T) {a p : Nat} (ha : a < 2) (hp : 5 ≤ p) (hp2 : p < 10) (c0 : Int32) : c_stI S V a c0 p 6 = c0 := by
  have z : ∀ k : Nat, k ≤ 6 → c_stI S V a c0 p k = c0 := by
    intro k
    induction k with
    | zero => intro _; rfl
    | succ k ih =>
      intro hk
      rw [sti_s, ih (by omega), st_off hR ha hp2 (by omega) (Or.inl hp), bi_f, Int32.add_zero]
  exact z 6 (Nat.le_refl _)
theorem stale_eq (hR : RelT n t n0 S O V T) (hn : n ≤ 111) {a : Nat} (ha : a < 2) : c_stO S V a 10 = l_num (l_st S T V a) 15 := by
  have lo : ∀ p : Nat, p ≤ 5 → c_stO S V a p = l_num (l_st S T V a) (3 * p) := by
    intro p
    induction p with
    | zero => intro _; rfl
    | succ p ih => intro hp; rw [c_stO, ih (by omega), sti_lo hR hn ha (by omega)]
  have hi : ∀ d : Nat, d ≤ 5 → c_stO S V a (5 + d) = l_num (l_st S T V a) 15 := by
    intro d
    induction d with
    | zero => intro _; exact lo 5 (Nat.le_refl _)
    | succ d ih =>
      intro hd
      show c_stI S V a (c_stO S V a (5 + d)) (5 + d) 6 = l_num (l_st S T V a) 15
      rw [sti_hi hR ha (by omega) (by omega), ih (by omega)]
  exact hi 5 (Nat.le_refl _)
theorem use_S (h : RelS t n0 S O V T) (hV : V 0 = nI t) (hT : T 19 0 = nI t) {si : Nat} (hsi : si < n0) : RelS t n0 (va_up S 14 (upd (S 14) si (V 0))) O V (va_up T 24 (upd (T 24) (5 * si + 3) (T 19 0))) := by
  obtain ⟨a1, a2, a3, a4, a5, a6⟩ := h
  have ne : ∀ i : Nat, i ≠ 5 * si + 3 → va_up T 24 (upd (T 24) (5 * si + 3) (T 19 0)) 24 i = T 24 i := fun i hi => pk_un hi
  refine ⟨a1, a2, a3, fun j hj => ?_, fun j hj => ?_, a6⟩
  · rw [ne (5 * j) (by omega), ne (5 * j + 1) (by omega), ne (5 * j + 2) (by omega)]
    obtain ⟨b1, b2, b3, b4⟩ := a4 j hj
    refine ⟨b1, b2, b3, ?_⟩
    show ∃ x : Nat, x ≤ t ∧ upd (S 14) si (V 0) j = nI x ∧ upd (T 24) (5 * si + 3) (T 19 0) (5 * j + 3) = nI x
    by_cases e : j = si
    · subst e; rw [pk_us, pk_us]; exact ⟨t, Nat.le_refl _, hV, hT⟩
    · rw [pk_un e, pk_un (by omega)]; exact b4
  · rw [ne (5 * j + 4) (by omega)]; exact a5 j hj
theorem de_over (hR : RelT n t n0 S O V T) {si ai pi ri : Nat} (ho : O si = true) : RelQ (n + 1) (if O si = true then S else c_appS (va_up S 14 (upd (S 14) si (V 0))) V ai pi ri) O V T := by
  rw [if_pos ho]; exact RelT_mono hR
/-- kept by the law, or not -/
theorem de_kept (hR : RelT n t n0 S O V T) (hn : n < 110) {ai pi ri : Nat} (hai : ai < 2) (hri : ri < 3) (hpi : pi < 5) : (T 19 0 < T 25 (15 * ai + 3 * pi + ri)) ↔ ¬ S 17 (ai * 60 + pi * 6 + ri) = -1 := by
  obtain ⟨c, c1, c2, c3, c4⟩ := hR.2.2.2.2.1 ai hai
  have ht := hR.2.2.2.1.1
  have hk := Dec_kept (c4 pi ri hpi hri) (by omega) c1
  have hk2 := decide_eq_decide.mp hk
  rw [hR.2.2.2.1.2.2.1, ← hk2, Int32.not_le]
theorem de_ans_new (hR : RelT n t n0 S O V T) (hn : n < 110) {si ai pi ri : Nat} (hai : ai < 2) (hri : ri < 3) (hpi : pi < 5) (c : ¬ T 19 0 < T 25 (15 * ai + 3 * pi + ri)) : c_appR (va_up S 14 (upd (S 14) si (V 0))) V ai pi ri = 1 - upd (T 26) (15 * ai + 3 * pi + ri) (bi (c_lets S V pi ri)) (15 * ai + 3 * pi + ri) := by
  have h : S 17 (ai * 60 + pi * 6 + ri) = -1 := Classical.byContradiction (fun q => c ((de_kept hR hn hai hri hpi).mpr q))
  have e : c_appR (va_up S 14 (upd (S 14) si (V 0))) V ai pi ri = if S 17 (ai * 60 + pi * 6 + ri) = -1 then c_house S V pi ri else S 17 (ai * 60 + pi * 6 + ri) := rfl
  rw [e, if_pos h, pk_us, c_house]; exact sub_bi _
theorem de_ans_old (hR : RelT n t n0 S O V T) (hn : n < 110) {si ai pi ri : Nat} (hai : ai < 2) (hri : ri < 3) (hpi : pi < 5) (c : T 19 0 < T 25 (15 * ai + 3 * pi + ri)) : c_appR (va_up S 14 (upd (S 14) si (V 0))) V ai pi ri = 1 - T 26 (15 * ai + 3 * pi + ri) := by
  have h := (de_kept hR hn hai hri hpi).mp c
  have e : c_appR (va_up S 14 (upd (S 14) si (V 0))) V ai pi ri = if S 17 (ai * 60 + pi * 6 + ri) = -1 then c_house S V pi ri else S 17 (ai * 60 + pi * 6 + ri) := rfl
  rw [e, if_neg h]
  obtain ⟨c, c1, c2, c3, c4⟩ := hR.2.2.2.2.1 ai hai
  rcases c4 pi ri hpi hri with ⟨hA, -⟩ | ⟨x, b, hb, hx, hl, hA, hks, hK, hv⟩
  · exact absurd hA h
  · rw [hA, hv]; exact (pk_sub (a := 1) hb).symm
theorem de_rel_old (hR : RelT n t n0 S O V T) (hn : n < 110) {si ai pi ri : Nat} (hai : ai < 2) (hsi : si < n0) (hri : ri < 3) (hpi : pi < 5) (ho : ¬ O si = true) (c : T 19 0 < T 25 (15 * ai + 3 * pi + ri)) : RelQ (n + 1) (if O si = true then S else c_appS (va_up S 14 (upd (S 14) si (V 0))) V ai pi ri) O V (va_up T 24 (upd (T 24) (5 * si + 3) (T 19 0))) := by
  have h := (de_kept hR hn hai hri hpi).mp c
  have e : c_appS (va_up S 14 (upd (S 14) si (V 0))) V ai pi ri = va_up S 14 (upd (S 14) si (V 0)) := if_neg h
  rw [if_neg ho, e]
  obtain ⟨h1, h2, h3, h4, h5⟩ := hR
  exact ⟨t, n0, h1, h2, use_S h3 h4.2.1 h4.2.2.1 hsi, RelK_mono h4, h5⟩
theorem de_rel_new (hR : RelT n t n0 S O V T) (hn : n < 110) {si ai pi ri : Nat} (hai : ai < 2) (hsi : si < n0) (hri : ri < 3) (hpi : pi < 5) (ho : ¬ O si = true) (c : ¬ T 19 0 < T 25 (15 * ai + 3 * pi + ri)) : RelQ (n + 1) (if O si = true then S else c_appS (va_up S 14 (upd (S 14) si (V 0))) V ai pi ri) O V (va_up (va_up (va_up T 24 (upd (T 24) (5 * si + 3) (T 19 0))) 26 (upd (T 26) (15 * ai + 3 * pi + ri) (bi (c_lets S V pi ri)))) 25 (upd (T 25) (15 * ai + 3 * pi + ri) (T 19 0 + T 19 (4 + ai)))) := by
  have h : S 17 (ai * 60 + pi * 6 + ri) = -1 := Classical.byContradiction (fun q => c ((de_kept hR hn hai hri hpi).mpr q))
  have e : c_appS (va_up S 14 (upd (S 14) si (V 0))) V ai pi ri = if S 16 ai = 0 then va_up S 14 (upd (S 14) si (V 0)) else va_up (va_up (va_up S 14 (upd (S 14) si (V 0))) 17 (upd (S 17) (ai * 60 + pi * 6 + ri) (c_house S V pi ri))) 18 (upd (S 18) (ai * 60 + pi * 6 + ri) (V 0)) := if_pos h
  rw [if_neg ho, e]
  obtain ⟨h1, h2, h3, h4, h5⟩ := hR
  have hS := use_S h3 h4.2.1 h4.2.2.1 hsi
  have ht := h4.1
  obtain ⟨c0, d1, d2, d3, d4⟩ := h5.1 ai hai
  have hK : T 19 0 + T 19 (4 + ai) = nI (t + c0) := by rw [h4.2.2.1, d3]; exact nI_add t c0
  -- the rows of the law, wherever it is not the place of this decision
  have ne25 : ∀ i : Nat, i ≠ 15 * ai + 3 * pi + ri → upd (T 25) (15 * ai + 3 * pi + ri) (T 19 0 + T 19 (4 + ai)) i = T 25 i := fun i hi => pk_un hi
  have ne26 : ∀ i : Nat, i ≠ 15 * ai + 3 * pi + ri → upd (T 26) (15 * ai + 3 * pi + ri) (bi (c_lets S V pi ri)) i = T 26 i := fun i hi => pk_un hi
  by_cases hz : S 16 ai = 0
  · rw [if_pos hz]
    have hc0 : c0 = 0 := (nI_eq (b := 0) (by omega) (by decide)).mp (d2.symm.trans hz)
    refine ⟨t, n0, h1, h2, hS, RelK_mono h4, fun a ha => ?_, h5.2⟩
    obtain ⟨c1, f1, f2, f3, f4⟩ := h5.1 a ha
    refine ⟨c1, f1, f2, f3, fun p r hp hr => ?_⟩
    show Dec t c1 (S 17 (a * 60 + p * 6 + r)) (S 18 (a * 60 + p * 6 + r)) (upd (T 25) (15 * ai + 3 * pi + ri) (T 19 0 + T 19 (4 + ai)) (15 * a + 3 * p + r)) (upd (T 26) (15 * ai + 3 * pi + ri) (bi (c_lets S V pi ri)) (15 * a + 3 * p + r))
    by_cases q : a = ai ∧ p = pi ∧ r = ri
    · rw [q.1, q.2.1, q.2.2, pk_us, hK]
      exact Or.inl ⟨h, t + c0, by omega, rfl⟩
    · rw [ne25 _ (by omega), ne26 _ (by omega)]; exact f4 p r hp hr
  · rw [if_neg hz]
    have hc0 : c0 ≠ 0 := fun q => hz (by rw [d2, q]; rfl)
    refine ⟨t, n0, h1, h2, hS, RelK_mono h4, fun a ha => ?_, fun a p r ha hp hr ho => ?_⟩
    · obtain ⟨c1, f1, f2, f3, f4⟩ := h5.1 a ha
      refine ⟨c1, f1, f2, f3, fun p r hp hr => ?_⟩
      show Dec t c1 (upd (S 17) (ai * 60 + pi * 6 + ri) (c_house S V pi ri) (a * 60 + p * 6 + r)) (upd (S 18) (ai * 60 + pi * 6 + ri) (V 0) (a * 60 + p * 6 + r)) (upd (T 25) (15 * ai + 3 * pi + ri) (T 19 0 + T 19 (4 + ai)) (15 * a + 3 * p + r)) (upd (T 26) (15 * ai + 3 * pi + ri) (bi (c_lets S V pi ri)) (15 * a + 3 * p + r))
      by_cases q : a = ai ∧ p = pi ∧ r = ri
      · obtain ⟨q1, q2, q3⟩ := q
        subst q1; subst q2; subst q3
        have hcc : c1 = c0 := (nI_eq (by omega) (by omega)).mp (f2.symm.trans d2)
        subst hcc
        rw [pk_us, pk_us, pk_us, pk_us, hK, h4.2.1]
        refine Or.inr ⟨t, (if c_lets S V p r = true then 1 else 0), by split <;> omega, Nat.le_refl _, by omega, ?_, rfl, rfl, ?_⟩
        · rw [c_house]; cases c_lets S V p r <;> rfl
        · cases c_lets S V p r <;> rfl
      · rw [ne25 _ (by omega), ne26 _ (by omega), pk_un (by omega), pk_un (by omega)]; exact f4 p r hp hr
    · show upd (S 17) (ai * 60 + pi * 6 + ri) (c_house S V pi ri) (a * 60 + p * 6 + r) = -1
      rw [pk_un (by omega)]; exact h5.2 a p r ha hp hr ho
theorem ca_ans (hR : RelT n t n0 S O V T) {ai : Nat} (hai : ai < 2) : S 16 ai = T 19 (4 + ai) := by
  obtain ⟨c, c1, c2, c3, c4⟩ := hR.2.2.2.2.1 ai hai
  exact c2.trans c3.symm
theorem Dec_cache {t c c2 : Nat} {A ks K v : Int32} (h : Dec t c A ks K v) (ht : t < 2 ^ 28) (hc : c ≤ 60) (hc2 : c2 ≤ 60) : Dec t c2 (if nI t - ks < nI c2 then A else -1) ks (if K ≤ nI t then 0 else K - nI c + nI c2) v := by
  rcases h with ⟨hA, x, hx, hK⟩ | ⟨x, b, hb, hx, hl, hA, hks, hK, hv⟩
  · left
    rw [hK, if_pos (nI_le hx (by omega))]
    exact ⟨by rw [hA]; split <;> rfl, 0, Nat.zero_le _, rfl⟩
  · rw [hK, if_neg (nI_ge hl (by omega)), pk_sub (a := x + c) (b := c) (by omega), nI_add, hks, show x + c - c + c2 = x + c2 by omega]
    have e := lt_eq (t := t) (t0 := x) (c := c2) hx ht hc2
    by_cases q : t - x < c2
    · rw [if_pos (e.mpr q)]; exact Or.inr ⟨x, b, hb, hx, by omega, hA, rfl, rfl, hv⟩
    · rw [if_neg (fun w => q (e.mp w))]; exact Or.inl ⟨rfl, x + c2, by omega, rfl⟩
theorem ca_rel (hR : RelT n t n0 S O V T) (hn : n < 110) {ai ci : Nat} (hai : ai < 2) (hci : ci ≤ 60) : RelQ (n + 1) (c_ddS (va_up S 16 (upd (S 16) ai (nI ci))) ai (V 0) 60) O V (va_up (va_up T 19 (upd (T 19) (4 + ai) (nI ci))) 25 (l_caR (T 25) (T 19 0) (T 19 (4 + ai)) (nI ci) ai 15)) := by
  obtain ⟨h1, h2, h3, ⟨k1, k2, k3, ⟨k, k4, k5, k6⟩, ⟨x, k7, k8, k9⟩⟩, h5⟩ := hR
  obtain ⟨S1, hS1⟩ : ∃ z, z = c_ddS (va_up S 16 (upd (S 16) ai (nI ci))) ai (V 0) 60 := ⟨_, rfl⟩
  have en : ∀ w : Nat, w ≠ 17 → w ≠ 16 → S1 w = S w := fun w hw hw2 => by rw [hS1, c_ddS_ne _ _ _ _ _ hw]; exact if_neg hw2
  have e16 : S1 16 = upd (S 16) ai (nI ci) := by rw [hS1, c_ddS_ne _ _ _ _ _ (by decide)]; rfl
  have e17 : ∀ i : Nat, S1 17 i = if ai * 60 ≤ i ∧ i < ai * 60 + 60 then (if V 0 - S 18 i < nI ci then S 17 i else -1) else S 17 i := by
    intro i
    rw [hS1, dd_pt]
    show (if ai * 60 ≤ i ∧ i < ai * 60 + 60 then (if V 0 - S 18 i < upd (S 16) ai (nI ci) ai then S 17 i else -1) else S 17 i) = _
    rw [pk_us]
  have q19 : ∀ i : Nat, i ≠ 4 + ai → upd (T 19) (4 + ai) (nI ci) i = T 19 i := fun i hi => pk_un hi
  rw [← hS1]
  have hG : RelG S1 (va_up (va_up T 19 (upd (T 19) (4 + ai) (nI ci))) 25 (l_caR (T 25) (T 19 0) (T 19 (4 + ai)) (nI ci) ai 15)) := by
    obtain ⟨g1, g2, g3, g4, g5, g6, g7, g8, g9, g10, g11⟩ := h1
    have r : ∀ g r : Nat, c_roleOf S1 g r = c_roleOf S g r := fun g r => by rw [c_roleOf, c_roleOf, en 9 (by decide) (by decide), en 10 (by decide) (by decide)]
    rw [RelG, en 7 (by decide) (by decide), en 8 (by decide) (by decide), en 9 (by decide) (by decide), en 10 (by decide) (by decide)]
    exact ⟨g1, g2, g3, g4, g5, g6, g7, g8, g9, fun g r' hg hr => (g10 g r' hg hr).trans (r g r').symm, g11⟩
  have hP : RelP S1 (va_up (va_up T 19 (upd (T 19) (4 + ai) (nI ci))) 25 (l_caR (T 25) (T 19 0) (T 19 (4 + ai)) (nI ci) ai 15)) := by
    obtain ⟨p1, p2⟩ := h2
    exact ⟨fun p hp => by rw [en 5 (by decide) (by decide)]; exact p1 p hp, fun p r hp hr => by rw [en 6 (by decide) (by decide)]; exact p2 p r hp hr⟩
  have hS : RelS t n0 S1 O V (va_up (va_up T 19 (upd (T 19) (4 + ai) (nI ci))) 25 (l_caR (T 25) (T 19 0) (T 19 (4 + ai)) (nI ci) ai 15)) := RelS_to h3 (Nat.le_refl _) rfl (q19 1 (by omega)) rfl (en 11 (by decide) (by decide)) (en 12 (by decide) (by decide)) (en 13 (by decide) (by decide)) (en 14 (by decide) (by decide))
  refine ⟨t, n0, hG, hP, hS, ⟨by omega, k2, (q19 0 (by omega)).trans k3, ⟨k, by omega, k5, (q19 2 (by omega)).trans k6⟩, ⟨x, by omega, k8, (q19 3 (by omega)).trans k9⟩⟩, fun a ha => ?_, fun a p r ha hp hr ho => ?_⟩
  · obtain ⟨c1, f1, f2, f3, f4⟩ := h5.1 a ha
    by_cases e : a = ai
    · subst e
      refine ⟨ci, hci, by rw [e16, pk_us], pk_us, fun p r hp hr => ?_⟩
      show Dec t ci (S1 17 (a * 60 + p * 6 + r)) (S1 18 (a * 60 + p * 6 + r)) (l_caR (T 25) (T 19 0) (T 19 (4 + a)) (nI ci) a 15 (15 * a + 3 * p + r)) (T 26 (15 * a + 3 * p + r))
      rw [e17, if_pos (by omega), en 18 (by decide) (by decide), k2, k3, f3, show 15 * a + 3 * p + r = 15 * a + (3 * p + r) by omega, l_caR_at _ _ _ _ _ (show 3 * p + r < 15 by omega), ← show 15 * a + 3 * p + r = 15 * a + (3 * p + r) by omega]
      exact Dec_cache (f4 p r hp hr) (by omega) f1 hci
    · refine ⟨c1, f1, by rw [e16, pk_un e]; exact f2, (q19 (4 + a) (by omega)).trans f3, fun p r hp hr => ?_⟩
      show Dec t c1 (S1 17 (a * 60 + p * 6 + r)) (S1 18 (a * 60 + p * 6 + r)) (l_caR (T 25) (T 19 0) (T 19 (4 + ai)) (nI ci) ai 15 (15 * a + 3 * p + r)) (T 26 (15 * a + 3 * p + r))
      rw [e17, if_neg (by omega), en 18 (by decide) (by decide), l_caR_ge _ _ _ _ _ (by omega)]
      exact f4 p r hp hr
  · have h6 := h5.2 a p r ha hp hr ho
    rw [e17, h6]
    split
    · split <;> rfl
    · rfl
theorem fo_ans (hR : RelT n t n0 S O V T) (hn : n < 110) {ai pi : Nat} (hai : ai < 2) (hpi : pi < 5) : c_daN S ai pi 6 = l_num (l_ke T (15 * ai + 3 * pi)) 3 := by
  obtain ⟨c, c1, c2, c3, c4⟩ := hR.2.2.2.2.1 ai hai
  have ht := hR.2.2.2.1.1
  have off : ∀ j : Nat, 3 ≤ j → j < 6 → (!decide (S 17 (ai * 60 + pi * 6 + j) = -1)) = false := fun j h3 h6 => by rw [hR.2.2.2.2.2 ai pi j hai (by omega) h6 (Or.inr h3)]; rfl
  rw [da_n, cntI_num]
  rw [show l_num (fun j => !decide (S 17 (ai * 60 + pi * 6 + j) = -1)) 6 = l_num (fun j => !decide (S 17 (ai * 60 + pi * 6 + j) = -1)) 3 + bi (!decide (S 17 (ai * 60 + pi * 6 + 3) = -1)) + bi (!decide (S 17 (ai * 60 + pi * 6 + 4) = -1)) + bi (!decide (S 17 (ai * 60 + pi * 6 + 5) = -1)) from rfl, off 3 (by decide) (by decide), off 4 (by decide) (by decide), off 5 (by decide) (by decide), bi_f, Int32.add_zero, Int32.add_zero, Int32.add_zero]
  refine l_num_congr (fun j hj => ?_)
  rw [l_ke, hR.2.2.2.1.2.2.1, Dec_kept (c4 pi j hpi hj) (by omega) c1]
theorem fo_rel (hR : RelT n t n0 S O V T) {ai pi : Nat} (hai : ai < 2) (hpi : pi < 5) : RelQ (n + 1) (c_daS S ai pi 6) O V (va_up T 25 (l_foR (T 25) (15 * ai + 3 * pi) 3)) := by
  obtain ⟨h1, h2, h3, h4, h5⟩ := hR
  obtain ⟨S1, hS1⟩ : ∃ z, z = c_daS S ai pi 6 := ⟨_, rfl⟩
  have en : ∀ w : Nat, w ≠ 17 → S1 w = S w := fun w hw => by rw [hS1]; exact da_ne _ _ _ _ _ hw
  have e17 : ∀ i : Nat, S1 17 i = if ai * 60 + pi * 6 ≤ i ∧ i < ai * 60 + pi * 6 + 6 then -1 else S 17 i := fun i => by rw [hS1, da_pt]
  rw [← hS1]
  have hG : RelG S1 (va_up T 25 (l_foR (T 25) (15 * ai + 3 * pi) 3)) := by
    obtain ⟨g1, g2, g3, g4, g5, g6, g7, g8, g9, g10, g11⟩ := h1
    have r : ∀ g r : Nat, c_roleOf S1 g r = c_roleOf S g r := fun g r => by rw [c_roleOf, c_roleOf, en 9 (by decide), en 10 (by decide)]
    rw [RelG, en 7 (by decide), en 8 (by decide), en 9 (by decide), en 10 (by decide)]
    exact ⟨g1, g2, g3, g4, g5, g6, g7, g8, g9, fun g r' hg hr => (g10 g r' hg hr).trans (r g r').symm, g11⟩
  have hP : RelP S1 (va_up T 25 (l_foR (T 25) (15 * ai + 3 * pi) 3)) := by
    obtain ⟨p1, p2⟩ := h2
    exact ⟨fun p hp => by rw [en 5 (by decide)]; exact p1 p hp, fun p r hp hr => by rw [en 6 (by decide)]; exact p2 p r hp hr⟩
  have hS : RelS t n0 S1 O V (va_up T 25 (l_foR (T 25) (15 * ai + 3 * pi) 3)) := RelS_to h3 (Nat.le_refl _) rfl rfl rfl (en 11 (by decide)) (en 12 (by decide)) (en 13 (by decide)) (en 14 (by decide))
  refine ⟨t, n0, hG, hP, hS, RelK_mono h4, fun a ha => ?_, fun a p r ha hp hr ho => ?_⟩
  · obtain ⟨c1, f1, f2, f3, f4⟩ := h5.1 a ha
    refine ⟨c1, f1, by rw [en 16 (by decide)]; exact f2, f3, fun p r hp hr => ?_⟩
    show Dec t c1 (S1 17 (a * 60 + p * 6 + r)) (S1 18 (a * 60 + p * 6 + r)) (l_foR (T 25) (15 * ai + 3 * pi) 3 (15 * a + 3 * p + r)) (T 26 (15 * a + 3 * p + r))
    rw [e17, en 18 (by decide)]
    by_cases e : a = ai ∧ p = pi
    · rw [if_pos (by omega), e.1, e.2, l_foR_at _ _ hr]
      exact Or.inl ⟨rfl, 0, Nat.zero_le _, rfl⟩
    · rw [if_neg (by omega), l_foR_ge _ _ (by omega)]; exact f4 p r hp hr
  · rw [e17, h5.2 a p r ha hp hr ho]
    split <;> rfl
end QQ6
