/-! ===== sessions that end, decisions that are dropped ===== -/
def cntI (f : Nat → Bool) : Nat → Int32
  | 0 => 0
  | k + 1 => cntI f k + (if f k = true then 1 else 0)
theorem cntI_congr {f g : Nat → Bool} {n : Nat} (h : ∀ j, j < n → f j = g j) : cntI f n = cntI g n := by
  induction n with
  | zero => rfl
  | succ n ih => rw [cntI, cntI, ih (fun j hj => h j (by omega)), h n (by omega)]
theorem ups {α : Type} (f : Nat → α) (k : Nat) (v : α) (j : Nat) : va_up f k v j = if j = k then v else f j := rfl
theorem ea_pt (S : Nat → Nat → Int32) (O : Nat → Bool) (x : Int32) (n j : Nat) : c_eaO S O x n j = (O j || (decide (j < n) && decide (S 11 j = x))) := by
  induction n with
  | zero => simp [c_eaO]
  | succ n ih =>
    have hn : ∀ (h : c_eaO S O x n n = (O n || (decide (n < n) && decide (S 11 n = x)))), c_eaO S O x n n = O n := by intro h; rw [h]; simp
    have ihn : c_eaO S O x n n = O n ∨ True := Or.inr trivial
    have e : c_eaO S O x n n = O n := by
      clear ihn hn
      have : ∀ m q, m ≤ q → c_eaO S O x m q = O q := by
        intro m
        induction m with
        | zero => intro q _; rfl
        | succ m ihm =>
          intro q hq
          rw [c_eaO]
          split
          · exact ihm q (by omega)
          · split
            · rw [ups, if_neg (by omega)]; exact ihm q (by omega)
            · exact ihm q (by omega)
      exact this n n (Nat.le_refl _)
    rw [c_eaO, e]
    by_cases hj : j = n
    · subst hj
      cases ho : O j
      · by_cases hs : S 11 j = x
        · simp [hs, ups]
        · simp [hs, e, ho]
      · simp [e, ho]
    · have h1 : decide (j < n + 1) = decide (j < n) := decide_eq_decide.mpr (by omega)
      rw [h1, ← ih]
      split
      · rfl
      · split
        · rw [ups, if_neg hj]
        · rfl
theorem ea_n (S : Nat → Nat → Int32) (O : Nat → Bool) (x : Int32) (n : Nat) : c_eaN S O x n = cntI (fun j => !O j && decide (S 11 j = x)) n := by
  induction n with
  | zero => rfl
  | succ n ih =>
    rw [c_eaN, cntI, ih, ea_pt]
    cases ho : O n
    · by_cases hs : S 11 n = x <;> simp [hs]
    · simp
theorem ed_pt (S : Nat → Nat → Int32) (O : Nat → Bool) (V : Nat → Int32) (t : Int32) (n j : Nat) : c_edO S O V t n j = (O j || (decide (j < n) && c_isDue S V j t (S 5 (S 11 j).toNatClampNeg))) := by
  induction n with
  | zero => simp [c_edO]
  | succ n ih =>
    have e : c_edO S O V t n n = O n := by
      have : ∀ m q, m ≤ q → c_edO S O V t m q = O q := by
        intro m
        induction m with
        | zero => intro q _; rfl
        | succ m ihm =>
          intro q hq
          rw [c_edO]
          split
          · exact ihm q (by omega)
          · split
            · rw [ups, if_neg (by omega)]; exact ihm q (by omega)
            · exact ihm q (by omega)
      exact this n n (Nat.le_refl _)
    rw [c_edO, e]
    by_cases hj : j = n
    · subst hj
      cases ho : O j
      · cases hs : c_isDue S V j t (S 5 (S 11 j).toNatClampNeg)
        · simp [e, ho]
        · simp [ups]
      · simp [e, ho]
    · have h1 : decide (j < n + 1) = decide (j < n) := decide_eq_decide.mpr (by omega)
      rw [h1, ← ih]
      split
      · rfl
      · split
        · rw [ups, if_neg hj]
        · rfl
theorem ed_n (S : Nat → Nat → Int32) (O : Nat → Bool) (V : Nat → Int32) (t : Int32) (n : Nat) : c_edN S O V t n = cntI (fun j => !O j && c_isDue S V j t (S 5 (S 11 j).toNatClampNeg)) n := by
  induction n with
  | zero => rfl
  | succ n ih =>
    rw [c_edN, cntI, ih, ed_pt]
    cases ho : O n
    · cases hs : c_isDue S V n t (S 5 (S 11 n).toNatClampNeg) <;> simp
    · simp
theorem sr_pt (S : Nat → Nat → Int32) (O : Nat → Bool) (x y : Int32) (n j : Nat) : m_srO S O x y n j = (O j || (decide (j < n) && m_srG S x y j)) := by
  induction n with
  | zero => simp [m_srO]
  | succ n ih =>
    have e : m_srO S O x y n n = O n := by
      have : ∀ m q, m ≤ q → m_srO S O x y m q = O q := by
        intro m
        induction m with
        | zero => intro q _; rfl
        | succ m ihm => intro q hq; rw [m_srO, ups, if_neg (by omega)]; exact ihm q (by omega)
      exact this n n (Nat.le_refl _)
    rw [m_srO, ups]
    by_cases hj : j = n
    · subst hj; rw [if_pos rfl, e]; simp
    · have h1 : decide (j < n + 1) = decide (j < n) := decide_eq_decide.mpr (by omega)
      rw [if_neg hj, h1, ih]
theorem sr_n (S : Nat → Nat → Int32) (O : Nat → Bool) (x y : Int32) (n : Nat) : m_srN S O x y n = cntI (fun j => !O j && m_srG S x y j) n := by
  induction n with
  | zero => rfl
  | succ n ih =>
    rw [m_srN, cntI, ih, sr_pt]
    cases ho : O n
    · cases hs : m_srG S x y n <;> simp
    · simp
theorem sw_pt (S : Nat → Nat → Int32) (O : Nat → Bool) (V : Nat → Int32) (n j : Nat) : m_swO S O V n j = (O j || (decide (j < n) && m_ends S V j)) := by
  induction n with
  | zero => simp [m_swO]
  | succ n ih =>
    have e : m_swO S O V n n = O n := by
      have : ∀ m q, m ≤ q → m_swO S O V m q = O q := by
        intro m
        induction m with
        | zero => intro q _; rfl
        | succ m ihm => intro q hq; rw [m_swO, ups, if_neg (by omega)]; exact ihm q (by omega)
      exact this n n (Nat.le_refl _)
    rw [m_swO, ups]
    by_cases hj : j = n
    · subst hj; rw [if_pos rfl, e]; simp
    · have h1 : decide (j < n + 1) = decide (j < n) := decide_eq_decide.mpr (by omega)
      rw [if_neg hj, h1, ih]
theorem sw_n (S : Nat → Nat → Int32) (O : Nat → Bool) (V : Nat → Int32) (n : Nat) : m_swN S O V n = cntI (fun j => !O j && m_ends S V j) n := by
  induction n with
  | zero => rfl
  | succ n ih =>
    rw [m_swN, cntI, ih, sw_pt]
    cases ho : O n
    · cases hs : m_ends S V n <;> simp
    · simp
/-- what ends a session is the same on both sides -/
theorem due_eq {S T : Nat → Nat → Int32} {V U : Nat → Int32} {j n0 : Nat} (hP : RelP S T) (hj : j < n0) (hn : n0 ≤ 30) (hpe : ∀ j : Nat, j < n0 → vp_in (S 11 j) 10) (hrow : S 11 j = T 6 j ∧ S 12 j = T 7 j ∧ S 13 j = T 8 j ∧ S 14 j = T 9 j) (h2 : V 2 = U 3) (h3 : V 3 = U 4) {t : Int32} (ht : t = U 1) : c_isDue S V j t (S 5 (S 11 j).toNatClampNeg) = m_ends T U j := by
  obtain ⟨p, hp, ep⟩ := vp_in_of (hpe j hj) (by decide)
  obtain ⟨r1, r2, r3, r4⟩ := hrow
  have e1 : S 5 (S 11 j).toNatClampNeg = T 4 (T 6 j).toNatClampNeg := by
    rw [← r1, ep, nI_clamp (by omega)]; exact (hP.1 p hp).1
  rw [c_isDue, m_ends, e1, r2, r3, r4, ht, c_takes, m_isKey, h2, h3]
/-! decisions -/
theorem nI_half {t b : Nat} (hb : b ≤ 1) (ht : t < 2 ^ 28) : nI (2 * t + b) / 2 = nI t := by
  have h := pk_div (a := 2 * t + b) (d := 2) (by omega) (by omega) (by omega)
  rw [show (2 : Int32) = nI 2 from rfl, h]
  congr 1; omega
theorem nI_ne1 {n : Nat} (h : n < 2 ^ 31) : ¬ nI n = -1 := by
  intro e
  have h2 := congrArg Int32.toInt e
  rw [nI_toInt h, show (-1 : Int32).toInt = -1 by decide] at h2
  omega
theorem lt_eq {t t0 c : Nat} (h : t0 ≤ t) (ht : t < 2 ^ 28) (hc : c ≤ 60) : (nI t - nI t0 < nI c) ↔ t - t0 < c := by
  rw [pk_sub h, nI_ltI (by omega) (by omega)]
theorem keeps_eq {T : Nat → Nat → Int32} {U : Nat → Int32} {a i t c t0 b : Nat} (hU : U 1 = nI t) (hc : T 11 a = nI c) (hK : T 12 i = nI (2 * t0 + b)) (hb : b ≤ 1) (h : t0 ≤ t) (ht : t < 2 ^ 28) (hc6 : c ≤ 60) : m_keeps T U a i = decide (t - t0 < c) := by
  rw [m_keeps, hK, hU, hc, nI_half hb (by omega), decide_eq_false (nI_ne1 (by omega)), pk_sub h]
  have h1 : (nI c ≤ nI (t - t0)) ↔ c ≤ t - t0 := nI_leI (by omega) (by omega)
  by_cases h2 : t - t0 < c
  · rw [decide_eq_false (by rw [h1]; omega), decide_eq_true h2]; rfl
  · rw [decide_eq_true (by rw [h1]; omega), decide_eq_false h2]; rfl
theorem keeps_none {T : Nat → Nat → Int32} {U : Nat → Int32} {a i : Nat} (hK : T 12 i = -1) : m_keeps T U a i = false := by
  rw [m_keeps, hK]; simp
/-- kept by the class just where kept by the reference -/
theorem dec_keeps {S T : Nat → Nat → Int32} {U : Nat → Int32} {a i t c : Nat} (hU : U 1 = nI t) (hc : T 11 a = nI c) (ht : t < 2 ^ 28) (hc6 : c ≤ 60) (h : Dec t c (S 17 i) (T 12 i) (S 18 i)) : (S 17 i = -1 ∧ m_keeps T U a i = false) ∨ (∃ t' b : Nat, b ≤ 1 ∧ t' ≤ t ∧ S 17 i = nI (1 - b) ∧ ¬ S 17 i = -1 ∧ T 12 i = nI (2 * t' + b) ∧ t - t' < c ∧ m_keeps T U a i = true) := by
  rcases h with ⟨hA, hK⟩ | ⟨t', b, hb, h1, hA, -, hK, h2⟩
  · left
    refine ⟨hA, ?_⟩
    rcases hK with hK | ⟨t', b, hb, h1, hK, h2⟩
    · exact keeps_none hK
    · rw [keeps_eq hU hc hK hb h1 ht hc6]; exact decide_eq_false (by omega)
  · right
    exact ⟨t', b, hb, h1, hA, by rw [hA]; exact nI_ne1 (by omega), hK, h2, by rw [keeps_eq hU hc hK hb h1 ht hc6]; exact decide_eq_true h2⟩
/-- minutes pass, or a cache changes: the class drops at once -/
theorem dec_drop {t t2 c c2 : Nat} {A K K2 ks : Int32} (h : Dec t c A K ks) (h12 : t ≤ t2) (ht : t2 < 2 ^ 28) (hc6 : c2 ≤ 60) (hK2 : K2 = K ∨ (K2 = -1 ∧ (∀ t' b : Nat, b ≤ 1 → t' ≤ t → K = nI (2 * t' + b) → c ≤ t - t' ∨ c2 ≤ t2 - t'))) (hc2 : c2 = c ∨ (K2 = -1 ∨ ∃ t' b : Nat, b ≤ 1 ∧ t' ≤ t ∧ K = nI (2 * t' + b) ∧ K2 = K ∧ t - t' < c)) : Dec t2 c2 (if nI t2 - ks < nI c2 then A else -1) K2 ks := by
  rcases h with ⟨hA, hK⟩ | ⟨t', b, hb, h1, hA, hks, hK, h2⟩
  · have e : (if nI t2 - ks < nI c2 then A else -1) = -1 := by rw [hA]; split <;> rfl
    rw [e]
    left
    refine ⟨rfl, ?_⟩
    rcases hK2 with hK2 | ⟨hK2, -⟩
    · rcases hK with hK | ⟨t', b, hb, h1, hK, h2⟩
      · exact Or.inl (hK2.trans hK)
      · rcases hc2 with hc2 | hc2 | ⟨t3, b3, hb3, h3, hK3, -, h4⟩
        · exact Or.inr ⟨t', b, hb, by omega, hK2.trans hK, by omega⟩
        · exact Or.inl hc2
        · have h5 : 2 * t' + b = 2 * t3 + b3 := (nI_eq (by omega) (by omega)).mp (hK.symm.trans hK3)
          have : t' = t3 := by omega
          subst this
          omega
    · exact Or.inl hK2
  · rw [hks]
    have hl := lt_eq (t := t2) (t0 := t') (c := c2) (by omega) ht hc6
    by_cases h3 : t2 - t' < c2
    · rw [if_pos (hl.mpr h3)]
      rcases hK2 with hK2 | ⟨hK2, h4⟩
      · exact Or.inr ⟨t', b, hb, by omega, hA, rfl, hK2.trans hK, h3⟩
      · have := h4 t' b hb h1 hK
        omega
    · rw [if_neg (fun q => h3 (hl.mp q))]
      left
      refine ⟨rfl, ?_⟩
      rcases hK2 with hK2 | ⟨hK2, -⟩
      · exact Or.inr ⟨t', b, hb, by omega, hK2.trans hK, by omega⟩
      · exact Or.inl hK2
/-- dropDue, place by place -/
theorem dd_pt (S : Nat → Nat → Int32) (a : Nat) (t : Int32) (n i : Nat) : c_ddS S a t n 17 i = if a * 60 ≤ i ∧ i < a * 60 + n then (if t - S 18 i < S 16 a then S 17 i else -1) else S 17 i := by
  induction n with
  | zero => rw [c_ddS, if_neg (by omega)]
  | succ n ih =>
    rw [c_ddS, c_ddS_ne _ _ _ _ _ (by decide), c_ddS_ne _ _ _ _ _ (by decide)]
    by_cases hi : i = a * 60 + n
    · subst hi
      rw [if_neg (by omega)] at ih
      by_cases h : t - S 18 (a * 60 + n) < S 16 a
      · rw [if_pos h, ih, if_pos (by omega), if_pos h]
      · rw [if_neg h, if_pos (by omega), if_neg h]; simp [va_up, upd]
    · have h1 : (a * 60 ≤ i ∧ i < a * 60 + (n + 1)) ↔ (a * 60 ≤ i ∧ i < a * 60 + n) := by omega
      have h2 : ∀ x y : Int32, (if a * 60 ≤ i ∧ i < a * 60 + (n + 1) then x else y) = (if a * 60 ≤ i ∧ i < a * 60 + n then x else y) := by
        intro x y
        by_cases h3 : a * 60 ≤ i ∧ i < a * 60 + n
        · rw [if_pos h3, if_pos (h1.mpr h3)]
        · rw [if_neg h3, if_neg (fun q => h3 (h1.mp q))]
      rw [h2, ← ih]
      split
      · rfl
      · simp [va_up, upd, hi]
theorem do_pt (S : Nat → Nat → Int32) (t : Int32) (n a j : Nat) (hn : n ≤ 4) (hj : j < 60) : c_doS S t n 17 (60 * a + j) = if a < n then (if t - S 18 (60 * a + j) < S 16 a then S 17 (60 * a + j) else -1) else S 17 (60 * a + j) := by
  induction n with
  | zero => rw [if_neg (Nat.not_lt_zero a)]; rfl
  | succ n ih =>
    rw [c_doS, dd_pt, c_doS_ne _ _ _ _ (by decide), c_doS_ne _ _ _ _ (by decide), ih (by omega)]
    by_cases e : a = n
    · subst e
      rw [if_pos (show a * 60 ≤ 60 * a + j ∧ 60 * a + j < a * 60 + 60 by omega), if_neg (Nat.lt_irrefl a), if_pos (Nat.lt_succ_self a)]
    · rw [if_neg (show ¬ (n * 60 ≤ 60 * a + j ∧ 60 * a + j < n * 60 + 60) by omega)]
      by_cases h : a < n
      · rw [if_pos h, if_pos (show a < n + 1 by omega)]
      · rw [if_neg h, if_neg (show ¬ a < n + 1 by omega)]
theorem dr_ne (T : Nat → Nat → Int32) (U : Nat → Int32) (a n w : Nat) (h : w ≠ 12) : m_drS T U a n w = T w := by
  induction n with
  | zero => rfl
  | succ n ih => rw [m_drS, ups, if_neg h, ih]
theorem keeps_congr {T T' : Nat → Nat → Int32} {U : Nat → Int32} {a i : Nat} (h1 : T' 11 a = T 11 a) (h2 : T' 12 i = T 12 i) : m_keeps T' U a i = m_keeps T U a i := by rw [m_keeps, m_keeps, h1, h2]
theorem dr_pt (T : Nat → Nat → Int32) (U : Nat → Int32) (a n i : Nat) : m_drS T U a n 12 i = if 60 * a ≤ i ∧ i < 60 * a + n then (if m_keeps T U a i = true then T 12 i else -1) else T 12 i := by
  induction n generalizing i with
  | zero => rw [m_drS, if_neg (by omega)]
  | succ n ih =>
    rw [m_drS, ups, if_pos rfl]
    have h0 : m_drS T U a n 12 (60 * a + n) = T 12 (60 * a + n) := by rw [ih, if_neg (by omega)]
    have hk : m_keeps (m_drS T U a n) U a (60 * a + n) = m_keeps T U a (60 * a + n) := keeps_congr (by rw [dr_ne _ _ _ _ _ (by decide)]) h0
    by_cases hi : i = 60 * a + n
    · subst hi
      rw [if_pos (show 60 * a ≤ 60 * a + n ∧ 60 * a + n < 60 * a + (n + 1) by omega)]
      simp only [upd, if_pos]
      rw [hk, h0]
    · have h1 : (60 * a ≤ i ∧ i < 60 * a + (n + 1)) ↔ (60 * a ≤ i ∧ i < 60 * a + n) := by omega
      simp only [upd, if_neg hi]
      rw [ih]
      by_cases h3 : 60 * a ≤ i ∧ i < 60 * a + n
      · rw [if_pos h3, if_pos (h1.mpr h3)]
      · rw [if_neg h3, if_neg (fun q => h3 (h1.mp q))]
theorem da_ne (S : Nat → Nat → Int32) (a p n w : Nat) (h : w ≠ 17) : c_daS S a p n w = S w := by
  induction n with
  | zero => rfl
  | succ n ih =>
    rw [c_daS]
    split
    · exact ih
    · rw [ups, if_neg h, ih]
theorem da_pt (S : Nat → Nat → Int32) (a p n i : Nat) : c_daS S a p n 17 i = if a * 60 + p * 6 ≤ i ∧ i < a * 60 + p * 6 + n then -1 else S 17 i := by
  induction n generalizing i with
  | zero => rw [c_daS, if_neg (by omega)]
  | succ n ih =>
    have h0 : c_daS S a p n 17 (a * 60 + p * 6 + n) = S 17 (a * 60 + p * 6 + n) := by rw [ih, if_neg (by omega)]
    rw [c_daS]
    by_cases hi : i = a * 60 + p * 6 + n
    · subst hi
      rw [if_pos (by omega : a * 60 + p * 6 ≤ a * 60 + p * 6 + n ∧ a * 60 + p * 6 + n < a * 60 + p * 6 + (n + 1))]
      split
      · next h => exact h
      · simp [va_up, upd]
    · have h1 : (a * 60 + p * 6 ≤ i ∧ i < a * 60 + p * 6 + (n + 1)) ↔ (a * 60 + p * 6 ≤ i ∧ i < a * 60 + p * 6 + n) := by omega
      have h2 : (if a * 60 + p * 6 ≤ i ∧ i < a * 60 + p * 6 + (n + 1) then (-1 : Int32) else S 17 i) = (if a * 60 + p * 6 ≤ i ∧ i < a * 60 + p * 6 + n then -1 else S 17 i) := by
        by_cases h3 : a * 60 + p * 6 ≤ i ∧ i < a * 60 + p * 6 + n
        · rw [if_pos h3, if_pos (h1.mpr h3)]
        · rw [if_neg h3, if_neg (fun q => h3 (h1.mp q))]
      rw [h2, ← ih]
      split
      · rfl
      · simp [va_up, upd, hi]
theorem da_n (S : Nat → Nat → Int32) (a p n : Nat) : c_daN S a p n = cntI (fun j => !decide (S 17 (a * 60 + p * 6 + j) = -1)) n := by
  induction n with
  | zero => rfl
  | succ n ih =>
    have h0 : c_daS S a p n 17 (a * 60 + p * 6 + n) = S 17 (a * 60 + p * 6 + n) := by rw [da_pt, if_neg (by omega)]
    rw [c_daN, cntI, h0, ih]
    by_cases h : S 17 (a * 60 + p * 6 + n) = -1 <;> simp [h]
theorem fo_ne (T : Nat → Nat → Int32) (a p n w : Nat) (h : w ≠ 12) : m_foS T a p n w = T w := by
  induction n with
  | zero => rfl
  | succ n ih => rw [m_foS, ups, if_neg h, ih]
theorem fo_pt (T : Nat → Nat → Int32) (a p n i : Nat) : m_foS T a p n 12 i = if 60 * a + 6 * p ≤ i ∧ i < 60 * a + 6 * p + n then -1 else T 12 i := by
  induction n generalizing i with
  | zero => rw [m_foS, if_neg (by omega)]
  | succ n ih =>
    rw [m_foS, ups, if_pos rfl]
    by_cases hi : i = 60 * a + 6 * p + n
    · subst hi
      rw [if_pos (show 60 * a + 6 * p ≤ 60 * a + 6 * p + n ∧ 60 * a + 6 * p + n < 60 * a + 6 * p + (n + 1) by omega)]; simp [upd]
    · have h1 : (60 * a + 6 * p ≤ i ∧ i < 60 * a + 6 * p + (n + 1)) ↔ (60 * a + 6 * p ≤ i ∧ i < 60 * a + 6 * p + n) := by omega
      simp only [upd, if_neg hi]
      rw [ih]
      by_cases h3 : 60 * a + 6 * p ≤ i ∧ i < 60 * a + 6 * p + n
      · rw [if_pos h3, if_pos (h1.mpr h3)]
      · rw [if_neg h3, if_neg (fun q => h3 (h1.mp q))]
theorem fo_n (T : Nat → Nat → Int32) (U : Nat → Int32) (a p n : Nat) : m_foN T U a p n = cntI (fun j => m_keeps T U a (60 * a + 6 * p + j)) n := by
  induction n with
  | zero => rfl
  | succ n ih =>
    rw [m_foN, cntI, ih, keeps_congr (T := T) (by rw [fo_ne _ _ _ _ _ (by decide)]) (by rw [fo_pt, if_neg (by omega)])]
