/-! ===== sessions that end, decisions that are dropped ===== -/
def cntI (f : Nat → Bool) : Nat → Int32
  | 0 => 0
  | k + 1 => cntI f k + (if f k = true then 1 else 0)
theorem cntI_congr {f g : Nat → Bool} {n : Nat} (h : ∀ j, j < n → f j = g j) : cntI f n = cntI g n := by
  induction n with
  | zero => rfl
  | succ n ih => rw [cntI, cntI, ih (fun j hj => h j (by omega)), h n (by omega)]
theorem ups {α : Type} (f : Nat → α) (k : Nat) (v : α) (j : Nat) : va_up f k v j = if j = k then v else f j := rfl
theorem ea_pt (S : Nat → Nat → Int32) (O : Nat → Bool) (x : Int32) (n j : Nat) : c_eaO S O x n j = (O j || (decide (j < n) && decide (S 11 j = x))) := by
  induction n with
  | zero => simp [c_eaO]
  | succ n ih =>
    have hn : ∀ (h : c_eaO S O x n n = (O n || (decide (n < n) && decide (S 11 n = x)))), c_eaO S O x n n = O n := by intro h; rw [h]; simp
    have ihn : c_eaO S O x n n = O n ∨ True := Or.inr trivial
    have e : c_eaO S O x n n = O n := by
      clear ihn hn
      have : ∀ m q, m ≤ q → c_eaO S O x m q = O q := by
        intro m
        induction m with
        | zero => intro q _; rfl
        | succ m ihm =>
          intro q hq
          rw [c_eaO]
          split
          · exact ihm q (by omega)
          · split
            · rw [ups, if_neg (by omega)]; exact ihm q (by omega)
            · exact ihm q (by omega)
      exact this n n (Nat.le_refl _)
    rw [c_eaO, e]
    by_cases hj : j = n
    · subst hj
      cases ho : O j
      · by_cases hs : S 11 j = x
        · simp [hs, ups]
        · simp [hs, e, ho]
      · simp [e, ho]
    · have h1 : decide (j < n + 1) = decide (j < n) := decide_eq_decide.mpr (by omega)
      rw [h1, ← ih]
      split
      · rfl
      · split
        · rw [ups, if_neg hj]
        · rfl
theorem ea_n (S : Nat → Nat → Int32) (O : Nat → Bool) (x : Int32) (n : Nat) : c_eaN S O x n = cntI (fun j => !O j && decide (S 11 j = x)) n := by
  induction n with
  | zero => rfl
  | succ n ih =>
    rw [c_eaN, cntI, ih, ea_pt]
    cases ho : O n
    · by_cases hs : S 11 n = x <;> simp [hs]
    · simp
theorem ed_pt (S : Nat → Nat → Int32) (O : Nat → Bool) (V : Nat → Int32) (t : Int32) (n j : Nat) : c_edO S O V t n j = (O j || (decide (j < n) && c_isDue S V j t (S 5 (S 11 j).toNatClampNeg))) := by
  induction n with
  | zero => simp [c_edO]
  | succ n ih =>
    have e : c_edO S O V t n n = O n := by
      have : ∀ m q, m ≤ q → c_edO S O V t m q = O q := by
        intro m
        induction m with
        | zero => intro q _; rfl
        | succ m ihm =>
          intro q hq
          rw [c_edO]
          split
          · exact ihm q (by omega)
          · split
            · rw [ups, if_neg (by omega)]; exact ihm q (by omega)
            · exact ihm q (by omega)
      exact this n n (Nat.le_refl _)
    rw [c_edO, e]
    by_cases hj : j = n
    · subst hj
      cases ho : O j
      · cases hs : c_isDue S V j t (S 5 (S 11 j).toNatClampNeg)
        · simp [e, ho]
        · simp [ups]
      · simp [e, ho]
    · have h1 : decide (j < n + 1) = decide (j < n) := decide_eq_decide.mpr (by omega)
      rw [h1, ← ih]
      split
      · rfl
      · split
        · rw [ups, if_neg hj]
        · rfl
theorem ed_n (S : Nat → Nat → Int32) (O : Nat → Bool) (V : Nat → Int32) (t : Int32) (n : Nat) : c_edN S O V t n = cntI (fun j => !O j && c_isDue S V j t (S 5 (S 11 j).toNatClampNeg)) n := by
  induction n with
  | zero => rfl
  | succ n ih =>
    rw [c_edN, cntI, ih, ed_pt]
    cases ho : O n
    · cases hs : c_isDue S V n t (S 5 (S 11 n).toNatClampNeg) <;> simp
    · simp
/-! decisions -/
theorem nI_half {t b : Nat} (hb : b ≤ 1) (ht : t < 2 ^ 28) : nI (2 * t + b) / 2 = nI t := by
  have h := pk_div (a := 2 * t + b) (d := 2) (by omega) (by omega) (by omega)
  rw [show (2 : Int32) = nI 2 from rfl, h]
  congr 1; omega
theorem nI_ne1 {n : Nat} (h : n < 2 ^ 31) : ¬ nI n = -1 := by
  intro e
  have h2 := congrArg Int32.toInt e
  rw [nI_toInt h, show (-1 : Int32).toInt = -1 by decide] at h2
  omega
theorem lt_eq {t t0 c : Nat} (h : t0 ≤ t) (ht : t < 2 ^ 28) (hc : c ≤ 60) : (nI t - nI t0 < nI c) ↔ t - t0 < c := by
  rw [pk_sub h, nI_ltI (by omega) (by omega)]
/-- dropDue, place by place -/
theorem dd_pt (S : Nat → Nat → Int32) (a : Nat) (t : Int32) (n i : Nat) : c_ddS S a t n 17 i = if a * 60 ≤ i ∧ i < a * 60 + n then (if t - S 18 i < S 16 a then S 17 i else -1) else S 17 i := by
  induction n with
  | zero => rw [c_ddS, if_neg (by omega)]
  | succ n ih =>
    rw [c_ddS, c_ddS_ne _ _ _ _ _ (by decide), c_ddS_ne _ _ _ _ _ (by decide)]
    by_cases hi : i = a * 60 + n
    · subst hi
      rw [if_neg (by omega)] at ih
      by_cases h : t - S 18 (a * 60 + n) < S 16 a
      · rw [if_pos h, ih, if_pos (by omega), if_pos h]
      · rw [if_neg h, if_pos (by omega), if_neg h]; simp [va_up, upd]
    · have h1 : (a * 60 ≤ i ∧ i < a * 60 + (n + 1)) ↔ (a * 60 ≤ i ∧ i < a * 60 + n) := by omega
      have h2 : ∀ x y : Int32, (if a * 60 ≤ i ∧ i < a * 60 + (n + 1) then x else y) = (if a * 60 ≤ i ∧ i < a * 60 + n then x else y) := by
        intro x y
        by_cases h3 : a * 60 ≤ i ∧ i < a * 60 + n
        · rw [if_pos h3, if_pos (h1.mpr h3)]
        · rw [if_neg h3, if_neg (fun q => h3 (h1.mp q))]
      rw [h2, ← ih]
      split
      · rfl
      · simp [va_up, upd, hi]
theorem do_pt (S : Nat → Nat → Int32) (t : Int32) (n a j : Nat) (hn : n ≤ 4) (hj : j < 60) : c_doS S t n 17 (60 * a + j) = if a < n then (if t - S 18 (60 * a + j) < S 16 a then S 17 (60 * a + j) else -1) else S 17 (60 * a + j) := by
  induction n with
  | zero => rw [if_neg (Nat.not_lt_zero a)]; rfl
  | succ n ih =>
    rw [c_doS, dd_pt, c_doS_ne _ _ _ _ (by decide), c_doS_ne _ _ _ _ (by decide), ih (by omega)]
    by_cases e : a = n
    · subst e
      rw [if_pos (show a * 60 ≤ 60 * a + j ∧ 60 * a + j < a * 60 + 60 by omega), if_neg (Nat.lt_irrefl a), if_pos (Nat.lt_succ_self a)]
    · rw [if_neg (show ¬ (n * 60 ≤ 60 * a + j ∧ 60 * a + j < n * 60 + 60) by omega)]
      by_cases h : a < n
      · rw [if_pos h, if_pos (show a < n + 1 by omega)]
      · rw [if_neg h, if_neg (show ¬ a < n + 1 by omega)]
theorem da_ne (S : Nat → Nat → Int32) (a p n w : Nat) (h : w ≠ 17) : c_daS S a p n w = S w := by
  induction n with
  | zero => rfl
  | succ n ih =>
    rw [c_daS]
    split
    · exact ih
    · rw [ups, if_neg h, ih]
theorem da_pt (S : Nat → Nat → Int32) (a p n i : Nat) : c_daS S a p n 17 i = if a * 60 + p * 6 ≤ i ∧ i < a * 60 + p * 6 + n then -1 else S 17 i := by
  induction n generalizing i with
  | zero => rw [c_daS, if_neg (by omega)]
  | succ n ih =>
    have h0 : c_daS S a p n 17 (a * 60 + p * 6 + n) = S 17 (a * 60 + p * 6 + n) := by rw [ih, if_neg (by omega)]
    rw [c_daS]
    by_cases hi : i = a * 60 + p * 6 + n
    · subst hi
      rw [if_pos (by omega : a * 60 + p * 6 ≤ a * 60 + p * 6 + n ∧ a * 60 + p * 6 + n < a * 60 + p * 6 + (n + 1))]
      split
      · next h => exact h
      · simp [va_up, upd]
    · have h1 : (a * 60 + p * 6 ≤ i ∧ i < a * 60 + p * 6 + (n + 1)) ↔ (a * 60 + p * 6 ≤ i ∧ i < a * 60 + p * 6 + n) := by omega
      have h2 : (if a * 60 + p * 6 ≤ i ∧ i < a * 60 + p * 6 + (n + 1) then (-1 : Int32) else S 17 i) = (if a * 60 + p * 6 ≤ i ∧ i < a * 60 + p * 6 + n then -1 else S 17 i) := by
        by_cases h3 : a * 60 + p * 6 ≤ i ∧ i < a * 60 + p * 6 + n
        · rw [if_pos h3, if_pos (h1.mpr h3)]
        · rw [if_neg h3, if_neg (fun q => h3 (h1.mp q))]
      rw [h2, ← ih]
      split
      · rfl
      · simp [va_up, upd, hi]
theorem da_n (S : Nat → Nat → Int32) (a p n : Nat) : c_daN S a p n = cntI (fun j => !decide (S 17 (a * 60 + p * 6 + j) = -1)) n := by
  induction n with
  | zero => rfl
  | succ n ih =>
    have h0 : c_daS S a p n 17 (a * 60 + p * 6 + n) = S 17 (a * 60 + p * 6 + n) := by rw [da_pt, if_neg (by omega)]
    rw [c_daN, cntI, h0, ih]
    by_cases h : S 17 (a * 60 + p * 6 + n) = -1 <;> simp [h]
