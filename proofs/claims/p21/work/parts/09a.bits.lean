/-! ===== bits of masks ===== -/
theorem sh_amt : ∀ g : Nat, g < 32 → ((nI g &&& 31).toBitVec.smod 32).toNat = g := by decide +kernel
theorem hasB_bt {x : Int32} {g : Nat} (hg : g < 32) : hasB x (nI g) = bt x g := by
  have h1 : x >>> (nI g &&& 31) &&& 1 = nI ((x >>> (nI g &&& 31)).toBitVec.toNat % 2 ^ 1) := pk_and _ 1 (by decide)
  have h2 : (x >>> (nI g &&& 31)).toBitVec = x.toBitVec.sshiftRight g := by
    rw [Int32.toBitVec_shiftRight, BitVec.sshiftRight_eq', sh_amt g hg]
  have h3 : bt x g = (x.toBitVec.sshiftRight g).getLsbD 0 := by
    rw [bt, BitVec.getLsbD_sshiftRight]
    simp [hg]
  rw [hasB, h1, h2, h3, BitVec.getLsbD, Nat.testBit_zero, Nat.pow_one]
  have h4 : (x.toBitVec.sshiftRight g).toNat % 2 < 2 := Nat.mod_lt _ (by decide)
  have h5 : (nI ((x.toBitVec.sshiftRight g).toNat % 2) = 1) ↔ (x.toBitVec.sshiftRight g).toNat % 2 = 1 := nI_eq (a := (x.toBitVec.sshiftRight g).toNat % 2) (b := 1) (by omega) (by decide)
  exact decide_eq_decide.mpr h5
theorem bt_or (x y : Int32) (j : Nat) : bt (x ||| y) j = (bt x j || bt y j) := by
  rw [bt, Int32.toBitVec_or, BitVec.getLsbD_or]; rfl
theorem bt_and (x y : Int32) (j : Nat) : bt (x &&& y) j = (bt x j && bt y j) := by
  rw [bt, Int32.toBitVec_and, BitVec.getLsbD_and]; rfl
theorem bt_ge (x : Int32) {j : Nat} (h : 32 ≤ j) : bt x j = false := BitVec.getLsbD_of_ge _ _ h
theorem bt_0 (j : Nat) : bt 0 j = false := by
  rw [bt, Int32.toBitVec_zero]; simp
theorem bt_one0 : ∀ g : Nat, g < 32 → ∀ j : Nat, j < 32 → bt (1 <<< (nI g &&& 31)) j = decide (j = g) := by decide +kernel
theorem bt_one {g : Nat} (hg : g < 32) (j : Nat) : bt (1 <<< (nI g &&& 31)) j = decide (j = g) := by
  rcases Nat.lt_or_ge j 32 with h | h
  · exact bt_one0 g hg j h
  · rw [bt_ge _ h]; exact (decide_eq_false (by omega)).symm
theorem bt_none0 : ∀ g : Nat, g < 32 → ∀ j : Nat, j < 32 → bt ((1 <<< (nI g &&& 31)) ^^^ (-1)) j = !decide (j = g) := by decide +kernel
theorem bt_changed (x : Int32) (b : Bool) {g : Nat} (hg : g < 32) (j : Nat) : bt (c_changed x (nI g) b) j = if j = g then b else bt x j := by
  rw [c_changed]
  cases b
  · rw [if_neg (by decide), bt_and]
    rcases Nat.lt_or_ge j 32 with h | h
    · rw [bt_none0 g hg j h]
      by_cases e : j = g <;> simp [e]
    · rw [bt_ge x h, if_neg (by omega)]; rfl
  · rw [if_pos rfl, bt_or, bt_one hg]
    by_cases e : j = g <;> simp [e]
theorem lt8_changed {x : Int32} (b : Bool) {g : Nat} (hg : g < 8) (h : lt8 x) : lt8 (c_changed x (nI g) b) := by
  intro j hj
  have h1 := bt_changed x b (g := g) (by omega) j
  rw [if_neg (by omega)] at h1
  exact h1.trans (h j hj)
theorem lt8_0 : lt8 0 := fun j _ => bt_0 j
theorem and_ne {x y : Int32} (hy : lt8 y) : (x &&& y = 0) ↔ ∀ j : Nat, j < 8 → bt x j = true → bt y j = true → False := by
  constructor
  · intro h j _ h1 h2
    have h3 := bt_and x y j
    rw [h, bt_0, h1, h2] at h3
    cases h3
  · intro h
    apply Int32.toBitVec_inj.mp
    apply BitVec.eq_of_getLsbD_eq
    intro j _
    show bt (x &&& y) j = bt 0 j
    rw [bt_and, bt_0]
    rcases Nat.lt_or_ge j 8 with h8 | h8
    · cases h1 : bt x j
      · rfl
      · cases h2 : bt y j
        · rfl
        · exact (h j h8 h1 h2).elim
    · rw [show bt y j = false from hy j h8, Bool.and_false]
/-! ===== closures of sets of groups ===== -/
def cnt (A : Nat → Bool) : Nat → Nat
  | 0 => 0
  | n + 1 => cnt A n + (if A n = true then 1 else 0)
theorem cnt_le (A : Nat → Bool) (n : Nat) : cnt A n ≤ n := by
  induction n with
  | zero => exact Nat.le_refl _
  | succ n ih => rw [cnt]; split <;> omega
theorem cnt_mono {A B : Nat → Bool} {n : Nat} (h : ∀ j, j < n → A j = true → B j = true) : cnt A n ≤ cnt B n := by
  induction n with
  | zero => exact Nat.le_refl _
  | succ n ih =>
    have h1 := ih (fun j hj => h j (by omega))
    rw [cnt, cnt]
    by_cases ha : A n = true
    · rw [if_pos ha, if_pos (h n (by omega) ha)]; omega
    · rw [if_neg ha]; omega
theorem cnt_lt {A B : Nat → Bool} {n b : Nat} (h : ∀ j, j < n → A j = true → B j = true) (hb : b < n) (h1 : A b = false) (h2 : B b = true) : cnt A n + 1 ≤ cnt B n := by
  induction n with
  | zero => omega
  | succ n ih =>
    rw [cnt, cnt]
    by_cases e : b = n
    · subst e
      have h3 := cnt_mono (A := A) (B := B) (n := b) (fun j hj => h j (by omega))
      rw [if_neg (by rw [h1]; decide), if_pos h2]; omega
    · have h3 := ih (fun j hj => h j (by omega)) (by omega)
      by_cases ha : A n = true
      · rw [if_pos ha, if_pos (h n (by omega) ha)]; omega
      · rw [if_neg ha]; omega
theorem cnt_full {A : Nat → Bool} {n : Nat} (h : n ≤ cnt A n) : ∀ j, j < n → A j = true := by
  induction n with
  | zero => intro j hj; omega
  | succ n ih =>
    rw [cnt] at h
    have h1 := cnt_le A n
    intro j hj
    by_cases ha : A n = true
    · by_cases e : j = n
      · rw [e]; exact ha
      · rw [if_pos ha] at h
        exact ih (by omega) j (by omega)
    · rw [if_neg ha] at h; omega
/-- b is in every set that holds A and is closed under R -/
def Cl (R : Nat → Nat → Prop) (A : Nat → Prop) (b : Nat) : Prop := ∀ C : Nat → Prop, (∀ a, a < 8 → A a → C a) → (∀ a b, a < 8 → b < 8 → C a → R a b → C b) → C b
/-- seven rounds serve: a set that is empty is closed -/
theorem cl_rounds7 (xs : Nat → Int32) (R : Nat → Nat → Prop) (h1 : ∀ i j, j < 8 → bt (xs i) j = true → bt (xs (i + 1)) j = true) (h2 : ∀ i a b, a < 8 → b < 8 → bt (xs i) a = true → R a b → bt (xs (i + 1)) b = true)
    (h3 : ∀ i (C : Nat → Prop), (∀ a, a < 8 → bt (xs i) a = true → C a) → (∀ a b, a < 8 → b < 8 → C a → R a b → C b) → ∀ b, b < 8 → bt (xs (i + 1)) b = true → C b) (b : Nat) (hb : b < 8) : bt (xs 7) b = true ↔ Cl R (fun a => bt (xs 0) a = true) b := by
  have sound : ∀ i (C : Nat → Prop), (∀ a, a < 8 → bt (xs 0) a = true → C a) → (∀ a b, a < 8 → b < 8 → C a → R a b → C b) → ∀ b, b < 8 → bt (xs i) b = true → C b := by
    intro i C hA hC
    induction i with
    | zero => exact hA
    | succ i ih => exact h3 i C ih hC
  have incl : ∀ i a, a < 8 → bt (xs 0) a = true → bt (xs i) a = true := by
    intro i a ha h0
    induction i with
    | zero => exact h0
    | succ i ih => exact h1 i a ha ih
  have prog : ∀ i, (∀ a b, a < 8 → b < 8 → bt (xs i) a = true → R a b → bt (xs i) b = true) ∨ i + 1 ≤ cnt (bt (xs i)) 8 := by
    intro i
    induction i with
    | zero =>
      by_cases he : ∃ a, a < 8 ∧ bt (xs 0) a = true
      · obtain ⟨a, ha, h0⟩ := he
        right
        have := cnt_lt (A := fun _ => false) (B := bt (xs 0)) (n := 8) (fun j _ h => absurd h (by decide)) ha rfl h0
        omega
      · left
        intro a b' ha _ h5 _
        exact absurd ⟨a, ha, h5⟩ he
    | succ i ih =>
      by_cases hc : ∀ a b, a < 8 → b < 8 → bt (xs i) a = true → R a b → bt (xs i) b = true
      · left
        intro a b' ha hb' h5 h6
        have h7 : ∀ q, q < 8 → bt (xs (i + 1)) q = true → bt (xs i) q = true := h3 i (fun q => bt (xs i) q = true) (fun q _ h => h) (fun x y hx hy h h' => hc x y hx hy h h')
        exact h1 i b' hb' (hc a b' ha hb' (h7 a ha h5) h6)
      · right
        rcases ih with ih | ih
        · exact absurd ih hc
        · have ⟨a, b', ha, hb', h5, h6, h7⟩ : ∃ a b', a < 8 ∧ b' < 8 ∧ bt (xs i) a = true ∧ R a b' ∧ bt (xs i) b' = false := by
            apply Classical.byContradiction
            intro hn
            apply hc
            intro a b' ha hb' h5 h6
            cases h7 : bt (xs i) b'
            · exact absurd ⟨a, b', ha, hb', h5, h6, h7⟩ hn
            · rfl
          have := cnt_lt (A := bt (xs i)) (B := bt (xs (i + 1))) (n := 8) (fun j hj => h1 i j hj) hb' h7 (h2 i a b' ha hb' h5 h6)
          omega
  have closed : ∀ a b, a < 8 → b < 8 → bt (xs 7) a = true → R a b → bt (xs 7) b = true := by
    rcases prog 7 with h | h
    · exact h
    · intro a b' _ hb' _ _
      exact cnt_full h b' hb'
  constructor
  · intro h C hA hC
    exact sound 7 C hA hC b hb h
  · intro h
    exact h (fun q => bt (xs 7) q = true) (fun a ha h0 => incl 7 a ha h0) closed
/-- from a set up to g, or from g down to the set -/
theorem cl_dual {R R' : Nat → Nat → Prop} (hR : ∀ a b, a < 8 → b < 8 → (R a b ↔ R' b a)) (A : Nat → Prop) {g : Nat} (hg : g < 8) : Cl R A g ↔ ∃ k, k < 8 ∧ A k ∧ Cl R' (fun a => a = g) k := by
  constructor
  · intro h
    have := h (fun b => b < 8 → ∃ k, k < 8 ∧ A k ∧ Cl R' (fun a => a = b) k) (fun a ha h0 _ => ⟨a, ha, h0, fun C h1 _ => h1 a ha rfl⟩) (fun a b ha hb h0 hr hb8 => by
      obtain ⟨k, hk, h1, h2⟩ := h0 ha
      refine ⟨k, hk, h1, fun C h3 h4 => h2 C (fun q hq e => ?_) h4⟩
      subst e
      exact h4 b q hb hq (h3 b hb rfl) ((hR q b hq hb).mp hr))
    exact this hg
  · rintro ⟨k, hk, h1, h2⟩ C hA hC
    apply Classical.byContradiction
    intro hn
    have h3 := h2 (fun a => ¬ C a) (fun a _ e => by rw [e]; exact hn) (fun a b ha hb h4 hr h5 => h4 (hC b a hb ha h5 ((hR b a hb ha).mpr hr)))
    exact h3 (hA k hk h1)
theorem cl_last {R : Nat → Nat → Prop} {g h : Nat} (hg : g < 8) (hh : h < 8) (hne : h ≠ g) : Cl R (fun a => a = g) h ↔ ∃ k, k < 8 ∧ Cl R (fun a => a = g) k ∧ R k h := by
  constructor
  · intro h0
    have := h0 (fun b => b = g ∨ (b < 8 ∧ ∃ k, k < 8 ∧ Cl R (fun a => a = g) k ∧ R k b)) (fun a _ e => Or.inl e) (fun a b ha hb h1 hr => by
      right
      refine ⟨hb, a, ha, ?_, hr⟩
      rcases h1 with h1 | ⟨-, k, hk, h2, h3⟩
      · intro C h4 _; exact h4 a ha h1
      · intro C h4 h5; exact h5 k a hk ha (h2 C h4 h5) h3)
    rcases this with h1 | ⟨-, h1⟩
    · exact absurd h1 hne
    · exact h1
  · rintro ⟨k, hk, h1, h2⟩ C h3 h4
    exact h4 k h hk hh (h1 C h3 h4) h2
/-- the class's rounds -/
theorem one_bt (S : Nat → Nat → Int32) (x : Int32) (n : Nat) (hn : n ≤ 8) (j : Nat) : bt (c_oneA S x n) j = true ↔ bt x j = true ∨ ∃ h, h < n ∧ bt x h = true ∧ bt (S 8 h) j = true := by
  induction n with
  | zero => exact ⟨fun h => Or.inl h, fun h => h.elim id (fun ⟨h, h1, _⟩ => absurd h1 (by omega))⟩
  | succ n ih =>
    have ih := ih (by omega)
    rw [c_oneA, hasB_bt (by omega)]
    by_cases hb : bt x n = true
    · rw [if_pos hb, bt_or, Bool.or_eq_true, ih]
      constructor
      · rintro ((h | ⟨h, h1, h2⟩) | h)
        · exact Or.inl h
        · exact Or.inr ⟨h, by omega, h2⟩
        · exact Or.inr ⟨n, by omega, hb, h⟩
      · rintro (h | ⟨h, h1, h2, h3⟩)
        · exact Or.inl (Or.inl h)
        · by_cases e : h = n
          · subst e; exact Or.inr h3
          · exact Or.inl (Or.inr ⟨h, by omega, h2, h3⟩)
    · rw [if_neg hb, ih]
      constructor
      · rintro (h | ⟨h, h1, h2⟩)
        · exact Or.inl h
        · exact Or.inr ⟨h, by omega, h2⟩
      · rintro (h | ⟨h, h1, h2, h3⟩)
        · exact Or.inl h
        · refine Or.inr ⟨h, ?_, h2, h3⟩
          rcases Nat.lt_or_ge h n with h4 | h4
          · exact h4
          · rw [show h = n by omega] at h2; exact absurd h2 hb
theorem all_cl (S : Nat → Nat → Int32) (x : Int32) {b : Nat} (hb : b < 8) : bt (c_allA S x 8) b = true ↔ Cl (fun a b => bt (S 8 a) b = true) (fun a => bt x a = true) b := by
  refine cl_rounds7 (fun i => c_allA S x (i + 1)) _ (fun i j _ h => ?_) (fun i a b ha _ h hr => ?_) (fun i C hA hC b hb h => ?_) b hb
  · exact (one_bt S _ 8 (Nat.le_refl _) j).mpr (Or.inl h)
  · exact (one_bt S _ 8 (Nat.le_refl _) b).mpr (Or.inr ⟨a, ha, h, hr⟩)
  · rcases (one_bt S _ 8 (Nat.le_refl _) b).mp h with h | ⟨q, hq, h1, h2⟩
    · exact hA b hb h
    · exact hC q b hq hb (hA q hq h1) h2
/-! ===== the law's closures, over four groups ===== -/
theorem bt16 : ∀ x : Nat, x < 16 → ∀ j : Nat, j < 32 → 4 ≤ j → bt (nI x) j = false := by decide +kernel
theorem bt_lt16 {x j : Nat} (h : x < 16) (hj : 4 ≤ j) : bt (nI x) j = false := by
  rcases Nat.lt_or_ge j 32 with h2 | h2
  · exact bt16 x h j h2 hj
  · exact bt_ge _ h2
theorem bt_ext {x y : Int32} (h : ∀ j : Nat, bt x j = bt y j) : x = y := by
  apply Int32.toBitVec_inj.mp
  apply BitVec.eq_of_getLsbD_eq
  intro j _
  exact h j
/-- group b is a member of group a -/
def lR (T : Nat → Nat → Int32) (a b : Nat) : Prop := a < 4 ∧ bt (T 20 (4 + a)) b = true
def lClosed (T : Nat → Nat → Int32) (x : Int32) : Prop := ∀ a b : Nat, a < 4 → bt x a = true → bt (T 20 (4 + a)) b = true → bt x b = true
theorem lR_lt {T : Nat → Nat → Int32} (hT : ∀ a : Nat, a < 4 → ∃ x : Nat, x < 16 ∧ T 20 (4 + a) = nI x) {a b : Nat} (h : lR T a b) : b < 4 := by
  obtain ⟨ha, hb⟩ := h
  obtain ⟨x, hx, e⟩ := hT a ha
  rcases Nat.lt_or_ge b 4 with h4 | h4
  · exact h4
  · rw [e, bt_lt16 hx h4] at hb; cases hb
theorem rd_bt (T : Nat → Nat → Int32) (x : Int32) (n : Nat) (hn : n ≤ 4) (b : Nat) : bt (l_rd T x n) b = true ↔ bt x b = true ∨ ∃ h, h < n ∧ bt x h = true ∧ bt (T 20 (4 + h)) b = true := by
  induction n with
  | zero => exact ⟨fun h => Or.inl h, fun h => h.elim id (fun ⟨h, h1, _⟩ => absurd h1 (by omega))⟩
  | succ n ih =>
    rw [l_rd, bt_or, Bool.or_eq_true, ih (by omega), hasB_bt (by omega)]
    constructor
    · rintro ((h | ⟨h, h1, h2⟩) | h)
      · exact Or.inl h
      · exact Or.inr ⟨h, by omega, h2⟩
      · by_cases hb : bt x n = true
        · rw [if_pos hb] at h; exact Or.inr ⟨n, by omega, hb, h⟩
        · rw [if_neg hb, bt_0] at h; cases h
    · rintro (h | ⟨h, h1, h2, h3⟩)
      · exact Or.inl (Or.inl h)
      · by_cases e : h = n
        · subst e; rw [if_pos h2]; exact Or.inr h3
        · exact Or.inl (Or.inr ⟨h, by omega, h2, h3⟩)
/-- a set that holds the start, is sound and closed, is the closure -/
theorem cl_is {T : Nat → Nat → Int32} {x : Int32} {g : Nat} (hg : g < 4) (h0 : bt x g = true) (hc : lClosed T x) (hs : ∀ C : Nat → Prop, C g → (∀ a b, a < 8 → b < 8 → C a → lR T a b → C b) → ∀ b, b < 8 → bt x b = true → C b) (b : Nat) (hb : b < 8) : bt x b = true ↔ Cl (lR T) (fun a => a = g) b := by
  constructor
  · intro h C hA hC
    exact hs C (hA g (by omega) rfl) hC b hb h
  · intro h
    exact h (fun q => bt x q = true) (fun a _ e => by subst e; exact h0) (fun a b _ _ h1 h2 => hc a b h2.1 h1 h2.2)
theorem it_in (T : Nat → Nat → Int32) (w : Int32) (i : Nat) {b : Nat} (h : bt w b = true) : bt (l_it T w i) b = true := by
  induction i with
  | zero => exact h
  | succ i ih => exact (rd_bt T _ 4 (Nat.le_refl _) b).mpr (Or.inl ih)
theorem it_sound {T : Nat → Nat → Int32} {w : Int32} {C : Nat → Prop} (h0 : ∀ b, b < 8 → bt w b = true → C b) (hC : ∀ a b, a < 8 → b < 8 → C a → lR T a b → C b) (i : Nat) : ∀ b, b < 8 → bt (l_it T w i) b = true → C b := by
  induction i with
  | zero => exact h0
  | succ i ih =>
    intro b hb h
    rcases (rd_bt T _ 4 (Nat.le_refl _) b).mp h with h | ⟨q, hq, h1, h2⟩
    · exact ih b hb h
    · exact hC q b (by omega) hb (ih q (by omega) h1) ⟨hq, h2⟩
theorem closed_of_fix {T : Nat → Nat → Int32} {x : Int32} (h : x = l_rd T x 4) : lClosed T x := by
  intro a b ha h1 h2
  rw [h]
  exact (rd_bt T x 4 (Nat.le_refl _) b).mpr (Or.inr ⟨a, ha, h1, h2⟩)
theorem fix_of_closed {T : Nat → Nat → Int32} {x : Int32} (h : lClosed T x) : x = l_rd T x 4 := by
  apply bt_ext
  intro j
  apply Bool.eq_iff_iff.mpr
  rw [rd_bt T x 4 (Nat.le_refl _) j]
  constructor
  · exact Or.inl
  · rintro (h1 | ⟨q, hq, h1, h2⟩)
    · exact h1
    · exact h q j hq h1 h2
/-- four rounds close any set that isn't empty -/
theorem cl_prog {T : Nat → Nat → Int32} (hT : ∀ a : Nat, a < 4 → ∃ x : Nat, x < 16 ∧ T 20 (4 + a) = nI x) (xs : Nat → Int32) (h1 : ∀ i j, bt (xs i) j = true → bt (xs (i + 1)) j = true) (h2 : ∀ i a b, a < 4 → bt (xs i) a = true → bt (T 20 (4 + a)) b = true → bt (xs (i + 1)) b = true)
    (h3 : ∀ i, lClosed T (xs i) → ∀ b, bt (xs (i + 1)) b = true → bt (xs i) b = true) {g : Nat} (hg : g < 4) (h0 : bt (xs 0) g = true) : lClosed T (xs 4) := by
  have prog : ∀ i, lClosed T (xs i) ∨ i + 1 ≤ cnt (bt (xs i)) 4 := by
    intro i
    induction i with
    | zero =>
      right
      have := cnt_lt (A := fun _ => false) (B := bt (xs 0)) (n := 4) (fun j _ h => absurd h (by decide)) hg rfl h0
      omega
    | succ i ih =>
      by_cases hc : lClosed T (xs i)
      · left
        intro a b ha h5 h6
        exact h1 i b (hc a b ha (h3 i hc a h5) h6)
      · right
        rcases ih with ih | ih
        · exact absurd ih hc
        · have ⟨a, b, ha, h5, h6, h7⟩ : ∃ a b, a < 4 ∧ bt (xs i) a = true ∧ bt (T 20 (4 + a)) b = true ∧ bt (xs i) b = false := by
            apply Classical.byContradiction
            intro hn
            apply hc
            intro a b ha h5 h6
            cases h7 : bt (xs i) b
            · exact absurd ⟨a, b, ha, h5, h6, h7⟩ hn
            · rfl
          have hb : b < 4 := lR_lt hT ⟨ha, h6⟩
          have := cnt_lt (A := bt (xs i)) (B := bt (xs (i + 1))) (n := 4) (fun j _ => h1 i j) hb h7 (h2 i a b ha h5 h6)
          omega
  rcases prog 4 with h | h
  · exact h
  · have := cnt_le (bt (xs 4)) 4
    omega
theorem bt_w {g : Nat} (hg : g < 4) (b : Nat) : bt (1 <<< (nI g &&& 31)) b = true ↔ b = g := by
  rw [bt_one (by omega), decide_eq_true_iff]
theorem it_closed {T : Nat → Nat → Int32} (hT : ∀ a : Nat, a < 4 → ∃ x : Nat, x < 16 ∧ T 20 (4 + a) = nI x) {g : Nat} (hg : g < 4) : lClosed T (l_it T (1 <<< (nI g &&& 31)) 4) :=
  cl_prog hT (l_it T (1 <<< (nI g &&& 31))) (fun i j h => (rd_bt T _ 4 (Nat.le_refl _) j).mpr (Or.inl h)) (fun i a b ha h h' => (rd_bt T _ 4 (Nat.le_refl _) b).mpr (Or.inr ⟨a, ha, h, h'⟩)) (fun i hc b h => by
    rcases (rd_bt T _ 4 (Nat.le_refl _) b).mp h with h | ⟨q, hq, h1, h2⟩
    · exact h
    · exact hc q b hq h1 h2) hg ((bt_w hg g).mpr rfl)
/-! the sixteen steps of the law's own look for a loop -/
theorem gp_step (T : Nat → Nat → Int32) (w : Int32) (n b : Nat) : bt (l_gp T w (n + 1)) b = true ↔ bt (l_gp T w n) b = true ∨ (bt (l_gp T w n) (n % 4) = true ∧ bt (T 20 (4 + n % 4)) b = true) := by
  rw [l_gp, bt_or, Bool.or_eq_true, hasB_bt (by omega)]
  by_cases hb : bt (l_gp T w n) (n % 4) = true
  · rw [if_pos hb]; simp [hb]
  · rw [if_neg hb, bt_0]; simp [hb]
theorem gp_ge (T : Nat → Nat → Int32) (w : Int32) (n d : Nat) {b : Nat} (h : bt (l_gp T w n) b = true) : bt (l_gp T w (n + d)) b = true := by
  induction d with
  | zero => exact h
  | succ d ih => exact (gp_step T w (n + d) b).mpr (Or.inl ih)
theorem gp_sound {T : Nat → Nat → Int32} {w : Int32} {C : Nat → Prop} (h0 : ∀ b, b < 8 → bt w b = true → C b) (hC : ∀ a b, a < 8 → b < 8 → C a → lR T a b → C b) (i : Nat) : ∀ b, b < 8 → bt (l_gp T w i) b = true → C b := by
  induction i with
  | zero => exact h0
  | succ i ih =>
    intro b hb h
    rcases (gp_step T w i b).mp h with h | ⟨h1, h2⟩
    · exact ih b hb h
    · exact hC (i % 4) b (by omega) hb (ih _ (by omega) h1) ⟨by omega, h2⟩
theorem gp_clo {T : Nat → Nat → Int32} {w : Int32} {n : Nat} (hc : lClosed T (l_gp T w n)) (d : Nat) : ∀ b, bt (l_gp T w (n + d)) b = true → bt (l_gp T w n) b = true := by
  induction d with
  | zero => exact fun _ h => h
  | succ d ih =>
    intro b h
    rcases (gp_step T w (n + d) b).mp h with h | ⟨h1, h2⟩
    · exact ih b h
    · exact hc ((n + d) % 4) b (by omega) (ih _ h1) h2
theorem gp_closed {T : Nat → Nat → Int32} (hT : ∀ a : Nat, a < 4 → ∃ x : Nat, x < 16 ∧ T 20 (4 + a) = nI x) {g : Nat} (hg : g < 4) : lClosed T (l_gp T (1 <<< (nI g &&& 31)) 16) :=
  cl_prog hT (fun i => l_gp T (1 <<< (nI g &&& 31)) (4 * i)) (fun i j h => gp_ge T _ (4 * i) 4 h) (fun i a b ha h h' => by
    have h4 : bt (l_gp T (1 <<< (nI g &&& 31)) (4 * i + a)) a = true := gp_ge T _ (4 * i) a h
    have h5 : bt (l_gp T (1 <<< (nI g &&& 31)) (4 * i + a + 1)) b = true := (gp_step T _ (4 * i + a) b).mpr (Or.inr (by rw [show (4 * i + a) % 4 = a by omega]; exact ⟨h4, h'⟩))
    have h6 := gp_ge T _ (4 * i + a + 1) (3 - a) h5
    rw [show 4 * i + a + 1 + (3 - a) = 4 * (i + 1) by omega] at h6
    exact h6) (fun i hc b h => gp_clo hc 4 b h) hg ((bt_w hg g).mpr rfl)
theorem gp_cl {T : Nat → Nat → Int32} (hT : ∀ a : Nat, a < 4 → ∃ x : Nat, x < 16 ∧ T 20 (4 + a) = nI x) {g b : Nat} (hg : g < 4) (hb : b < 8) : bt (l_gp T (1 <<< (nI g &&& 31)) 16) b = true ↔ Cl (lR T) (fun a => a = g) b :=
  cl_is hg (by have := gp_ge T (1 <<< (nI g &&& 31)) 0 16 ((bt_w hg g).mpr rfl); rwa [Nat.zero_add] at this) (gp_closed hT hg) (fun C h0 hC b hb h => gp_sound (fun b _ h => by rw [(bt_w hg b).mp h]; exact h0) hC 16 b hb h) b hb
/-! the class's groups, in the law's words -/
theorem relR {S T : Nat → Nat → Int32} (hG : RelG S T) : ∀ a b : Nat, a < 8 → b < 8 → (bt (S 8 a) b = true ↔ lR T b a) := by
  intro a b ha hb
  obtain ⟨-, -, g3, g4, -, g6, -⟩ := hG
  by_cases h : b < 4 ∧ a < 4
  · rw [g3 b a h.1 h.2, lR]; exact ⟨fun q => ⟨h.1, q⟩, fun q => q.2⟩
  · have h1 := g4 b a ha (by omega)
    rw [h1]
    constructor
    · intro q; cases q
    · intro q
      have h2 := q.1
      have h3 := lR_lt g6 q
      omega
theorem in_iff {S T : Nat → Nat → Int32} (hG : RelG S T) {g p : Nat} (hg : g < 4) (hp : p < 5) : bt (c_allA S (S 7 p) 8) g = true ↔ ∃ k, k < 4 ∧ Cl (lR T) (fun a => a = g) k ∧ bt (T 20 k) p = true := by
  rw [all_cl S _ (show g < 8 by omega), cl_dual (R' := lR T) (relR hG) _ (show g < 8 by omega)]
  obtain ⟨g1, g2, -⟩ := hG
  constructor
  · rintro ⟨k, hk, h1, h2⟩
    rcases Nat.lt_or_ge k 4 with h4 | h4
    · exact ⟨k, h4, h2, by rw [← g1 k p h4 hp]; exact h1⟩
    · rw [g2 k p h4 hp] at h1; cases h1
  · rintro ⟨k, hk, h1, h2⟩
    exact ⟨k, by omega, by rw [g1 k p hk hp]; exact h2, h1⟩
theorem around_iff {S T : Nat → Nat → Int32} (hG : RelG S T) {g h : Nat} (hg : g < 4) (hh : h < 4) (hne : g ≠ h) : bt (c_allA S (S 8 g) 8) h = true ↔ Cl (lR T) (fun a => a = h) g := by
  rw [all_cl S _ (show h < 8 by omega), cl_dual (R' := lR T) (relR hG) _ (show h < 8 by omega), cl_last (show h < 8 by omega) (show g < 8 by omega) hne]
  constructor
  · rintro ⟨k, hk, h1, h2⟩
    exact ⟨k, hk, h2, (relR hG g k (by omega) hk).mp h1⟩
  · rintro ⟨k, hk, h1, h2⟩
    exact ⟨k, hk, (relR hG g k (by omega) hk).mpr h2, h1⟩
theorem mem_iff (T : Nat → Nat → Int32) (x : Int32) (p n : Nat) (hn : n ≤ 4) (hp : p < 5) : l_mem T x p n = true ↔ ∃ k, k < n ∧ bt x k = true ∧ bt (T 20 k) p = true := by
  induction n with
  | zero => exact ⟨fun h => (by cases h), fun ⟨k, h, _⟩ => absurd h (by omega)⟩
  | succ n ih =>
    rw [l_mem, Bool.or_eq_true, Bool.and_eq_true, ih (by omega), hasB_bt (by omega), hasB_bt (by omega)]
    constructor
    · rintro (⟨k, h, h2⟩ | h)
      · exact ⟨k, by omega, h2⟩
      · exact ⟨n, by omega, h⟩
    · rintro ⟨k, h, h2⟩
      by_cases e : k = n
      · subst e; exact Or.inr h2
      · exact Or.inl ⟨k, by omega, h2⟩
