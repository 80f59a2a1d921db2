/-! ===== what the law's own methods work out ===== -/
def l_low (x : Int32) (m : Nat) : Nat := (x.toBitVec.toNat % 2 ^ 31) % m
theorem l_low_eq {x : Int32} {m : Nat} (h0 : 0 < m) (h : m < 2 ^ 31) : (x &&& 2147483647) - (x &&& 2147483647) / nI m * nI m = nI (l_low x m) := by
  rw [pk_and x 31 (by decide)]
  exact pk_rem (Nat.mod_lt _ (by decide)) h0 h
def l_cell (L : Nat) (xs : Nat → Int32) (k : Nat) : Int32 := if k < L then xs k else 52387 * (nI k + 19) + 2008907
def l_rd (T : Nat → Nat → Int32) (w : Int32) : Nat → Int32
  | 0 => w
  | n + 1 => l_rd T w n ||| (if hasB w (nI n) = true then T 20 (4 + n) else 0)
def l_it (T : Nat → Nat → Int32) (w : Int32) : Nat → Int32
  | 0 => w
  | i + 1 => l_rd T (l_it T w i) 4
def l_bf (T : Nat → Nat → Int32) (w : Int32) : Nat → Int32
  | 0 => 0
  | i + 1 => l_it T w i
def l_mem (T : Nat → Nat → Int32) (x : Int32) (p : Nat) : Nat → Bool
  | 0 => false
  | n + 1 => l_mem T x p n || (hasB x (nI n) && hasB (T 20 n) (nI p))
/-- how many n hold -/
def l_num (G : Nat → Bool) : Nat → Int32
  | 0 => 0
  | n + 1 => l_num G n + bi (G n)
/-- a row whose marks are set where G holds -/
def l_upR (T : Nat → Nat → Int32) (G : Nat → Bool) : Nat → (Nat → Int32)
  | 0 => T 24
  | k + 1 => upd (l_upR T G k) (5 * k + 4) (if G k = true then 1 else T 24 (5 * k + 4))
theorem l_upR_ne (T : Nat → Nat → Int32) (G : Nat → Bool) {k i : Nat} (h : ∀ j : Nat, j < k → i ≠ 5 * j + 4) : l_upR T G k i = T 24 i := by
  induction k with
  | zero => rfl
  | succ k ih =>
    rw [l_upR, pk_un (h k (by omega))]
    exact ih (fun j hj => h j (by omega))
theorem l_upR_at (T : Nat → Nat → Int32) (G : Nat → Bool) {k j : Nat} (h : j < k) : l_upR T G k (5 * j + 4) = if G j = true then 1 else T 24 (5 * j + 4) := by
  induction k with
  | zero => omega
  | succ k ih =>
    rw [l_upR]
    by_cases e : j = k
    · subst e; rw [pk_us]
    · rw [pk_un (by omega)]; exact ih (by omega)
def l_what (S T : Nat → Nat → Int32) (p r n : Nat) : Int32 := if hasB (c_allA S (S 7 p) 8) (nI n) = true then T 21 (3 * n + r) else 0
def l_ser (S T : Nat → Nat → Int32) (p r : Nat) : Nat → Bool
  | 0 => false
  | n + 1 => l_ser S T p r n || (decide (T 21 (3 * n + r) = 1) && hasB (c_allA S (S 7 p) 8) (nI n))
def l_key (T : Nat → Nat → Int32) (k : Int32) : Bool := decide (k = T 19 2) || (decide (k + 1 = T 19 2) && !decide (T 19 3 ≤ T 19 0))
def l_en0 (T : Nat → Nat → Int32) (p j : Nat) : Int32 := T 24 (5 * j + 2) + 60 * (4 - T 22 p)
def l_en1 (T : Nat → Nat → Int32) (p j : Nat) : Int32 := if l_en0 T p j ≤ T 24 (5 * j + 3) + 30 then l_en0 T p j else T 24 (5 * j + 3) + 30
def l_goes (T : Nat → Nat → Int32) (j : Nat) : Bool := decide (T 24 (5 * j + 4) = 0) && (decide (l_en1 T (ix (T 24 (5 * j))) j ≤ T 19 0) || !l_key T (T 24 (5 * j + 1)))
def l_cuts (T : Nat → Nat → Int32) (x : Int32) (p j : Nat) : Bool := !decide (x ≤ T 22 p) && (decide (T 24 (5 * j) = nI p) && decide (T 24 (5 * j + 4) = 0))
def l_gp (T : Nat → Nat → Int32) (w : Int32) : Nat → Int32
  | 0 => w
  | n + 1 => l_gp T w n ||| (if hasB (l_gp T w n) (nI (n % 4)) = true then T 20 (4 + n % 4) else 0)
/-- a cache's row when its length goes from x to y -/
def l_caR (K : Nat → Int32) (t x y : Int32) (a : Nat) : Nat → (Nat → Int32)
  | 0 => K
  | i + 1 => upd (l_caR K t x y a i) (15 * a + i) (if K (15 * a + i) ≤ t then 0 else K (15 * a + i) - x + y)
theorem l_caR_ge (K : Nat → Int32) (t x y : Int32) (a : Nat) {n i : Nat} (h : i < 15 * a ∨ 15 * a + n ≤ i) : l_caR K t x y a n i = K i := by
  induction n with
  | zero => rfl
  | succ n ih => rw [l_caR, pk_un (by omega)]; exact ih (by omega)
theorem l_caR_at (K : Nat → Int32) (t x y : Int32) (a : Nat) {n j : Nat} (h : j < n) : l_caR K t x y a n (15 * a + j) = if K (15 * a + j) ≤ t then 0 else K (15 * a + j) - x + y := by
  induction n with
  | zero => omega
  | succ n ih =>
    rw [l_caR]
    by_cases e : j = n
    · subst e; rw [pk_us]
    · rw [pk_un (by omega)]; exact ih (by omega)
def l_foR (K : Nat → Int32) (b : Nat) : Nat → (Nat → Int32)
  | 0 => K
  | i + 1 => upd (l_foR K b i) (b + i) 0
theorem l_foR_ge (K : Nat → Int32) (b : Nat) {n i : Nat} (h : i < b ∨ b + n ≤ i) : l_foR K b n i = K i := by
  induction n with
  | zero => rfl
  | succ n ih => rw [l_foR, pk_un (by omega)]; exact ih (by omega)
theorem l_foR_at (K : Nat → Int32) (b : Nat) {n j : Nat} (h : j < n) : l_foR K b n (b + j) = 0 := by
  induction n with
  | zero => omega
  | succ n ih =>
    rw [l_foR]
    by_cases e : j = n
    · subst e; rw [pk_us]
    · rw [pk_un (by omega)]; exact ih (by omega)
/-! ===== how the class's cells and the law's rows go together, after n turns ===== -/
def lt8 (x : Int32) : Prop := ∀ j : Nat, 8 ≤ j → x.toBitVec.getLsbD j = false
def bt (x : Int32) (j : Nat) : Bool := x.toBitVec.getLsbD j
def RelG (S T : Nat → Nat → Int32) : Prop :=
  (∀ g p : Nat, g < 4 → p < 5 → bt (S 7 p) g = bt (T 20 g) p) ∧ (∀ g p : Nat, 4 ≤ g → p < 5 → bt (S 7 p) g = false) ∧
  (∀ a b : Nat, a < 4 → b < 4 → bt (S 8 b) a = bt (T 20 (4 + a)) b) ∧ (∀ a b : Nat, b < 8 → 4 ≤ a ∨ 4 ≤ b → bt (S 8 b) a = false) ∧
  (∀ a : Nat, a < 4 → ∃ x : Nat, x < 32 ∧ T 20 a = nI x) ∧ (∀ a : Nat, a < 4 → ∃ x : Nat, x < 16 ∧ T 20 (4 + a) = nI x) ∧
  (∀ r : Nat, r < 3 → lt8 (S 9 r)) ∧ (∀ r : Nat, r < 3 → lt8 (S 10 r)) ∧
  (∀ g r : Nat, 4 ≤ g → r < 3 → bt (S 9 r) g = false ∧ bt (S 10 r) g = false) ∧
  (∀ g r : Nat, g < 4 → r < 3 → T 21 (3 * g + r) = c_roleOf S g r) ∧
  (∀ g r : Nat, g < 4 → r < 3 → bt (S 9 r) g = true → bt (S 10 r) g = false)
def RelP (S T : Nat → Nat → Int32) : Prop :=
  (∀ p : Nat, p < 5 → S 5 p = T 22 p ∧ ∃ x : Nat, x ≤ 3 ∧ T 22 p = nI x) ∧ (∀ p r : Nat, p < 5 → r < 3 → S 6 (p * 6 + r) = T 23 (3 * p + r))
def RelS (t n0 : Nat) (S : Nat → Nat → Int32) (O : Nat → Bool) (V : Nat → Int32) (T : Nat → Nat → Int32) : Prop :=
  n0 ≤ 12 ∧ V 1 = nI n0 ∧ T 19 1 = nI n0 ∧
  (∀ j : Nat, j < n0 → (∃ p : Nat, p < 5 ∧ S 11 j = nI p ∧ T 24 (5 * j) = nI p) ∧ T 24 (5 * j + 1) = S 12 j ∧ (∃ x : Nat, x ≤ t ∧ S 13 j = nI x ∧ T 24 (5 * j + 2) = nI x) ∧ (∃ x : Nat, x ≤ t ∧ S 14 j = nI x ∧ T 24 (5 * j + 3) = nI x)) ∧
  (∀ j : Nat, j < 12 → T 24 (5 * j + 4) = bi (O j)) ∧ (∀ j : Nat, n0 ≤ j → j < 12 → O j = false)
def RelK (n t : Nat) (V : Nat → Int32) (T : Nat → Nat → Int32) : Prop :=
  t ≤ 300 * n ∧ V 0 = nI t ∧ T 19 0 = nI t ∧ (∃ k : Nat, k ≤ n ∧ V 2 = nI k ∧ T 19 2 = nI k) ∧ (∃ x : Nat, x ≤ 300 * n + 300 ∧ V 3 = nI x ∧ T 19 3 = nI x)
def Dec (t c : Nat) (A ks K v : Int32) : Prop :=
  (A = -1 ∧ ∃ x : Nat, x ≤ t ∧ K = nI x) ∨ (∃ x b : Nat, b ≤ 1 ∧ x ≤ t ∧ t < x + c ∧ A = nI (1 - b) ∧ ks = nI x ∧ K = nI (x + c) ∧ v = nI b)
def RelC (t : Nat) (S T : Nat → Nat → Int32) : Prop :=
  (∀ a : Nat, a < 2 → ∃ c : Nat, c ≤ 60 ∧ S 16 a = nI c ∧ T 19 (4 + a) = nI c ∧ ∀ p r : Nat, p < 5 → r < 3 → Dec t c (S 17 (a * 60 + p * 6 + r)) (S 18 (a * 60 + p * 6 + r)) (T 25 (15 * a + 3 * p + r)) (T 26 (15 * a + 3 * p + r))) ∧
  (∀ a p r : Nat, a < 2 → p < 10 → r < 6 → 5 ≤ p ∨ 3 ≤ r → S 17 (a * 60 + p * 6 + r) = -1)
def RelT (n t n0 : Nat) (S : Nat → Nat → Int32) (O : Nat → Bool) (V : Nat → Int32) (T : Nat → Nat → Int32) : Prop :=
  RelG S T ∧ RelP S T ∧ RelS t n0 S O V T ∧ RelK n t V T ∧ RelC t S T
def RelQ (n : Nat) (S : Nat → Nat → Int32) (O : Nat → Bool) (V : Nat → Int32) (T : Nat → Nat → Int32) : Prop := ∃ t n0 : Nat, RelT n t n0 S O V T
