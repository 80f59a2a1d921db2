/-! ===== what the class's methods work out, in numbers ===== -/
def hasB (x g : Int32) : Bool := decide (x >>> (g &&& 31) &&& 1 = 1)
def c_changed (x g : Int32) (b : Bool) : Int32 := if b = true then x ||| (1 <<< (g &&& 31)) else x &&& ((1 <<< (g &&& 31)) ^^^ (-1))
def c_oneA (S : Nat → Nat → Int32) (x : Int32) : Nat → Int32
  | 0 => x
  | k + 1 => if hasB x (nI k) = true then c_oneA S x k ||| S 8 k else c_oneA S x k
def c_allA (S : Nat → Nat → Int32) (x : Int32) : Nat → Int32
  | 0 => x
  | 1 => x
  | k + 2 => c_oneA S (c_allA S x (k + 1)) 8
def c_any (S : Nat → Nat → Int32) (w pi ri : Nat) : Bool := !decide (c_allA S (S 7 pi) 8 &&& S w ri = 0)
def c_roleOf (S : Nat → Nat → Int32) (gi ri : Nat) : Int32 := if hasB (S 9 ri) (nI gi) = true then 1 else if hasB (S 10 ri) (nI gi) = true then 2 else 0
def c_takes (V : Nat → Int32) (k t : Int32) : Bool := decide (k = V 2) || (decide (k = V 2 - 1) && !decide (V 3 ≤ t))
def c_has (V : Nat → Int32) (x : Int32) : Bool := !decide (x < 0) && !decide (V 1 ≤ x)
def c_isDue (S : Nat → Nat → Int32) (V : Nat → Int32) (si : Nat) (t r : Int32) : Bool := decide (30 ≤ t - S 14 si) || (decide (240 - 60 * r ≤ t - S 13 si) || !c_takes V (S 12 si) t)
def c_eaO (S : Nat → Nat → Int32) (O : Nat → Bool) (x : Int32) : Nat → (Nat → Bool)
  | 0 => O
  | k + 1 => if c_eaO S O x k k = true then c_eaO S O x k else if S 11 k = x then va_up (c_eaO S O x k) k true else c_eaO S O x k
def c_eaN (S : Nat → Nat → Int32) (O : Nat → Bool) (x : Int32) : Nat → Int32
  | 0 => 0
  | k + 1 => if c_eaO S O x k k = true then c_eaN S O x k else if S 11 k = x then c_eaN S O x k + 1 else c_eaN S O x k
def c_edO (S : Nat → Nat → Int32) (O : Nat → Bool) (V : Nat → Int32) (t : Int32) : Nat → (Nat → Bool)
  | 0 => O
  | k + 1 => if c_edO S O V t k k = true then c_edO S O V t k else if c_isDue S V k t (S 5 (S 11 k).toNatClampNeg) = true then va_up (c_edO S O V t k) k true else c_edO S O V t k
def c_edN (S : Nat → Nat → Int32) (O : Nat → Bool) (V : Nat → Int32) (t : Int32) : Nat → Int32
  | 0 => 0
  | k + 1 => if c_edO S O V t k k = true then c_edN S O V t k else if c_isDue S V k t (S 5 (S 11 k).toNatClampNeg) = true then c_edN S O V t k + 1 else c_edN S O V t k
def c_keep (S : Nat → Nat → Int32) (ai pi ri : Nat) (x t : Int32) : Nat → Nat → Int32 := if S 16 ai = 0 then S else va_up (va_up S 17 (upd (S 17) (ai * 60 + pi * 6 + ri) x)) 18 (upd (S 18) (ai * 60 + pi * 6 + ri) t)
def c_daS (S : Nat → Nat → Int32) (ai pi : Nat) : Nat → (Nat → Nat → Int32)
  | 0 => S
  | k + 1 => if c_daS S ai pi k 17 (ai * 60 + pi * 6 + k) = -1 then c_daS S ai pi k else va_up (c_daS S ai pi k) 17 (upd (c_daS S ai pi k 17) (ai * 60 + pi * 6 + k) (-1))
def c_daN (S : Nat → Nat → Int32) (ai pi : Nat) : Nat → Int32
  | 0 => 0
  | k + 1 => if c_daS S ai pi k 17 (ai * 60 + pi * 6 + k) = -1 then c_daN S ai pi k else c_daN S ai pi k + 1
def c_ddS (S : Nat → Nat → Int32) (ai : Nat) (t : Int32) : Nat → (Nat → Nat → Int32)
  | 0 => S
  | k + 1 => if t - c_ddS S ai t k 18 (ai * 60 + k) < c_ddS S ai t k 16 ai then c_ddS S ai t k else va_up (c_ddS S ai t k) 17 (upd (c_ddS S ai t k 17) (ai * 60 + k) (-1))
def c_doS (S : Nat → Nat → Int32) (t : Int32) : Nat → (Nat → Nat → Int32)
  | 0 => S
  | k + 1 => c_ddS (c_doS S t k) k t 60
def c_out (x n : Int32) : Bool := decide (x < 0) || !decide (x < n)
def c_serves (S : Nat → Nat → Int32) (pi ri : Nat) : Bool := !decide (S 5 pi = 3) && c_any S 9 pi ri
def c_lets (S : Nat → Nat → Int32) (V : Nat → Int32) (pi ri : Nat) : Bool := !decide (S 5 pi = 3) && ((c_any S 9 pi ri && !c_any S 10 pi ri) || !decide (S 6 (pi * 6 + ri) ≤ V 0))
def c_house (S : Nat → Nat → Int32) (V : Nat → Int32) (pi ri : Nat) : Int32 := if c_lets S V pi ri = true then 0 else 1
def c_appR (S : Nat → Nat → Int32) (V : Nat → Int32) (ai pi ri : Nat) : Int32 := if S 17 (ai * 60 + pi * 6 + ri) = -1 then c_house S V pi ri else S 17 (ai * 60 + pi * 6 + ri)
def c_appS (S : Nat → Nat → Int32) (V : Nat → Int32) (ai pi ri : Nat) : Nat → Nat → Int32 := if S 17 (ai * 60 + pi * 6 + ri) = -1 then c_keep S ai pi ri (c_house S V pi ri) (V 0) else S
def c_stale1 (S : Nat → Nat → Int32) (V : Nat → Int32) (ai pi ri : Nat) : Bool := !decide (S 17 (ai * 60 + pi * 6 + ri) = -1) && !decide (S 17 (ai * 60 + pi * 6 + ri) = c_house S V pi ri)
abbrev ix (x : Int32) : Nat := x.toNatClampNeg
theorem ix_of {x : Int32} {j : Nat} (h : x = nI j) (hj : j < 2 ^ 31) : ix x = j := by rw [h]; exact nI_clamp hj
