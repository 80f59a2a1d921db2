/-! ===== the law's answers and the class's are one, and a turn keeps the relation ===== -/
section QQ
variable {n t n0 : Nat} {S : Nat → Nat → Int32} {O : Nat → Bool} {V : Nat → Int32} {T : Nat → Nat → Int32}
end QQ
