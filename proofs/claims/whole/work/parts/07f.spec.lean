/-! ===== a part of an array laid over another ===== -/
def cpA (P Q : Nat → Int32) : Nat → Nat → Int32
  | 0 => P
  | k + 1 => upd (cpA P Q k) k (Q k)
