/-! ===== what recording keeps ===== -/
def Zz (e : Nat → Nat) : Prop := ∀ k, 148 ≤ k → e k = 0
def pushU (u : Nat) : Nat := if u < 6 then u + 1 else 6
def pushP (u : Nat) (p : Nat → Nat → Nat) (a : Nat → Nat) : Nat → Nat → Nat := if u < 6 then up p u a else fun i => if i < 5 then p (i + 1) else a
