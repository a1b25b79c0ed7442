def zIn : Nat → Int := fun k => if k = 13 then -1 else 0
def mnIn (i : Nat) : Nat → Int := fun k => if 1 ≤ k ∧ k < i then -1 else 0
