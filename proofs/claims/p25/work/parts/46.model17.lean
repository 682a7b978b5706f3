/-! the model: when a lot ends -/
def eiF (v : Nat → Nat → Int32) (lag n q : Nat) : Nat → Nat → Int32
  | 0, _ => -6
  | d + 1, k => if rdI (rdA (psU v lag n q k) q) lag n = true then nI (k + 1) else eiF v lag n q d (k + 1)
section MO
variable {h : evH} {m : evM} {c : Nat} {u : Nat → Nat → Int32}
end MO
