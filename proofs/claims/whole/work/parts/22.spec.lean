/-! THE BOTTLES: what both sides compute. A bottle: its six numbers (kind years lying left crumbs warm), STRENGTH, HOLD -/
abbrev Bo : Type := (Nat → Int32) × (Nat → Int32) × (Nat → Int32)
def grS (B : Bo) (l : Nat) : Int32 :=
  if B.1 0 = 2 then wit (B.2.2 l - 3 * B.1 5) 24 + 3 else if B.1 0 = 3 then wit (wit (B.2.2 l - 3 * B.1 5) 24 - 4) 24 else if B.1 0 = 4 then wit (B.2.2 l - 3 * B.1 5) 24 + 4 else if B.1 0 = 5 then wit (B.2.2 l - 3 * B.1 5) 24 / 2 else wit (B.2.2 l - 3 * B.1 5) 24
/-- f i + .. of n of them -/
def sumG (f : Nat → Int32) : Nat → Nat → Int32
  | _, 0 => 0
  | i, n + 1 => f i + sumG f (i + 1) n
def gfS (B : Bo) (l : Nat) : Int32 := sumG (grS B) l (6 - l)
def wrS (k y : Int32) : Int32 := if k = 1 then y + 7 else if k = 2 then 99 - y else if k = 3 then 2 * (y + 7) else if k = 4 then 93 - y else if k = 5 then 3 else y
def strS (hd : Int32 → Int32 → Int32 → Int32) (B : Bo) (l : Nat) : Int32 :=
  if B.1 0 = 1 then hd (B.2.1 l) (B.1 1) (nI l) + 6
  else if B.1 0 = 2 then (if nI l < 3 then wit (hd (B.2.1 l) (B.1 1) (nI l) - 5) 99 else hd (B.2.1 l) (B.1 1) (nI l))
  else if B.1 0 = 3 then (hd (B.2.1 l) (B.1 1) (nI l) + 6) / 2
  else if B.1 0 = 4 then wit ((if nI l < 3 then wit (hd (B.2.1 l) (B.1 1) (nI l) - 5) 99 else hd (B.2.1 l) (B.1 1) (nI l)) - B.1 1 / 20) 99
  else hd (B.2.1 l) (B.1 1) (nI l)
/-- the bottle k of the model's row; the bottle q of the class -/
def mB (S : Nat → Int32) (k : Nat) : Bo := (fun j => S (6 + 18 * k + j), fun j => S (6 + 18 * k + (6 + j)), fun j => S (6 + 18 * k + (12 + j)))
def cB (I : Nat → Nat → Nat → Int32) (q : Nat) : Bo := (fun j => I 0 q (j + 2), I 16 q, I 17 q)
