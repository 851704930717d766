/-! WHAT THE METHODS RECKON, as functions -/
def mn (x y : Int32) : Int32 := if y < x then y else x
def mx (x y : Int32) : Int32 := if x < y then y else x
def openH (h : Int32) : Int32 := mn (h + 2) 20
def hourS (pw : Int32) (x : Sh) : Sh := (x.1, if pw = 0 then mn (x.2 + 1) 20 else if x.1 ≤ x.2 then mx (x.2 - 2) x.1 else mn (x.2 + 2) x.1)
def draw (to h : Int32) : Int32 := h + (if (to - h) / 2 = 0 then to - h else (to - h) / 2)
def cool (h : Int32) (g : Nat) : Nat := if g = 2 ∧ ¬ h ≤ -4 then 3 else if g = 1 ∧ ¬ -10 < h then 2 else g
def older (x : Pr) : Pr := if x.1 = 2 then x else if x.2.2.2.2.1 + 1 < x.2.2.2.1 then (x.1, x.2.1, x.2.2.1, x.2.2.2.1, x.2.2.2.2.1 + 1, x.2.2.2.2.2) else (5, 6, x.2.2.1, x.2.2.2.1, x.2.2.2.2.1 + 1, x.2.2.2.2.2)
def hourP (to : Int32) (x : Pr) : Pr := if x.2.1 < 6 then older (cool (draw to x.2.2.2.2.2) x.1, x.2.1, x.2.2.1, x.2.2.2.1, x.2.2.2.2.1, draw to x.2.2.2.2.2) else x
def ringP (to : Int32) (x : Pr) : Int32 := if x.2.1 < 6 ∧ x.1 = 2 ∧ ¬ draw to x.2.2.2.2.2 ≤ -4 then 1 else 0
def sumN (f : Nat → Int32) : Nat → Int32
  | 0 => 0
  | k + 1 => sumN f k + f k
