/-! THE MODEL'S CITY CALL -/
/-- the state at a city's beginning; f: what lies behind it -/
def aNew (τ : CT) (f : Nat → Int32) : Nat → Int32 := fun k => if k = 19 then nI (τ 0 5) else if k = 14 then nI (τ 0 6) else if k < τ 0 1 then nI (τ 4 k) else if k < 20 then 0 else f k
def anZ (f : Nat → Int32) (i : Nat) : Nat → Int32 := fun k => if k < i then 0 else f k
def anL (τ : CT) (f : Nat → Int32) (i : Nat) : Nat → Int32 := fun k => if k < i then nI (τ 4 k) else if k < 20 then 0 else f k
def boZ (f : Nat → Int32) (i : Nat) : Nat → Int32 := fun k => if k < i then 0 else f k
section ANEW
variable {X : XT} {d b L : Nat} {h : HT} {τ : CT} {V : Nat → Nat}
end ANEW
