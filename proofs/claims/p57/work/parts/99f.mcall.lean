/-! CITY, as the model answers it -/
section MCALL
variable {X : XT} {d b L : Nat} {h : HT} {V : Nat → Nat}
end MCALL
