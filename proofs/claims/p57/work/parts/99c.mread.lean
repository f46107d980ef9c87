/-! LINES, as the model reads them -/
section MREAD
variable {X : XT} {d R L s : Nat} {h : HT} {V : Nat → Nat} {τ : CT}
end MREAD
