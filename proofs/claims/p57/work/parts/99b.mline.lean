/-! A LINE, as the model reads it -/
section MLINE
variable {X : XT} {d R L s : Nat} {h : HT} {V : Nat → Nat} {τ : CT}
end MLINE
