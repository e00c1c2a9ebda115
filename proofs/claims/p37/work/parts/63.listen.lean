/-! listen: both sides -/
section LI
variable {σ σ' : dm_G} {Q : Option Value → dm_G → Prop} {c n : Nat → Nat}
theorem ltS {s t : Nat} : ltN c s (t + 1) = if gpN c s t 6 < (ltN c s t).2 then (some t, gpN c s t 6) else ltN c s t := rfl
end LI
