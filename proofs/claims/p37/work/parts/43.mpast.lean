/-! the reference's past -/
section RE
variable {σ : dm_G} {Q : Option Value → dm_G → Prop}
end RE
