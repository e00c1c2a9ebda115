/-! all that the class holds: well, and in its cells -/
def KA (c n : Nat → Nat) (k : Nat) (p : Nat → Nat → Nat) (q : Nat) (im : Nat → Nat → Nat) (h : Nat) (hs ht : Nat → Nat) (m : Nat) (bg bx : Nat → Nat) (L : Nat) (tx : Nat → Nat) (f : Int32) (s : Nat) (σ : dm_G) : Prop := WA c n k p q im h hs ht m bg bx L tx s ∧ CA c n k p q im h hs ht m bg bx L tx f s σ
/-- the law's cells are left alone -/
def FZ (σ σ' : dm_G) : Prop := ∀ a b, 118 ≤ a → σ' a b = σ a b
theorem FZ.rf {σ : dm_G} : FZ σ σ := fun _ _ _ => rfl
theorem FZ.tr {σ τ ρ : dm_G} (h1 : FZ σ τ) (h2 : FZ τ ρ) : FZ σ ρ := fun a b h => (h2 a b h).trans (h1 a b h)
theorem KA_of {σ σ' : dm_G} {c n : Nat → Nat} {k : Nat} {p : Nat → Nat → Nat} {q : Nat} {im : Nat → Nat → Nat} {h : Nat} {hs ht : Nat → Nat} {m : Nat} {bg bx : Nat → Nat} {L : Nat} {tx : Nat → Nat} {f : Int32} {s : Nat} (hk : ∀ a b, ¬ scC a b → σ' a b = σ a b) (h1 : KA c n k p q im h hs ht m bg bx L tx f s σ) : KA c n k p q im h hs ht m bg bx L tx f s σ' := ⟨h1.1, CA_of hk h1.2⟩
/-- the law's own cells change, the class's don't -/
theorem KA_z {σ σ' : dm_G} {c n : Nat → Nat} {k : Nat} {p : Nat → Nat → Nat} {q : Nat} {im : Nat → Nat → Nat} {h : Nat} {hs ht : Nat → Nat} {m : Nat} {bg bx : Nat → Nat} {L : Nat} {tx : Nat → Nat} {f : Int32} {s : Nat} (hk : ∀ a b, a < 118 → σ' a b = σ a b) (h1 : KA c n k p q im h hs ht m bg bx L tx f s σ) : KA c n k p q im h hs ht m bg bx L tx f s σ' := KA_of (fun a b z => hk a b (by unfold scC at z; omega)) h1
