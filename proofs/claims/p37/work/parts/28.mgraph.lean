/-! the reference's graph: streets from an end on -/
/-- the first n places of an array -/
def seta (σ : dm_G) (A n : Nat) (f : Nat → Int32) : dm_G := fun a b => if a = A ∧ b < n then .int (f b) else σ a b
theorem seta_get {σ : dm_G} {A n : Nat} {f : Nat → Int32} {a b : Nat} : seta σ A n f a b = if a = A ∧ b < n then .int (f b) else σ a b := rfl
theorem seta_gi {σ : dm_G} {A n : Nat} {f : Nat → Int32} {a b : Nat} : gi (seta σ A n f) a b = if a = A ∧ b < n then f b else gi σ a b := by
  unfold gi seta
  split <;> rfl
theorem seta_cell {σ : dm_G} {A n : Nat} {f : Nat → Int32} {a : Nat} (h : a ≠ A) : seta σ A n f a = σ a := by
  funext b
  unfold seta
  rw [if_neg (fun z => h z.1)]
theorem seta_up {σ : dm_G} {A n : Nat} {f : Nat → Int32} {j : Nat} {v : Int32} (h : j < n) : dm_up (seta σ A n f) A j (.int v) = seta σ A n (fun b => if b = j then v else f b) := by
  funext a b
  simp only [dm_up, seta]
  by_cases ha : a = A
  · subst ha
    by_cases hb : b = j
    · subst hb; simp [h]
    · simp [hb]
  · simp [ha]
theorem seta_0 {σ : dm_G} {A : Nat} {f : Nat → Int32} : seta σ A 0 f = σ := by
  funext a b
  unfold seta
  rw [if_neg (fun z => by omega)]
theorem seta_s {σ : dm_G} {A n : Nat} {f : Nat → Int32} : dm_up (seta σ A n f) A n (.int (f n)) = seta σ A (n + 1) f := by
  funext a b
  simp only [dm_up, seta]
  by_cases ha : a = A
  · subst ha
    by_cases hb : b = n
    · subst hb; simp
    · have : (b < n + 1) = (b < n) := by apply propext; omega
      simp [hb, this]
  · simp [ha]
theorem up_cell {σ : dm_G} {k j a : Nat} {v : Value} (h : a ≠ k) : dm_up σ k j v a = σ a := dm_up_ne h
/-- far -/
def FAR : Nat := 100000000
def btN (c aw : Nat → Nat) (o x k : Nat) : Nat := if o.testBit (c (13 + (3 * x + k))) = true ∧ aw (c (13 + (3 * x + k))) < FAR then aw (c (13 + (3 * x + k))) + 1 else FAR
def rlK (c : Nat → Nat) (o x : Nat) (aw : Nat → Nat) : Nat → Nat → Nat := fun k => match k with
  | 0 => aw
  | k + 1 => fun y => if y = x then min (rlK c o x aw k x) (btN c (rlK c o x aw k) o x k) else rlK c o x aw k y
def rlX (c : Nat → Nat) (o : Nat) (aw : Nat → Nat) : Nat → Nat → Nat := fun x => match x with
  | 0 => aw
  | x + 1 => rlK c o x (rlX c o aw x) 3
def rlR (c : Nat → Nat) (o : Nat) (aw : Nat → Nat) : Nat → Nat → Nat := fun r => match r with
  | 0 => aw
  | r + 1 => rlX c o (rlR c o aw r) (c 0)
def ini (e : Nat) : Nat → Nat := fun y => if y = e then 0 else FAR
def lay (c : Nat → Nat) (o e : Nat) : Nat → Nat := rlR c o (ini e) (c 0)
theorem rlK_le {c : Nat → Nat} {o x : Nat} {aw : Nat → Nat} (h : ∀ y, aw y ≤ FAR) : ∀ k y, rlK c o x aw k y ≤ FAR := by
  intro k
  induction k with
  | zero => exact h
  | succ k ih =>
    intro y
    rw [rlK]
    show (if y = x then _ else _) ≤ FAR
    split
    · exact Nat.le_trans (Nat.min_le_left _ _) (ih x)
    · exact ih y
theorem rlX_le {c : Nat → Nat} {o : Nat} {aw : Nat → Nat} (h : ∀ y, aw y ≤ FAR) : ∀ x y, rlX c o aw x y ≤ FAR := by
  intro x
  induction x with
  | zero => exact h
  | succ x ih => exact rlK_le ih 3
theorem rlR_le {c : Nat → Nat} {o : Nat} {aw : Nat → Nat} (h : ∀ y, aw y ≤ FAR) : ∀ r y, rlR c o aw r y ≤ FAR := by
  intro r
  induction r with
  | zero => exact h
  | succ r ih => exact rlX_le ih _
theorem ini_le (e : Nat) : ∀ y, ini e y ≤ FAR := by
  intro y
  unfold ini
  split
  · exact Nat.zero_le _
  · exact Nat.le_refl _
theorem lay_le (c : Nat → Nat) (o e : Nat) : ∀ y, lay c o e y ≤ FAR := rlR_le (ini_le e) _
section MG
variable {σ : dm_G} {c n : Nat → Nat} {Q : Option Value → dm_G → Prop}
end MG
