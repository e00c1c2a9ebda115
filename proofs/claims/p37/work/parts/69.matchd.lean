/-! who leads whom: the class's answers out of its table -/
def lenM (c n : Nat → Nat) : Nat → Nat → Option Nat := fun e g => lwN c n g e
def prM (c n : Nat → Nat) : Nat → Nat → Nat := fun e g => if g < c 2 then (match lwN c n g e with
  | none => 0
  | some d => csN c (n 20) g d) else 0
theorem lenM_8 {c n : Nat → Nat} (hw : WC c) : ∀ e g d, lenM c n e g = some d → d ≤ 8 := fun e g d h => by
  have := lwN_lt h
  have := hw.1
  omega
theorem prM_p {c n : Nat → Nat} (hw : WC c) : ∀ e g, prM c n e g ≤ 792 := fun e g => by
  unfold prM
  by_cases z : g < c 2
  · rw [if_pos z]
    cases hd : lwN c n g e with
    | none => exact Nat.zero_le _
    | some d =>
      have h1 := lwN_lt hd
      have h2 := hw.1
      exact csN_lt hw z (by omega)
  · rw [if_neg z]
    exact Nat.zero_le _
section MD
variable {len : Nat → Nat → Option Nat} {pr : Nat → Nat → Nat} {G l n : Nat} {ρ : dm_G} {Q : Option Value → dm_G → Prop}
/-- the table at a limit -/
def mtV (len : Nat → Nat → Option Nat) (pr : Nat → Nat → Nat) (n G l : Nat) (ρ : dm_G) : Prop := ∀ e', e' ≤ n → ∀ s, s < 2 ^ G → gi ρ 117 (e' * 64 + s) = nI (vD len pr G l (n - e') e' s)
theorem cost_le (hp : ∀ e g, pr e g ≤ 792) (hl : ∀ e g d, len e g = some d → d ≤ 8) (hn : n ≤ 6) : vD len pr G (longN len pr G n) n 0 0 ≤ mostN len pr G n * 10000 := by
  have h1 := cl_gRw (len := len) (pr := pr) (G := G) (n := n) (l := longN len pr G n) hp hn
  have h2 : mnR G (gRw len pr G (longN len pr G n) n) n ≤ mostN len pr G n := mn_up hp hn gRw_ok.1 (lgR_le8 hl n)
  omega
theorem cl_le (hn : n ≤ 6) : clI (vD len pr G l n 0 0) ≤ 6 := by
  have := vD_le (len := len) (pr := pr) (G := G) (l := l) n 0 0
  unfold clI
  omega
theorem c_w00 {ρ' : dm_G} (hn : n ≤ 6) (h4 : ρ' 114 4 = (.ref (117 : Nat))) (hV : mtV len pr n G l ρ') : ∀ Q : Option Value → dm_G → Prop, Cq 42 [(.ref (114 : Nat)), .int (nI 0), .int (nI 0)] ρ' Q = Q (some (.int (nI (vD len pr G l n 0 0)))) ρ' := fun Q => by
  have h := hV 0 (Nat.zero_le _) 0 (Nat.pow_pos (by decide))
  rw [Nat.sub_zero] at h
  rw [c_worthOf h4 (by omega) (by omega), h]
theorem l_solve (hS : mtS len pr n G ρ) (hn : n ≤ 6) (hG : G ≤ 6) (hlen : ∀ e g d, len e g = some d → d ≤ 8) (hp : ∀ e g, pr e g ≤ 792) {most : Nat} (hm : most ≤ 6) (kk : ∀ (ρ' : dm_G) (L : Nat) (v1 : Option Value), L = lmN (fun l => vD len pr G l n 0 0) most 8 0 → (∀ a b, ¬ (a = 117 ∨ (a = 114 ∧ 4 < b)) → ρ' a b = ρ a b) → ρ' 114 5 = .int (nI L) → ρ' 114 6 = .int (nI most) → mtV len pr n G L ρ' → Wq none 39 76 [some (.ref (114 : Nat)), v1] [] ρ' Q) : ∀ (f l : Nat) (ρ' : dm_G), l + f = 8 → lmN (fun l => vD len pr G l n 0 0) most f l = lmN (fun l => vD len pr G l n 0 0) most 8 0 → (∀ a b, ¬ (a = 117 ∨ (a = 114 ∧ 4 < b)) → ρ' a b = ρ a b) → ρ' 114 5 = .int (nI l) → ρ' 114 6 = .int (nI most) → mtV len pr n G l ρ' → Wq none 39 34 [some (.ref (114 : Nat)), some (.int (nI l))] [] ρ' Q := by
  intro f
  induction f with
  | zero =>
    intro l ρ' hl he hK h5 h6 hV
    obtain rfl : l = 8 := by omega
    rw [w39_34]
    simp only [w39_0, w39_1, w39_3, w39_6, w39_7, w39_10, w39_11, w39_12, w39_13, w39_14, w39_17, w39_20, w39_23, w39_24, w39_25, w39_28, w39_29, w39_32, w39_33, w39_35, w39_37, w39_40, w39_41, w39_42, w39_43, w39_46, w39_49, w39_50, w39_53, w39_56, w39_57, w39_57i, w39_58, w39_61, w39_62, w39_63, w39_66, w39_67, w39_70, w39_73, w39_77, w39_78, w39_81, w39_84, w39_85, w39_86, w39_89, w39_92, w39_93, w39_94, w39_95, w39_96, w39_99, w39_100, w39_103, (by decide : nI 8 ≤ nI 8), ↓reduceIte, Option.toList_some, Option.toList_none, List.cons_append, List.nil_append]
    exact kk ρ' 8 _ he hK h5 h6 hV
  | succ f ih =>
    intro l ρ' hl he hK h5 h6 hV
    have hS' : mtS len pr n G ρ' := mtS_of (fun a b z => hK a b (by omega)) hS
    have h1 : ¬ nI 8 ≤ nI l := nI_ge (by omega) (by omega)
    have cw := c_w00 hn hS'.2.2.2.2.1 hV
    have hb := vD_le (len := len) (pr := pr) (G := G) (l := l) n 0 0
    have hcl := cl_le (len := len) (pr := pr) (G := G) (l := l) hn
    have he' : (if clI (vD len pr G l n 0 0) < most then lmN (fun l => vD len pr G l n 0 0) most f (l + 1) else l) = lmN (fun l => vD len pr G l n 0 0) most 8 0 := he
    rw [w39_34]
    by_cases hlt : clI (vD len pr G l n 0 0) < most
    · rw [if_pos hlt] at he'
      have h2 : ¬ nI most ≤ nI (clI (vD len pr G l n 0 0)) := nI_ge hlt (by omega)
      have hK1 : ∀ a b, ¬ (a = 117 ∨ (a = 114 ∧ 4 < b)) → dm_up ρ' 114 5 (.int (nI (l + 1))) a b = ρ a b := fun a b z => by rw [up_get, if_neg (by omega), hK a b z]
      have hS1 : mtS len pr n G (dm_up ρ' 114 5 (.int (nI (l + 1)))) := mtS_of (fun a b z => hK1 a b (by omega)) hS
      obtain ⟨ρ2, e2, k2, hV2⟩ := c_fill (l := l + 1) hS1 rfl (by omega) hn hG hlen hp
      simp only [w39_0, w39_1, w39_3, w39_6, w39_7, w39_10, w39_11, w39_12, w39_13, w39_14, w39_17, w39_20, w39_23, w39_24, w39_25, w39_28, w39_29, w39_32, w39_33, w39_35, w39_37, w39_40, w39_41, w39_42, w39_43, w39_46, w39_49, w39_50, w39_53, w39_56, w39_57, w39_57i, w39_58, w39_61, w39_62, w39_63, w39_66, w39_67, w39_70, w39_73, w39_77, w39_78, w39_81, w39_84, w39_85, w39_86, w39_89, w39_92, w39_93, w39_94, w39_95, w39_96, w39_99, w39_100, w39_103, ks_114, h1, cw, c_clientsIn (show vD len pr G l n 0 0 ≤ 60000 by omega), h6, h2, h5, nI_add, e2, ↓reduceIte, Option.toList_some, Option.toList_none, List.cons_append, List.nil_append]
      exact ih (l + 1) ρ2 (by omega) he' (fun a b z => (k2 a b (by omega)).trans (hK1 a b z)) ((k2 _ _ (by omega)).trans rfl) ((k2 _ _ (by omega)).trans (by rw [up_get, if_neg (by omega), h6])) hV2
    · rw [if_neg hlt] at he'
      have h2 : nI most ≤ nI (clI (vD len pr G l n 0 0)) := nI_le (by omega) (by omega)
      simp only [w39_0, w39_1, w39_3, w39_6, w39_7, w39_10, w39_11, w39_12, w39_13, w39_14, w39_17, w39_20, w39_23, w39_24, w39_25, w39_28, w39_29, w39_32, w39_33, w39_35, w39_37, w39_40, w39_41, w39_42, w39_43, w39_46, w39_49, w39_50, w39_53, w39_56, w39_57, w39_57i, w39_58, w39_61, w39_62, w39_63, w39_66, w39_67, w39_70, w39_73, w39_77, w39_78, w39_81, w39_84, w39_85, w39_86, w39_89, w39_92, w39_93, w39_94, w39_95, w39_96, w39_99, w39_100, w39_103, ks_114, h1, cw, c_clientsIn (show vD len pr G l n 0 0 ≤ 60000 by omega), h6, h2, ↓reduceIte, Option.toList_some, Option.toList_none, List.cons_append, List.nil_append]
      exact kk ρ' l _ he' hK h5 h6 hV
theorem c_solve (hS : mtS len pr n G ρ) (hn : n ≤ 6) (hG : G ≤ 6) (hlen : ∀ e g d, len e g = some d → d ≤ 8) (hp : ∀ e g, pr e g ≤ 792) : ∃ ρ', (∀ Q : Option Value → dm_G → Prop, Cq 39 [(.ref (114 : Nat))] ρ Q = Q none ρ') ∧ (∀ a b, ¬ (a = 117 ∨ (a = 114 ∧ 4 < b)) → ρ' a b = ρ a b) ∧ ρ' 114 5 = .int (nI (longN len pr G n)) ∧ ρ' 114 6 = .int (nI (mostN len pr G n)) ∧ ρ' 114 7 = .int (nI (longN len pr G n)) ∧ ρ' 114 8 = .int (nI (costN len pr G n)) ∧ mtV len pr n G (longN len pr G n) ρ' := by
  refine ex_of (Er_ex ?_)
  show Wq none 39 0 [some (.ref (114 : Nat)), none] [] ρ _
  have kA : ∀ a b, ¬ (a = 117 ∨ (a = 114 ∧ 4 < b)) → dm_up ρ 114 5 (.int (nI 8)) a b = ρ a b := fun a b z => by rw [up_get, if_neg (by omega)]
  have hSA : mtS len pr n G (dm_up ρ 114 5 (.int (nI 8))) := mtS_of (fun a b z => kA a b (by omega)) hS
  obtain ⟨ρ1, e1, k1, hV1⟩ := c_fill (l := 8) hSA rfl (by omega) hn hG hlen hp
  have hS1 : mtS len pr n G ρ1 := mtS_of (fun a b z => k1 a b (by omega)) hSA
  have cw := c_w00 hn hS1.2.2.2.2.1 hV1
  have hb := vD_le (len := len) (pr := pr) (G := G) (l := 8) n 0 0
  have hm6 : mostN len pr G n ≤ 6 := cl_le hn
  have em : clI (vD len pr G 8 n 0 0) = mostN len pr G n := rfl
  have kB : ∀ a b, ¬ (a = 117 ∨ (a = 114 ∧ 4 < b)) → dm_up (dm_up ρ1 114 6 (.int (nI (mostN len pr G n)))) 114 5 (.int (nI 0)) a b = ρ a b := fun a b z => by rw [up_get, if_neg (by omega), up_get, if_neg (by omega), k1 a b (by omega), kA a b z]
  have hSB : mtS len pr n G (dm_up (dm_up ρ1 114 6 (.int (nI (mostN len pr G n)))) 114 5 (.int (nI 0))) := mtS_of (fun a b z => kB a b (by omega)) hS
  obtain ⟨ρ2, e2, k2, hV2⟩ := c_fill (l := 0) hSB rfl (by omega) hn hG hlen hp
  simp only [w39_0, w39_1, w39_3, w39_6, w39_7, w39_10, w39_11, w39_12, w39_13, w39_14, w39_17, w39_20, w39_23, w39_24, w39_25, w39_28, w39_29, w39_32, w39_33, w39_35, w39_37, w39_40, w39_41, w39_42, w39_43, w39_46, w39_49, w39_50, w39_53, w39_56, w39_57, w39_57i, w39_58, w39_61, w39_62, w39_63, w39_66, w39_67, w39_70, w39_73, w39_76, w39_77, w39_78, w39_81, w39_84, w39_85, w39_86, w39_89, w39_92, w39_93, w39_94, w39_95, w39_96, w39_99, w39_100, w39_103, ks_114, e1, cw, c_clientsIn (show vD len pr G 8 n 0 0 ≤ 60000 by omega), em, e2, ↓reduceIte, Option.toList_some, Option.toList_none, List.cons_append, List.nil_append]
  refine l_solve hS hn hG hlen hp hm6 (fun ρ' L v1 hL hK h5 h6 hV => ?_) 8 0 ρ2 (by omega) rfl (fun a b z => (k2 a b (by omega)).trans (kB a b z)) ((k2 _ _ (by omega)).trans rfl) ((k2 _ _ (by omega)).trans rfl) hV2
  have hL : L = longN len pr G n := hL
  subst hL
  have hS' : mtS len pr n G ρ' := mtS_of (fun a b z => hK a b (by omega)) hS
  let ρ3 : dm_G := dm_up ρ' 114 7 (.int (nI (longN len pr G n)))
  have x1 : ρ3 114 6 = .int (nI (mostN len pr G n)) := h6
  have hV3 : mtV len pr n G (longN len pr G n) ρ3 := fun e' he' s hs => by
    show gi (dm_up ρ' 114 7 _) 117 _ = _
    rw [gi_up, if_neg (by omega)]
    exact hV e' he' s hs
  have cw3 := c_w00 (ρ' := ρ3) hn hS'.2.2.2.2.1 hV3
  have hcl := cost_le (len := len) (pr := pr) (G := G) (n := n) hp hlen hn
  have ec : mostN len pr G n * 10000 - vD len pr G (longN len pr G n) n 0 0 = costN len pr G n := rfl
  simp only [w39_0, w39_1, w39_3, w39_6, w39_7, w39_10, w39_11, w39_12, w39_13, w39_14, w39_17, w39_20, w39_23, w39_24, w39_25, w39_28, w39_29, w39_32, w39_33, w39_34, w39_35, w39_37, w39_40, w39_41, w39_42, w39_43, w39_46, w39_49, w39_50, w39_53, w39_56, w39_57, w39_57i, w39_58, w39_61, w39_62, w39_63, w39_66, w39_67, w39_70, w39_73, w39_76, w39_77, w39_78, w39_81, w39_85, w39_86, w39_89, w39_92, w39_93, w39_94, w39_95, w39_96, w39_99, w39_100, w39_103, ks_114, h5, ↓reduceIte, Option.toList_some, Option.toList_none, List.cons_append, List.nil_append]
  show Wq none 39 84 [some (.ref (114 : Nat)), v1] [] ρ3 _
  simp only [w39_0, w39_1, w39_3, w39_6, w39_7, w39_10, w39_11, w39_12, w39_13, w39_14, w39_17, w39_20, w39_23, w39_24, w39_25, w39_28, w39_29, w39_32, w39_33, w39_34, w39_35, w39_37, w39_40, w39_41, w39_42, w39_43, w39_46, w39_49, w39_50, w39_53, w39_56, w39_57, w39_57i, w39_58, w39_61, w39_62, w39_63, w39_66, w39_67, w39_70, w39_73, w39_76, w39_77, w39_78, w39_81, w39_84, w39_85, w39_86, w39_89, w39_92, w39_93, w39_94, w39_95, w39_96, w39_99, w39_100, w39_103, ks_114, x1, cw3, pk_mul, pk_sub hcl, ec, ↓reduceIte, Option.toList_some, Option.toList_none, List.cons_append, List.nil_append, true_and]
  refine ⟨fun a b z => ?_, h5, h6, rfl, rfl, fun e' he' s hs => ?_⟩
  · show dm_up (dm_up ρ' 114 7 _) 114 8 _ a b = _
    rw [up_get, if_neg (by omega), up_get, if_neg (by omega), hK a b z]
  · rw [gi_up, if_neg (by omega)]
    exact hV3 e' he' s hs
theorem gtk_lt : ∀ e, e ≤ n → gtk len pr G l n e < 2 ^ G := by
  intro e
  induction e with
  | zero => intro _; exact Nat.pow_pos (by decide)
  | succ e ih =>
    intro he
    have ih := ih (by omega)
    have hk : n - e = (n - e - 1) + 1 := by omega
    rw [gtkS]
    cases h : chO len pr G l (n - e) e (gtk len pr G l n e) with
    | none => exact ih
    | some g =>
      rw [hk] at h
      exact or_lt ih (one_shl (ch_s h).1)
theorem c_chosen {e tk : Nat} (hS : mtS len pr n G ρ) (hL : ρ 114 5 = .int (nI l)) (hl : l ≤ 8) (hn : n ≤ 6) (hG : G ≤ 6) (hlen : ∀ e g d, len e g = some d → d ≤ 8) (hp : ∀ e g, pr e g ≤ 792) (hV : mtV len pr n G l ρ) (he : e < n) (ht : tk < 2 ^ G) : Cq 45 [(.ref (114 : Nat)), .int (nI e), .int (nI tk)] ρ Q = Q (some (.int (oI (chO len pr G l (n - e) e tk)))) ρ := by
  have p6 : 2 ^ G ≤ 2 ^ 6 := Nat.pow_le_pow_right (by decide) hG
  obtain ⟨s0, s1, s2, s3, s4, s5⟩ := id hS
  have hv := hV (e + 1) (by omega)
  rw [show n - (e + 1) = n - e - 1 by omega] at hv
  have cw := fun Q => c_worthOf (ρ := ρ) (Q := Q) (e := e) (s := tk) s4 (by omega) (by omega)
  rw [hV e (by omega) tk ht] at cw
  have hb := vD_le (len := len) (pr := pr) (G := G) (l := l) (n - e) e tk
  have key : ∀ (Q : Option Value → dm_G → Prop) (f g : Nat), g + f = G → Wq none 45 2 [some (.ref (114 : Nat)), some (.int (nI e)), some (.int (nI tk)), some (.int (nI g))] [] ρ Q = Q (some (.int (oI (fnd (fun g => decide (wwO len pr l (vD len pr G l (n - e - 1) (e + 1)) e tk g = some (vD len pr G l (n - e) e tk))) f g)))) ρ := by
    intro Q f
    induction f with
    | zero =>
      intro g hg
      obtain rfl : g = G := by omega
      rw [w45_2]
      simp only [w45_0, w45_1, w45_3, w45_4, w45_7, w45_10, w45_11, w45_12, w45_13, w45_14, w45_17, w45_18, w45_19, w45_20, w45_23, w45_26, w45_27, w45_28, w45_31, w45_34, w45_35, ks_114, s0, nI_le (Nat.le_refl g) (show g < 2 ^ 31 by omega), ↓reduceIte, Option.toList_some, Option.toList_none, List.cons_append, List.nil_append]
      rfl
    | succ f ih =>
      intro g hg
      have h1 : ¬ nI G ≤ nI g := nI_ge (by omega) (by omega)
      have hww : ∀ w, wwO len pr l (vD len pr G l (n - e - 1) (e + 1)) e tk g = some w → w < 2 ^ 31 := fun w h => by
        obtain ⟨-, -, h2⟩ := wwO_s h
        have := vD_le (len := len) (pr := pr) (G := G) (l := l) (n - e - 1) (e + 1) (tk ||| 1 <<< g)
        omega
      have hiff := oI_eq (o := wwO len pr l (vD len pr G l (n - e - 1) (e + 1)) e tk g) (d := vD len pr G l (n - e) e tk) hww (by omega)
      rw [w45_2, fnd]
      by_cases hq : wwO len pr l (vD len pr G l (n - e - 1) (e + 1)) e tk g = some (vD len pr G l (n - e) e tk)
      · rw [if_pos (decide_eq_true hq)]
        simp only [w45_0, w45_1, w45_3, w45_4, w45_7, w45_10, w45_11, w45_12, w45_13, w45_14, w45_17, w45_18, w45_19, w45_20, w45_23, w45_26, w45_27, w45_28, w45_31, w45_34, w45_35, ks_114, s0, h1, c_worthWith hS hL hl hn hG hlen hp hv he (show g < G by omega) ht, cw, hq, oIs, ↓reduceIte, Option.toList_some, Option.toList_none, List.cons_append, List.nil_append]
      · rw [if_neg (by rw [decide_eq_false hq]; decide)]
        simp only [w45_0, w45_1, w45_3, w45_4, w45_7, w45_10, w45_11, w45_12, w45_13, w45_14, w45_17, w45_18, w45_19, w45_20, w45_23, w45_26, w45_27, w45_28, w45_31, w45_34, w45_35, ks_114, s0, h1, c_worthWith hS hL hl hn hG hlen hp hv he (show g < G by omega) ht, cw, hiff, hq, nI_add, ↓reduceIte, Option.toList_some, Option.toList_none, List.cons_append, List.nil_append]
        exact ih (g + 1) (by omega)
  refine Cq_of (Er_of ?_)
  show Wq none 45 0 [some (.ref (114 : Nat)), some (.int (nI e)), some (.int (nI tk)), none] [] ρ _
  simp only [w45_0, w45_1, w45_3, w45_4, w45_7, w45_10, w45_11, w45_12, w45_13, w45_14, w45_17, w45_18, w45_19, w45_20, w45_23, w45_26, w45_27, w45_28, w45_31, w45_34, w45_35, ↓reduceIte, Option.toList_some, Option.toList_none, List.cons_append, List.nil_append]
  rw [key _ G 0 (by omega)]
  exact ⟨rfl, rfl⟩
theorem c_guideOf {x : Nat} (hS : mtS len pr n G ρ) (hL : ρ 114 5 = .int (nI l)) (hl : l ≤ 8) (hn : n ≤ 6) (hG : G ≤ 6) (hlen : ∀ e g d, len e g = some d → d ≤ 8) (hp : ∀ e g, pr e g ≤ 792) (hV : mtV len pr n G l ρ) (hx : x < n) : Cq 44 [(.ref (114 : Nat)), .int (nI x)] ρ Q = Q (some (.int (oI (chO len pr G l (n - x) x (gtk len pr G l n x))))) ρ := by
  have key : ∀ (Q : Option Value → dm_G → Prop) (f e : Nat) (v : Int32), e + f = x + 1 → (e = x + 1 → v = oI (chO len pr G l (n - x) x (gtk len pr G l n x))) → Wq none 44 7 [some (.ref (114 : Nat)), some (.int (nI x)), some (.int (nI (gtk len pr G l n e))), some (.int v), some (.int (nI e))] [] ρ Q = Q (some (.int (oI (chO len pr G l (n - x) x (gtk len pr G l n x))))) ρ := by
    intro Q f
    induction f with
    | zero =>
      intro e v he hv
      have h1 : nI x < nI e := (nI_ltI (by omega) (by omega)).mpr (by omega)
      rw [w44_7]
      simp only [w44_0, w44_1, w44_2, w44_3, w44_4, w44_5, w44_9, w44_10, w44_13, w44_14, w44_16, w44_17, w44_20, w44_21, w44_22, w44_23, w44_26, w44_27, w44_28, w44_29, w44_30, w44_31, w44_32, w44_35, w44_38, w44_39, h1, ↓reduceIte, Option.toList_some, Option.toList_none, List.cons_append, List.nil_append]
      rw [hv (by omega)]
    | succ f ih =>
      intro e v he hv
      have h1 : ¬ nI x < nI e := nI_nlt (by omega) (by omega)
      have htk := gtk_lt (len := len) (pr := pr) (G := G) (l := l) (n := n) e (by omega)
      have hc := fun Q => c_chosen (Q := Q) hS hL hl hn hG hlen hp hV (show e < n by omega) htk
      have ih := fun v => ih (e + 1) v (by omega)
      have hk : n - e = (n - e - 1) + 1 := by omega
      rw [gtkS] at ih
      rw [w44_7]
      cases h : chO len pr G l (n - e) e (gtk len pr G l n e) with
      | none =>
        rw [h] at hc ih
        simp only [w44_0, w44_1, w44_2, w44_3, w44_4, w44_5, w44_9, w44_10, w44_13, w44_14, w44_16, w44_17, w44_20, w44_21, w44_22, w44_23, w44_26, w44_27, w44_28, w44_29, w44_30, w44_31, w44_32, w44_35, w44_38, w44_39, ks_114, h1, hc, oI, nI_add, ↓reduceIte, Option.toList_some, Option.toList_none, List.cons_append, List.nil_append]
        exact ih _ (fun z => by rw [show x = e by omega, h]; rfl)
      | some g =>
        rw [h] at hc ih
        have hg : g < G := by
          rw [hk] at h
          exact (ch_s h).1
        have hm1 : ¬ nI g = -1 := fun q => nI_m1 (show g < 2 ^ 31 by omega) q.symm
        simp only [w44_0, w44_1, w44_2, w44_3, w44_4, w44_5, w44_9, w44_10, w44_13, w44_14, w44_16, w44_17, w44_20, w44_21, w44_22, w44_23, w44_26, w44_27, w44_28, w44_29, w44_30, w44_31, w44_32, w44_35, w44_38, w44_39, ks_114, h1, hc, oIs, hm1, nI_shl 1 (show g < 32 by omega), nI_or, nI_add, ↓reduceIte, Option.toList_some, Option.toList_none, List.cons_append, List.nil_append]
        exact ih _ (fun z => by rw [show x = e by omega, h]; rfl)
  refine Cq_of (Er_of ?_)
  show Wq none 44 0 [some (.ref (114 : Nat)), some (.int (nI x)), none, none, none] [] ρ _
  simp only [w44_0, w44_1, w44_2, w44_3, w44_4, w44_5, w44_9, w44_10, w44_13, w44_14, w44_16, w44_17, w44_20, w44_21, w44_22, w44_23, w44_26, w44_27, w44_28, w44_29, w44_30, w44_31, w44_32, w44_35, w44_38, w44_39, ↓reduceIte, Option.toList_some, Option.toList_none, List.cons_append, List.nil_append]
  have hk := key (fun r' σ2 => r' = some (.int (oI (chO len pr G l (n - x) x (gtk len pr G l n x)))) ∧ σ2 = ρ) (x + 1) 0 (-1) (by omega) (fun z => by omega)
  rw [show gtk len pr G l n 0 = 0 from rfl] at hk
  rw [hk]
  exact ⟨rfl, rfl⟩
end MD
