/-! the text: the reference's numbers and its clauses -/
/-- a failed clause: why and where -/
def MF (ρ : dm_G) (w b : Nat) (τ : dm_G) : Prop := τ 118 21 = .int (nI w) ∧ τ 118 17 = .int (nI b) ∧ (∃ x : Int32, τ 118 18 = .int x) ∧ ∀ i j, ¬ (i = 118 ∧ 16 ≤ j ∧ j ≤ 21) → ¬ i = 120 → τ i j = ρ i j
def RD (ρ : dm_G) (rd : Nat → Nat) : Prop := ∀ i, i < 79 → gi ρ 120 i = nI (rd i)
/-- what a clause leaves in the reference -/
def MPo (ρ : dm_G) (r : (Nat × Nat × Nat) × (Nat → Nat)) (v : Int32) (τ : dm_G) : Prop := (r.1.2.1 = 0 → v = nI 1 ∧ ∃ ρ' b sg fg vl, τ = mS ρ' r.1.1 b sg fg vl ∧ (∀ i j, ¬ i = 120 → ρ' i j = ρ i j) ∧ RD ρ' r.2) ∧ (¬ r.1.2.1 = 0 → v = nI 0 ∧ MF ρ r.1.2.1 r.1.2.2 τ)
/-- a triple that holds a fault -/
def isW (s : Nat × Nat × Nat) (w b : Nat) : Prop := s.2 = (w, b) ∧ ¬ w = 0
section MN
variable {L : Nat} {tx : Nat → Nat} {ρ : dm_G} {a b fg vl : Nat} {sg : Int32} {rd : Nat → Nat} {s : Nat × Nat × Nat} {Q : Option Value → dm_G → Prop}
theorem isW_nu {l m w b : Nat} (h : isW s w b) : isW (psNu L tx l m s) w b := by
  obtain ⟨h1, h2⟩ := h
  have e1 : s.2.1 = w := congrArg Prod.fst h1
  have e2 : s.2.2 = b := congrArg Prod.snd h1
  refine ⟨?_, h2⟩
  show ((if s.2.1 = 0 then kN L tx l m s.1 else s.2.1), (if s.2.1 = 0 then skB L tx s.1 else s.2.2)) = (w, b)
  rw [e1, e2, if_neg h2, if_neg h2]
theorem isW_sg {ch w b : Nat} (h : isW s w b) : isW (psSg L tx ch s) w b := by
  obtain ⟨h1, h2⟩ := h
  have e1 : s.2.1 = w := congrArg Prod.fst h1
  have e2 : s.2.2 = b := congrArg Prod.snd h1
  refine ⟨?_, h2⟩
  show ((if s.2.1 = 0 then (if ltI L tx (skB L tx s.1) = nI ch then 0 else 1) else s.2.1), (if s.2.1 = 0 then skB L tx s.1 else s.2.2)) = (w, b)
  rw [e1, e2, if_neg h2, if_neg h2]
/-- as psNu does ahead of a fault -/
theorem nu_w {l m : Nat} (hz : s.2.1 = 0) (hk : ¬ kN L tx l m s.1 = 0) : isW (psNu L tx l m s) (kN L tx l m s.1) (skB L tx s.1) := by
  refine ⟨?_, hk⟩
  show ((if s.2.1 = 0 then kN L tx l m s.1 else s.2.1), (if s.2.1 = 0 then skB L tx s.1 else s.2.2)) = _
  rw [if_pos hz, if_pos hz]
theorem nu_0 {l m : Nat} (hz : s.2.1 = 0) (hk : kN L tx l m s.1 = 0) : (psNu L tx l m s).2.1 = 0 := by
  show (if s.2.1 = 0 then kN L tx l m s.1 else s.2.1) = 0
  rw [if_pos hz, hk]
theorem sg_w1 {ch : Nat} (hz : s.2.1 = 0) (hk : ¬ ltI L tx (skB L tx s.1) = nI ch) : isW (psSg L tx ch s) 1 (skB L tx s.1) := by
  refine ⟨?_, by omega⟩
  show ((if s.2.1 = 0 then (if ltI L tx (skB L tx s.1) = nI ch then 0 else 1) else s.2.1), (if s.2.1 = 0 then skB L tx s.1 else s.2.2)) = _
  rw [if_pos hz, if_pos hz, if_neg hk]
theorem sg_0 {ch : Nat} (hz : s.2.1 = 0) (hk : ltI L tx (skB L tx s.1) = nI ch) : (psSg L tx ch s).2.1 = 0 := by
  show (if s.2.1 = 0 then (if ltI L tx (skB L tx s.1) = nI ch then 0 else 1) else s.2.1) = 0
  rw [if_pos hz, if_pos hk]
theorem MPo_f {r : (Nat × Nat × Nat) × (Nat → Nat)} {w b : Nat} {τ : dm_G} (hw : isW r.1 w b) (hF : MF ρ w b τ) : MPo ρ r (nI 0) τ := by
  obtain ⟨h1, h2⟩ := hw
  have e1 : r.1.2.1 = w := congrArg Prod.fst h1
  have e2 : r.1.2.2 = b := congrArg Prod.snd h1
  refine ⟨fun z => absurd (e1.symm.trans z) h2, fun _ => ⟨rfl, ?_⟩⟩
  rw [e1, e2]
  exact hF
theorem MF_i {ρ' : dm_G} {w : Nat} (h : ∀ i j, ¬ i = 120 → ρ' i j = ρ i j) : MF ρ w b (dm_up (mS ρ' a b sg fg vl) 118 21 (.int (nI w))) := by
  refine ⟨rfl, rfl, ⟨sg, rfl⟩, fun i j h1 h2 => ?_⟩
  rw [up_get, if_neg (by omega), mS_o (by omega)]
  exact h i j h2
theorem in_ok3 {v l m : Nat} (hv : v < 2 ^ 31) (hl : l < 2 ^ 31) (hm : m < 2 ^ 31) : ((nI l).toInt64 ≤ (nI v).toInt64 ∧ (nI v).toInt64 ≤ (nI m).toInt64) ↔ (l ≤ v ∧ v ≤ m) := by
  rw [Int64.le_iff_toInt_le, Int64.le_iff_toInt_le, Int32.toInt_toInt64, Int32.toInt_toInt64, Int32.toInt_toInt64, nI_toInt hv, nI_toInt hl, nI_toInt hm]
  omega
theorem run_nq {q : Nat → Bool} {p : Nat} (h : ¬ q p = true) : ∀ f, runN q f p = p := by
  intro f
  cases f with
  | zero => rfl
  | succ f => rw [runS, if_neg h]
theorem nuE_nf {p : Nat} (h : ¬ isF L tx (skB L tx p) = true) : nuE L tx p = skB L tx p := run_nq h L
theorem nuE_f {p : Nat} (h : isF L tx (skB L tx p) = true) : ¬ nuE L tx p = skB L tx p := by
  have h1 := isF_L _ h
  have h2 := (run_le (L := L) (q := isF L tx) isF_L (L - 1) (skB L tx p + 1)).1
  have h3 : nuE L tx p = runN (isF L tx) (L - 1) (skB L tx p + 1) := by
    show runN (isF L tx) L (skB L tx p) = _
    have : L = (L - 1) + 1 := by omega
    rw [this, runS, if_pos (by rw [← this]; exact h), ← this]
  omega
theorem lt_nf {p : Nat} (ht : ∀ i, i < L → tx i < 256) (h : ¬ isF L tx p = true) : ¬ ltI L tx p = nI 48 := by
  intro z
  have h1 := lt_L z (by omega)
  have h2 : ltI L tx p = nI (tx p) := if_pos h1
  have h3 := ht p h1
  have h4 : tx p = 48 := nI_inj (by omega) (by omega) (h2.symm.trans z)
  apply h
  unfold isF
  simp [h1, h4]
theorem c_fails {w : Nat} : Cq 135 [(.ref (118 : Nat)), .int (nI w)] ρ Q = Q (some (.int (nI 0))) (dm_up ρ 118 21 (.int (nI w))) := by
  refine Cq_of (Er_of ?_)
  show Wq none 135 0 [some (.ref (118 : Nat)), some (.int (nI w))] [] ρ _
  simp only [w135_0, w135_1, w135_2, w135_5, w135_6, ks_118, (by decide : nI 1 &&& 1 = nI 1), (by decide : nI 0 &&& 1 = nI 0), ↓reduceIte, Option.toList_some, Option.toList_none, List.cons_append, List.nil_append, and_self]
theorem c_mnu1 {p j l m : Nat} (hT : mTX L tx ρ) (hp : p ≤ 300) (hl : l ≤ 1000) (hm : m ≤ 1000) (hk : ¬ kN L tx l m p = 0) : Cq 136 [(.ref (118 : Nat)), .int (nI j), .int (nI l), .int (nI m)] (mS ρ p b sg fg vl) Q = Q (some (.int (nI 0))) (dm_up (mS ρ (toA L tx p) (skB L tx p) (toS L tx p) (toF L tx p) (toV L tx p)) 118 21 (.int (nI (kN L tx l m p)))) := by
  have hL := hT.1
  have hb := skB_le (L := L) (tx := tx) p
  have he := nuE_le (L := L) (tx := tx) p
  refine Cq_of (Er_of ?_)
  show Wq none 136 0 [some (.ref (118 : Nat)), some (.int (nI j)), some (.int (nI l)), some (.int (nI m))] [] _ _
  by_cases z : isF L tx (skB L tx p) = true
  · have e0 := nuE_f z
    have eS : toS L tx p = nI 48 := if_pos z
    have eF : toF L tx p = nuE L tx p - skB L tx p := if_pos z
    have eV : toV L tx p = vR L tx L (skB L tx p) 0 0 := if_pos z
    have ek : kN L tx l m p = 2 := by
      unfold kN at hk ⊢
      rw [if_neg e0] at hk ⊢
      by_cases y : 3 < nuE L tx p - skB L tx p ∨ nuV L tx p < l ∨ m < nuV L tx p
      · rw [if_pos y]
      · rw [if_neg y] at hk
        exact absurd rfl hk
    rw [ek]
    by_cases y : 3 < nuE L tx p - skB L tx p
    · have y1 : nI 3 < nI (nuE L tx p - skB L tx p) := (nI_ltI (by omega) (by omega)).mpr y
      simp only [w136_0, w136_1, w136_4, w136_5, w136_8, w136_10, w136_13, w136_14, w136_15, w136_18, w136_19, w136_20, w136_23, w136_24, w136_27, w136_28, w136_31, w136_32, w136_33, w136_34, w136_35, w136_36, w136_39, w136_42, w136_43, w136_44, w136_47, w136_48, w136_49, w136_52, w136_53, w136_54, w136_57, w136_58, w136_59, ks_118, c_mstep hT hp, m_18, m_19, eS, eF, y1, c_fails, (by decide : nI 1 &&& 1 = nI 1), (by decide : nI 0 &&& 1 = nI 0), ↓reduceIte, Option.toList_some, Option.toList_none, List.cons_append, List.nil_append, and_self]
    · have y1 : ¬ nI 3 < nI (nuE L tx p - skB L tx p) := fun w => y ((nI_ltI (by omega) (by omega)).mp w)
      have ev : vR L tx L (skB L tx p) 0 0 = nuV L tx p := vR_C L (skB L tx p) 0 0 (by omega) (show 0 + (nuE L tx p - skB L tx p) ≤ 3 by omega) (by omega)
      have hv := nuV_le (L := L) (tx := tx) p
      have hin : ¬ (l ≤ nuV L tx p ∧ nuV L tx p ≤ m) := by
        intro w
        apply hk
        unfold kN
        rw [if_neg e0, if_neg (by omega)]
      simp only [w136_0, w136_1, w136_4, w136_5, w136_8, w136_10, w136_13, w136_14, w136_15, w136_18, w136_19, w136_20, w136_23, w136_24, w136_27, w136_28, w136_31, w136_32, w136_33, w136_34, w136_35, w136_36, w136_39, w136_42, w136_43, w136_44, w136_47, w136_48, w136_49, w136_52, w136_53, w136_54, w136_57, w136_58, w136_59, ks_118, c_mstep hT hp, m_18, m_19, m_20, eS, eF, eV, ev, y1, c_in, in_ok3 (show nuV L tx p < 2 ^ 31 by omega) (show l < 2 ^ 31 by omega) (show m < 2 ^ 31 by omega), hin, c_fails, (by decide : nI 1 &&& 1 = nI 1), (by decide : nI 0 &&& 1 = nI 0), ↓reduceIte, Option.toList_some, Option.toList_none, List.cons_append, List.nil_append, and_self]
  · have e0 := nuE_nf z
    have ek : kN L tx l m p = 1 := if_pos e0
    have eS : toS L tx p = ltI L tx (skB L tx p) := if_neg z
    have y := lt_nf hT.2.1 z
    rw [ek]
    simp only [w136_0, w136_1, w136_4, w136_5, w136_8, w136_10, w136_13, w136_14, w136_15, w136_18, w136_19, w136_20, w136_23, w136_24, w136_27, w136_28, w136_31, w136_32, w136_33, w136_34, w136_35, w136_36, w136_39, w136_42, w136_43, w136_44, w136_47, w136_48, w136_49, w136_52, w136_53, w136_54, w136_57, w136_58, w136_59, ks_118, c_mstep hT hp, m_18, eS, y, c_fails, (by decide : nI 1 &&& 1 = nI 1), (by decide : nI 0 &&& 1 = nI 0), ↓reduceIte, Option.toList_some, Option.toList_none, List.cons_append, List.nil_append, and_self]
theorem c_mnu0 {p j l m : Nat} (hT : mTX L tx ρ) (hp : p ≤ 300) (hj : j < 79) (hl : l ≤ 1000) (hm : m ≤ 1000) (hk : kN L tx l m p = 0) : Cq 136 [(.ref (118 : Nat)), .int (nI j), .int (nI l), .int (nI m)] (mS ρ p b sg fg vl) Q = Q (some (.int (nI 1))) (mS (dm_up ρ 120 j (.int (nI (nuV L tx p)))) (nuE L tx p) (skB L tx p) (nI 48) (nuE L tx p - skB L tx p) (nuV L tx p)) := by
  have hL := hT.1
  have hb := skB_le (L := L) (tx := tx) p
  have he := nuE_le (L := L) (tx := tx) p
  obtain ⟨k1, k2, k3, k4⟩ := kN_ok hk
  have z : isF L tx (skB L tx p) = true := by
    by_cases z : isF L tx (skB L tx p) = true
    · exact z
    · exact absurd (nuE_nf z) k1
  have eS : toS L tx p = nI 48 := if_pos z
  have eF : toF L tx p = nuE L tx p - skB L tx p := if_pos z
  have eV : toV L tx p = vR L tx L (skB L tx p) 0 0 := if_pos z
  have eA : toA L tx p = nuE L tx p := if_pos z
  have y1 : ¬ nI 3 < nI (nuE L tx p - skB L tx p) := fun w => by have := (nI_ltI (show 3 < 2 ^ 31 by omega) (by omega)).mp w; omega
  have ev : vR L tx L (skB L tx p) 0 0 = nuV L tx p := vR_C L (skB L tx p) 0 0 (by omega) (show 0 + (nuE L tx p - skB L tx p) ≤ 3 by omega) (by omega)
  have hin : l ≤ nuV L tx p ∧ nuV L tx p ≤ m := ⟨k3, k4⟩
  have h1 : ∀ a b sg fg vl, mS ρ a b sg fg vl 118 1 = (.ref (120 : Nat)) := fun a b sg fg vl => (mS_o (by omega)).trans hT.2.2.2.2.1
  have hj2 : j < kl 120 := by rw [kl_120]; exact hj
  refine Cq_of (Er_of ?_)
  show Wq none 136 0 [some (.ref (118 : Nat)), some (.int (nI j)), some (.int (nI l)), some (.int (nI m))] [] _ _
  simp only [w136_0, w136_1, w136_4, w136_5, w136_8, w136_10, w136_13, w136_14, w136_15, w136_18, w136_19, w136_20, w136_23, w136_24, w136_27, w136_28, w136_31, w136_32, w136_33, w136_34, w136_35, w136_36, w136_39, w136_42, w136_43, w136_44, w136_47, w136_48, w136_49, w136_52, w136_53, w136_54, w136_57, w136_58, w136_59, ks_118, kt_120, c_mstep hT hp, m_18, m_19, m_20, eA, eS, eF, eV, ev, y1, c_in, in_ok3 (show nuV L tx p < 2 ^ 31 by omega) (show l < 2 ^ 31 by omega) (show m < 2 ^ 31 by omega), hin, nI_ne1, h1, in_nI (show j < kl 120 by rw [kl_120]; omega) (by rw [kl_120]; omega), nI_clamp (show j < 2 ^ 31 by omega), mS_up (show ¬ (120 = 118 ∧ 16 ≤ j ∧ j ≤ 20) by omega), (by decide : nI 1 &&& 1 = nI 1), (by decide : nI 0 &&& 1 = nI 0), ↓reduceIte, Option.toList_some, Option.toList_none, List.cons_append, List.nil_append, and_self]
theorem c_ends0 {p : Nat} (hT : mTX L tx ρ) (hp : p ≤ 300) (hk : ltI L tx (skB L tx p) = nI 59) : Cq 137 [(.ref (118 : Nat))] (mS ρ p b sg fg vl) Q = Q (some (.int (nI 1))) (mS ρ (skB L tx p + 1) (skB L tx p) (nI 59) 0 0) := by
  have hp2 := lt_L hk (by omega)
  have z : ¬ isF L tx (skB L tx p) = true := fun z => by
    have h2 : ltI L tx (skB L tx p) = nI (tx (skB L tx p)) := if_pos hp2
    have h3 := hT.2.1 _ hp2
    have h4 := nI_inj (by omega) (by omega) (h2.symm.trans hk)
    unfold isF at z
    simp only [Bool.and_eq_true, decide_eq_true_eq] at z
    omega
  have eS : toS L tx p = nI 59 := (if_neg z).trans hk
  have eF : toF L tx p = 0 := if_neg z
  have eV : toV L tx p = 0 := if_neg z
  have eA : toA L tx p = skB L tx p + 1 := (if_neg z).trans (if_pos hp2)
  refine Cq_of (Er_of ?_)
  show Wq none 137 0 [some (.ref (118 : Nat))] [] _ _
  simp only [w137_0, w137_1, w137_4, w137_5, w137_8, w137_10, w137_13, w137_14, w137_15, w137_18, w137_21, w137_22, w137_25, w137_26, ks_118, c_mstep hT hp, m_18, eA, eS, eF, eV, (by decide : nI 1 &&& 1 = nI 1), (by decide : nI 0 &&& 1 = nI 0), ↓reduceIte, Option.toList_some, Option.toList_none, List.cons_append, List.nil_append, and_self]
theorem c_ends1 {p : Nat} (hT : mTX L tx ρ) (hp : p ≤ 300) (hk : ¬ ltI L tx (skB L tx p) = nI 59) : Cq 137 [(.ref (118 : Nat))] (mS ρ p b sg fg vl) Q = Q (some (.int (nI 0))) (dm_up (mS ρ (toA L tx p) (skB L tx p) (toS L tx p) (toF L tx p) (toV L tx p)) 118 21 (.int (nI 1))) := by
  have y : ¬ toS L tx p = nI 59 := by
    unfold toS
    by_cases z : isF L tx (skB L tx p) = true
    · rw [if_pos z]; decide
    · rw [if_neg z]; exact hk
  refine Cq_of (Er_of ?_)
  show Wq none 137 0 [some (.ref (118 : Nat))] [] _ _
  simp only [w137_0, w137_1, w137_4, w137_5, w137_8, w137_10, w137_13, w137_14, w137_15, w137_18, w137_21, w137_22, w137_25, w137_26, ks_118, c_mstep hT hp, m_18, y, c_fails, (by decide : nI 1 &&& 1 = nI 1), (by decide : nI 0 &&& 1 = nI 0), ↓reduceIte, Option.toList_some, Option.toList_none, List.cons_append, List.nil_append, and_self]
/-- the heap of a failed clause -/
def fH (L : Nat) (tx : Nat → Nat) (ρ : dm_G) (q w : Nat) : dm_G := dm_up (mS ρ (toA L tx q) (skB L tx q) (toS L tx q) (toF L tx q) (toV L tx q)) 118 21 (.int (nI w))
theorem c_fnu {p j l m : Nat} (hT : mTX L tx ρ) (hp : p ≤ 300) (hl : l ≤ 1000) (hm : m ≤ 1000) (hk : ¬ kN L tx l m p = 0) : Cq 136 [(.ref (118 : Nat)), .int (nI j), .int (nI l), .int (nI m)] (mS ρ p b sg fg vl) Q = Q (some (.int (nI 0))) (fH L tx ρ p (kN L tx l m p)) := c_mnu1 hT hp hl hm hk
theorem c_fen {p : Nat} (hT : mTX L tx ρ) (hp : p ≤ 300) (hk : ¬ ltI L tx (skB L tx p) = nI 59) : Cq 137 [(.ref (118 : Nat))] (mS ρ p b sg fg vl) Q = Q (some (.int (nI 0))) (fH L tx ρ p 1) := c_ends1 hT hp hk
theorem MF_H {ρ' : dm_G} {q w : Nat} (h : ∀ i j, ¬ i = 120 → ρ' i j = ρ i j) : MF ρ w (skB L tx q) (fH L tx ρ' q w) := MF_i h
theorem mTX_up {j : Nat} {v : Value} (h : mTX L tx ρ) : mTX L tx (dm_up ρ 120 j v) := by
  obtain ⟨h1, h2, h3, h4, h5, h6⟩ := h
  refine ⟨h1, h2, ?_, ?_, ?_, fun i hi => (gi_of ?_).trans (h6 i hi)⟩
  · rw [up_get, if_neg (by omega)]; exact h3
  · rw [up_get, if_neg (by omega)]; exact h4
  · rw [up_get, if_neg (by omega)]; exact h5
  · rw [up_get, if_neg (by omega)]
theorem RD_up {j v : Nat} (h : RD ρ rd) : RD (dm_up ρ 120 j (.int (nI v))) (upN rd j v) := fun i hi => by
  rw [gi_up]
  unfold upN
  by_cases z : i = j
  · rw [if_pos ⟨rfl, z⟩, if_pos z]
  · rw [if_neg (fun w => z w.2), if_neg z]
    exact h i hi
theorem fr_up {ρ' : dm_G} {j : Nat} {v : Value} (h : ∀ i j, ¬ i = 120 → ρ' i j = ρ i j) : ∀ i j', ¬ i = 120 → dm_up ρ' 120 j v i j' = ρ i j' := fun i j' hi => by
  rw [up_get, if_neg (by omega)]
  exact h i j' hi
theorem fr_0 : ∀ i j, ¬ i = 120 → ρ i j = ρ i j := fun _ _ _ => rfl
theorem mS_u {j : Nat} {v : Value} : dm_up (mS ρ a b sg fg vl) 120 j v = mS (dm_up ρ 120 j v) a b sg fg vl := mS_up (by omega)
theorem mS_gi2 {j : Nat} : gi (mS ρ a b sg fg vl) 120 j = gi ρ 120 j := mS_gi (by omega)
end MN
