/-! what is kept ahead of a deed: both sides -/
def pushP (n : Nat → Nat) (p : Nat → Nat → Nat) : Nat → Nat → Nat := fun i => match i with
  | 0 => n
  | i + 1 => p i
section KB
variable {σ σ' : dm_G} {Q : Option Value → dm_G → Prop} {c n : Nat → Nat} {k : Nat} {p : Nat → Nat → Nat} {q : Nat} {im : Nat → Nat → Nat} {h : Nat} {hs ht : Nat → Nat} {m : Nat} {bg bx : Nat → Nat} {L : Nat} {tx : Nat → Nat} {f : Int32} {s : Nat}
theorem WA_push (hA : WA c n k p q im h hs ht m bg bx L tx s) : WA c n (min (k + 1) 16) (pushP n p) q im h hs ht m bg bx L tx s := by
  obtain ⟨hw, hwn, ⟨hk16, hkp⟩, r⟩ := hA
  refine ⟨hw, hwn, ⟨by omega, fun i hi => ?_⟩, r⟩
  cases i with
  | zero => exact hwn
  | succ i => exact hkp i (by omega)
theorem WA_now {n' : Nat → Nat} (hA : WA c n k p q im h hs ht m bg bx L tx s) (hn : WN c n') : WA c n' k p q im h hs ht m bg bx L tx s := ⟨hA.1, hn, hA.2.2⟩
theorem CA_now {n' : Nat → Nat} (h1 : CA c n k p q im h hs ht m bg bx L tx f s σ) (hk : ∀ a b, ¬ (24 ≤ a ∧ a < 28) → σ' a b = σ a b) (hn : CN σ' 24 (c 2) n') : CA c n' k p q im h hs ht m bg bx L tx f s σ' := by
  obtain ⟨h1, h2, h3, h4, h5, h6, h7, h8, h9, h10⟩ := h1
  exact ⟨cPl_of (fun a b z => hk a b (by omega)) h1, hn, cPa_of (fun a b z => hk a b (by omega)) h3, cIm_of (fun a b z => hk a b (by omega)) h4, cHe_of (fun a b z => hk a b (by omega)) h5, CBk_of (fun a b z => hk a b (by omega)) h6, cTx_of (fun a b z => hk a b (by omega)) h7, (hk _ _ (by omega)).trans h8, (hk _ _ (by omega)).trans h9, cSc_of (fun a b z => hk a b (by omega)) h10⟩
theorem MA_now {n' : Nat → Nat} (h1 : MA c n k p q im h hs ht m bg bx L tx f s σ) (hk : ∀ a b, a ≠ 121 → σ' a b = σ a b) (hn : MN σ' n') : MA c n' k p q im h hs ht m bg bx L tx f s σ' := by
  obtain ⟨h1, h2, h3, h4, h5, h6, h7, h8, h9, h10⟩ := h1
  exact ⟨MR_k (fun a b z => hk a b (by omega)) h1, MC_k (fun a b z => hk a b (by omega)) h2, hn, mPa_k (fun a b z => hk a b (by omega)) h4, mIm_k (fun a b z => hk a b (by omega)) h5, MH_k (fun a b z => hk a b (by omega)) h6, MB_k (fun a b z => hk a b (by omega)) h7, mTx_k (fun a b z => hk a b (by omega)) h8, (hk _ _ (by omega)).trans h9, (hk _ _ (by omega)).trans h10⟩
theorem MA_lo (hM : MA c n k p q im h hs ht m bg bx L tx f s σ) (hk : ∀ a b, 118 ≤ a → σ' a b = σ a b) : MA c n k p q im h hs ht m bg bx L tx f s σ' := MA_of (fun a b z => hk a b (by unfold scM at z; omega)) hM
theorem CA_hi (hC : CA c n k p q im h hs ht m bg bx L tx f s σ) (hk : ∀ a b, a < 118 → σ' a b = σ a b) : CA c n k p q im h hs ht m bg bx L tx f s σ' := CA_of (fun a b z => hk a b (by unfold scC at z; omega)) hC
theorem kaF_out {u k a b : Nat} (hu : u < 16) (h1 : ¬ (28 ≤ a ∧ a < 94)) : kaF σ u k a b = σ a b := by
  unfold kaF
  rw [up_get, if_neg (by omega), up_get, if_neg (by omega)]
  unfold beF
  rw [if_neg (by omega), if_neg (by omega)]
theorem be_CN {S O G : Nat} {n : Nat → Nat} (hS : SK S) (rS : SR σ S) (hG : G ≤ 6) (hN : CN σ O G n) (hd : S + 3 < O ∨ O + 3 < S) : CN (beF S O σ) S G n := by
  obtain ⟨kO, ⟨q0, q1, q2⟩, ⟨j3, j4, j5, j6⟩, jf⟩ := hN
  have e0 : ∀ b, 3 ≤ b → b ≤ 6 → beF S O σ S b = σ O b := fun b h1 h2 => by
    unfold beF
    rw [if_neg (by omega), if_pos ⟨rfl, h1, h2⟩]
  have e1 : ∀ b, b < 3 → beF S O σ S b = σ S b := fun b h1 => by
    unfold beF
    rw [if_neg (by omega), if_neg (by omega)]
  have e2 : ∀ i g, 1 ≤ i → i ≤ 3 → g < 6 → gi (beF S O σ) (S + i) g = gi σ (O + i) g := fun i g h1 h2 h3 => by
    unfold gi beF
    rw [if_pos ⟨by omega, h3⟩, show S + i - S = i by omega]
    rfl
  refine ⟨hS, ⟨(e1 0 (by omega)).trans rS.1, (e1 1 (by omega)).trans rS.2.1, (e1 2 (by omega)).trans rS.2.2⟩, ⟨(e0 3 (by omega) (by omega)).trans j3, (e0 4 (by omega) (by omega)).trans j4, (e0 5 (by omega) (by omega)).trans j5, (e0 6 (by omega) (by omega)).trans j6⟩, fun g hg => ?_⟩
  obtain ⟨a1, a2, a3⟩ := jf g hg
  exact ⟨(e2 1 g (by omega) (by omega) (by omega)).trans a1, (e2 2 g (by omega) (by omega) (by omega)).trans a2, (e2 3 g (by omega) (by omega) (by omega)).trans a3⟩
theorem be_out {S O a b : Nat} (h : a < S ∨ S + 3 < a) : beF S O σ a b = σ a b := by
  unfold beF
  rw [if_neg (by omega), if_neg (by omega)]
theorem be_rf {S O b : Nat} (h : b < 3) : beF S O σ S b = σ S b := by
  unfold beF
  rw [if_neg (by omega), if_neg (by omega)]
theorem ka_pa {u : Nat} (hG : c 2 ≤ 6) (hu : u < 16) (hk : k ≤ 16) (hP : CP σ u k) (hS : ∀ i, i < 16 → SR σ (30 + 4 * i)) (hp : ∀ i, i < k → CN σ (30 + 4 * ((u + 15 - i) % 16)) (c 2) (p i)) (hN : CN σ 24 (c 2) n) : cPa c (min (k + 1) 16) (pushP n p) (kaF σ u k) := by
  obtain ⟨p0, p1, p2, p3⟩ := hP
  have e28 : ∀ a b, a ≠ 28 → kaF σ u k a b = beF (30 + 4 * u) 24 σ a b := fun a b h => by
    unfold kaF
    rw [up_get, if_neg (by omega), up_get, if_neg (by omega)]
  refine ⟨(u + 1) % 16, by omega, ⟨?_, ?_, ?_, ?_⟩, ?_, ?_⟩
  · unfold kaF
    rw [up_get, if_neg (by omega), up_get, if_neg (by omega), be_out (by omega)]
    exact p0
  · unfold kaF
    rw [up_get, if_neg (by omega), up_get, if_pos ⟨rfl, rfl⟩]
  · unfold kaF
    rw [up_get, if_pos ⟨rfl, rfl⟩]
  · intro i hi
    rw [e28 _ _ (by omega), be_out (by omega)]
    exact p3 i hi
  · intro i hi
    refine SR_of (fun b => ?_) (S := 30 + 4 * i) (σ := beF (30 + 4 * u) 24 σ) ?_
    · exact e28 _ _ (by omega)
    · have h := hS i hi
      by_cases z : i = u
      · subst z
        exact ⟨(be_rf (by omega)).trans h.1, (be_rf (by omega)).trans h.2.1, (be_rf (by omega)).trans h.2.2⟩
      · exact SR_of (fun b => be_out (by omega)) h
  · intro i hi
    cases i with
    | zero =>
      rw [show ((u + 1) % 16 + 15 - 0) % 16 = u by omega]
      refine CN_of (fun j b hj => e28 _ _ (by omega)) (be_CN (SK_p u hu) (hS u hu) hG hN (Or.inr (by omega)))
    | succ i =>
      rw [show ((u + 1) % 16 + 15 - (i + 1)) % 16 = (u + 15 - i) % 16 by omega]
      refine CN_of (fun j b hj => ?_) (hp i (by omega))
      rw [e28 _ _ (by omega), be_out (by omega)]
/-- the class keeps how all is -/
theorem c_keepA (hW : WA c n k p q im h hs ht m bg bx L tx s) (hC : CA c n k p q im h hs ht m bg bx L tx f s σ) : ∃ τ, (∀ Q : Option Value → dm_G → Prop, Cq 48 [(.ref (28 : Nat)), (.ref (24 : Nat))] σ Q = Q none τ) ∧ CA c n (min (k + 1) 16) (pushP n p) q im h hs ht m bg bx L tx f s τ ∧ ∀ a b, 118 ≤ a → τ a b = σ a b := by
  obtain ⟨h1, h2, h3, h4, h5, h6, h7, h8, h9, h10⟩ := hC
  obtain ⟨u, hu, hP, hS, hp⟩ := h3
  have hk := hW.2.2.1.1
  have kk : ∀ a b, ¬ (28 ≤ a ∧ a < 94) → kaF σ u k a b = σ a b := fun a b z => kaF_out hu z
  refine ⟨kaF σ u k, fun Q => c_keepAhead hP hu hk SK_24 h2.2.1 (fun i hi => ⟨SK_p i hi, hS i hi⟩) (CN_iN h2), ⟨cPl_of (fun a b z => kk a b (by omega)) h1, cNo_of (fun a b z => kk a b (by omega)) h2, ka_pa hW.1.2.1 hu hk hP hS hp h2, cIm_of (fun a b z => kk a b (by omega)) h4, cHe_of (fun a b z => kk a b (by omega)) h5, CBk_of (fun a b z => kk a b (by omega)) h6, cTx_of (fun a b z => kk a b (by omega)) h7, (kk _ _ (by omega)).trans h8, (kk _ _ (by omega)).trans h9, cSc_of (fun a b z => kk a b (by omega)) h10⟩, fun a b z => kk a b (by omega)⟩
theorem rm_pa (hk : k ≤ 16) (hP : mPa k p σ) (hN : MN σ n) : mPa (min (k + 1) 16) (pushP n p) (rmF σ k) := by
  obtain ⟨p0, p1⟩ := hP
  by_cases z : k = 16
  · subst z
    refine ⟨?_, fun i hi j hj => ?_⟩
    · rw [rmF, if_pos rfl, reF, up_get, if_pos ⟨rfl, rfl⟩]
      rfl
    · have e1 : ∀ b, gi (rmF σ 16) 122 b = if 330 ≤ b ∧ b < 352 then gi σ 121 (b - 330) else if b < 330 then gi σ 122 (b + 22) else gi σ 122 b := by
        intro b
        rw [rmF, if_pos rfl, reF, gi_up, if_neg (by omega)]
        unfold gi cpL
        by_cases y : 330 ≤ b ∧ b < 352
        · rw [if_pos ⟨rfl, y.1, y.2⟩, if_pos y]
          unfold gi
          rw [up_get, if_neg (by omega), reL_fld (by omega), show 0 + (b - 22 * 15) = b - 330 by omega]
          rfl
        · rw [if_neg (fun w => y ⟨w.2.1, w.2.2⟩), if_neg y, up_get, if_neg (by omega)]
          unfold reL
          by_cases w : b < 330
          · rw [if_pos ⟨rfl, w⟩, if_pos w]
            rfl
          · rw [if_neg (fun v => w v.2), if_neg w]
      rw [e1]
      cases i with
      | zero =>
        rw [if_pos (by omega), show 22 * (min (16 + 1) 16 - 1 - 0) + j - 330 = j by omega]
        exact hN j hj
      | succ i =>
        rw [if_neg (by omega), if_pos (by omega), show 22 * (min (16 + 1) 16 - 1 - (i + 1)) + j + 22 = 22 * (16 - 1 - i) + j by omega]
        exact p1 i (by omega) j hj
  · refine ⟨?_, fun i hi j hj => ?_⟩
    · rw [rmF, if_neg z, reF, up_get, if_pos ⟨rfl, rfl⟩, Nat.min_eq_left (by omega)]
    · have e1 : ∀ b, gi (rmF σ k) 122 b = if 22 * k ≤ b ∧ b < 22 * k + 22 then gi σ 121 (b - 22 * k) else gi σ 122 b := by
        intro b
        rw [rmF, if_neg z, reF, gi_up, if_neg (by omega)]
        unfold gi cpL
        by_cases y : 22 * k ≤ b ∧ b < 22 * k + 22
        · rw [if_pos ⟨rfl, y.1, y.2⟩, if_pos y, Nat.zero_add]
          rfl
        · rw [if_neg (fun w => y ⟨w.2.1, w.2.2⟩), if_neg y]
      rw [e1]
      cases i with
      | zero =>
        rw [if_pos (by omega), show 22 * (min (k + 1) 16 - 1 - 0) + j - 22 * k = j by omega]
        exact hN j hj
      | succ i =>
        rw [if_neg (by omega), show 22 * (min (k + 1) 16 - 1 - (i + 1)) + j = 22 * (k - 1 - i) + j by omega]
        exact p1 i (by omega) j hj
/-- the reference remembers -/
theorem c_rememberA (hW : WA c n k p q im h hs ht m bg bx L tx s) (hM : MA c n k p q im h hs ht m bg bx L tx f s σ) : ∃ τ, (∀ Q : Option Value → dm_G → Prop, Cq 165 [(.ref (118 : Nat))] σ Q = Q none τ) ∧ MA c n (min (k + 1) 16) (pushP n p) q im h hs ht m bg bx L tx f s τ ∧ ∀ a b, a < 118 → τ a b = σ a b := by
  obtain ⟨h1, h2, h3, h4, h5, h6, h7, h8, h9, h10⟩ := hM
  have hk := hW.2.2.1.1
  have kk : ∀ a b, ¬ (a = 122 ∨ (a = 118 ∧ b = 4)) → rmF σ k a b = σ a b := fun a b z => rmF_cell (fun w => z (Or.inl w)) (fun w => z (Or.inr w))
  refine ⟨rmF σ k, fun Q => c_remember h1 h4.1 hk, ⟨MR_k (fun a b z => kk a b (by omega)) h1, MC_k (fun a b z => kk a b (by omega)) h2, MN_k (fun a b z => kk a b (by omega)) h3, rm_pa hk h4 h3, mIm_k (fun a b z => kk a b (by omega)) h5, MH_k (fun a b z => kk a b (by omega)) h6, MB_k (fun a b z => kk a b (by omega)) h7, mTx_k (fun a b z => kk a b (by omega)) h8, (kk _ _ (by omega)).trans h9, (kk _ _ (by omega)).trans h10⟩, fun a b z => kk a b (by omega)⟩
theorem inv_mk (hW : WA c n k p q im h hs ht m bg bx L tx s) (hC : CA c n k p q im h hs ht m bg bx L tx f s σ) (hk : ∀ a b, a < 118 → σ' a b = σ a b) (hM : MA c n k p q im h hs ht m bg bx L tx f s σ') : Inv σ' := ⟨c, n, k, p, q, im, h, hs, ht, m, bg, bx, L, tx, f, s, hW, CA_hi hC hk, hM⟩
end KB
