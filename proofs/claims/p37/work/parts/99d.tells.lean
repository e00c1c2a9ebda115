/-! the law tells a city: all -/
/-- what the law's row says of the city told -/
def TF (c : Nat → Nat) (τ : dm_G) : Prop := 1 ≤ c 0 ∧ c 2 ≤ 5 ∧ c 3 ≤ 5 ∧ gi τ 118 0 = nI (c 0) ∧ gi τ 118 2 = nI (c 2) ∧ gi τ 118 3 = nI (c 3) ∧ GZ τ c (c 2)
theorem TF_F {c : Nat → Nat} {σ τ : dm_G} (h : TF c σ) (hF : FZ σ τ) : TF c τ := by
  obtain ⟨h0, h2, h3, g0, g2, g3, hG⟩ := h
  exact ⟨h0, h2, h3, (gi_of (hF 118 _ (by omega))).trans g0, (gi_of (hF 118 _ (by omega))).trans g2, (gi_of (hF 118 _ (by omega))).trans g3, fun g hg => ⟨(gi_of (hF 118 _ (by omega))).trans (hG g hg).1, (gi_of (hF 120 _ (by omega))).trans (hG g hg).2⟩⟩
section TE5
variable {N : Nat} {xs : Nat → Int32} {σ : dm_G} {Q : Option Value → dm_G → Prop} {c n : Nat → Nat} {k : Nat} {p : Nat → Nat → Nat} {q : Nat} {im : Nat → Nat → Nat} {h : Nat} {hs ht : Nat → Nat} {m : Nat} {bg bx : Nat → Nat} {L : Nat} {tx : Nat → Nat} {f : Int32} {s : Nat}
theorem Es_P {scr : dm_Sc} {y : Nat} {as : List Value} {σ : dm_G} {v : Option Value} {P : dm_G → Prop} (h : Wq scr y 0 (dm_in0 y as) [] σ (fun r' τ => r' = v ∧ P τ)) : ∃ τ, Es scr y as σ v τ ∧ P τ := by
  obtain ⟨m, r, τ, h1, rfl, h2⟩ := h
  exact ⟨τ, ⟨m, h1⟩, h2⟩
theorem q_tells (hN : N < 2 ^ 31) (hK : KA c n k p q im h hs ht m bg bx 0 tx f s σ) : ∃ τ, Es (some (N, xs)) 127 [(.ref (0 : Nat)), .retAddr 0, (.ref (118 : Nat)), (.ref (119 : Nat)), (.ref (120 : Nat)), .int (nI 8), .int (nI 5), .int (nI 5)] σ (some (.int (nI 1))) τ ∧ ∃ c' tx', KA c' (bnN c') 0 p 0 im 0 hs ht 0 bg bx 0 tx' (-1) s τ ∧ TF c' τ := by
  refine Es_P ?_
  show Wq (some (N, xs)) 127 0 [some (.ref (0 : Nat)), some (.retAddr 0), some (.ref (118 : Nat)), some (.ref (119 : Nat)), some (.ref (120 : Nat)), some (.int (nI 8)), some (.int (nI 5)), some (.int (nI 5)), none, none, none, none] [] σ _
  simp only [w127_0, w127_1]
  refine tl_z (fun σ1 K1 => ?_) 55 0 σ (by omega) hK
  simp only [w127_21, w127_22]
  refine tl_m (fun σ2 K2 => ?_) 12 0 σ1 (by omega) K1
  simp only [w127_42, w127_43]
  refine tl_t (fun σ3 K3 => ?_) 22 0 σ2 (by omega) K2
  obtain ⟨n0, z1, z2, z3, z4, τ, tx1, x, h1, h2, h3, h4, h5, h6, w, K4, P4, Z4⟩ := tl_1 (N := N) (xs := xs) hN K3
  rw [w]
  refine tl_q (fun σ5 K5 Z5 => ?_) 24 0 τ (by omega) K4 Z4
  simp only [w127_207, w127_208]
  refine tl_cs hN h1 h2 h3 (fun σ6 L6 tx6 rd6 v8 v11 K6 Z6 l6 P6 R6 => ?_) z1 0 σ5 4 tx1 (cwN n0) _ _ (by omega) K5 Z5 (by omega) P4 ⟨rfl, rfl, rfl, rfl, rfl⟩
  simp only [w127_344, w127_345]
  refine tl_gs hN h1 h2 (by omega) h4 (fun σ7 L7 tx7 rd7 v8' K7 Z7 l7 P7 R7 G7 => ?_) z2 0 σ6 L6 tx6 rd6 _ (by omega) K6 Z6 (by omega) P6 ⟨R6.1, R6.2.2.1, R6.2.2.2.1, R6.2.2.2.2⟩ (fun g hg => by omega)
  simp only [w127_502, w127_503]
  refine tl_es hN h1 h2 (by omega) h4 h5 (fun σ8 L8 tx8 rd8 v8'' K8 Z8 l8 P8 R8 G8 => ?_) z3 0 σ7 L7 tx7 rd7 _ (by omega) K7 Z7 (by omega) P7 R7 G7
  obtain ⟨r0, r2, r3, r4⟩ := R8
  by_cases hz : z4 = 0
  · subst hz
    rw [w127_598]
    simp only [w127_599, w127_600, w127_600s, w127_601, w127_611, w127_612, w127_614, w127_616, w127_617, w127_618, w127_618s, w127_619, w127_672, w127_673, w127_674, w127_674s, w127_675, kt_118, in_nI (show 4 < kl 118 by rw [kl_118]; omega) (by rw [kl_118]; omega), nI_clamp (show 4 < 2 ^ 31 by omega), Z8.2.2.2.2, nI_le (Nat.le_refl 0) (show 0 < 2 ^ 31 by omega), ↓reduceIte, Option.toList_some, Option.toList_none, List.cons_append, List.nil_append]
    refine tl_f K8 (by omega) P8 Z8 r0 r2 r3 (fun τ' tx' K9 F9 => ⟨rfl, rd8, tx', K9, ?_⟩)
    refine ⟨by omega, by omega, by omega, ?_, ?_, ?_, fun g hg => ⟨(gi_of (F9 118 _ (by omega))).trans (G8 g (by omega)).1, (gi_of (F9 120 _ (by omega))).trans (G8 g (by omega)).2⟩⟩
    · rw [gi_of (F9 118 0 (by omega)), r0]; exact Z8.1
    · rw [gi_of (F9 118 2 (by omega)), r2]; exact Z8.2.2.1
    · rw [gi_of (F9 118 3 (by omega)), r3]; exact Z8.2.2.2.1
  · obtain ⟨τ1, e1, K9, k9⟩ := q_feed K8 (e := 109) (by omega) (by omega)
    have c1 := fun Q => Cq_of (Q := Q) e1
    have n4 : ¬ nI z4 ≤ nI 0 := nI_ge (by omega) (by omega)
    rw [w127_598]
    simp only [w127_599, w127_600, w127_600s, w127_601, w127_604, w127_605, w127_607, w127_610, w127_611, w127_612, kt_118, in_nI (show 4 < kl 118 by rw [kl_118]; omega) (by rw [kl_118]; omega), nI_clamp (show 4 < 2 ^ 31 by omega), Z8.2.2.2.2, n4, ks_0, c1, ↓reduceIte, Option.toList_some, Option.toList_none, List.cons_append, List.nil_append]
    refine tl_ms (tx0 := tx8) hN (by omega) h6 (by omega) (fun σ9 tx9 d K10 E10 t0 hm t1 Z10 G10 => ?_) z4 0 τ1 (up1 tx8 L8 109) (fun _ => 0) (by omega) K9 (fun j hj => up1_ne (by omega)) up1_eq ⟨fun j hj => by omega, fun j hj => by omega⟩ (ZC_F k9 Z8) (fun g hg => ⟨(gi_of (k9 118 _ (by omega))).trans (G8 g hg).1, (gi_of (k9 120 _ (by omega))).trans (G8 g hg).2⟩)
    have key : ∃ rd', PX tx9 (L8 + 1 + 2 * z4) (1 + z1 + z2 + z3 + 1) rd' ∧ ∀ i, i < 67 → i ≠ 4 → rd' i = rd8 i := by
      refine ⟨rdMs z4 rd8 d, PX_s (j := 1 + z1 + z2 + z3) (PX_cg P8 E10) (by omega) (by omega) (by rw [t0]; omega) ?_, (rdMs_o z4 rd8 d).2⟩
      intro L' tx' q1 q2 q3
      exact cl_m (L := L') (tx := tx') (rd := rd8) (p := L8) (j := z4) (d := d) (by omega) r4 (by omega) (by omega) (by rw [q3 _ (by omega)]; exact t0) ⟨fun i hi => by rw [q3 _ (by omega)]; exact hm.1 i hi, fun i hi => by rw [q3 _ (by omega)]; exact hm.2 i hi⟩ (by rw [q3 _ (by omega)]; exact t1) (by omega)
    obtain ⟨rd9, P9, f9⟩ := key
    refine tl_f K10 (by omega) P9 Z10 (by rw [f9 0 (by omega) (by omega)]; exact r0) (by rw [f9 2 (by omega) (by omega)]; exact r2) (by rw [f9 3 (by omega) (by omega)]; exact r3) (fun τ' tx' K11 F9 => ⟨rfl, rd9, tx', K11, ?_⟩)
    have f0 := f9 0 (by omega) (by omega)
    have f2 := f9 2 (by omega) (by omega)
    have f3 := f9 3 (by omega) (by omega)
    refine ⟨by omega, by omega, by omega, ?_, ?_, ?_, fun g hg => ?_⟩
    · rw [gi_of (F9 118 0 (by omega)), f0, r0]; exact Z10.1
    · rw [gi_of (F9 118 2 (by omega)), f2, r2]; exact Z10.2.2.1
    · rw [gi_of (F9 118 3 (by omega)), f3, r3]; exact Z10.2.2.2.1
    · rw [f9 _ (by omega) (by omega), f9 _ (by omega) (by omega)]
      exact ⟨(gi_of (F9 118 _ (by omega))).trans (G10 g (by omega)).1, (gi_of (F9 120 _ (by omega))).trans (G10 g (by omega)).2⟩
end TE5
