/-! the law behind an act: what all must be -/
/-- nobody knows less than he was told to know -/
def KN (c n : Nat → Nat) : Prop := ∀ g, g < c 2 → ∀ j, (c (49 + g)).testBit j = true → (n (6 + g)).testBit j = true
section LW5
variable {N : Nat} {xs : Nat → Int32} {σ : dm_G} {Q : Option Value → dm_G → Prop} {tn i : Nat} {x : Int32} {g e y at' kn hd how : Nat} {a10 a11 a12 a13 a14 a15 a16 a17 a18 a19 a20 a21 a22 a23 a24 a25 a26 a27 a28 a29 : Option Value} {c n : Nat → Nat} {k : Nat} {p : Nat → Nat → Nat} {q : Nat} {im : Nat → Nat → Nat} {h : Nat} {hs ht : Nat → Nat} {m : Nat} {bg bx : Nat → Nat} {L : Nat} {tx : Nat → Nat} {f : Int32} {s : Nat}
theorem lC {n' : Nat → Nat} {k0 did : Nat} {p' : Nat → Nat → Nat} {s' : Nat} {v24 v25 v26 : Option Value} (hK : KA c n' k0 p' q im h hs ht m bg bx L tx f s' σ) (hk : k ≤ 16) (hD : Dn c n n') (hd1 : (did = 1 ∧ k0 = min (k + 1) 16) ∨ (did = 0 ∧ k0 = k)) : Wq (some (N, xs)) 133 978 [some (.retAddr 0), some (.ref (0 : Nat)), some (.ref (118 : Nat)), some (.ref (119 : Nat)), some (.ref (120 : Nat)), some (.int (nI (c 0))), some (.int (nI (c 2))), some (.int (nI (c 3))), some (.int (nI tn)), some (.int (nI i)), some (.int x), some (.int (nI k)), some (.int (nI (n 20))), some (.int (nI (n 19))), some (.int (nI (n 18))), some (.int (nI (n 21))), some (.int (nI g)), some (.int (nI e)), some (.int (nI y)), some (.int (nI at')), some (.int (nI kn)), some (.int (nI hd)), some (.int (nI how)), some (.int (nI did)), v24, v25, v26, a27, a28, a29] [] σ Q = Wq (some (N, xs)) 133 1036 [some (.retAddr 0), some (.ref (0 : Nat)), some (.ref (118 : Nat)), some (.ref (119 : Nat)), some (.ref (120 : Nat)), some (.int (nI (c 0))), some (.int (nI (c 2))), some (.int (nI (c 3))), some (.int (nI tn)), some (.int (nI i)), some (.int x), some (.int (nI k)), some (.int (nI (n 20))), some (.int (nI (n 19))), some (.int (nI (n 18))), some (.int (nI (n 21))), some (.int (nI g)), some (.int (nI e)), some (.int (nI y)), some (.int (nI at')), some (.int (nI kn)), some (.int (nI hd)), some (.int (nI how)), some (.int (nI did)), v24, v25, v26, a27, a28, a29] [] σ Q := by
  obtain ⟨hn1, hn18, hn19, hn20, hn21⟩ := id hK.1.2.1
  obtain ⟨d1, d2, d3, d4⟩ := hD
  have t4 := fun Q => Cq_of (Q := Q) (q_told (j := 4) hK (by omega))
  have t8 := fun Q => Cq_of (Q := Q) (q_told (j := 8) hK (by omega))
  have t13 := fun Q => Cq_of (Q := Q) (q_told (j := 13) hK (by omega))
  simp only [tdN] at t4 t8 t13
  have l4 : ¬ nI (n' 20) < nI (n 20) := nI_nlt d1 (by omega)
  have l8 : nI (n 21) ≤ nI (n' 21) := nI_le d3 (by omega)
  rcases hd1 with ⟨rfl, rfl⟩ | ⟨rfl, rfl⟩
  · by_cases hk16 : k < 16
    · rw [Nat.min_eq_left (by omega)] at t13
      simp only [w133_978, w133_979, w133_981, w133_984, w133_986, w133_989, w133_991, w133_994, w133_996, w133_998, w133_1001, w133_1003, w133_1004, w133_1005, w133_1008, w133_1010, w133_1013, w133_1014, w133_1015, w133_1018, w133_1020, w133_1023, w133_1024, w133_1026, w133_1029, w133_1031, ks_0, t13, nI_ne1, nI_ge hk16 (show 16 < 2 ^ 31 by omega), nI_add, t4, l4, t8, l8, ↓reduceIte, Option.toList_some, Option.toList_none, List.cons_append, List.nil_append]
    · obtain rfl : k = 16 := by omega
      rw [Nat.min_eq_right (by omega)] at t13
      simp only [w133_978, w133_979, w133_981, w133_984, w133_986, w133_989, w133_991, w133_994, w133_996, w133_998, w133_1001, w133_1003, w133_1004, w133_1005, w133_1008, w133_1010, w133_1013, w133_1014, w133_1015, w133_1018, w133_1020, w133_1023, w133_1024, w133_1026, w133_1029, w133_1031, ks_0, t13, nI_ne1, nI_le (Nat.le_refl 16) (show 16 < 2 ^ 31 by omega), nI_add, t4, l4, t8, l8, ↓reduceIte, Option.toList_some, Option.toList_none, List.cons_append, List.nil_append]
  · simp only [w133_978, w133_979, w133_981, w133_984, w133_986, w133_989, w133_991, w133_994, w133_996, w133_998, w133_1001, w133_1003, w133_1004, w133_1005, w133_1008, w133_1010, w133_1013, w133_1014, w133_1015, w133_1018, w133_1020, w133_1023, w133_1024, w133_1026, w133_1029, w133_1031, ks_0, t13, t4, l4, t8, l8, ↓reduceIte, Option.toList_some, Option.toList_none, List.cons_append, List.nil_append]
theorem and_id {a b : Nat} (h : ∀ j, b.testBit j = true → a.testBit j = true) : a &&& b = b := Nat.eq_of_testBit_eq fun j => by
  rw [Nat.testBit_and]
  cases hb : b.testBit j with
  | false => rw [Bool.and_false]
  | true => rw [h j hb]; rfl
theorem haS {g : Nat} : haN n (g + 1) = haN n g ||| n (12 + g) := rfl
theorem hdS {s g : Nat} : hdN n s (g + 1) = if s.testBit g = true then hdN n s g ||| n (12 + g) else hdN n s g := rfl
/-- all heads; what they who talk have -/
theorem lD {T : Nat} (hK : KA c n k p q im h hs ht m bg bx L tx f s σ) (hT : TF c σ) (hKN : KN c n) (hTl : T < 2 ^ 6) (kk : Wq (some (N, xs)) 133 1155 [some (.retAddr 0), some (.ref (0 : Nat)), some (.ref (118 : Nat)), some (.ref (119 : Nat)), some (.ref (120 : Nat)), some (.int (nI (c 0))), some (.int (nI (c 2))), some (.int (nI (c 3))), some (.int (nI tn)), some (.int (nI i)), a10, a11, a12, a13, a14, a15, a16, a17, a18, a19, a20, a21, a22, a23, some (.int (nI (haN n (c 2)))), some (.int (nI T)), some (.int (nI (hdN n T (c 2)))), some (.int (nI (c 2))), a28, a29] [] σ Q) : ∀ (f' j : Nat), j + f' = c 2 → Wq (some (N, xs)) 133 1053 [some (.retAddr 0), some (.ref (0 : Nat)), some (.ref (118 : Nat)), some (.ref (119 : Nat)), some (.ref (120 : Nat)), some (.int (nI (c 0))), some (.int (nI (c 2))), some (.int (nI (c 3))), some (.int (nI tn)), some (.int (nI i)), a10, a11, a12, a13, a14, a15, a16, a17, a18, a19, a20, a21, a22, a23, some (.int (nI (haN n j))), some (.int (nI T)), some (.int (nI (hdN n T j))), some (.int (nI j)), a28, a29] [] σ Q := by
  have w0 := hK.1.1.1
  have w2 := hK.1.1.2.1
  have p8 : 2 ^ c 0 ≤ 2 ^ 8 := Nat.pow_le_pow_right (by decide) w0
  intro f'
  induction f' with
  | zero =>
    intro j hj
    obtain rfl : j = c 2 := by omega
    rw [w133_1053]
    simp only [w133_1055, w133_1057, nI_le (Nat.le_refl (c 2)) (show c 2 < 2 ^ 31 by omega), ↓reduceIte, Option.toList_some, Option.toList_none, List.cons_append, List.nil_append]
    exact kk
  | succ f' ih =>
    intro j hj
    have hg : j < c 2 := by omega
    have h1 := ih (j + 1) (by omega)
    rw [haS, hdS] at h1
    have u0 := fun Q => Cq_of (Q := Q) (q_guide (j := 0) hK hg (by omega))
    have u2 := fun Q => Cq_of (Q := Q) (q_guide (j := 2) hK hg (by omega))
    have u3 := fun Q => Cq_of (Q := Q) (q_guide (j := 3) hK hg (by omega))
    have u4 := fun Q => Cq_of (Q := Q) (q_guide (j := 4) hK hg (by omega))
    simp only [gdN] at u0 u2 u3 u4
    have gx := (hK.1.2.1.1 j hg).1
    have hr : (sN c (n j) (andn (n (6 + j)) (n 19)) (c 0)).testBit (n j) = true := (pw_reach hK.1.1 gx).mpr ⟨0, (pw_0 hK.1.1 gx).mpr rfl⟩
    have hS := sN_lt hK.1.1 (andn (n (6 + j)) (n 19)) gx (c 0)
    have hrb := nI_bit (a := sN c (n j) (andn (n (6 + j)) (n 19)) (c 0)) (x := n j) (by omega) (by omega)
    have hTb := nI_bit (a := T) (x := j) (by omega) (by omega)
    have gt := (hT.2.2.2.2.2.2 j hg).2
    have ga := and_id (hKN j hg)
    rw [w133_1053]
    by_cases hb : T.testBit j = true
    · rw [if_pos hb] at h1
      simp only [w133_1055, w133_1057, w133_1060, w133_1062, w133_1063, w133_1065, w133_1066, w133_1069, w133_1070, w133_1072, w133_1074, w133_1076, w133_1078, w133_1079, w133_1080, w133_1081, w133_1082, w133_1085, w133_1086, w133_1088, w133_1089, w133_1092, w133_1095, w133_1096, w133_1097, w133_1099, w133_1100, w133_1102, w133_1103, w133_1106, w133_1108, w133_1110, w133_1112, w133_1113, w133_1113s, w133_1114, w133_1115, w133_1117, w133_1119, w133_1121, w133_1122, w133_1122s, w133_1123, w133_1126, w133_1127, w133_1129, w133_1130, w133_1133, w133_1134, w133_1136, w133_1137, w133_1140, w133_1141, w133_1142, w133_1143, w133_1144, w133_1147, w133_1148, w133_1149, w133_1152, nI_ge hg (show c 2 < 2 ^ 31 by omega), ks_0, u3, nI_or, hTb, hb, u2, kt_120, nI_add, in_nI (show 6 + j < kl 120 by rw [kl_120]; omega) (by rw [kl_120]; omega), nI_clamp (show 6 + j < 2 ^ 31 by omega), gt, nI_and, ga, u4, u0, hrb, hr, ↓reduceIte, Option.toList_some, Option.toList_none, List.cons_append, List.nil_append]
      exact h1
    · rw [if_neg hb] at h1
      simp only [w133_1055, w133_1057, w133_1060, w133_1062, w133_1063, w133_1065, w133_1066, w133_1069, w133_1070, w133_1072, w133_1074, w133_1076, w133_1078, w133_1079, w133_1080, w133_1081, w133_1082, w133_1085, w133_1086, w133_1088, w133_1089, w133_1092, w133_1095, w133_1096, w133_1097, w133_1099, w133_1100, w133_1102, w133_1103, w133_1106, w133_1108, w133_1110, w133_1112, w133_1113, w133_1113s, w133_1114, w133_1115, w133_1117, w133_1119, w133_1121, w133_1122, w133_1122s, w133_1123, w133_1126, w133_1127, w133_1129, w133_1130, w133_1133, w133_1134, w133_1136, w133_1137, w133_1140, w133_1141, w133_1142, w133_1143, w133_1144, w133_1147, w133_1148, w133_1149, w133_1152, nI_ge hg (show c 2 < 2 ^ 31 by omega), ks_0, u3, nI_or, hTb, hb, (by decide : ¬ nI 0 = nI 1), Nat.or_zero, u2, kt_120, nI_add, in_nI (show 6 + j < kl 120 by rw [kl_120]; omega) (by rw [kl_120]; omega), nI_clamp (show 6 + j < 2 ^ 31 by omega), gt, nI_and, ga, u4, u0, hrb, hr, ↓reduceIte, Option.toList_some, Option.toList_none, List.cons_append, List.nil_append, Bool.false_eq_true]
      exact h1
/-- without one of them -/
theorem lF1 {T K : Nat} (hK : KA c n k p q im h hs ht m bg bx L tx f s σ) (hTl : T < 2 ^ 6) (hKl : K < c 2) (kk : Wq (some (N, xs)) 133 1260 [some (.retAddr 0), some (.ref (0 : Nat)), some (.ref (118 : Nat)), some (.ref (119 : Nat)), some (.ref (120 : Nat)), some (.int (nI (c 0))), some (.int (nI (c 2))), some (.int (nI (c 3))), some (.int (nI tn)), some (.int (nI i)), a10, a11, a12, a13, a14, a15, a16, a17, a18, a19, a20, a21, a22, a23, some (.int (nI (haN n (c 2)))), some (.int (nI T)), a26, some (.int (nI K)), some (.int (nI (hdN n (andn T (1 <<< K)) (c 2)))), some (.int (nI (c 2)))] [] σ Q) : ∀ (f' j : Nat), j + f' = c 2 → Wq (some (N, xs)) 133 1213 [some (.retAddr 0), some (.ref (0 : Nat)), some (.ref (118 : Nat)), some (.ref (119 : Nat)), some (.ref (120 : Nat)), some (.int (nI (c 0))), some (.int (nI (c 2))), some (.int (nI (c 3))), some (.int (nI tn)), some (.int (nI i)), a10, a11, a12, a13, a14, a15, a16, a17, a18, a19, a20, a21, a22, a23, some (.int (nI (haN n (c 2)))), some (.int (nI T)), a26, some (.int (nI K)), some (.int (nI (hdN n (andn T (1 <<< K)) j))), some (.int (nI j))] [] σ Q := by
  have w2 := hK.1.1.2.1
  intro f'
  induction f' with
  | zero =>
    intro j hj
    obtain rfl : j = c 2 := by omega
    rw [w133_1213]
    simp only [w133_1215, w133_1217, nI_le (Nat.le_refl (c 2)) (show c 2 < 2 ^ 31 by omega), ↓reduceIte, Option.toList_some, Option.toList_none, List.cons_append, List.nil_append]
    exact kk
  | succ f' ih =>
    intro j hj
    have hg : j < c 2 := by omega
    have h1 := ih (j + 1) (by omega)
    rw [hdS, andn_tb, tb_shl1] at h1
    have u3 := fun Q => Cq_of (Q := Q) (q_guide (j := 3) hK hg (by omega))
    simp only [gdN] at u3
    have hTb := nI_bit (a := T) (x := j) (by omega) (by omega)
    rw [w133_1213]
    by_cases hjk : j = K
    · have en : nI j = nI K := by rw [hjk]
      rw [if_neg (by rw [decide_eq_true hjk.symm]; simp)] at h1
      simp only [w133_1215, w133_1217, w133_1220, w133_1222, w133_1224, w133_1226, w133_1229, w133_1231, w133_1233, w133_1234, w133_1235, w133_1236, w133_1237, w133_1240, w133_1241, w133_1243, w133_1244, w133_1247, w133_1250, w133_1251, w133_1252, w133_1254, w133_1257, nI_ge hg (show c 2 < 2 ^ 31 by omega), nI_add, nI_or, Nat.or_zero, ↓reduceIte, Option.toList_some, Option.toList_none, List.cons_append, List.nil_append]
      rw [if_pos en]
      exact h1
    · have en : ¬ nI j = nI K := fun z => hjk (nI_inj (by omega) (by omega) z)
      rw [decide_eq_false (fun z => hjk z.symm), Bool.not_false, Bool.and_true] at h1
      by_cases hb : T.testBit j = true
      · rw [if_pos hb] at h1
        simp only [w133_1215, w133_1217, w133_1220, w133_1222, w133_1224, w133_1226, w133_1229, w133_1231, w133_1233, w133_1234, w133_1235, w133_1236, w133_1237, w133_1240, w133_1241, w133_1243, w133_1244, w133_1247, w133_1250, w133_1251, w133_1252, w133_1254, w133_1257, nI_ge hg (show c 2 < 2 ^ 31 by omega), en, hTb, hb, ks_0, u3, nI_add, nI_or, ↓reduceIte, Option.toList_some, Option.toList_none, List.cons_append, List.nil_append]
        exact h1
      · rw [if_neg hb] at h1
        simp only [w133_1215, w133_1217, w133_1220, w133_1222, w133_1224, w133_1226, w133_1229, w133_1231, w133_1233, w133_1234, w133_1235, w133_1236, w133_1237, w133_1240, w133_1241, w133_1243, w133_1244, w133_1247, w133_1250, w133_1251, w133_1252, w133_1254, w133_1257, nI_ge hg (show c 2 < 2 ^ 31 by omega), en, hTb, hb, (by decide : ¬ nI 0 = nI 1), nI_add, nI_or, Nat.or_zero, ↓reduceIte, Option.toList_some, Option.toList_none, List.cons_append, List.nil_append, Bool.false_eq_true]
        exact h1
theorem lF {T : Nat} (hK : KA c n k p q im h hs ht m bg bx L tx f s σ) (hTl : T < 2 ^ 6) (hmin : ∀ j, j < c 2 → T.testBit j = true → hdN n (andn T (1 <<< j)) (c 2) ≠ haN n (c 2)) (kk : ∀ v27 v28 v29, Wq (some (N, xs)) 133 1286 [some (.retAddr 0), some (.ref (0 : Nat)), some (.ref (118 : Nat)), some (.ref (119 : Nat)), some (.ref (120 : Nat)), some (.int (nI (c 0))), some (.int (nI (c 2))), some (.int (nI (c 3))), some (.int (nI tn)), some (.int (nI i)), a10, a11, a12, a13, a14, a15, a16, a17, a18, a19, a20, a21, a22, a23, some (.int (nI (haN n (c 2)))), some (.int (nI T)), a26, v27, v28, v29] [] σ Q) : ∀ (f' j : Nat) (v28 v29 : Option Value), j + f' = c 2 → Wq (some (N, xs)) 133 1200 [some (.retAddr 0), some (.ref (0 : Nat)), some (.ref (118 : Nat)), some (.ref (119 : Nat)), some (.ref (120 : Nat)), some (.int (nI (c 0))), some (.int (nI (c 2))), some (.int (nI (c 3))), some (.int (nI tn)), some (.int (nI i)), a10, a11, a12, a13, a14, a15, a16, a17, a18, a19, a20, a21, a22, a23, some (.int (nI (haN n (c 2)))), some (.int (nI T)), a26, some (.int (nI j)), v28, v29] [] σ Q := by
  have w2 := hK.1.1.2.1
  have w3 := hK.1.1.2.2.1
  have hh : ∀ g, g < c 2 → n (12 + g) < 256 := fun g hg => Nat.lt_of_lt_of_le (hK.1.2.1.1 g hg).2.2 (Nat.le_trans (Nat.pow_le_pow_right (by decide) w3) (by decide : 2 ^ 6 ≤ 256))
  intro f'
  induction f' with
  | zero =>
    intro j v28 v29 hj
    obtain rfl : j = c 2 := by omega
    rw [w133_1200]
    simp only [w133_1202, w133_1204, nI_le (Nat.le_refl (c 2)) (show c 2 < 2 ^ 31 by omega), ↓reduceIte, Option.toList_some, Option.toList_none, List.cons_append, List.nil_append]
    exact kk _ _ _
  | succ f' ih =>
    intro j v28 v29 hj
    have hg : j < c 2 := by omega
    have hTb := nI_bit (a := T) (x := j) (by omega) (by omega)
    rw [w133_1200]
    simp only [w133_1202, w133_1204, w133_1207, w133_1208, w133_1210, w133_1211, nI_ge hg (show c 2 < 2 ^ 31 by omega), ↓reduceIte, Option.toList_some, Option.toList_none, List.cons_append, List.nil_append]
    refine lF1 hK hTl hg ?_ (c 2) 0 (by omega)
    by_cases hb : T.testBit j = true
    · have h1 := hdN_lt (s := andn T (1 <<< j)) hh
      have h2 := haN_lt hh
      have hne : ¬ nI (hdN n (andn T (1 <<< j)) (c 2)) = nI (haN n (c 2)) := fun z => hmin j hg hb (nI_inj (by omega) (by omega) z)
      simp only [w133_1260, w133_1262, w133_1264, w133_1265, w133_1266, w133_1267, w133_1268, w133_1271, w133_1273, w133_1275, w133_1278, w133_1279, w133_1280, w133_1283, hTb, hb, hne, nI_add, ↓reduceIte, Option.toList_some, Option.toList_none, List.cons_append, List.nil_append]
      exact ih (j + 1) _ _ (by omega)
    · simp only [w133_1260, w133_1262, w133_1264, w133_1265, w133_1266, w133_1267, w133_1268, w133_1271, w133_1273, w133_1275, w133_1278, w133_1279, w133_1280, w133_1283, hTb, hb, (by decide : ¬ nI 0 = nI 1), nI_add, ↓reduceIte, Option.toList_some, Option.toList_none, List.cons_append, List.nil_append, Bool.false_eq_true]
      exact ih (j + 1) _ _ (by omega)
/-- from the act's check to the undoing -/
theorem lDF (hK : KA c n k p q im h hs ht m bg bx L tx f s σ) (hT : TF c σ) (hKN : KN c n) (kk : ∀ v24 v25 v26 v27 v28 v29, Wq (some (N, xs)) 133 1286 [some (.retAddr 0), some (.ref (0 : Nat)), some (.ref (118 : Nat)), some (.ref (119 : Nat)), some (.ref (120 : Nat)), some (.int (nI (c 0))), some (.int (nI (c 2))), some (.int (nI (c 3))), some (.int (nI tn)), some (.int (nI i)), a10, a11, a12, a13, a14, a15, a16, a17, a18, a19, a20, a21, a22, a23, v24, v25, v26, v27, v28, v29] [] σ Q) : Wq (some (N, xs)) 133 1036 [some (.retAddr 0), some (.ref (0 : Nat)), some (.ref (118 : Nat)), some (.ref (119 : Nat)), some (.ref (120 : Nat)), some (.int (nI (c 0))), some (.int (nI (c 2))), some (.int (nI (c 3))), some (.int (nI tn)), some (.int (nI i)), a10, a11, a12, a13, a14, a15, a16, a17, a18, a19, a20, a21, a22, a23, a24, a25, a26, a27, a28, a29] [] σ Q := by
  have w2 := hK.1.1.2.1
  have w3 := hK.1.1.2.2.1
  have p6 : 2 ^ c 2 ≤ 2 ^ 6 := Nat.pow_le_pow_right (by decide) w2
  have p63 : 2 ^ c 3 ≤ 2 ^ 6 := Nat.pow_le_pow_right (by decide) w3
  obtain ⟨T, hT1, hT2, hT3, hT4, hT5⟩ := pt_talk (n := n) (m := c 2) w2
  have t9 := fun Q => Cq_of (Q := Q) (q_told (j := 9) hK (by omega))
  simp only [tdN, hT1, oI] at t9
  have hha : haN n (c 2) < 2 ^ c 3 := haN_lt2 (fun g hg => (hK.1.2.1.1 g hg).2.2)
  rw [w133_1036]
  simp only [w133_1037, w133_1039, w133_1040, w133_1042, w133_1045, w133_1047, w133_1048, w133_1050, w133_1051, ks_0, t9, ↓reduceIte, Option.toList_some, Option.toList_none, List.cons_append, List.nil_append]
  refine lD (T := T) hK hT hKN (by omega) ?_ (c 2) 0 (by omega)
  rw [hT3]
  have n1 : ¬ nI T < nI 0 := nI_nlt (Nat.zero_le _) (by omega)
  have n2 : ¬ nI (1 <<< c 2) ≤ nI T := nI_ge (by rw [Nat.one_shiftLeft]; exact hT2) (by rw [Nat.one_shiftLeft]; omega)
  have n3 : nI (haN n (c 2)) < nI (1 <<< c 3) := (nI_ltI (by omega) (by rw [Nat.one_shiftLeft]; omega)).mpr (by rw [Nat.one_shiftLeft]; exact hha)
  rw [w133_1155]
  by_cases hz : haN n (c 2) = 0
  · have e1 := hT4 hz
    have e0 : nI (haN n (c 2)) = nI 0 := by rw [hz]
    have n1' := n1
    have n2' := n2
    have n3' := n3
    rw [e1] at n1' n2'
    rw [e0] at n3'
    have fin : Wq (some (N, xs)) 133 1200 [some (.retAddr 0), some (.ref (0 : Nat)), some (.ref (118 : Nat)), some (.ref (119 : Nat)), some (.ref (120 : Nat)), some (.int (nI (c 0))), some (.int (nI (c 2))), some (.int (nI (c 3))), some (.int (nI tn)), some (.int (nI i)), a10, a11, a12, a13, a14, a15, a16, a17, a18, a19, a20, a21, a22, a23, some (.int (nI (haN n (c 2)))), some (.int (nI T)), some (.int (nI (haN n (c 2)))), some (.int (nI 0)), a28, a29] [] σ Q := lF hK (by omega) hT5 (fun v27 v28 v29 => kk _ _ _ _ _ _) (c 2) 0 _ _ (by omega)
    rw [e0, e1] at fin
    simp only [w133_1157, w133_1159, w133_1162, w133_1164, w133_1167, w133_1169, w133_1170, w133_1172, w133_1173, w133_1176, w133_1178, w133_1181, w133_1183, w133_1186, w133_1188, w133_1189, w133_1191, w133_1192, w133_1195, w133_1196, w133_1197, w133_1198, e0, e1, n1', n2', n3', nI_shl 1 (show c 2 < 32 by omega), nI_shl 1 (show c 3 < 32 by omega), ↓reduceIte, Option.toList_some, Option.toList_none, List.cons_append, List.nil_append]
    exact fin
  · have e0 : ¬ nI (haN n (c 2)) = nI 0 := fun z => hz (nI_inj (by omega) (by omega) z)
    simp only [w133_1157, w133_1159, w133_1162, w133_1164, w133_1167, w133_1169, w133_1170, w133_1172, w133_1173, w133_1176, w133_1178, w133_1181, w133_1183, w133_1186, w133_1188, w133_1189, w133_1191, w133_1192, w133_1195, w133_1196, w133_1197, w133_1198, e0, n1, n2, n3, nI_shl 1 (show c 2 < 32 by omega), nI_shl 1 (show c 3 < 32 by omega), ↓reduceIte, Option.toList_some, Option.toList_none, List.cons_append, List.nil_append]
    exact lF hK (by omega) hT5 (fun v27 v28 v29 => kk _ _ _ _ _ _) (c 2) 0 _ _ (by omega)
end LW5
