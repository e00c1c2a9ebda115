/-! a row an instruction: what the machine does there (printed by wip/gen/rows.py) -/
section RW
variable {scr : dm_Sc} {scL : Nat} {scX : Nat → Int32} {σ : dm_G} {Q : Option Value → dm_G → Prop} {st : List Value} {s0 s1 s2 s3 : Value} {x y x0 x1 x2 x3 x4 x5 : Int32} {u v u0 u1 u2 : Int64} {k k2 k0 k1 : Nat} {a0 a1 a2 a3 a4 a5 a6 a7 a8 a9 a10 a11 a12 a13 : Option Value}
-- java/lang/Integer.bitCount (I)I: method 207
theorem w207_0 : Wq scr 207 0 [some (.int x)] st σ Q = Wq scr 207 1 [some (.int x)] (.int x :: st) σ Q := wq_n (by decide +kernel : decode (mB 207) 0 = .ok (.iload_n 0, 1)) rfl rfl
theorem w207_1 : Wq scr 207 1 [some (.int x)] st σ Q = Wq scr 207 2 [some (.int x)] (.int x :: st) σ Q := wq_n (by decide +kernel : decode (mB 207) 1 = .ok (.iload_n 0, 1)) rfl rfl
theorem w207_2 : Wq scr 207 2 [a0] st σ Q = Wq scr 207 3 [a0] (.int (nI 1) :: st) σ Q := wq_n (by decide +kernel : decode (mB 207) 2 = .ok (.iconst 1, 1)) rfl rfl
theorem w207_3 : Wq scr 207 3 [a0] (.int y :: .int x :: st) σ Q = Wq scr 207 4 [a0] (.int ((x.toUInt32 >>> (y.toUInt32 &&& Int32.toUInt32 31)).toInt32) :: st) σ Q := wq_n (by decide +kernel : decode (mB 207) 3 = .ok (.iushr, 1)) rfl rfl
theorem w207_4 : Wq scr 207 4 [a0] st σ Q = Wq scr 207 7 [a0] (.int (nI 1431655765) :: st) σ Q := wq_n (by decide +kernel : decode (mB 207) 4 = .ok (.ldc_w 265, 3)) rfl rfl
theorem w207_7 : Wq scr 207 7 [a0] (.int y :: .int x :: st) σ Q = Wq scr 207 8 [a0] (.int (x &&& y) :: st) σ Q := wq_n (by decide +kernel : decode (mB 207) 7 = .ok (.iand, 1)) rfl rfl
theorem w207_8 : Wq scr 207 8 [a0] (.int y :: .int x :: st) σ Q = Wq scr 207 9 [a0] (.int (x - y) :: st) σ Q := wq_n (by decide +kernel : decode (mB 207) 8 = .ok (.isub, 1)) rfl rfl
theorem w207_9 : Wq scr 207 9 [a0] (.int x :: st) σ Q = Wq scr 207 10 [some (.int x)] st σ Q := wq_n (by decide +kernel : decode (mB 207) 9 = .ok (.istore_n 0, 1)) rfl rfl
theorem w207_10 : Wq scr 207 10 [some (.int x)] st σ Q = Wq scr 207 11 [some (.int x)] (.int x :: st) σ Q := wq_n (by decide +kernel : decode (mB 207) 10 = .ok (.iload_n 0, 1)) rfl rfl
theorem w207_11 : Wq scr 207 11 [a0] st σ Q = Wq scr 207 14 [a0] (.int (nI 858993459) :: st) σ Q := wq_n (by decide +kernel : decode (mB 207) 11 = .ok (.ldc_w 266, 3)) rfl rfl
theorem w207_14 : Wq scr 207 14 [a0] (.int y :: .int x :: st) σ Q = Wq scr 207 15 [a0] (.int (x &&& y) :: st) σ Q := wq_n (by decide +kernel : decode (mB 207) 14 = .ok (.iand, 1)) rfl rfl
theorem w207_15 : Wq scr 207 15 [some (.int x)] st σ Q = Wq scr 207 16 [some (.int x)] (.int x :: st) σ Q := wq_n (by decide +kernel : decode (mB 207) 15 = .ok (.iload_n 0, 1)) rfl rfl
theorem w207_16 : Wq scr 207 16 [a0] st σ Q = Wq scr 207 17 [a0] (.int (nI 2) :: st) σ Q := wq_n (by decide +kernel : decode (mB 207) 16 = .ok (.iconst 2, 1)) rfl rfl
theorem w207_17 : Wq scr 207 17 [a0] (.int y :: .int x :: st) σ Q = Wq scr 207 18 [a0] (.int ((x.toUInt32 >>> (y.toUInt32 &&& Int32.toUInt32 31)).toInt32) :: st) σ Q := wq_n (by decide +kernel : decode (mB 207) 17 = .ok (.iushr, 1)) rfl rfl
theorem w207_18 : Wq scr 207 18 [a0] st σ Q = Wq scr 207 21 [a0] (.int (nI 858993459) :: st) σ Q := wq_n (by decide +kernel : decode (mB 207) 18 = .ok (.ldc_w 266, 3)) rfl rfl
theorem w207_21 : Wq scr 207 21 [a0] (.int y :: .int x :: st) σ Q = Wq scr 207 22 [a0] (.int (x &&& y) :: st) σ Q := wq_n (by decide +kernel : decode (mB 207) 21 = .ok (.iand, 1)) rfl rfl
theorem w207_22 : Wq scr 207 22 [a0] (.int y :: .int x :: st) σ Q = Wq scr 207 23 [a0] (.int (x + y) :: st) σ Q := wq_n (by decide +kernel : decode (mB 207) 22 = .ok (.iadd, 1)) rfl rfl
theorem w207_23 : Wq scr 207 23 [a0] (.int x :: st) σ Q = Wq scr 207 24 [some (.int x)] st σ Q := wq_n (by decide +kernel : decode (mB 207) 23 = .ok (.istore_n 0, 1)) rfl rfl
theorem w207_24 : Wq scr 207 24 [some (.int x)] st σ Q = Wq scr 207 25 [some (.int x)] (.int x :: st) σ Q := wq_n (by decide +kernel : decode (mB 207) 24 = .ok (.iload_n 0, 1)) rfl rfl
theorem w207_25 : Wq scr 207 25 [some (.int x)] st σ Q = Wq scr 207 26 [some (.int x)] (.int x :: st) σ Q := wq_n (by decide +kernel : decode (mB 207) 25 = .ok (.iload_n 0, 1)) rfl rfl
theorem w207_26 : Wq scr 207 26 [a0] st σ Q = Wq scr 207 27 [a0] (.int (nI 4) :: st) σ Q := wq_n (by decide +kernel : decode (mB 207) 26 = .ok (.iconst 4, 1)) rfl rfl
theorem w207_27 : Wq scr 207 27 [a0] (.int y :: .int x :: st) σ Q = Wq scr 207 28 [a0] (.int ((x.toUInt32 >>> (y.toUInt32 &&& Int32.toUInt32 31)).toInt32) :: st) σ Q := wq_n (by decide +kernel : decode (mB 207) 27 = .ok (.iushr, 1)) rfl rfl
theorem w207_28 : Wq scr 207 28 [a0] (.int y :: .int x :: st) σ Q = Wq scr 207 29 [a0] (.int (x + y) :: st) σ Q := wq_n (by decide +kernel : decode (mB 207) 28 = .ok (.iadd, 1)) rfl rfl
theorem w207_29 : Wq scr 207 29 [a0] st σ Q = Wq scr 207 32 [a0] (.int (nI 252645135) :: st) σ Q := wq_n (by decide +kernel : decode (mB 207) 29 = .ok (.ldc_w 267, 3)) rfl rfl
theorem w207_32 : Wq scr 207 32 [a0] (.int y :: .int x :: st) σ Q = Wq scr 207 33 [a0] (.int (x &&& y) :: st) σ Q := wq_n (by decide +kernel : decode (mB 207) 32 = .ok (.iand, 1)) rfl rfl
theorem w207_33 : Wq scr 207 33 [a0] (.int x :: st) σ Q = Wq scr 207 34 [some (.int x)] st σ Q := wq_n (by decide +kernel : decode (mB 207) 33 = .ok (.istore_n 0, 1)) rfl rfl
theorem w207_34 : Wq scr 207 34 [some (.int x)] st σ Q = Wq scr 207 35 [some (.int x)] (.int x :: st) σ Q := wq_n (by decide +kernel : decode (mB 207) 34 = .ok (.iload_n 0, 1)) rfl rfl
theorem w207_35 : Wq scr 207 35 [some (.int x)] st σ Q = Wq scr 207 36 [some (.int x)] (.int x :: st) σ Q := wq_n (by decide +kernel : decode (mB 207) 35 = .ok (.iload_n 0, 1)) rfl rfl
theorem w207_36 : Wq scr 207 36 [a0] st σ Q = Wq scr 207 38 [a0] (.int (nI 8) :: st) σ Q := wq_n (by decide +kernel : decode (mB 207) 36 = .ok (.bipush 8, 2)) rfl rfl
theorem w207_38 : Wq scr 207 38 [a0] (.int y :: .int x :: st) σ Q = Wq scr 207 39 [a0] (.int ((x.toUInt32 >>> (y.toUInt32 &&& Int32.toUInt32 31)).toInt32) :: st) σ Q := wq_n (by decide +kernel : decode (mB 207) 38 = .ok (.iushr, 1)) rfl rfl
theorem w207_39 : Wq scr 207 39 [a0] (.int y :: .int x :: st) σ Q = Wq scr 207 40 [a0] (.int (x + y) :: st) σ Q := wq_n (by decide +kernel : decode (mB 207) 39 = .ok (.iadd, 1)) rfl rfl
theorem w207_40 : Wq scr 207 40 [a0] (.int x :: st) σ Q = Wq scr 207 41 [some (.int x)] st σ Q := wq_n (by decide +kernel : decode (mB 207) 40 = .ok (.istore_n 0, 1)) rfl rfl
theorem w207_41 : Wq scr 207 41 [some (.int x)] st σ Q = Wq scr 207 42 [some (.int x)] (.int x :: st) σ Q := wq_n (by decide +kernel : decode (mB 207) 41 = .ok (.iload_n 0, 1)) rfl rfl
theorem w207_42 : Wq scr 207 42 [some (.int x)] st σ Q = Wq scr 207 43 [some (.int x)] (.int x :: st) σ Q := wq_n (by decide +kernel : decode (mB 207) 42 = .ok (.iload_n 0, 1)) rfl rfl
theorem w207_43 : Wq scr 207 43 [a0] st σ Q = Wq scr 207 45 [a0] (.int (nI 16) :: st) σ Q := wq_n (by decide +kernel : decode (mB 207) 43 = .ok (.bipush 16, 2)) rfl rfl
theorem w207_45 : Wq scr 207 45 [a0] (.int y :: .int x :: st) σ Q = Wq scr 207 46 [a0] (.int ((x.toUInt32 >>> (y.toUInt32 &&& Int32.toUInt32 31)).toInt32) :: st) σ Q := wq_n (by decide +kernel : decode (mB 207) 45 = .ok (.iushr, 1)) rfl rfl
theorem w207_46 : Wq scr 207 46 [a0] (.int y :: .int x :: st) σ Q = Wq scr 207 47 [a0] (.int (x + y) :: st) σ Q := wq_n (by decide +kernel : decode (mB 207) 46 = .ok (.iadd, 1)) rfl rfl
theorem w207_47 : Wq scr 207 47 [a0] (.int x :: st) σ Q = Wq scr 207 48 [some (.int x)] st σ Q := wq_n (by decide +kernel : decode (mB 207) 47 = .ok (.istore_n 0, 1)) rfl rfl
theorem w207_48 : Wq scr 207 48 [some (.int x)] st σ Q = Wq scr 207 49 [some (.int x)] (.int x :: st) σ Q := wq_n (by decide +kernel : decode (mB 207) 48 = .ok (.iload_n 0, 1)) rfl rfl
theorem w207_49 : Wq scr 207 49 [a0] st σ Q = Wq scr 207 51 [a0] (.int (nI 63) :: st) σ Q := wq_n (by decide +kernel : decode (mB 207) 49 = .ok (.bipush 63, 2)) rfl rfl
theorem w207_51 : Wq scr 207 51 [a0] (.int y :: .int x :: st) σ Q = Wq scr 207 52 [a0] (.int (x &&& y) :: st) σ Q := wq_n (by decide +kernel : decode (mB 207) 51 = .ok (.iand, 1)) rfl rfl
theorem w207_52 : Wq scr 207 52 [a0] [.int x] σ Q = Q (some (.int x)) σ := wq_iret (by decide +kernel : decode (mB 207) 52 = .ok (.ireturn, 1)) rfl rfl
end RW
