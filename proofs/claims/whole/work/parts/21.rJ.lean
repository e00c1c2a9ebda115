/-! a row an instruction: what the machine does there (printed by wip/gen/rows.py) -/
section RW
variable {scr : dm_Sc} {scL : Nat} {scX : Nat → Int32} {σ : dm_G} {Q : Option Value → dm_G → Prop} {st : List Value} {s0 s1 s2 s3 : Value} {x y x0 x1 x2 x3 x4 x5 : Int32} {u v u0 u1 u2 : Int64} {k k2 k0 k1 : Nat} {a0 a1 a2 a3 a4 a5 a6 a7 a8 a9 a10 a11 a12 a13 : Option Value}
-- java/lang/Integer.bitCount (I)I: method 208
theorem w208_0 : Wq scr 208 0 [some (.int x)] st σ Q = Wq scr 208 1 [some (.int x)] (.int x :: st) σ Q := wq_n (by decide +kernel : decode (mB 208) 0 = .ok (.iload_n 0, 1)) rfl rfl
theorem w208_1 : Wq scr 208 1 [some (.int x)] st σ Q = Wq scr 208 2 [some (.int x)] (.int x :: st) σ Q := wq_n (by decide +kernel : decode (mB 208) 1 = .ok (.iload_n 0, 1)) rfl rfl
theorem w208_2 : Wq scr 208 2 [a0] st σ Q = Wq scr 208 3 [a0] (.int (nI 1) :: st) σ Q := wq_n (by decide +kernel : decode (mB 208) 2 = .ok (.iconst 1, 1)) rfl rfl
theorem w208_3 : Wq scr 208 3 [a0] (.int y :: .int x :: st) σ Q = Wq scr 208 4 [a0] (.int ((x.toUInt32 >>> (y.toUInt32 &&& Int32.toUInt32 31)).toInt32) :: st) σ Q := wq_n (by decide +kernel : decode (mB 208) 3 = .ok (.iushr, 1)) rfl rfl
theorem w208_4 : Wq scr 208 4 [a0] st σ Q = Wq scr 208 7 [a0] (.int (nI 1431655765) :: st) σ Q := wq_n (by decide +kernel : decode (mB 208) 4 = .ok (.ldc_w 265, 3)) rfl rfl
theorem w208_7 : Wq scr 208 7 [a0] (.int y :: .int x :: st) σ Q = Wq scr 208 8 [a0] (.int (x &&& y) :: st) σ Q := wq_n (by decide +kernel : decode (mB 208) 7 = .ok (.iand, 1)) rfl rfl
theorem w208_8 : Wq scr 208 8 [a0] (.int y :: .int x :: st) σ Q = Wq scr 208 9 [a0] (.int (x - y) :: st) σ Q := wq_n (by decide +kernel : decode (mB 208) 8 = .ok (.isub, 1)) rfl rfl
theorem w208_9 : Wq scr 208 9 [a0] (.int x :: st) σ Q = Wq scr 208 10 [some (.int x)] st σ Q := wq_n (by decide +kernel : decode (mB 208) 9 = .ok (.istore_n 0, 1)) rfl rfl
theorem w208_10 : Wq scr 208 10 [some (.int x)] st σ Q = Wq scr 208 11 [some (.int x)] (.int x :: st) σ Q := wq_n (by decide +kernel : decode (mB 208) 10 = .ok (.iload_n 0, 1)) rfl rfl
theorem w208_11 : Wq scr 208 11 [a0] st σ Q = Wq scr 208 14 [a0] (.int (nI 858993459) :: st) σ Q := wq_n (by decide +kernel : decode (mB 208) 11 = .ok (.ldc_w 266, 3)) rfl rfl
theorem w208_14 : Wq scr 208 14 [a0] (.int y :: .int x :: st) σ Q = Wq scr 208 15 [a0] (.int (x &&& y) :: st) σ Q := wq_n (by decide +kernel : decode (mB 208) 14 = .ok (.iand, 1)) rfl rfl
theorem w208_15 : Wq scr 208 15 [some (.int x)] st σ Q = Wq scr 208 16 [some (.int x)] (.int x :: st) σ Q := wq_n (by decide +kernel : decode (mB 208) 15 = .ok (.iload_n 0, 1)) rfl rfl
theorem w208_16 : Wq scr 208 16 [a0] st σ Q = Wq scr 208 17 [a0] (.int (nI 2) :: st) σ Q := wq_n (by decide +kernel : decode (mB 208) 16 = .ok (.iconst 2, 1)) rfl rfl
theorem w208_17 : Wq scr 208 17 [a0] (.int y :: .int x :: st) σ Q = Wq scr 208 18 [a0] (.int ((x.toUInt32 >>> (y.toUInt32 &&& Int32.toUInt32 31)).toInt32) :: st) σ Q := wq_n (by decide +kernel : decode (mB 208) 17 = .ok (.iushr, 1)) rfl rfl
theorem w208_18 : Wq scr 208 18 [a0] st σ Q = Wq scr 208 21 [a0] (.int (nI 858993459) :: st) σ Q := wq_n (by decide +kernel : decode (mB 208) 18 = .ok (.ldc_w 266, 3)) rfl rfl
theorem w208_21 : Wq scr 208 21 [a0] (.int y :: .int x :: st) σ Q = Wq scr 208 22 [a0] (.int (x &&& y) :: st) σ Q := wq_n (by decide +kernel : decode (mB 208) 21 = .ok (.iand, 1)) rfl rfl
theorem w208_22 : Wq scr 208 22 [a0] (.int y :: .int x :: st) σ Q = Wq scr 208 23 [a0] (.int (x + y) :: st) σ Q := wq_n (by decide +kernel : decode (mB 208) 22 = .ok (.iadd, 1)) rfl rfl
theorem w208_23 : Wq scr 208 23 [a0] (.int x :: st) σ Q = Wq scr 208 24 [some (.int x)] st σ Q := wq_n (by decide +kernel : decode (mB 208) 23 = .ok (.istore_n 0, 1)) rfl rfl
theorem w208_24 : Wq scr 208 24 [some (.int x)] st σ Q = Wq scr 208 25 [some (.int x)] (.int x :: st) σ Q := wq_n (by decide +kernel : decode (mB 208) 24 = .ok (.iload_n 0, 1)) rfl rfl
theorem w208_25 : Wq scr 208 25 [some (.int x)] st σ Q = Wq scr 208 26 [some (.int x)] (.int x :: st) σ Q := wq_n (by decide +kernel : decode (mB 208) 25 = .ok (.iload_n 0, 1)) rfl rfl
theorem w208_26 : Wq scr 208 26 [a0] st σ Q = Wq scr 208 27 [a0] (.int (nI 4) :: st) σ Q := wq_n (by decide +kernel : decode (mB 208) 26 = .ok (.iconst 4, 1)) rfl rfl
theorem w208_27 : Wq scr 208 27 [a0] (.int y :: .int x :: st) σ Q = Wq scr 208 28 [a0] (.int ((x.toUInt32 >>> (y.toUInt32 &&& Int32.toUInt32 31)).toInt32) :: st) σ Q := wq_n (by decide +kernel : decode (mB 208) 27 = .ok (.iushr, 1)) rfl rfl
theorem w208_28 : Wq scr 208 28 [a0] (.int y :: .int x :: st) σ Q = Wq scr 208 29 [a0] (.int (x + y) :: st) σ Q := wq_n (by decide +kernel : decode (mB 208) 28 = .ok (.iadd, 1)) rfl rfl
theorem w208_29 : Wq scr 208 29 [a0] st σ Q = Wq scr 208 32 [a0] (.int (nI 252645135) :: st) σ Q := wq_n (by decide +kernel : decode (mB 208) 29 = .ok (.ldc_w 267, 3)) rfl rfl
theorem w208_32 : Wq scr 208 32 [a0] (.int y :: .int x :: st) σ Q = Wq scr 208 33 [a0] (.int (x &&& y) :: st) σ Q := wq_n (by decide +kernel : decode (mB 208) 32 = .ok (.iand, 1)) rfl rfl
theorem w208_33 : Wq scr 208 33 [a0] (.int x :: st) σ Q = Wq scr 208 34 [some (.int x)] st σ Q := wq_n (by decide +kernel : decode (mB 208) 33 = .ok (.istore_n 0, 1)) rfl rfl
theorem w208_34 : Wq scr 208 34 [some (.int x)] st σ Q = Wq scr 208 35 [some (.int x)] (.int x :: st) σ Q := wq_n (by decide +kernel : decode (mB 208) 34 = .ok (.iload_n 0, 1)) rfl rfl
theorem w208_35 : Wq scr 208 35 [some (.int x)] st σ Q = Wq scr 208 36 [some (.int x)] (.int x :: st) σ Q := wq_n (by decide +kernel : decode (mB 208) 35 = .ok (.iload_n 0, 1)) rfl rfl
theorem w208_36 : Wq scr 208 36 [a0] st σ Q = Wq scr 208 38 [a0] (.int (nI 8) :: st) σ Q := wq_n (by decide +kernel : decode (mB 208) 36 = .ok (.bipush 8, 2)) rfl rfl
theorem w208_38 : Wq scr 208 38 [a0] (.int y :: .int x :: st) σ Q = Wq scr 208 39 [a0] (.int ((x.toUInt32 >>> (y.toUInt32 &&& Int32.toUInt32 31)).toInt32) :: st) σ Q := wq_n (by decide +kernel : decode (mB 208) 38 = .ok (.iushr, 1)) rfl rfl
theorem w208_39 : Wq scr 208 39 [a0] (.int y :: .int x :: st) σ Q = Wq scr 208 40 [a0] (.int (x + y) :: st) σ Q := wq_n (by decide +kernel : decode (mB 208) 39 = .ok (.iadd, 1)) rfl rfl
theorem w208_40 : Wq scr 208 40 [a0] (.int x :: st) σ Q = Wq scr 208 41 [some (.int x)] st σ Q := wq_n (by decide +kernel : decode (mB 208) 40 = .ok (.istore_n 0, 1)) rfl rfl
theorem w208_41 : Wq scr 208 41 [some (.int x)] st σ Q = Wq scr 208 42 [some (.int x)] (.int x :: st) σ Q := wq_n (by decide +kernel : decode (mB 208) 41 = .ok (.iload_n 0, 1)) rfl rfl
theorem w208_42 : Wq scr 208 42 [some (.int x)] st σ Q = Wq scr 208 43 [some (.int x)] (.int x :: st) σ Q := wq_n (by decide +kernel : decode (mB 208) 42 = .ok (.iload_n 0, 1)) rfl rfl
theorem w208_43 : Wq scr 208 43 [a0] st σ Q = Wq scr 208 45 [a0] (.int (nI 16) :: st) σ Q := wq_n (by decide +kernel : decode (mB 208) 43 = .ok (.bipush 16, 2)) rfl rfl
theorem w208_45 : Wq scr 208 45 [a0] (.int y :: .int x :: st) σ Q = Wq scr 208 46 [a0] (.int ((x.toUInt32 >>> (y.toUInt32 &&& Int32.toUInt32 31)).toInt32) :: st) σ Q := wq_n (by decide +kernel : decode (mB 208) 45 = .ok (.iushr, 1)) rfl rfl
theorem w208_46 : Wq scr 208 46 [a0] (.int y :: .int x :: st) σ Q = Wq scr 208 47 [a0] (.int (x + y) :: st) σ Q := wq_n (by decide +kernel : decode (mB 208) 46 = .ok (.iadd, 1)) rfl rfl
theorem w208_47 : Wq scr 208 47 [a0] (.int x :: st) σ Q = Wq scr 208 48 [some (.int x)] st σ Q := wq_n (by decide +kernel : decode (mB 208) 47 = .ok (.istore_n 0, 1)) rfl rfl
theorem w208_48 : Wq scr 208 48 [some (.int x)] st σ Q = Wq scr 208 49 [some (.int x)] (.int x :: st) σ Q := wq_n (by decide +kernel : decode (mB 208) 48 = .ok (.iload_n 0, 1)) rfl rfl
theorem w208_49 : Wq scr 208 49 [a0] st σ Q = Wq scr 208 51 [a0] (.int (nI 63) :: st) σ Q := wq_n (by decide +kernel : decode (mB 208) 49 = .ok (.bipush 63, 2)) rfl rfl
theorem w208_51 : Wq scr 208 51 [a0] (.int y :: .int x :: st) σ Q = Wq scr 208 52 [a0] (.int (x &&& y) :: st) σ Q := wq_n (by decide +kernel : decode (mB 208) 51 = .ok (.iand, 1)) rfl rfl
theorem w208_52 : Wq scr 208 52 [a0] [.int x] σ Q = Q (some (.int x)) σ := wq_iret (by decide +kernel : decode (mB 208) 52 = .ok (.ireturn, 1)) rfl rfl
end RW
