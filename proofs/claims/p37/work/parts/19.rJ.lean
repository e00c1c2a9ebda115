/-! a row an instruction: what the machine does there (printed by wip/gen37/rows.py) -/
section RW
variable {scr : dm_Sc} {scL : Nat} {scX : Nat → Int32} {σ : dm_G} {Q : Option Value → dm_G → Prop} {st : List Value} {s0 s1 s2 s3 s4 s5 s6 s7 : Value} {x y x0 x1 x2 x3 x4 x5 x6 x7 : Int32} {u v u0 u1 u2 : Int64} {k k2 k0 k1 k3 k4 : Nat} {a0 a1 a2 a3 a4 a5 a6 a7 a8 a9 a10 a11 a12 a13 a14 a15 a16 a17 a18 a19 a20 a21 a22 a23 a24 a25 a26 a27 a28 a29 : Option Value}
-- java/lang/Integer.bitCount (I)I: method 130
theorem w130_0 : Wq scr 130 0 [some (.int x)] st σ Q = Wq scr 130 1 [some (.int x)] (.int x :: st) σ Q := wq_n (by decide +kernel : decode (mB 130) 0 = .ok (.iload_n 0, 1)) rfl rfl
theorem w130_1 : Wq scr 130 1 [some (.int x)] st σ Q = Wq scr 130 2 [some (.int x)] (.int x :: st) σ Q := wq_n (by decide +kernel : decode (mB 130) 1 = .ok (.iload_n 0, 1)) rfl rfl
theorem w130_2 : Wq scr 130 2 [a0] st σ Q = Wq scr 130 3 [a0] (.int (nI 1) :: st) σ Q := wq_n (by decide +kernel : decode (mB 130) 2 = .ok (.iconst 1, 1)) rfl rfl
theorem w130_3 : Wq scr 130 3 [a0] (.int y :: .int x :: st) σ Q = Wq scr 130 4 [a0] (.int ((x.toUInt32 >>> (y.toUInt32 &&& Int32.toUInt32 31)).toInt32) :: st) σ Q := wq_n (by decide +kernel : decode (mB 130) 3 = .ok (.iushr, 1)) rfl rfl
theorem w130_4 : Wq scr 130 4 [a0] st σ Q = Wq scr 130 7 [a0] (.int (nI 1431655765) :: st) σ Q := wq_n (by decide +kernel : decode (mB 130) 4 = .ok (.ldc_w 265, 3)) rfl rfl
theorem w130_7 : Wq scr 130 7 [a0] (.int y :: .int x :: st) σ Q = Wq scr 130 8 [a0] (.int (x &&& y) :: st) σ Q := wq_n (by decide +kernel : decode (mB 130) 7 = .ok (.iand, 1)) rfl rfl
theorem w130_8 : Wq scr 130 8 [a0] (.int y :: .int x :: st) σ Q = Wq scr 130 9 [a0] (.int (x - y) :: st) σ Q := wq_n (by decide +kernel : decode (mB 130) 8 = .ok (.isub, 1)) rfl rfl
theorem w130_9 : Wq scr 130 9 [a0] (.int x :: st) σ Q = Wq scr 130 10 [some (.int x)] st σ Q := wq_n (by decide +kernel : decode (mB 130) 9 = .ok (.istore_n 0, 1)) rfl rfl
theorem w130_10 : Wq scr 130 10 [some (.int x)] st σ Q = Wq scr 130 11 [some (.int x)] (.int x :: st) σ Q := wq_n (by decide +kernel : decode (mB 130) 10 = .ok (.iload_n 0, 1)) rfl rfl
theorem w130_11 : Wq scr 130 11 [a0] st σ Q = Wq scr 130 14 [a0] (.int (nI 858993459) :: st) σ Q := wq_n (by decide +kernel : decode (mB 130) 11 = .ok (.ldc_w 266, 3)) rfl rfl
theorem w130_14 : Wq scr 130 14 [a0] (.int y :: .int x :: st) σ Q = Wq scr 130 15 [a0] (.int (x &&& y) :: st) σ Q := wq_n (by decide +kernel : decode (mB 130) 14 = .ok (.iand, 1)) rfl rfl
theorem w130_15 : Wq scr 130 15 [some (.int x)] st σ Q = Wq scr 130 16 [some (.int x)] (.int x :: st) σ Q := wq_n (by decide +kernel : decode (mB 130) 15 = .ok (.iload_n 0, 1)) rfl rfl
theorem w130_16 : Wq scr 130 16 [a0] st σ Q = Wq scr 130 17 [a0] (.int (nI 2) :: st) σ Q := wq_n (by decide +kernel : decode (mB 130) 16 = .ok (.iconst 2, 1)) rfl rfl
theorem w130_17 : Wq scr 130 17 [a0] (.int y :: .int x :: st) σ Q = Wq scr 130 18 [a0] (.int ((x.toUInt32 >>> (y.toUInt32 &&& Int32.toUInt32 31)).toInt32) :: st) σ Q := wq_n (by decide +kernel : decode (mB 130) 17 = .ok (.iushr, 1)) rfl rfl
theorem w130_18 : Wq scr 130 18 [a0] st σ Q = Wq scr 130 21 [a0] (.int (nI 858993459) :: st) σ Q := wq_n (by decide +kernel : decode (mB 130) 18 = .ok (.ldc_w 266, 3)) rfl rfl
theorem w130_21 : Wq scr 130 21 [a0] (.int y :: .int x :: st) σ Q = Wq scr 130 22 [a0] (.int (x &&& y) :: st) σ Q := wq_n (by decide +kernel : decode (mB 130) 21 = .ok (.iand, 1)) rfl rfl
theorem w130_22 : Wq scr 130 22 [a0] (.int y :: .int x :: st) σ Q = Wq scr 130 23 [a0] (.int (x + y) :: st) σ Q := wq_n (by decide +kernel : decode (mB 130) 22 = .ok (.iadd, 1)) rfl rfl
theorem w130_23 : Wq scr 130 23 [a0] (.int x :: st) σ Q = Wq scr 130 24 [some (.int x)] st σ Q := wq_n (by decide +kernel : decode (mB 130) 23 = .ok (.istore_n 0, 1)) rfl rfl
theorem w130_24 : Wq scr 130 24 [some (.int x)] st σ Q = Wq scr 130 25 [some (.int x)] (.int x :: st) σ Q := wq_n (by decide +kernel : decode (mB 130) 24 = .ok (.iload_n 0, 1)) rfl rfl
theorem w130_25 : Wq scr 130 25 [some (.int x)] st σ Q = Wq scr 130 26 [some (.int x)] (.int x :: st) σ Q := wq_n (by decide +kernel : decode (mB 130) 25 = .ok (.iload_n 0, 1)) rfl rfl
theorem w130_26 : Wq scr 130 26 [a0] st σ Q = Wq scr 130 27 [a0] (.int (nI 4) :: st) σ Q := wq_n (by decide +kernel : decode (mB 130) 26 = .ok (.iconst 4, 1)) rfl rfl
theorem w130_27 : Wq scr 130 27 [a0] (.int y :: .int x :: st) σ Q = Wq scr 130 28 [a0] (.int ((x.toUInt32 >>> (y.toUInt32 &&& Int32.toUInt32 31)).toInt32) :: st) σ Q := wq_n (by decide +kernel : decode (mB 130) 27 = .ok (.iushr, 1)) rfl rfl
theorem w130_28 : Wq scr 130 28 [a0] (.int y :: .int x :: st) σ Q = Wq scr 130 29 [a0] (.int (x + y) :: st) σ Q := wq_n (by decide +kernel : decode (mB 130) 28 = .ok (.iadd, 1)) rfl rfl
theorem w130_29 : Wq scr 130 29 [a0] st σ Q = Wq scr 130 32 [a0] (.int (nI 252645135) :: st) σ Q := wq_n (by decide +kernel : decode (mB 130) 29 = .ok (.ldc_w 267, 3)) rfl rfl
theorem w130_32 : Wq scr 130 32 [a0] (.int y :: .int x :: st) σ Q = Wq scr 130 33 [a0] (.int (x &&& y) :: st) σ Q := wq_n (by decide +kernel : decode (mB 130) 32 = .ok (.iand, 1)) rfl rfl
theorem w130_33 : Wq scr 130 33 [a0] (.int x :: st) σ Q = Wq scr 130 34 [some (.int x)] st σ Q := wq_n (by decide +kernel : decode (mB 130) 33 = .ok (.istore_n 0, 1)) rfl rfl
theorem w130_34 : Wq scr 130 34 [some (.int x)] st σ Q = Wq scr 130 35 [some (.int x)] (.int x :: st) σ Q := wq_n (by decide +kernel : decode (mB 130) 34 = .ok (.iload_n 0, 1)) rfl rfl
theorem w130_35 : Wq scr 130 35 [some (.int x)] st σ Q = Wq scr 130 36 [some (.int x)] (.int x :: st) σ Q := wq_n (by decide +kernel : decode (mB 130) 35 = .ok (.iload_n 0, 1)) rfl rfl
theorem w130_36 : Wq scr 130 36 [a0] st σ Q = Wq scr 130 38 [a0] (.int (nI 8) :: st) σ Q := wq_n (by decide +kernel : decode (mB 130) 36 = .ok (.bipush 8, 2)) rfl rfl
theorem w130_38 : Wq scr 130 38 [a0] (.int y :: .int x :: st) σ Q = Wq scr 130 39 [a0] (.int ((x.toUInt32 >>> (y.toUInt32 &&& Int32.toUInt32 31)).toInt32) :: st) σ Q := wq_n (by decide +kernel : decode (mB 130) 38 = .ok (.iushr, 1)) rfl rfl
theorem w130_39 : Wq scr 130 39 [a0] (.int y :: .int x :: st) σ Q = Wq scr 130 40 [a0] (.int (x + y) :: st) σ Q := wq_n (by decide +kernel : decode (mB 130) 39 = .ok (.iadd, 1)) rfl rfl
theorem w130_40 : Wq scr 130 40 [a0] (.int x :: st) σ Q = Wq scr 130 41 [some (.int x)] st σ Q := wq_n (by decide +kernel : decode (mB 130) 40 = .ok (.istore_n 0, 1)) rfl rfl
theorem w130_41 : Wq scr 130 41 [some (.int x)] st σ Q = Wq scr 130 42 [some (.int x)] (.int x :: st) σ Q := wq_n (by decide +kernel : decode (mB 130) 41 = .ok (.iload_n 0, 1)) rfl rfl
theorem w130_42 : Wq scr 130 42 [some (.int x)] st σ Q = Wq scr 130 43 [some (.int x)] (.int x :: st) σ Q := wq_n (by decide +kernel : decode (mB 130) 42 = .ok (.iload_n 0, 1)) rfl rfl
theorem w130_43 : Wq scr 130 43 [a0] st σ Q = Wq scr 130 45 [a0] (.int (nI 16) :: st) σ Q := wq_n (by decide +kernel : decode (mB 130) 43 = .ok (.bipush 16, 2)) rfl rfl
theorem w130_45 : Wq scr 130 45 [a0] (.int y :: .int x :: st) σ Q = Wq scr 130 46 [a0] (.int ((x.toUInt32 >>> (y.toUInt32 &&& Int32.toUInt32 31)).toInt32) :: st) σ Q := wq_n (by decide +kernel : decode (mB 130) 45 = .ok (.iushr, 1)) rfl rfl
theorem w130_46 : Wq scr 130 46 [a0] (.int y :: .int x :: st) σ Q = Wq scr 130 47 [a0] (.int (x + y) :: st) σ Q := wq_n (by decide +kernel : decode (mB 130) 46 = .ok (.iadd, 1)) rfl rfl
theorem w130_47 : Wq scr 130 47 [a0] (.int x :: st) σ Q = Wq scr 130 48 [some (.int x)] st σ Q := wq_n (by decide +kernel : decode (mB 130) 47 = .ok (.istore_n 0, 1)) rfl rfl
theorem w130_48 : Wq scr 130 48 [some (.int x)] st σ Q = Wq scr 130 49 [some (.int x)] (.int x :: st) σ Q := wq_n (by decide +kernel : decode (mB 130) 48 = .ok (.iload_n 0, 1)) rfl rfl
theorem w130_49 : Wq scr 130 49 [a0] st σ Q = Wq scr 130 51 [a0] (.int (nI 63) :: st) σ Q := wq_n (by decide +kernel : decode (mB 130) 49 = .ok (.bipush 63, 2)) rfl rfl
theorem w130_51 : Wq scr 130 51 [a0] (.int y :: .int x :: st) σ Q = Wq scr 130 52 [a0] (.int (x &&& y) :: st) σ Q := wq_n (by decide +kernel : decode (mB 130) 51 = .ok (.iand, 1)) rfl rfl
theorem w130_52 : Wq scr 130 52 [a0] [.int x] σ Q = Q (some (.int x)) σ := wq_iret (by decide +kernel : decode (mB 130) 52 = .ok (.ireturn, 1)) rfl rfl
end RW
