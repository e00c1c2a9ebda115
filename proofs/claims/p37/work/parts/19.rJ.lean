/-! a row an instruction: what the machine does there (printed by wip/gen37/rows.py) -/
section RW
variable {scr : dm_Sc} {scL : Nat} {scX : Nat → Int32} {σ : dm_G} {Q : Option Value → dm_G → Prop} {st : List Value} {s0 s1 s2 s3 s4 s5 s6 s7 : Value} {x y x0 x1 x2 x3 x4 x5 x6 x7 : Int32} {u v u0 u1 u2 : Int64} {k k2 k0 k1 k3 k4 : Nat} {a0 a1 a2 a3 a4 a5 a6 a7 a8 a9 a10 a11 a12 a13 a14 a15 a16 a17 a18 a19 a20 a21 a22 a23 a24 a25 a26 a27 a28 a29 : Option Value}
-- java/lang/Integer.bitCount (I)I: method 129
theorem w129_0 : Wq scr 129 0 [some (.int x)] st σ Q = Wq scr 129 1 [some (.int x)] (.int x :: st) σ Q := wq_n (by decide +kernel : decode (mB 129) 0 = .ok (.iload_n 0, 1)) rfl rfl
theorem w129_1 : Wq scr 129 1 [some (.int x)] st σ Q = Wq scr 129 2 [some (.int x)] (.int x :: st) σ Q := wq_n (by decide +kernel : decode (mB 129) 1 = .ok (.iload_n 0, 1)) rfl rfl
theorem w129_2 : Wq scr 129 2 [a0] st σ Q = Wq scr 129 3 [a0] (.int (nI 1) :: st) σ Q := wq_n (by decide +kernel : decode (mB 129) 2 = .ok (.iconst 1, 1)) rfl rfl
theorem w129_3 : Wq scr 129 3 [a0] (.int y :: .int x :: st) σ Q = Wq scr 129 4 [a0] (.int ((x.toUInt32 >>> (y.toUInt32 &&& Int32.toUInt32 31)).toInt32) :: st) σ Q := wq_n (by decide +kernel : decode (mB 129) 3 = .ok (.iushr, 1)) rfl rfl
theorem w129_4 : Wq scr 129 4 [a0] st σ Q = Wq scr 129 7 [a0] (.int (nI 1431655765) :: st) σ Q := wq_n (by decide +kernel : decode (mB 129) 4 = .ok (.ldc_w 265, 3)) rfl rfl
theorem w129_7 : Wq scr 129 7 [a0] (.int y :: .int x :: st) σ Q = Wq scr 129 8 [a0] (.int (x &&& y) :: st) σ Q := wq_n (by decide +kernel : decode (mB 129) 7 = .ok (.iand, 1)) rfl rfl
theorem w129_8 : Wq scr 129 8 [a0] (.int y :: .int x :: st) σ Q = Wq scr 129 9 [a0] (.int (x - y) :: st) σ Q := wq_n (by decide +kernel : decode (mB 129) 8 = .ok (.isub, 1)) rfl rfl
theorem w129_9 : Wq scr 129 9 [a0] (.int x :: st) σ Q = Wq scr 129 10 [some (.int x)] st σ Q := wq_n (by decide +kernel : decode (mB 129) 9 = .ok (.istore_n 0, 1)) rfl rfl
theorem w129_10 : Wq scr 129 10 [some (.int x)] st σ Q = Wq scr 129 11 [some (.int x)] (.int x :: st) σ Q := wq_n (by decide +kernel : decode (mB 129) 10 = .ok (.iload_n 0, 1)) rfl rfl
theorem w129_11 : Wq scr 129 11 [a0] st σ Q = Wq scr 129 14 [a0] (.int (nI 858993459) :: st) σ Q := wq_n (by decide +kernel : decode (mB 129) 11 = .ok (.ldc_w 266, 3)) rfl rfl
theorem w129_14 : Wq scr 129 14 [a0] (.int y :: .int x :: st) σ Q = Wq scr 129 15 [a0] (.int (x &&& y) :: st) σ Q := wq_n (by decide +kernel : decode (mB 129) 14 = .ok (.iand, 1)) rfl rfl
theorem w129_15 : Wq scr 129 15 [some (.int x)] st σ Q = Wq scr 129 16 [some (.int x)] (.int x :: st) σ Q := wq_n (by decide +kernel : decode (mB 129) 15 = .ok (.iload_n 0, 1)) rfl rfl
theorem w129_16 : Wq scr 129 16 [a0] st σ Q = Wq scr 129 17 [a0] (.int (nI 2) :: st) σ Q := wq_n (by decide +kernel : decode (mB 129) 16 = .ok (.iconst 2, 1)) rfl rfl
theorem w129_17 : Wq scr 129 17 [a0] (.int y :: .int x :: st) σ Q = Wq scr 129 18 [a0] (.int ((x.toUInt32 >>> (y.toUInt32 &&& Int32.toUInt32 31)).toInt32) :: st) σ Q := wq_n (by decide +kernel : decode (mB 129) 17 = .ok (.iushr, 1)) rfl rfl
theorem w129_18 : Wq scr 129 18 [a0] st σ Q = Wq scr 129 21 [a0] (.int (nI 858993459) :: st) σ Q := wq_n (by decide +kernel : decode (mB 129) 18 = .ok (.ldc_w 266, 3)) rfl rfl
theorem w129_21 : Wq scr 129 21 [a0] (.int y :: .int x :: st) σ Q = Wq scr 129 22 [a0] (.int (x &&& y) :: st) σ Q := wq_n (by decide +kernel : decode (mB 129) 21 = .ok (.iand, 1)) rfl rfl
theorem w129_22 : Wq scr 129 22 [a0] (.int y :: .int x :: st) σ Q = Wq scr 129 23 [a0] (.int (x + y) :: st) σ Q := wq_n (by decide +kernel : decode (mB 129) 22 = .ok (.iadd, 1)) rfl rfl
theorem w129_23 : Wq scr 129 23 [a0] (.int x :: st) σ Q = Wq scr 129 24 [some (.int x)] st σ Q := wq_n (by decide +kernel : decode (mB 129) 23 = .ok (.istore_n 0, 1)) rfl rfl
theorem w129_24 : Wq scr 129 24 [some (.int x)] st σ Q = Wq scr 129 25 [some (.int x)] (.int x :: st) σ Q := wq_n (by decide +kernel : decode (mB 129) 24 = .ok (.iload_n 0, 1)) rfl rfl
theorem w129_25 : Wq scr 129 25 [some (.int x)] st σ Q = Wq scr 129 26 [some (.int x)] (.int x :: st) σ Q := wq_n (by decide +kernel : decode (mB 129) 25 = .ok (.iload_n 0, 1)) rfl rfl
theorem w129_26 : Wq scr 129 26 [a0] st σ Q = Wq scr 129 27 [a0] (.int (nI 4) :: st) σ Q := wq_n (by decide +kernel : decode (mB 129) 26 = .ok (.iconst 4, 1)) rfl rfl
theorem w129_27 : Wq scr 129 27 [a0] (.int y :: .int x :: st) σ Q = Wq scr 129 28 [a0] (.int ((x.toUInt32 >>> (y.toUInt32 &&& Int32.toUInt32 31)).toInt32) :: st) σ Q := wq_n (by decide +kernel : decode (mB 129) 27 = .ok (.iushr, 1)) rfl rfl
theorem w129_28 : Wq scr 129 28 [a0] (.int y :: .int x :: st) σ Q = Wq scr 129 29 [a0] (.int (x + y) :: st) σ Q := wq_n (by decide +kernel : decode (mB 129) 28 = .ok (.iadd, 1)) rfl rfl
theorem w129_29 : Wq scr 129 29 [a0] st σ Q = Wq scr 129 32 [a0] (.int (nI 252645135) :: st) σ Q := wq_n (by decide +kernel : decode (mB 129) 29 = .ok (.ldc_w 267, 3)) rfl rfl
theorem w129_32 : Wq scr 129 32 [a0] (.int y :: .int x :: st) σ Q = Wq scr 129 33 [a0] (.int (x &&& y) :: st) σ Q := wq_n (by decide +kernel : decode (mB 129) 32 = .ok (.iand, 1)) rfl rfl
theorem w129_33 : Wq scr 129 33 [a0] (.int x :: st) σ Q = Wq scr 129 34 [some (.int x)] st σ Q := wq_n (by decide +kernel : decode (mB 129) 33 = .ok (.istore_n 0, 1)) rfl rfl
theorem w129_34 : Wq scr 129 34 [some (.int x)] st σ Q = Wq scr 129 35 [some (.int x)] (.int x :: st) σ Q := wq_n (by decide +kernel : decode (mB 129) 34 = .ok (.iload_n 0, 1)) rfl rfl
theorem w129_35 : Wq scr 129 35 [some (.int x)] st σ Q = Wq scr 129 36 [some (.int x)] (.int x :: st) σ Q := wq_n (by decide +kernel : decode (mB 129) 35 = .ok (.iload_n 0, 1)) rfl rfl
theorem w129_36 : Wq scr 129 36 [a0] st σ Q = Wq scr 129 38 [a0] (.int (nI 8) :: st) σ Q := wq_n (by decide +kernel : decode (mB 129) 36 = .ok (.bipush 8, 2)) rfl rfl
theorem w129_38 : Wq scr 129 38 [a0] (.int y :: .int x :: st) σ Q = Wq scr 129 39 [a0] (.int ((x.toUInt32 >>> (y.toUInt32 &&& Int32.toUInt32 31)).toInt32) :: st) σ Q := wq_n (by decide +kernel : decode (mB 129) 38 = .ok (.iushr, 1)) rfl rfl
theorem w129_39 : Wq scr 129 39 [a0] (.int y :: .int x :: st) σ Q = Wq scr 129 40 [a0] (.int (x + y) :: st) σ Q := wq_n (by decide +kernel : decode (mB 129) 39 = .ok (.iadd, 1)) rfl rfl
theorem w129_40 : Wq scr 129 40 [a0] (.int x :: st) σ Q = Wq scr 129 41 [some (.int x)] st σ Q := wq_n (by decide +kernel : decode (mB 129) 40 = .ok (.istore_n 0, 1)) rfl rfl
theorem w129_41 : Wq scr 129 41 [some (.int x)] st σ Q = Wq scr 129 42 [some (.int x)] (.int x :: st) σ Q := wq_n (by decide +kernel : decode (mB 129) 41 = .ok (.iload_n 0, 1)) rfl rfl
theorem w129_42 : Wq scr 129 42 [some (.int x)] st σ Q = Wq scr 129 43 [some (.int x)] (.int x :: st) σ Q := wq_n (by decide +kernel : decode (mB 129) 42 = .ok (.iload_n 0, 1)) rfl rfl
theorem w129_43 : Wq scr 129 43 [a0] st σ Q = Wq scr 129 45 [a0] (.int (nI 16) :: st) σ Q := wq_n (by decide +kernel : decode (mB 129) 43 = .ok (.bipush 16, 2)) rfl rfl
theorem w129_45 : Wq scr 129 45 [a0] (.int y :: .int x :: st) σ Q = Wq scr 129 46 [a0] (.int ((x.toUInt32 >>> (y.toUInt32 &&& Int32.toUInt32 31)).toInt32) :: st) σ Q := wq_n (by decide +kernel : decode (mB 129) 45 = .ok (.iushr, 1)) rfl rfl
theorem w129_46 : Wq scr 129 46 [a0] (.int y :: .int x :: st) σ Q = Wq scr 129 47 [a0] (.int (x + y) :: st) σ Q := wq_n (by decide +kernel : decode (mB 129) 46 = .ok (.iadd, 1)) rfl rfl
theorem w129_47 : Wq scr 129 47 [a0] (.int x :: st) σ Q = Wq scr 129 48 [some (.int x)] st σ Q := wq_n (by decide +kernel : decode (mB 129) 47 = .ok (.istore_n 0, 1)) rfl rfl
theorem w129_48 : Wq scr 129 48 [some (.int x)] st σ Q = Wq scr 129 49 [some (.int x)] (.int x :: st) σ Q := wq_n (by decide +kernel : decode (mB 129) 48 = .ok (.iload_n 0, 1)) rfl rfl
theorem w129_49 : Wq scr 129 49 [a0] st σ Q = Wq scr 129 51 [a0] (.int (nI 63) :: st) σ Q := wq_n (by decide +kernel : decode (mB 129) 49 = .ok (.bipush 63, 2)) rfl rfl
theorem w129_51 : Wq scr 129 51 [a0] (.int y :: .int x :: st) σ Q = Wq scr 129 52 [a0] (.int (x &&& y) :: st) σ Q := wq_n (by decide +kernel : decode (mB 129) 51 = .ok (.iand, 1)) rfl rfl
theorem w129_52 : Wq scr 129 52 [a0] [.int x] σ Q = Q (some (.int x)) σ := wq_iret (by decide +kernel : decode (mB 129) 52 = .ok (.ireturn, 1)) rfl rfl
end RW
