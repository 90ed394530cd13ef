/-! literals as small naturals; bits in that form -/
theorem li_0 : (0 : Int32) = nI 0 := rfl
theorem li_1 : (1 : Int32) = nI 1 := rfl
theorem li_2 : (2 : Int32) = nI 2 := rfl
theorem li_3 : (3 : Int32) = nI 3 := rfl
theorem li_4 : (4 : Int32) = nI 4 := rfl
theorem li_5 : (5 : Int32) = nI 5 := rfl
theorem li_6 : (6 : Int32) = nI 6 := rfl
theorem li_7 : (7 : Int32) = nI 7 := rfl
theorem li_8 : (8 : Int32) = nI 8 := rfl
theorem li_9 : (9 : Int32) = nI 9 := rfl
theorem li_10 : (10 : Int32) = nI 10 := rfl
theorem li_11 : (11 : Int32) = nI 11 := rfl
theorem li_12 : (12 : Int32) = nI 12 := rfl
theorem li_13 : (13 : Int32) = nI 13 := rfl
theorem li_14 : (14 : Int32) = nI 14 := rfl
theorem li_16 : (16 : Int32) = nI 16 := rfl
theorem li_18 : (18 : Int32) = nI 18 := rfl
theorem li_20 : (20 : Int32) = nI 20 := rfl
theorem li_21 : (21 : Int32) = nI 21 := rfl
theorem li_24 : (24 : Int32) = nI 24 := rfl
theorem li_31 : (31 : Int32) = nI 31 := rfl
theorem li_32 : (32 : Int32) = nI 32 := rfl
theorem li_40 : (40 : Int32) = nI 40 := rfl
theorem li_42 : (42 : Int32) = nI 42 := rfl
theorem li_48 : (48 : Int32) = nI 48 := rfl
theorem li_57 : (57 : Int32) = nI 57 := rfl
theorem li_59 : (59 : Int32) = nI 59 := rfl
theorem li_64 : (64 : Int32) = nI 64 := rfl
theorem li_97 : (97 : Int32) = nI 97 := rfl
theorem li_99 : (99 : Int32) = nI 99 := rfl
theorem li_122 : (122 : Int32) = nI 122 := rfl
theorem li_128 : (128 : Int32) = nI 128 := rfl
theorem li_147 : (147 : Int32) = nI 147 := rfl
theorem li_189 : (189 : Int32) = nI 189 := rfl
theorem li_200 : (200 : Int32) = nI 200 := rfl
theorem li_231 : (231 : Int32) = nI 231 := rfl
theorem li_252 : (252 : Int32) = nI 252 := rfl
theorem li_255 : (255 : Int32) = nI 255 := rfl
theorem li_512 : (512 : Int32) = nI 512 := rfl
theorem li_1023 : (1023 : Int32) = nI 1023 := rfl
theorem li_1024 : (1024 : Int32) = nI 1024 := rfl
theorem li_8192 : (8192 : Int32) = nI 8192 := rfl
theorem li_8208 : (8208 : Int32) = nI 8208 := rfl
theorem li_9999 : (9999 : Int32) = nI 9999 := rfl
theorem li_50000 : (50000 : Int32) = nI 50000 := rfl
theorem li_500000 : (500000 : Int32) = nI 500000 := rfl
theorem qb_bit1 {n k : Nat} (hn : n < 2 ^ 31) (hk : k < 32) : ((nI n >>> (nI k &&& nI 31)) &&& nI 1 = nI 1) ↔ n.testBit k = true := pb_bit1 hn hk
theorem qb_bit0 {n k : Nat} (hn : n < 2 ^ 31) (hk : k < 32) : ((nI n >>> (nI k &&& nI 31)) &&& nI 1 = nI 0) ↔ n.testBit k = false := pb_bit0 hn hk
theorem qb_bit {n k : Nat} (hn : n < 2 ^ 31) (hk : k < 32) : (nI n >>> (nI k &&& nI 31)) &&& nI 1 = if n.testBit k = true then nI 1 else nI 0 := pb_bit hn hk
theorem qb_pow {k : Nat} (hk : k < 31) : nI 1 <<< (nI k &&& nI 31) = nI (2 ^ k) := pb_pow hk
theorem qb_m1 {k : Nat} (hk : k < 2 ^ 31) : ¬ nI k = -nI 1 := pb_m1 hk
theorem qb_m1' {k : Nat} (hk : k < 2 ^ 31) : ¬ -nI 1 = nI k := pb_m1' hk
theorem qb_ofn (n : Nat) : Int32.ofNat n = nI n := rfl
theorem bsN_s (p : Nat → Bool) (n : Nat) : bsN p (n + 1) = bsN p n + if p n then 2 ^ n else 0 := rfl
theorem bsN_t {p : Nat → Bool} {n : Nat} (h : p n = true) : nI (bsN p n) ||| nI (2 ^ n) = nI (bsN p (n + 1)) := by rw [bsN_s, if_pos h, pb_or (bsN_lt p n)]
theorem bsN_f {p : Nat → Bool} {n : Nat} (h : p n = false) : nI (bsN p n) = nI (bsN p (n + 1)) := by rw [bsN_s, if_neg (by rw [h]; decide), Nat.add_zero]
theorem qb_or0 (a : Nat) : nI a ||| nI 0 = nI a := by rw [fa_or, Nat.or_zero]
