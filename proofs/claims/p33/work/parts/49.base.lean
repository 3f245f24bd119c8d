/-! ===== numbers, written ===== -/
theorem zt_0 : Int32.toInt 0 = 0 := rfl
theorem zt_1 : Int32.toInt 1 = 1 := rfl
theorem zt_2 : Int32.toInt 2 = 2 := rfl
theorem zt_3 : Int32.toInt 3 = 3 := rfl
theorem zt_4 : Int32.toInt 4 = 4 := rfl
theorem zt_5 : Int32.toInt 5 = 5 := rfl
theorem zt_6 : Int32.toInt 6 = 6 := rfl
theorem zt_7 : Int32.toInt 7 = 7 := rfl
theorem zt_8 : Int32.toInt 8 = 8 := rfl
theorem zt_9 : Int32.toInt 9 = 9 := rfl
theorem zt_10 : Int32.toInt 10 = 10 := rfl
theorem zt_11 : Int32.toInt 11 = 11 := rfl
theorem z10 : ((1 : Int32) = 0) = False := eq_false (by decide)
theorem zp1 (a : Nat) : nI a + 1 = nI (a + 1) := nI_add a 1
theorem zp2 (a : Nat) : nI a + 2 = nI (a + 2) := nI_add a 2
theorem zp3 (a : Nat) : nI a + 3 = nI (a + 3) := nI_add a 3
theorem zp9 (a : Nat) : nI a + 9 = nI (a + 9) := nI_add a 9
theorem zp12 (a : Nat) : nI a + 12 = nI (a + 12) := nI_add a 12
theorem zvn {x : Int32} : vp_nar FieldType.int x = x := rfl
theorem zn1 {n : Nat} (hn : n < 2 ^ 30) : (nI n - 1).toInt = (n : Int) - 1 := pk_sub_toInt (b := 1) (by omega) (by omega)
