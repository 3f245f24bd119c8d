/-! ===== the world behind the two constructors ===== -/
def SH : List zSh := [
  .inr (5, [some (.ref 1), some (.ref 9), some (.ref 13), some (.ref 14), some (.ref 16), some (.ref 24), none, none]),
  .inr (1, [none, none, some (.ref 2), some (.ref 3), some (.ref 4), some (.ref 5), none, none]),
  .inl (.int, 8),
  .inl (.int, 8),
  .inl (.int, 8),
  .inr (4, [none, some (.ref 6), some (.ref 7), some (.ref 8)]),
  .inl (.int, 8),
  .inl (.int, 8),
  .inl (.int, 8),
  .inr (0, [none, none, none, none, some (.ref 10), some (.ref 11), some (.ref 12)]),
  .inl (.int, 8),
  .inl (.int, 64),
  .inl (.int, 64),
  .inr (2, [none, none, none, none]),
  .inr (3, [none, some (.ref 15)]),
  .inl (.byte, 40),
  .inr (1, [none, none, some (.ref 17), some (.ref 18), some (.ref 19), some (.ref 20), none, none]),
  .inl (.int, 8),
  .inl (.int, 8),
  .inl (.int, 8),
  .inr (4, [none, some (.ref 21), some (.ref 22), some (.ref 23)]),
  .inl (.int, 8),
  .inl (.int, 8),
  .inl (.int, 8),
  .inr (1, [none, none, some (.ref 25), some (.ref 26), some (.ref 27), some (.ref 28), none, none]),
  .inl (.int, 8),
  .inl (.int, 8),
  .inl (.int, 8),
  .inr (4, [none, some (.ref 29), some (.ref 30), some (.ref 31)]),
  .inl (.int, 8),
  .inl (.int, 8),
  .inl (.int, 8),
  .inr (6, [some (.ref 33), some (.ref 34), some (.ref 35), some (.ref 36), none, some (.ref 37), some (.ref 38), some (.ref 39), some (.ref 40), none, some (.ref 41), none]),
  .inl (.int, 68),
  .inl (.int, 136),
  .inl (.boolean, 2),
  .inl (.int, 40),
  .inl (.int, 12),
  .inl (.int, 12),
  .inl (.int, 4),
  .inl (.int, 128),
  .inl (.int, 8)]
theorem SH_0 : SH[0]? = some (.inr (5, [some (.ref 1), some (.ref 9), some (.ref 13), some (.ref 14), some (.ref 16), some (.ref 24), none, none])) := rfl
theorem SH_1 : SH[1]? = some (.inr (1, [none, none, some (.ref 2), some (.ref 3), some (.ref 4), some (.ref 5), none, none])) := rfl
theorem SH_2 : SH[2]? = some (.inl (.int, 8)) := rfl
theorem SH_3 : SH[3]? = some (.inl (.int, 8)) := rfl
theorem SH_4 : SH[4]? = some (.inl (.int, 8)) := rfl
theorem SH_5 : SH[5]? = some (.inr (4, [none, some (.ref 6), some (.ref 7), some (.ref 8)])) := rfl
theorem SH_6 : SH[6]? = some (.inl (.int, 8)) := rfl
theorem SH_7 : SH[7]? = some (.inl (.int, 8)) := rfl
theorem SH_8 : SH[8]? = some (.inl (.int, 8)) := rfl
theorem SH_9 : SH[9]? = some (.inr (0, [none, none, none, none, some (.ref 10), some (.ref 11), some (.ref 12)])) := rfl
theorem SH_10 : SH[10]? = some (.inl (.int, 8)) := rfl
theorem SH_11 : SH[11]? = some (.inl (.int, 64)) := rfl
theorem SH_12 : SH[12]? = some (.inl (.int, 64)) := rfl
theorem SH_13 : SH[13]? = some (.inr (2, [none, none, none, none])) := rfl
theorem SH_14 : SH[14]? = some (.inr (3, [none, some (.ref 15)])) := rfl
theorem SH_15 : SH[15]? = some (.inl (.byte, 40)) := rfl
theorem SH_16 : SH[16]? = some (.inr (1, [none, none, some (.ref 17), some (.ref 18), some (.ref 19), some (.ref 20), none, none])) := rfl
theorem SH_17 : SH[17]? = some (.inl (.int, 8)) := rfl
theorem SH_18 : SH[18]? = some (.inl (.int, 8)) := rfl
theorem SH_19 : SH[19]? = some (.inl (.int, 8)) := rfl
theorem SH_20 : SH[20]? = some (.inr (4, [none, some (.ref 21), some (.ref 22), some (.ref 23)])) := rfl
theorem SH_21 : SH[21]? = some (.inl (.int, 8)) := rfl
theorem SH_22 : SH[22]? = some (.inl (.int, 8)) := rfl
theorem SH_23 : SH[23]? = some (.inl (.int, 8)) := rfl
theorem SH_24 : SH[24]? = some (.inr (1, [none, none, some (.ref 25), some (.ref 26), some (.ref 27), some (.ref 28), none, none])) := rfl
theorem SH_25 : SH[25]? = some (.inl (.int, 8)) := rfl
theorem SH_26 : SH[26]? = some (.inl (.int, 8)) := rfl
theorem SH_27 : SH[27]? = some (.inl (.int, 8)) := rfl
theorem SH_28 : SH[28]? = some (.inr (4, [none, some (.ref 29), some (.ref 30), some (.ref 31)])) := rfl
theorem SH_29 : SH[29]? = some (.inl (.int, 8)) := rfl
theorem SH_30 : SH[30]? = some (.inl (.int, 8)) := rfl
theorem SH_31 : SH[31]? = some (.inl (.int, 8)) := rfl
theorem SH_32 : SH[32]? = some (.inr (6, [some (.ref 33), some (.ref 34), some (.ref 35), some (.ref 36), none, some (.ref 37), some (.ref 38), some (.ref 39), some (.ref 40), none, some (.ref 41), none])) := rfl
theorem SH_33 : SH[33]? = some (.inl (.int, 68)) := rfl
theorem SH_34 : SH[34]? = some (.inl (.int, 136)) := rfl
theorem SH_35 : SH[35]? = some (.inl (.boolean, 2)) := rfl
theorem SH_36 : SH[36]? = some (.inl (.int, 40)) := rfl
theorem SH_37 : SH[37]? = some (.inl (.int, 12)) := rfl
theorem SH_38 : SH[38]? = some (.inl (.int, 12)) := rfl
theorem SH_39 : SH[39]? = some (.inl (.int, 4)) := rfl
theorem SH_40 : SH[40]? = some (.inl (.int, 128)) := rfl
theorem SH_41 : SH[41]? = some (.inl (.int, 8)) := rfl
theorem SH_len : SH.length = 42 := rfl
theorem SH_zsl : zsl SH = 799 := rfl
theorem b8_m100 : (Int8.ofInt (-100)).toInt32 = -100 := by decide
theorem b8_m2 : (Int8.ofInt (-2)).toInt32 = -2 := by decide
theorem b8_6 : (Int8.ofInt (6)).toInt32 = 6 := by decide
theorem b8_7 : (Int8.ofInt (7)).toInt32 = 7 := by decide
theorem b8_8 : (Int8.ofInt (8)).toInt32 = 8 := by decide
theorem b8_9 : (Int8.ofInt (9)).toInt32 = 9 := by decide
theorem b8_10 : (Int8.ofInt (10)).toInt32 = 10 := by decide
theorem b8_11 : (Int8.ofInt (11)).toInt32 = 11 := by decide
theorem b8_12 : (Int8.ofInt (12)).toInt32 = 12 := by decide
theorem b8_16 : (Int8.ofInt (16)).toInt32 = 16 := by decide
theorem b8_24 : (Int8.ofInt (24)).toInt32 = 24 := by decide
theorem b8_31 : (Int8.ofInt (31)).toInt32 = 31 := by decide
theorem b8_40 : (Int8.ofInt (40)).toInt32 = 40 := by decide
theorem b8_44 : (Int8.ofInt (44)).toInt32 = 44 := by decide
theorem b8_45 : (Int8.ofInt (45)).toInt32 = 45 := by decide
theorem b8_49 : (Int8.ofInt (49)).toInt32 = 49 := by decide
theorem b8_63 : (Int8.ofInt (63)).toInt32 = 63 := by decide
theorem b8_64 : (Int8.ofInt (64)).toInt32 = 64 := by decide
theorem b8_68 : (Int8.ofInt (68)).toInt32 = 68 := by decide
theorem b8_99 : (Int8.ofInt (99)).toInt32 = 99 := by decide
theorem b8_100 : (Int8.ofInt (100)).toInt32 = 100 := by decide
theorem b8_127 : (Int8.ofInt (127)).toInt32 = 127 := by decide
theorem b16_128 : (Int16.ofInt (128)).toInt32 = 128 := by decide
theorem b16_136 : (Int16.ofInt (136)).toInt32 = 136 := by decide
theorem b16_255 : (Int16.ofInt (255)).toInt32 = 255 := by decide
theorem b16_999 : (Int16.ofInt (999)).toInt32 = 999 := by decide
theorem b16_1000 : (Int16.ofInt (1000)).toInt32 = 1000 := by decide
theorem bi_m1 : Int32.ofInt (-1) = -1 := by decide
theorem bi_0 : Int32.ofInt (0) = 0 := by decide
theorem bi_1 : Int32.ofInt (1) = 1 := by decide
theorem bi_2 : Int32.ofInt (2) = 2 := by decide
theorem bi_3 : Int32.ofInt (3) = 3 := by decide
theorem bi_4 : Int32.ofInt (4) = 4 := by decide
theorem bi_5 : Int32.ofInt (5) = 5 := by decide
theorem zfz_0 {L : Nat} {xs : Nat → Int32} : (zfz L xs)[0]? = some (12, fun j => zsv_0.getD j 0) := rfl
theorem zfz_1 {L : Nat} {xs : Nat → Int32} : (zfz L xs)[1]? = some (12, fun j => zsv_1.getD j 0) := rfl
theorem zfz_2 {L : Nat} {xs : Nat → Int32} : (zfz L xs)[2]? = some (L, xs) := rfl
