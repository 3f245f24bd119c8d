/-! ===== the world behind the two constructors ===== -/
/-- the cells of the class, those of the model behind them -/
def SHc : List zSh := [
  .inr (5, [some (.ref 1), some (.ref 9), some (.ref 13), some (.ref 14), some (.ref 16), some (.ref 24), none, none]),
  .inr (1, [none, none, some (.ref 2), some (.ref 3), some (.ref 4), some (.ref 5), none, none]),
  .inl (.int, 8),
  .inl (.int, 8),
  .inl (.int, 8),
  .inr (4, [none, some (.ref 6), some (.ref 7), some (.ref 8)]),
  .inl (.int, 8),
  .inl (.int, 8),
  .inl (.int, 8),
  .inr (0, [none, none, none, none, some (.ref 10), some (.ref 11), some (.ref 12)]),
  .inl (.int, 8),
  .inl (.int, 64),
  .inl (.int, 64),
  .inr (2, [none, none, none, none]),
  .inr (3, [none, some (.ref 15)]),
  .inl (.byte, 40),
  .inr (1, [none, none, some (.ref 17), some (.ref 18), some (.ref 19), some (.ref 20), none, none]),
  .inl (.int, 8),
  .inl (.int, 8),
  .inl (.int, 8),
  .inr (4, [none, some (.ref 21), some (.ref 22), some (.ref 23)]),
  .inl (.int, 8),
  .inl (.int, 8),
  .inl (.int, 8),
  .inr (1, [none, none, some (.ref 25), some (.ref 26), some (.ref 27), some (.ref 28), none, none]),
  .inl (.int, 8),
  .inl (.int, 8),
  .inl (.int, 8),
  .inr (4, [none, some (.ref 29), some (.ref 30), some (.ref 31)]),
  .inl (.int, 8),
  .inl (.int, 8),
  .inl (.int, 8)]
def SHm : List zSh := [
  .inl (.int, 24),
  .inl (.int, 3)]
/-- the class's cells, whatever stands behind them -/
def SG (e : List zSh) : List zSh := SHc ++ e
theorem SH_0 {e : List zSh} : (SG e)[0]? = some (.inr (5, [some (.ref 1), some (.ref 9), some (.ref 13), some (.ref 14), some (.ref 16), some (.ref 24), none, none])) := rfl
theorem SH_1 {e : List zSh} : (SG e)[1]? = some (.inr (1, [none, none, some (.ref 2), some (.ref 3), some (.ref 4), some (.ref 5), none, none])) := rfl
theorem SH_2 {e : List zSh} : (SG e)[2]? = some (.inl (.int, 8)) := rfl
theorem SH_3 {e : List zSh} : (SG e)[3]? = some (.inl (.int, 8)) := rfl
theorem SH_4 {e : List zSh} : (SG e)[4]? = some (.inl (.int, 8)) := rfl
theorem SH_5 {e : List zSh} : (SG e)[5]? = some (.inr (4, [none, some (.ref 6), some (.ref 7), some (.ref 8)])) := rfl
theorem SH_6 {e : List zSh} : (SG e)[6]? = some (.inl (.int, 8)) := rfl
theorem SH_7 {e : List zSh} : (SG e)[7]? = some (.inl (.int, 8)) := rfl
theorem SH_8 {e : List zSh} : (SG e)[8]? = some (.inl (.int, 8)) := rfl
theorem SH_9 {e : List zSh} : (SG e)[9]? = some (.inr (0, [none, none, none, none, some (.ref 10), some (.ref 11), some (.ref 12)])) := rfl
theorem SH_10 {e : List zSh} : (SG e)[10]? = some (.inl (.int, 8)) := rfl
theorem SH_11 {e : List zSh} : (SG e)[11]? = some (.inl (.int, 64)) := rfl
theorem SH_12 {e : List zSh} : (SG e)[12]? = some (.inl (.int, 64)) := rfl
theorem SH_13 {e : List zSh} : (SG e)[13]? = some (.inr (2, [none, none, none, none])) := rfl
theorem SH_14 {e : List zSh} : (SG e)[14]? = some (.inr (3, [none, some (.ref 15)])) := rfl
theorem SH_15 {e : List zSh} : (SG e)[15]? = some (.inl (.byte, 40)) := rfl
theorem SH_16 {e : List zSh} : (SG e)[16]? = some (.inr (1, [none, none, some (.ref 17), some (.ref 18), some (.ref 19), some (.ref 20), none, none])) := rfl
theorem SH_17 {e : List zSh} : (SG e)[17]? = some (.inl (.int, 8)) := rfl
theorem SH_18 {e : List zSh} : (SG e)[18]? = some (.inl (.int, 8)) := rfl
theorem SH_19 {e : List zSh} : (SG e)[19]? = some (.inl (.int, 8)) := rfl
theorem SH_20 {e : List zSh} : (SG e)[20]? = some (.inr (4, [none, some (.ref 21), some (.ref 22), some (.ref 23)])) := rfl
theorem SH_21 {e : List zSh} : (SG e)[21]? = some (.inl (.int, 8)) := rfl
theorem SH_22 {e : List zSh} : (SG e)[22]? = some (.inl (.int, 8)) := rfl
theorem SH_23 {e : List zSh} : (SG e)[23]? = some (.inl (.int, 8)) := rfl
theorem SH_24 {e : List zSh} : (SG e)[24]? = some (.inr (1, [none, none, some (.ref 25), some (.ref 26), some (.ref 27), some (.ref 28), none, none])) := rfl
theorem SH_25 {e : List zSh} : (SG e)[25]? = some (.inl (.int, 8)) := rfl
theorem SH_26 {e : List zSh} : (SG e)[26]? = some (.inl (.int, 8)) := rfl
theorem SH_27 {e : List zSh} : (SG e)[27]? = some (.inl (.int, 8)) := rfl
theorem SH_28 {e : List zSh} : (SG e)[28]? = some (.inr (4, [none, some (.ref 29), some (.ref 30), some (.ref 31)])) := rfl
theorem SH_29 {e : List zSh} : (SG e)[29]? = some (.inl (.int, 8)) := rfl
theorem SH_30 {e : List zSh} : (SG e)[30]? = some (.inl (.int, 8)) := rfl
theorem SH_31 {e : List zSh} : (SG e)[31]? = some (.inl (.int, 8)) := rfl
theorem SH_32 : (SG SHm)[32]? = some (.inl (.int, 24)) := rfl
theorem SH_33 : (SG SHm)[33]? = some (.inl (.int, 3)) := rfl
theorem SH_len : (SG SHm).length = 34 := rfl
theorem zl2_0 : Int64.ofNat ((0 : Fin 2) : Nat) = 0 := rfl
theorem b8_m101 : (Int8.ofInt (-101)).toInt32 = -101 := by decide
theorem b8_m100 : (Int8.ofInt (-100)).toInt32 = -100 := by decide
theorem b8_m8 : (Int8.ofInt (-8)).toInt32 = -8 := by decide
theorem b8_6 : (Int8.ofInt (6)).toInt32 = 6 := by decide
theorem b8_7 : (Int8.ofInt (7)).toInt32 = 7 := by decide
theorem b8_8 : (Int8.ofInt (8)).toInt32 = 8 := by decide
theorem b8_9 : (Int8.ofInt (9)).toInt32 = 9 := by decide
theorem b8_10 : (Int8.ofInt (10)).toInt32 = 10 := by decide
theorem b8_12 : (Int8.ofInt (12)).toInt32 = 12 := by decide
theorem b8_16 : (Int8.ofInt (16)).toInt32 = 16 := by decide
theorem b8_24 : (Int8.ofInt (24)).toInt32 = 24 := by decide
theorem b8_30 : (Int8.ofInt (30)).toInt32 = 30 := by decide
theorem b8_40 : (Int8.ofInt (40)).toInt32 = 40 := by decide
theorem b8_63 : (Int8.ofInt (63)).toInt32 = 63 := by decide
theorem b8_64 : (Int8.ofInt (64)).toInt32 = 64 := by decide
theorem b8_99 : (Int8.ofInt (99)).toInt32 = 99 := by decide
theorem b8_100 : (Int8.ofInt (100)).toInt32 = 100 := by decide
theorem b8_101 : (Int8.ofInt (101)).toInt32 = 101 := by decide
theorem b8_127 : (Int8.ofInt (127)).toInt32 = 127 := by decide
theorem b16_128 : (Int16.ofInt (128)).toInt32 = 128 := by decide
theorem b16_200 : (Int16.ofInt (200)).toInt32 = 200 := by decide
theorem b16_201 : (Int16.ofInt (201)).toInt32 = 201 := by decide
theorem b16_439 : (Int16.ofInt (439)).toInt32 = 439 := by decide
theorem b16_999 : (Int16.ofInt (999)).toInt32 = 999 := by decide
theorem b16_1000 : (Int16.ofInt (1000)).toInt32 = 1000 := by decide
theorem b16_12000 : (Int16.ofInt (12000)).toInt32 = 12000 := by decide
theorem bi_m1 : Int32.ofInt (-1) = -1 := by decide
theorem bi_0 : Int32.ofInt (0) = 0 := by decide
theorem bi_1 : Int32.ofInt (1) = 1 := by decide
theorem bi_2 : Int32.ofInt (2) = 2 := by decide
theorem bi_3 : Int32.ofInt (3) = 3 := by decide
theorem bi_4 : Int32.ofInt (4) = 4 := by decide
theorem bi_5 : Int32.ofInt (5) = 5 := by decide
theorem zfz_0 {L : Nat} {xs : Nat → Int32} : (zfz L xs)[0]? = some (12, fun j => zsv_0.getD j 0) := rfl
theorem zfz_1 {L : Nat} {xs : Nat → Int32} : (zfz L xs)[1]? = some (12, fun j => zsv_1.getD j 0) := rfl
theorem zfz_2 {L : Nat} {xs : Nat → Int32} : (zfz L xs)[2]? = some (L, xs) := rfl
