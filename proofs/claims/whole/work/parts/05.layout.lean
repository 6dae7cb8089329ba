def LB : List CD := [
.inl (6, [(1, 1, 0), (1, 3, 0), (1, 5, 0), (1, 10, 0), (1, 15, 0), (1, 18, 0), (1, 22, 0), (1, 27, 0), (1, 28, 0), (1, 29, 0), (1, 30, 0), (1, 31, 0), (0, 1, 40), (0, 0, 8), (0, 0, 5)]),
  .inl (5, [(1, 2, 0), (0, 5, 5), (0, 0, 59)]),
  .inr (0, 59, 0, 255),
  .inl (5, [(1, 4, 0), (0, 3, 3), (0, 0, 23)]),
  .inr (0, 23, 0, 255),
  .inl (4, [(1, 6, 0), (1, 7, 0), (1, 8, 0), (1, 9, 0), (0, 0, 12), (0, (-2147483648), 2147483647)]),
  .inr (0, 12, 0, 23),
  .inr (0, 12, 0, 7),
  .inr (0, 12, 0, 9),
  .inr (0, 12, 0, 2),
  .inl (4, [(1, 11, 0), (1, 12, 0), (1, 13, 0), (1, 14, 0), (0, 0, 12), (0, (-2147483648), 2147483647)]),
  .inr (0, 12, 0, 23),
  .inr (0, 12, 0, 7),
  .inr (0, 12, 0, 9),
  .inr (0, 12, 0, 2),
  .inl (1, [(1, 16, 0), (1, 17, 0), (0, 0, 8)]),
  .inr (0, 8, 0, 23),
  .inr (0, 8, 0, 7),
  .inl (2, [(1, 19, 0), (1, 20, 0), (1, 21, 0), (0, 0, 8)]),
  .inr (0, 8, 0, 2),
  .inr (0, 8, 0, 23),
  .inr (0, 8, 0, 9),
  .inl (0, [(1, 23, 0), (1, 24, 0), (0, 0, 12), (1, 25, 0), (1, 26, 0), (1, 18, 0), (2, 5, 10)]),
  .inr (1, 12, 0, 1),
  .inr (0, 12, 0, 3),
  .inr (0, 8, (-1), 23),
  .inr (0, 8, (-1), 2),
  .inr (0, 8, 0, 7),
  .inr (0, 8, 0, 1),
  .inr (3, 4, (-1), 2147483647),
  .inr (0, 8, 0, 10),
  .inr (2, 8, 0, 1099511627776),
  .inl (7, [(1, 33, 0), (1, 34, 0), (0, 0, 12), (1, 35, 0), (1, 36, 0), (1, 37, 0), (1, 38, 0), (0, 0, 8), (1, 39, 0), (1, 40, 0), (0, 1, 40), (0, 0, 8), (1, 41, 0), (1, 42, 0), (1, 43, 0), (0, 0, 12), (1, 44, 0), (1, 45, 0), (1, 46, 0), (1, 47, 0), (0, (-1), 11), (0, 0, 255), (1, 48, 0), (1, 49, 0), (1, 50, 0), (1, 51, 0), (1, 52, 0), (1, 53, 0), (0, 0, 255), (1, 54, 0), (0, (-1), 11), (0, (-1), 8), (1, 55, 0), (1, 56, 0), (0, 0, 8), (1, 57, 0), (1, 58, 0), (1, 59, 0), (1, 60, 0), (1, 61, 0), (1, 62, 0), (1, 63, 0), (1, 64, 0), (0, 0, 5)]),
  .inr (0, 2, 0, 59),
  .inr (0, 118, 0, 255),
  .inr (0, 13, 0, 23),
  .inr (0, 13, 0, 7),
  .inr (0, 13, 0, 9),
  .inr (0, 13, 0, 2),
  .inr (0, 9, 0, 23),
  .inr (0, 9, 0, 7),
  .inr (0, 8, 0, 2),
  .inr (0, 8, 0, 23),
  .inr (0, 8, 0, 9),
  .inr (0, 12, 0, 23),
  .inr (0, 12, 0, 7),
  .inr (0, 12, 0, 9),
  .inr (0, 12, 0, 2),
  .inr (0, 12, 0, 1),
  .inr (0, 12, 0, 3),
  .inr (0, 12, (-1), 11),
  .inr (0, 192, 0, 36),
  .inr (0, 192, 0, 40),
  .inr (0, 192, 0, 3),
  .inr (0, 24, 0, 255),
  .inr (0, 12, 0, 4095),
  .inr (0, 2, 0, 7),
  .inr (0, 8, 0, 7),
  .inr (0, 8, 0, 1),
  .inr (0, 10, 0, 255),
  .inr (1, 4, 0, 1),
  .inr (0, 4, 0, 2),
  .inr (0, 4, 0, 60),
  .inr (0, 240, (-2147483648), 2147483647),
  .inr (0, 60, (-2147483648), 2147483647)
]
theorem lb_0 (tl : List CD) : (LB ++ tl)[0]? = some (.inl (6, [(1, 1, 0), (1, 3, 0), (1, 5, 0), (1, 10, 0), (1, 15, 0), (1, 18, 0), (1, 22, 0), (1, 27, 0), (1, 28, 0), (1, 29, 0), (1, 30, 0), (1, 31, 0), (0, 1, 40), (0, 0, 8), (0, 0, 5)])) := rfl
theorem lb_1 (tl : List CD) : (LB ++ tl)[1]? = some (.inl (5, [(1, 2, 0), (0, 5, 5), (0, 0, 59)])) := rfl
theorem lb_2 (tl : List CD) : (LB ++ tl)[2]? = some (.inr (0, 59, 0, 255)) := rfl
theorem lb_3 (tl : List CD) : (LB ++ tl)[3]? = some (.inl (5, [(1, 4, 0), (0, 3, 3), (0, 0, 23)])) := rfl
theorem lb_4 (tl : List CD) : (LB ++ tl)[4]? = some (.inr (0, 23, 0, 255)) := rfl
theorem lb_5 (tl : List CD) : (LB ++ tl)[5]? = some (.inl (4, [(1, 6, 0), (1, 7, 0), (1, 8, 0), (1, 9, 0), (0, 0, 12), (0, (-2147483648), 2147483647)])) := rfl
theorem lb_6 (tl : List CD) : (LB ++ tl)[6]? = some (.inr (0, 12, 0, 23)) := rfl
theorem lb_7 (tl : List CD) : (LB ++ tl)[7]? = some (.inr (0, 12, 0, 7)) := rfl
theorem lb_8 (tl : List CD) : (LB ++ tl)[8]? = some (.inr (0, 12, 0, 9)) := rfl
theorem lb_9 (tl : List CD) : (LB ++ tl)[9]? = some (.inr (0, 12, 0, 2)) := rfl
theorem lb_10 (tl : List CD) : (LB ++ tl)[10]? = some (.inl (4, [(1, 11, 0), (1, 12, 0), (1, 13, 0), (1, 14, 0), (0, 0, 12), (0, (-2147483648), 2147483647)])) := rfl
theorem lb_11 (tl : List CD) : (LB ++ tl)[11]? = some (.inr (0, 12, 0, 23)) := rfl
theorem lb_12 (tl : List CD) : (LB ++ tl)[12]? = some (.inr (0, 12, 0, 7)) := rfl
theorem lb_13 (tl : List CD) : (LB ++ tl)[13]? = some (.inr (0, 12, 0, 9)) := rfl
theorem lb_14 (tl : List CD) : (LB ++ tl)[14]? = some (.inr (0, 12, 0, 2)) := rfl
theorem lb_15 (tl : List CD) : (LB ++ tl)[15]? = some (.inl (1, [(1, 16, 0), (1, 17, 0), (0, 0, 8)])) := rfl
theorem lb_16 (tl : List CD) : (LB ++ tl)[16]? = some (.inr (0, 8, 0, 23)) := rfl
theorem lb_17 (tl : List CD) : (LB ++ tl)[17]? = some (.inr (0, 8, 0, 7)) := rfl
theorem lb_18 (tl : List CD) : (LB ++ tl)[18]? = some (.inl (2, [(1, 19, 0), (1, 20, 0), (1, 21, 0), (0, 0, 8)])) := rfl
theorem lb_19 (tl : List CD) : (LB ++ tl)[19]? = some (.inr (0, 8, 0, 2)) := rfl
theorem lb_20 (tl : List CD) : (LB ++ tl)[20]? = some (.inr (0, 8, 0, 23)) := rfl
theorem lb_21 (tl : List CD) : (LB ++ tl)[21]? = some (.inr (0, 8, 0, 9)) := rfl
theorem lb_22 (tl : List CD) : (LB ++ tl)[22]? = some (.inl (0, [(1, 23, 0), (1, 24, 0), (0, 0, 12), (1, 25, 0), (1, 26, 0), (1, 18, 0), (2, 5, 10)])) := rfl
theorem lb_23 (tl : List CD) : (LB ++ tl)[23]? = some (.inr (1, 12, 0, 1)) := rfl
theorem lb_24 (tl : List CD) : (LB ++ tl)[24]? = some (.inr (0, 12, 0, 3)) := rfl
theorem lb_25 (tl : List CD) : (LB ++ tl)[25]? = some (.inr (0, 8, (-1), 23)) := rfl
theorem lb_26 (tl : List CD) : (LB ++ tl)[26]? = some (.inr (0, 8, (-1), 2)) := rfl
theorem lb_27 (tl : List CD) : (LB ++ tl)[27]? = some (.inr (0, 8, 0, 7)) := rfl
theorem lb_28 (tl : List CD) : (LB ++ tl)[28]? = some (.inr (0, 8, 0, 1)) := rfl
theorem lb_29 (tl : List CD) : (LB ++ tl)[29]? = some (.inr (3, 4, (-1), 2147483647)) := rfl
theorem lb_30 (tl : List CD) : (LB ++ tl)[30]? = some (.inr (0, 8, 0, 10)) := rfl
theorem lb_31 (tl : List CD) : (LB ++ tl)[31]? = some (.inr (2, 8, 0, 1099511627776)) := rfl
theorem lb_32 (tl : List CD) : (LB ++ tl)[32]? = some (.inl (7, [(1, 33, 0), (1, 34, 0), (0, 0, 12), (1, 35, 0), (1, 36, 0), (1, 37, 0), (1, 38, 0), (0, 0, 8), (1, 39, 0), (1, 40, 0), (0, 1, 40), (0, 0, 8), (1, 41, 0), (1, 42, 0), (1, 43, 0), (0, 0, 12), (1, 44, 0), (1, 45, 0), (1, 46, 0), (1, 47, 0), (0, (-1), 11), (0, 0, 255), (1, 48, 0), (1, 49, 0), (1, 50, 0), (1, 51, 0), (1, 52, 0), (1, 53, 0), (0, 0, 255), (1, 54, 0), (0, (-1), 11), (0, (-1), 8), (1, 55, 0), (1, 56, 0), (0, 0, 8), (1, 57, 0), (1, 58, 0), (1, 59, 0), (1, 60, 0), (1, 61, 0), (1, 62, 0), (1, 63, 0), (1, 64, 0), (0, 0, 5)])) := rfl
theorem lb_33 (tl : List CD) : (LB ++ tl)[33]? = some (.inr (0, 2, 0, 59)) := rfl
theorem lb_34 (tl : List CD) : (LB ++ tl)[34]? = some (.inr (0, 118, 0, 255)) := rfl
theorem lb_35 (tl : List CD) : (LB ++ tl)[35]? = some (.inr (0, 13, 0, 23)) := rfl
theorem lb_36 (tl : List CD) : (LB ++ tl)[36]? = some (.inr (0, 13, 0, 7)) := rfl
theorem lb_37 (tl : List CD) : (LB ++ tl)[37]? = some (.inr (0, 13, 0, 9)) := rfl
theorem lb_38 (tl : List CD) : (LB ++ tl)[38]? = some (.inr (0, 13, 0, 2)) := rfl
theorem lb_39 (tl : List CD) : (LB ++ tl)[39]? = some (.inr (0, 9, 0, 23)) := rfl
theorem lb_40 (tl : List CD) : (LB ++ tl)[40]? = some (.inr (0, 9, 0, 7)) := rfl
theorem lb_41 (tl : List CD) : (LB ++ tl)[41]? = some (.inr (0, 8, 0, 2)) := rfl
theorem lb_42 (tl : List CD) : (LB ++ tl)[42]? = some (.inr (0, 8, 0, 23)) := rfl
theorem lb_43 (tl : List CD) : (LB ++ tl)[43]? = some (.inr (0, 8, 0, 9)) := rfl
theorem lb_44 (tl : List CD) : (LB ++ tl)[44]? = some (.inr (0, 12, 0, 23)) := rfl
theorem lb_45 (tl : List CD) : (LB ++ tl)[45]? = some (.inr (0, 12, 0, 7)) := rfl
theorem lb_46 (tl : List CD) : (LB ++ tl)[46]? = some (.inr (0, 12, 0, 9)) := rfl
theorem lb_47 (tl : List CD) : (LB ++ tl)[47]? = some (.inr (0, 12, 0, 2)) := rfl
theorem lb_48 (tl : List CD) : (LB ++ tl)[48]? = some (.inr (0, 12, 0, 1)) := rfl
theorem lb_49 (tl : List CD) : (LB ++ tl)[49]? = some (.inr (0, 12, 0, 3)) := rfl
theorem lb_50 (tl : List CD) : (LB ++ tl)[50]? = some (.inr (0, 12, (-1), 11)) := rfl
theorem lb_51 (tl : List CD) : (LB ++ tl)[51]? = some (.inr (0, 192, 0, 36)) := rfl
theorem lb_52 (tl : List CD) : (LB ++ tl)[52]? = some (.inr (0, 192, 0, 40)) := rfl
theorem lb_53 (tl : List CD) : (LB ++ tl)[53]? = some (.inr (0, 192, 0, 3)) := rfl
theorem lb_54 (tl : List CD) : (LB ++ tl)[54]? = some (.inr (0, 24, 0, 255)) := rfl
theorem lb_55 (tl : List CD) : (LB ++ tl)[55]? = some (.inr (0, 12, 0, 4095)) := rfl
theorem lb_56 (tl : List CD) : (LB ++ tl)[56]? = some (.inr (0, 2, 0, 7)) := rfl
theorem lb_57 (tl : List CD) : (LB ++ tl)[57]? = some (.inr (0, 8, 0, 7)) := rfl
theorem lb_58 (tl : List CD) : (LB ++ tl)[58]? = some (.inr (0, 8, 0, 1)) := rfl
theorem lb_59 (tl : List CD) : (LB ++ tl)[59]? = some (.inr (0, 10, 0, 255)) := rfl
theorem lb_60 (tl : List CD) : (LB ++ tl)[60]? = some (.inr (1, 4, 0, 1)) := rfl
theorem lb_61 (tl : List CD) : (LB ++ tl)[61]? = some (.inr (0, 4, 0, 2)) := rfl
theorem lb_62 (tl : List CD) : (LB ++ tl)[62]? = some (.inr (0, 4, 0, 60)) := rfl
theorem lb_63 (tl : List CD) : (LB ++ tl)[63]? = some (.inr (0, 240, (-2147483648), 2147483647)) := rfl
theorem lb_64 (tl : List CD) : (LB ++ tl)[64]? = some (.inr (0, 60, (-2147483648), 2147483647)) := rfl
/-- the cell of told (5) or of trial (10) -/
def TK (tk : Nat) : Prop := tk = 5 ∨ tk = 10
theorem tkO {tk : Nat} (h : TK tk) (tl : List CD) : (LB ++ tl)[tk]? = some (.inl (4, [(1, ((tk + 1 : Nat) : Int), 0), (1, ((tk + 2 : Nat) : Int), 0), (1, ((tk + 3 : Nat) : Int), 0), (1, ((tk + 4 : Nat) : Int), 0), (0, 0, 12), (0, -2147483648, 2147483647)])) := by rcases h with rfl | rfl <;> rfl
theorem tk1 {tk : Nat} (h : TK tk) (tl : List CD) : (LB ++ tl)[tk + 1]? = some (.inr (0, 12, 0, 23)) := by rcases h with rfl | rfl <;> rfl
theorem tk2 {tk : Nat} (h : TK tk) (tl : List CD) : (LB ++ tl)[tk + 2]? = some (.inr (0, 12, 0, 7)) := by rcases h with rfl | rfl <;> rfl
theorem tk3 {tk : Nat} (h : TK tk) (tl : List CD) : (LB ++ tl)[tk + 3]? = some (.inr (0, 12, 0, 9)) := by rcases h with rfl | rfl <;> rfl
theorem tk4 {tk : Nat} (h : TK tk) (tl : List CD) : (LB ++ tl)[tk + 4]? = some (.inr (0, 12, 0, 2)) := by rcases h with rfl | rfl <;> rfl
