def ab_SH : ab_H := [
  (9, 9, [some 1, some 24, some 26, some 30, some 31, some 34, some 67, some 68, none]),
  (3, 11, [some 2, some 3, some 4, some 5, some 9, some 10, some 11, none, none, none, none]),
  (103, 12, [some 12, some 13, some 14, some 15, some 16, some 17, some 18, some 19, some 20, some 21, some 22, some 23]),
  (100, 16, []),
  (100, 16, []),
  (7, 4, [some 6, some 7, some 8, none]),
  (100, 8, []),
  (100, 8, []),
  (100, 8, []),
  (1, 4, [none, none, none, none]),
  (100, 144, []),
  (100, 12, []),
  (4, 9, [none, none, none, none, none, none, none, none, none]),
  (4, 9, [none, none, none, none, none, none, none, none, none]),
  (4, 9, [none, none, none, none, none, none, none, none, none]),
  (4, 9, [none, none, none, none, none, none, none, none, none]),
  (4, 9, [none, none, none, none, none, none, none, none, none]),
  (4, 9, [none, none, none, none, none, none, none, none, none]),
  (4, 9, [none, none, none, none, none, none, none, none, none]),
  (4, 9, [none, none, none, none, none, none, none, none, none]),
  (4, 9, [none, none, none, none, none, none, none, none, none]),
  (4, 9, [none, none, none, none, none, none, none, none, none]),
  (4, 9, [none, none, none, none, none, none, none, none, none]),
  (4, 9, [none, none, none, none, none, none, none, none, none]),
  (2, 2, [some 1, some 25]),
  (100, 30, []),
  (8, 6, [some 1, some 24, some 27, some 28, some 29, none]),
  (100, 16, []),
  (100, 16, []),
  (100, 16, []),
  (5, 2, [some 1, some 24]),
  (0, 5, [some 1, some 32, some 33, none, none]),
  (100, 384, []),
  (100, 6, []),
  (104, 8, [some 35, some 39, some 43, some 47, some 51, some 55, some 59, some 63]),
  (6, 5, [some 36, some 37, some 38, none, none]),
  (4, 9, [none, none, none, none, none, none, none, none, none]),
  (101, 60, []),
  (102, 60, []),
  (6, 5, [some 40, some 41, some 42, none, none]),
  (4, 9, [none, none, none, none, none, none, none, none, none]),
  (101, 60, []),
  (102, 60, []),
  (6, 5, [some 44, some 45, some 46, none, none]),
  (4, 9, [none, none, none, none, none, none, none, none, none]),
  (101, 60, []),
  (102, 60, []),
  (6, 5, [some 48, some 49, some 50, none, none]),
  (4, 9, [none, none, none, none, none, none, none, none, none]),
  (101, 60, []),
  (102, 60, []),
  (6, 5, [some 52, some 53, some 54, none, none]),
  (4, 9, [none, none, none, none, none, none, none, none, none]),
  (101, 60, []),
  (102, 60, []),
  (6, 5, [some 56, some 57, some 58, none, none]),
  (4, 9, [none, none, none, none, none, none, none, none, none]),
  (101, 60, []),
  (102, 60, []),
  (6, 5, [some 60, some 61, some 62, none, none]),
  (4, 9, [none, none, none, none, none, none, none, none, none]),
  (101, 60, []),
  (102, 60, []),
  (6, 5, [some 64, some 65, some 66, none, none]),
  (4, 9, [none, none, none, none, none, none, none, none, none]),
  (101, 60, []),
  (102, 60, []),
  (100, 16, []),
  (100, 16, []),
  (10, 39, [none, none, some 70, some 71, some 72, some 73, some 74, some 75, some 76, some 77, none, some 78, some 79, some 80, none, some 81, some 82, some 83, none, none, none, none, none, none, some 84, none, none, some 85, some 86, some 87, some 88, none, some 89, some 90, some 91, some 92, some 93, some 94, some 95]),
  (100, 12, []),
  (100, 12, []),
  (100, 12, []),
  (100, 12, []),
  (100, 12, []),
  (100, 12, []),
  (100, 12, []),
  (100, 12, []),
  (100, 16, []),
  (100, 16, []),
  (100, 16, []),
  (100, 8, []),
  (100, 8, []),
  (100, 8, []),
  (100, 12, []),
  (100, 16, []),
  (100, 6, []),
  (100, 384, []),
  (100, 12, []),
  (100, 16, []),
  (100, 8, []),
  (100, 8, []),
  (100, 8, []),
  (100, 8, []),
  (102, 480, []),
  (102, 60, []),
  (102, 1, [])]
theorem sh_0 : ab_SH[0]? = some (9, 9, [some 1, some 24, some 26, some 30, some 31, some 34, some 67, some 68, none]) := rfl
theorem sh_1 : ab_SH[1]? = some (3, 11, [some 2, some 3, some 4, some 5, some 9, some 10, some 11, none, none, none, none]) := rfl
theorem sh_2 : ab_SH[2]? = some (103, 12, [some 12, some 13, some 14, some 15, some 16, some 17, some 18, some 19, some 20, some 21, some 22, some 23]) := rfl
theorem sh_3 : ab_SH[3]? = some (100, 16, []) := rfl
theorem sh_4 : ab_SH[4]? = some (100, 16, []) := rfl
theorem sh_5 : ab_SH[5]? = some (7, 4, [some 6, some 7, some 8, none]) := rfl
theorem sh_6 : ab_SH[6]? = some (100, 8, []) := rfl
theorem sh_7 : ab_SH[7]? = some (100, 8, []) := rfl
theorem sh_8 : ab_SH[8]? = some (100, 8, []) := rfl
theorem sh_9 : ab_SH[9]? = some (1, 4, [none, none, none, none]) := rfl
theorem sh_10 : ab_SH[10]? = some (100, 144, []) := rfl
theorem sh_11 : ab_SH[11]? = some (100, 12, []) := rfl
theorem sh_12 : ab_SH[12]? = some (4, 9, [none, none, none, none, none, none, none, none, none]) := rfl
theorem sh_13 : ab_SH[13]? = some (4, 9, [none, none, none, none, none, none, none, none, none]) := rfl
theorem sh_14 : ab_SH[14]? = some (4, 9, [none, none, none, none, none, none, none, none, none]) := rfl
theorem sh_15 : ab_SH[15]? = some (4, 9, [none, none, none, none, none, none, none, none, none]) := rfl
theorem sh_16 : ab_SH[16]? = some (4, 9, [none, none, none, none, none, none, none, none, none]) := rfl
theorem sh_17 : ab_SH[17]? = some (4, 9, [none, none, none, none, none, none, none, none, none]) := rfl
theorem sh_18 : ab_SH[18]? = some (4, 9, [none, none, none, none, none, none, none, none, none]) := rfl
theorem sh_19 : ab_SH[19]? = some (4, 9, [none, none, none, none, none, none, none, none, none]) := rfl
theorem sh_20 : ab_SH[20]? = some (4, 9, [none, none, none, none, none, none, none, none, none]) := rfl
theorem sh_21 : ab_SH[21]? = some (4, 9, [none, none, none, none, none, none, none, none, none]) := rfl
theorem sh_22 : ab_SH[22]? = some (4, 9, [none, none, none, none, none, none, none, none, none]) := rfl
theorem sh_23 : ab_SH[23]? = some (4, 9, [none, none, none, none, none, none, none, none, none]) := rfl
theorem sh_24 : ab_SH[24]? = some (2, 2, [some 1, some 25]) := rfl
theorem sh_25 : ab_SH[25]? = some (100, 30, []) := rfl
theorem sh_26 : ab_SH[26]? = some (8, 6, [some 1, some 24, some 27, some 28, some 29, none]) := rfl
theorem sh_27 : ab_SH[27]? = some (100, 16, []) := rfl
theorem sh_28 : ab_SH[28]? = some (100, 16, []) := rfl
theorem sh_29 : ab_SH[29]? = some (100, 16, []) := rfl
theorem sh_30 : ab_SH[30]? = some (5, 2, [some 1, some 24]) := rfl
theorem sh_31 : ab_SH[31]? = some (0, 5, [some 1, some 32, some 33, none, none]) := rfl
theorem sh_32 : ab_SH[32]? = some (100, 384, []) := rfl
theorem sh_33 : ab_SH[33]? = some (100, 6, []) := rfl
theorem sh_34 : ab_SH[34]? = some (104, 8, [some 35, some 39, some 43, some 47, some 51, some 55, some 59, some 63]) := rfl
theorem sh_35 : ab_SH[35]? = some (6, 5, [some 36, some 37, some 38, none, none]) := rfl
theorem sh_36 : ab_SH[36]? = some (4, 9, [none, none, none, none, none, none, none, none, none]) := rfl
theorem sh_37 : ab_SH[37]? = some (101, 60, []) := rfl
theorem sh_38 : ab_SH[38]? = some (102, 60, []) := rfl
theorem sh_39 : ab_SH[39]? = some (6, 5, [some 40, some 41, some 42, none, none]) := rfl
theorem sh_40 : ab_SH[40]? = some (4, 9, [none, none, none, none, none, none, none, none, none]) := rfl
theorem sh_41 : ab_SH[41]? = some (101, 60, []) := rfl
theorem sh_42 : ab_SH[42]? = some (102, 60, []) := rfl
theorem sh_43 : ab_SH[43]? = some (6, 5, [some 44, some 45, some 46, none, none]) := rfl
theorem sh_44 : ab_SH[44]? = some (4, 9, [none, none, none, none, none, none, none, none, none]) := rfl
theorem sh_45 : ab_SH[45]? = some (101, 60, []) := rfl
theorem sh_46 : ab_SH[46]? = some (102, 60, []) := rfl
theorem sh_47 : ab_SH[47]? = some (6, 5, [some 48, some 49, some 50, none, none]) := rfl
theorem sh_48 : ab_SH[48]? = some (4, 9, [none, none, none, none, none, none, none, none, none]) := rfl
theorem sh_49 : ab_SH[49]? = some (101, 60, []) := rfl
theorem sh_50 : ab_SH[50]? = some (102, 60, []) := rfl
theorem sh_51 : ab_SH[51]? = some (6, 5, [some 52, some 53, some 54, none, none]) := rfl
theorem sh_52 : ab_SH[52]? = some (4, 9, [none, none, none, none, none, none, none, none, none]) := rfl
theorem sh_53 : ab_SH[53]? = some (101, 60, []) := rfl
theorem sh_54 : ab_SH[54]? = some (102, 60, []) := rfl
theorem sh_55 : ab_SH[55]? = some (6, 5, [some 56, some 57, some 58, none, none]) := rfl
theorem sh_56 : ab_SH[56]? = some (4, 9, [none, none, none, none, none, none, none, none, none]) := rfl
theorem sh_57 : ab_SH[57]? = some (101, 60, []) := rfl
theorem sh_58 : ab_SH[58]? = some (102, 60, []) := rfl
theorem sh_59 : ab_SH[59]? = some (6, 5, [some 60, some 61, some 62, none, none]) := rfl
theorem sh_60 : ab_SH[60]? = some (4, 9, [none, none, none, none, none, none, none, none, none]) := rfl
theorem sh_61 : ab_SH[61]? = some (101, 60, []) := rfl
theorem sh_62 : ab_SH[62]? = some (102, 60, []) := rfl
theorem sh_63 : ab_SH[63]? = some (6, 5, [some 64, some 65, some 66, none, none]) := rfl
theorem sh_64 : ab_SH[64]? = some (4, 9, [none, none, none, none, none, none, none, none, none]) := rfl
theorem sh_65 : ab_SH[65]? = some (101, 60, []) := rfl
theorem sh_66 : ab_SH[66]? = some (102, 60, []) := rfl
theorem sh_67 : ab_SH[67]? = some (100, 16, []) := rfl
theorem sh_68 : ab_SH[68]? = some (100, 16, []) := rfl
theorem sh_69 : ab_SH[69]? = some (10, 39, [none, none, some 70, some 71, some 72, some 73, some 74, some 75, some 76, some 77, none, some 78, some 79, some 80, none, some 81, some 82, some 83, none, none, none, none, none, none, some 84, none, none, some 85, some 86, some 87, some 88, none, some 89, some 90, some 91, some 92, some 93, some 94, some 95]) := rfl
theorem sh_70 : ab_SH[70]? = some (100, 12, []) := rfl
theorem sh_71 : ab_SH[71]? = some (100, 12, []) := rfl
theorem sh_72 : ab_SH[72]? = some (100, 12, []) := rfl
theorem sh_73 : ab_SH[73]? = some (100, 12, []) := rfl
theorem sh_74 : ab_SH[74]? = some (100, 12, []) := rfl
theorem sh_75 : ab_SH[75]? = some (100, 12, []) := rfl
theorem sh_76 : ab_SH[76]? = some (100, 12, []) := rfl
theorem sh_77 : ab_SH[77]? = some (100, 12, []) := rfl
theorem sh_78 : ab_SH[78]? = some (100, 16, []) := rfl
theorem sh_79 : ab_SH[79]? = some (100, 16, []) := rfl
theorem sh_80 : ab_SH[80]? = some (100, 16, []) := rfl
theorem sh_81 : ab_SH[81]? = some (100, 8, []) := rfl
theorem sh_82 : ab_SH[82]? = some (100, 8, []) := rfl
theorem sh_83 : ab_SH[83]? = some (100, 8, []) := rfl
theorem sh_84 : ab_SH[84]? = some (100, 12, []) := rfl
theorem sh_85 : ab_SH[85]? = some (100, 16, []) := rfl
theorem sh_86 : ab_SH[86]? = some (100, 6, []) := rfl
theorem sh_87 : ab_SH[87]? = some (100, 384, []) := rfl
theorem sh_88 : ab_SH[88]? = some (100, 12, []) := rfl
theorem sh_89 : ab_SH[89]? = some (100, 16, []) := rfl
theorem sh_90 : ab_SH[90]? = some (100, 8, []) := rfl
theorem sh_91 : ab_SH[91]? = some (100, 8, []) := rfl
theorem sh_92 : ab_SH[92]? = some (100, 8, []) := rfl
theorem sh_93 : ab_SH[93]? = some (100, 8, []) := rfl
theorem sh_94 : ab_SH[94]? = some (102, 480, []) := rfl
theorem sh_95 : ab_SH[95]? = some (102, 60, []) := rfl
theorem sh_96 : ab_SH[96]? = some (102, 1, []) := rfl
def ab_isMast (t : Nat) : Prop := ab_SH[t]? = some (4, 9, [none, none, none, none, none, none, none, none, none])
def ab_isPlan (t : Nat) : Prop := ab_SH[t]? = some (100, 16, [])
def ab_isB (t : Nat) : Prop := ab_SH[t]? = some (101, 60, [])
def ab_isJ (t : Nat) : Prop := ab_SH[t]? = some (102, 60, [])
def ab_isShelf (t : Nat) : Prop := ab_SH[t]? = some (6, 5, [some (t + 1), some (t + 2), some (t + 3), none, none]) ∧ ab_isMast (t + 1) ∧ ab_isB (t + 2) ∧ ab_isJ (t + 3)
theorem ab_mast_all : ∀ j, j < 12 → ab_SH[12 + j]? = some (4, 9, [none, none, none, none, none, none, none, none, none]) := by decide +kernel
theorem ab_rf_all : ∀ j, j < 12 → ((103, 12, [some 12, some 13, some 14, some 15, some 16, some 17, some 18, some 19, some 20, some 21, some 22, some 23]) : ab_S).2.2.getD j none = some (12 + j) := by decide +kernel
theorem ab_shelf_0 : ∀ j, j < 8 → ab_SH[35 + 4 * j]? = some (6, 5, [some (35 + 4 * j + 1), some (35 + 4 * j + 2), some (35 + 4 * j + 3), none, none]) := by decide +kernel
theorem ab_shelf_1 : ∀ j, j < 8 → ab_SH[35 + 4 * j + 1]? = some (4, 9, [none, none, none, none, none, none, none, none, none]) := by decide +kernel
theorem ab_shelf_2 : ∀ j, j < 8 → ab_SH[35 + 4 * j + 2]? = some (101, 60, []) := by decide +kernel
theorem ab_shelf_3 : ∀ j, j < 8 → ab_SH[35 + 4 * j + 3]? = some (102, 60, []) := by decide +kernel
theorem ab_rfs_all : ∀ j, j < 8 → ((104, 8, [some 35, some 39, some 43, some 47, some 51, some 55, some 59, some 63]) : ab_S).2.2.getD j none = some (35 + 4 * j) := by decide +kernel
theorem ab_in_lt {i : Int32} {n : Nat} (h : vp_in i n) : i.toNatClampNeg < n := Nat.not_le.mp fun q => h (Or.inr q)
theorem sh_mast {i : Int32} (h : vp_in i 12) : ab_isMast (12 + i.toNatClampNeg) := ab_mast_all _ (ab_in_lt h)
theorem rf_mast {i : Int32} (h : vp_in i 12) : ((103, 12, [some 12, some 13, some 14, some 15, some 16, some 17, some 18, some 19, some 20, some 21, some 22, some 23]) : ab_S).2.2.getD i.toNatClampNeg none = some (12 + i.toNatClampNeg) := ab_rf_all _ (ab_in_lt h)
theorem sh_shelf {i : Int32} (h : vp_in i 8) : ab_isShelf (35 + 4 * i.toNatClampNeg) := ⟨ab_shelf_0 _ (ab_in_lt h), ab_shelf_1 _ (ab_in_lt h), ab_shelf_2 _ (ab_in_lt h), ab_shelf_3 _ (ab_in_lt h)⟩
theorem rf_shelf {i : Int32} (h : vp_in i 8) : ((104, 8, [some 35, some 39, some 43, some 47, some 51, some 55, some 59, some 63]) : ab_S).2.2.getD i.toNatClampNeg none = some (35 + 4 * i.toNatClampNeg) := ab_rfs_all _ (ab_in_lt h)
