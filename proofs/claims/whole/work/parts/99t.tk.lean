/-! the first cells: both constructors run -/
def lz0 : Nat → Nat → Int64 := fun _ _ => 0
def ci_0 : Nat → Nat → Int32 := fun _ _ => 0
def cr_0 : Nat → Nat → Option Nat := fun _ _ => none
def ci_1 : Nat → Nat → Int32 := u2 ci_0 1 1 (nI 0)
def cr_1 : Nat → Nat → Option Nat := u2 cr_0 1 0 (some 2)
def cr_2 : Nat → Nat → Option Nat := u2 cr_1 0 0 (some 1)
def ci_2 : Nat → Nat → Int32 := u2 ci_1 3 1 (nI 0)
def cr_3 : Nat → Nat → Option Nat := u2 cr_2 3 0 (some 4)
def cr_4 : Nat → Nat → Option Nat := u2 cr_3 0 1 (some 3)
def ci_3 : Nat → Nat → Int32 := u2 ci_2 6 1 (nI 0)
def cr_5 : Nat → Nat → Option Nat := u2 cr_4 6 0 (some 7)
def cr_6 : Nat → Nat → Option Nat := u2 cr_5 5 0 (some 6)
def cr_7 : Nat → Nat → Option Nat := u2 cr_6 8 0 (some 9)
def cr_8 : Nat → Nat → Option Nat := u2 cr_7 8 1 (some 10)
def ci_4 : Nat → Nat → Int32 := u2 ci_3 8 2 (nI 0)
def ci_5 : Nat → Nat → Int32 := u2 ci_4 8 3 (nI 3)
def ci_6 : Nat → Nat → Int32 := u2 ci_5 8 4 (nI 3)
def cr_9 : Nat → Nat → Option Nat := u2 cr_8 5 1 (some 8)
def ci_7 : Nat → Nat → Int32 := u2 ci_6 5 2 (nI 0)
def ci_8 : Nat → Nat → Int32 := u2 ci_7 5 3 (nI 0)
def cr_10 : Nat → Nat → Option Nat := u2 cr_9 0 2 (some 5)
def cr_11 : Nat → Nat → Option Nat := u2 cr_10 0 3 (some 11)
def ci_9 : Nat → Nat → Int32 := u2 ci_8 0 4 (nI 0)
def cr_12 : Nat → Nat → Option Nat := u2 cr_11 13 0 (some 14)
def cr_13 : Nat → Nat → Option Nat := u2 cr_12 13 1 (some 15)
def cr_14 : Nat → Nat → Option Nat := u2 cr_13 13 2 (some 16)
def cr_15 : Nat → Nat → Option Nat := u2 cr_14 13 3 (some 17)
def cr_16 : Nat → Nat → Option Nat := u2 cr_15 13 4 (some 18)
def ci_10 : Nat → Nat → Int32 := u2 ci_9 13 5 (nI 0)
def ci_11 : Nat → Nat → Int32 := u2 ci_10 19 1 (nI 0)
def cr_17 : Nat → Nat → Option Nat := u2 cr_16 19 0 (some 20)
def cr_18 : Nat → Nat → Option Nat := u2 cr_17 14 0 (some 19)
def ci_12 : Nat → Nat → Int32 := u2 ci_11 21 1 (nI 0)
def cr_19 : Nat → Nat → Option Nat := u2 cr_18 21 0 (some 22)
def cr_20 : Nat → Nat → Option Nat := u2 cr_19 14 1 (some 21)
def ci_13 : Nat → Nat → Int32 := u2 ci_12 23 1 (nI 0)
def cr_21 : Nat → Nat → Option Nat := u2 cr_20 23 0 (some 24)
def cr_22 : Nat → Nat → Option Nat := u2 cr_21 14 2 (some 23)
def ci_14 : Nat → Nat → Int32 := u2 ci_13 25 1 (nI 0)
def cr_23 : Nat → Nat → Option Nat := u2 cr_22 25 0 (some 26)
def cr_24 : Nat → Nat → Option Nat := u2 cr_23 14 3 (some 25)
def ci_15 : Nat → Nat → Int32 := u2 ci_14 27 1 (nI 0)
def cr_25 : Nat → Nat → Option Nat := u2 cr_24 27 0 (some 28)
def cr_26 : Nat → Nat → Option Nat := u2 cr_25 14 4 (some 27)
def ci_16 : Nat → Nat → Int32 := u2 ci_15 29 1 (nI 0)
def cr_27 : Nat → Nat → Option Nat := u2 cr_26 29 0 (some 30)
def cr_28 : Nat → Nat → Option Nat := u2 cr_27 14 5 (some 29)
def ci_17 : Nat → Nat → Int32 := u2 ci_16 31 1 (nI 0)
def cr_29 : Nat → Nat → Option Nat := u2 cr_28 31 0 (some 32)
def cr_30 : Nat → Nat → Option Nat := u2 cr_29 14 6 (some 31)
def ci_18 : Nat → Nat → Int32 := u2 ci_17 33 1 (nI 0)
def cr_31 : Nat → Nat → Option Nat := u2 cr_30 33 0 (some 34)
def cr_32 : Nat → Nat → Option Nat := u2 cr_31 14 7 (some 33)
def ci_19 : Nat → Nat → Int32 := u2 ci_18 35 1 (nI 0)
def cr_33 : Nat → Nat → Option Nat := u2 cr_32 35 0 (some 36)
def cr_34 : Nat → Nat → Option Nat := u2 cr_33 14 8 (some 35)
def ci_20 : Nat → Nat → Int32 := u2 ci_19 37 1 (nI 0)
def cr_35 : Nat → Nat → Option Nat := u2 cr_34 37 0 (some 38)
def cr_36 : Nat → Nat → Option Nat := u2 cr_35 14 9 (some 37)
def ci_21 : Nat → Nat → Int32 := u2 ci_20 39 1 (nI 0)
def cr_37 : Nat → Nat → Option Nat := u2 cr_36 39 0 (some 40)
def cr_38 : Nat → Nat → Option Nat := u2 cr_37 14 10 (some 39)
def ci_22 : Nat → Nat → Int32 := u2 ci_21 41 1 (nI 0)
def cr_39 : Nat → Nat → Option Nat := u2 cr_38 41 0 (some 42)
def cr_40 : Nat → Nat → Option Nat := u2 cr_39 14 11 (some 41)
def cr_41 : Nat → Nat → Option Nat := u2 cr_40 12 0 (some 13)
def cr_42 : Nat → Nat → Option Nat := u2 cr_41 12 1 (some 43)
def ci_23 : Nat → Nat → Int32 := u2 ci_22 12 2 (nI 0)
def ci_24 : Nat → Nat → Int32 := u2 ci_23 45 1 (nI 0)
def cr_43 : Nat → Nat → Option Nat := u2 cr_42 45 0 (some 46)
def cr_44 : Nat → Nat → Option Nat := u2 cr_43 44 0 (some 45)
def cr_45 : Nat → Nat → Option Nat := u2 cr_44 44 1 (some 47)
def ci_25 : Nat → Nat → Int32 := u2 ci_24 44 2 (nI 0)
def ci_26 : Nat → Nat → Int32 := u2 ci_25 44 3 (nI 4294967295)
def ci_27 : Nat → Nat → Int32 := u2 ci_26 44 4 (nI 4294967295)
def cr_46 : Nat → Nat → Option Nat := u2 cr_45 12 3 (some 44)
def ci_28 : Nat → Nat → Int32 := u2 ci_27 48 1 (nI 0)
def cr_47 : Nat → Nat → Option Nat := u2 cr_46 48 0 (some 49)
def cr_48 : Nat → Nat → Option Nat := u2 cr_47 12 4 (some 48)
def ci_29 : Nat → Nat → Int32 := u2 ci_28 50 1 (nI 0)
def cr_49 : Nat → Nat → Option Nat := u2 cr_48 50 0 (some 51)
def cr_50 : Nat → Nat → Option Nat := u2 cr_49 12 5 (some 50)
def ci_30 : Nat → Nat → Int32 := u2 ci_29 52 1 (nI 0)
def cr_51 : Nat → Nat → Option Nat := u2 cr_50 52 0 (some 53)
def cr_52 : Nat → Nat → Option Nat := u2 cr_51 12 6 (some 52)
def ci_31 : Nat → Nat → Int32 := u2 ci_30 54 1 (nI 0)
def cr_53 : Nat → Nat → Option Nat := u2 cr_52 54 0 (some 55)
def cr_54 : Nat → Nat → Option Nat := u2 cr_53 12 7 (some 54)
def cr_55 : Nat → Nat → Option Nat := u2 cr_54 56 0 (some 57)
def cr_56 : Nat → Nat → Option Nat := u2 cr_55 56 1 (some 58)
def ci_32 : Nat → Nat → Int32 := u2 ci_31 56 2 (nI 0)
def ci_33 : Nat → Nat → Int32 := u2 ci_32 56 3 (nI 3)
def ci_34 : Nat → Nat → Int32 := u2 ci_33 56 4 (nI 3)
def cr_57 : Nat → Nat → Option Nat := u2 cr_56 12 8 (some 56)
def cr_58 : Nat → Nat → Option Nat := u2 cr_57 12 9 (some 59)
def cr_59 : Nat → Nat → Option Nat := u2 cr_58 60 0 (some 61)
def ci_35 : Nat → Nat → Int32 := u2 ci_34 60 1 (nI 0)
def ci_36 : Nat → Nat → Int32 := u2 ci_35 60 2 (nI 0)
def ci_37 : Nat → Nat → Int32 := u2 ci_36 60 3 (nI 0)
def cr_60 : Nat → Nat → Option Nat := u2 cr_59 43 0 (some 60)
def cr_61 : Nat → Nat → Option Nat := u2 cr_60 62 0 (some 63)
def ci_38 : Nat → Nat → Int32 := u2 ci_37 62 1 (nI 0)
def ci_39 : Nat → Nat → Int32 := u2 ci_38 62 2 (nI 0)
def ci_40 : Nat → Nat → Int32 := u2 ci_39 62 3 (nI 0)
def cr_62 : Nat → Nat → Option Nat := u2 cr_61 43 1 (some 62)
def cr_63 : Nat → Nat → Option Nat := u2 cr_62 64 0 (some 65)
def ci_41 : Nat → Nat → Int32 := u2 ci_40 64 1 (nI 0)
def ci_42 : Nat → Nat → Int32 := u2 ci_41 64 2 (nI 0)
def ci_43 : Nat → Nat → Int32 := u2 ci_42 64 3 (nI 0)
def cr_64 : Nat → Nat → Option Nat := u2 cr_63 43 2 (some 64)
def cr_65 : Nat → Nat → Option Nat := u2 cr_64 66 0 (some 67)
def ci_44 : Nat → Nat → Int32 := u2 ci_43 66 1 (nI 0)
def ci_45 : Nat → Nat → Int32 := u2 ci_44 66 2 (nI 0)
def ci_46 : Nat → Nat → Int32 := u2 ci_45 66 3 (nI 0)
def cr_66 : Nat → Nat → Option Nat := u2 cr_65 43 3 (some 66)
def cr_67 : Nat → Nat → Option Nat := u2 cr_66 68 0 (some 69)
def ci_47 : Nat → Nat → Int32 := u2 ci_46 68 1 (nI 0)
def ci_48 : Nat → Nat → Int32 := u2 ci_47 68 2 (nI 0)
def ci_49 : Nat → Nat → Int32 := u2 ci_48 68 3 (nI 0)
def cr_68 : Nat → Nat → Option Nat := u2 cr_67 43 4 (some 68)
def cr_69 : Nat → Nat → Option Nat := u2 cr_68 0 5 (some 12)
def cr_70 : Nat → Nat → Option Nat := u2 cr_69 71 0 (some 72)
def cr_71 : Nat → Nat → Option Nat := u2 cr_70 71 1 (some 73)
def cr_72 : Nat → Nat → Option Nat := u2 cr_71 71 2 (some 74)
def cr_73 : Nat → Nat → Option Nat := u2 cr_72 71 3 (some 75)
def cr_74 : Nat → Nat → Option Nat := u2 cr_73 71 4 (some 76)
def ci_50 : Nat → Nat → Int32 := u2 ci_49 71 5 (nI 0)
def ci_51 : Nat → Nat → Int32 := u2 ci_50 77 1 (nI 0)
def cr_75 : Nat → Nat → Option Nat := u2 cr_74 77 0 (some 78)
def cr_76 : Nat → Nat → Option Nat := u2 cr_75 72 0 (some 77)
def ci_52 : Nat → Nat → Int32 := u2 ci_51 79 1 (nI 0)
def cr_77 : Nat → Nat → Option Nat := u2 cr_76 79 0 (some 80)
def cr_78 : Nat → Nat → Option Nat := u2 cr_77 72 1 (some 79)
def ci_53 : Nat → Nat → Int32 := u2 ci_52 81 1 (nI 0)
def cr_79 : Nat → Nat → Option Nat := u2 cr_78 81 0 (some 82)
def cr_80 : Nat → Nat → Option Nat := u2 cr_79 72 2 (some 81)
def ci_54 : Nat → Nat → Int32 := u2 ci_53 83 1 (nI 0)
def cr_81 : Nat → Nat → Option Nat := u2 cr_80 83 0 (some 84)
def cr_82 : Nat → Nat → Option Nat := u2 cr_81 72 3 (some 83)
def ci_55 : Nat → Nat → Int32 := u2 ci_54 85 1 (nI 0)
def cr_83 : Nat → Nat → Option Nat := u2 cr_82 85 0 (some 86)
def cr_84 : Nat → Nat → Option Nat := u2 cr_83 72 4 (some 85)
def ci_56 : Nat → Nat → Int32 := u2 ci_55 87 1 (nI 0)
def cr_85 : Nat → Nat → Option Nat := u2 cr_84 87 0 (some 88)
def cr_86 : Nat → Nat → Option Nat := u2 cr_85 72 5 (some 87)
def ci_57 : Nat → Nat → Int32 := u2 ci_56 89 1 (nI 0)
def cr_87 : Nat → Nat → Option Nat := u2 cr_86 89 0 (some 90)
def cr_88 : Nat → Nat → Option Nat := u2 cr_87 72 6 (some 89)
def ci_58 : Nat → Nat → Int32 := u2 ci_57 91 1 (nI 0)
def cr_89 : Nat → Nat → Option Nat := u2 cr_88 91 0 (some 92)
def cr_90 : Nat → Nat → Option Nat := u2 cr_89 72 7 (some 91)
def ci_59 : Nat → Nat → Int32 := u2 ci_58 93 1 (nI 0)
def cr_91 : Nat → Nat → Option Nat := u2 cr_90 93 0 (some 94)
def cr_92 : Nat → Nat → Option Nat := u2 cr_91 72 8 (some 93)
def ci_60 : Nat → Nat → Int32 := u2 ci_59 95 1 (nI 0)
def cr_93 : Nat → Nat → Option Nat := u2 cr_92 95 0 (some 96)
def cr_94 : Nat → Nat → Option Nat := u2 cr_93 72 9 (some 95)
def ci_61 : Nat → Nat → Int32 := u2 ci_60 97 1 (nI 0)
def cr_95 : Nat → Nat → Option Nat := u2 cr_94 97 0 (some 98)
def cr_96 : Nat → Nat → Option Nat := u2 cr_95 72 10 (some 97)
def ci_62 : Nat → Nat → Int32 := u2 ci_61 99 1 (nI 0)
def cr_97 : Nat → Nat → Option Nat := u2 cr_96 99 0 (some 100)
def cr_98 : Nat → Nat → Option Nat := u2 cr_97 72 11 (some 99)
def cr_99 : Nat → Nat → Option Nat := u2 cr_98 70 0 (some 71)
def cr_100 : Nat → Nat → Option Nat := u2 cr_99 70 1 (some 101)
def ci_63 : Nat → Nat → Int32 := u2 ci_62 70 2 (nI 0)
def ci_64 : Nat → Nat → Int32 := u2 ci_63 103 1 (nI 0)
def cr_101 : Nat → Nat → Option Nat := u2 cr_100 103 0 (some 104)
def cr_102 : Nat → Nat → Option Nat := u2 cr_101 102 0 (some 103)
def cr_103 : Nat → Nat → Option Nat := u2 cr_102 102 1 (some 105)
def ci_65 : Nat → Nat → Int32 := u2 ci_64 102 2 (nI 0)
def ci_66 : Nat → Nat → Int32 := u2 ci_65 102 3 (nI 4294967295)
def ci_67 : Nat → Nat → Int32 := u2 ci_66 102 4 (nI 4294967295)
def cr_104 : Nat → Nat → Option Nat := u2 cr_103 70 3 (some 102)
def ci_68 : Nat → Nat → Int32 := u2 ci_67 106 1 (nI 0)
def cr_105 : Nat → Nat → Option Nat := u2 cr_104 106 0 (some 107)
def cr_106 : Nat → Nat → Option Nat := u2 cr_105 70 4 (some 106)
def ci_69 : Nat → Nat → Int32 := u2 ci_68 108 1 (nI 0)
def cr_107 : Nat → Nat → Option Nat := u2 cr_106 108 0 (some 109)
def cr_108 : Nat → Nat → Option Nat := u2 cr_107 70 5 (some 108)
def ci_70 : Nat → Nat → Int32 := u2 ci_69 110 1 (nI 0)
def cr_109 : Nat → Nat → Option Nat := u2 cr_108 110 0 (some 111)
def cr_110 : Nat → Nat → Option Nat := u2 cr_109 70 6 (some 110)
def ci_71 : Nat → Nat → Int32 := u2 ci_70 112 1 (nI 0)
def cr_111 : Nat → Nat → Option Nat := u2 cr_110 112 0 (some 113)
def cr_112 : Nat → Nat → Option Nat := u2 cr_111 70 7 (some 112)
def cr_113 : Nat → Nat → Option Nat := u2 cr_112 114 0 (some 115)
def cr_114 : Nat → Nat → Option Nat := u2 cr_113 114 1 (some 116)
def ci_72 : Nat → Nat → Int32 := u2 ci_71 114 2 (nI 0)
def ci_73 : Nat → Nat → Int32 := u2 ci_72 114 3 (nI 3)
def ci_74 : Nat → Nat → Int32 := u2 ci_73 114 4 (nI 3)
def cr_115 : Nat → Nat → Option Nat := u2 cr_114 70 8 (some 114)
def cr_116 : Nat → Nat → Option Nat := u2 cr_115 70 9 (some 117)
def cr_117 : Nat → Nat → Option Nat := u2 cr_116 118 0 (some 119)
def ci_75 : Nat → Nat → Int32 := u2 ci_74 118 1 (nI 0)
def ci_76 : Nat → Nat → Int32 := u2 ci_75 118 2 (nI 0)
def ci_77 : Nat → Nat → Int32 := u2 ci_76 118 3 (nI 0)
def cr_118 : Nat → Nat → Option Nat := u2 cr_117 101 0 (some 118)
def cr_119 : Nat → Nat → Option Nat := u2 cr_118 120 0 (some 121)
def ci_78 : Nat → Nat → Int32 := u2 ci_77 120 1 (nI 0)
def ci_79 : Nat → Nat → Int32 := u2 ci_78 120 2 (nI 0)
def ci_80 : Nat → Nat → Int32 := u2 ci_79 120 3 (nI 0)
def cr_120 : Nat → Nat → Option Nat := u2 cr_119 101 1 (some 120)
def cr_121 : Nat → Nat → Option Nat := u2 cr_120 122 0 (some 123)
def ci_81 : Nat → Nat → Int32 := u2 ci_80 122 1 (nI 0)
def ci_82 : Nat → Nat → Int32 := u2 ci_81 122 2 (nI 0)
def ci_83 : Nat → Nat → Int32 := u2 ci_82 122 3 (nI 0)
def cr_122 : Nat → Nat → Option Nat := u2 cr_121 101 2 (some 122)
def cr_123 : Nat → Nat → Option Nat := u2 cr_122 124 0 (some 125)
def ci_84 : Nat → Nat → Int32 := u2 ci_83 124 1 (nI 0)
def ci_85 : Nat → Nat → Int32 := u2 ci_84 124 2 (nI 0)
def ci_86 : Nat → Nat → Int32 := u2 ci_85 124 3 (nI 0)
def cr_124 : Nat → Nat → Option Nat := u2 cr_123 101 3 (some 124)
def cr_125 : Nat → Nat → Option Nat := u2 cr_124 126 0 (some 127)
def ci_87 : Nat → Nat → Int32 := u2 ci_86 126 1 (nI 0)
def ci_88 : Nat → Nat → Int32 := u2 ci_87 126 2 (nI 0)
def ci_89 : Nat → Nat → Int32 := u2 ci_88 126 3 (nI 0)
def cr_126 : Nat → Nat → Option Nat := u2 cr_125 101 4 (some 126)
def cr_127 : Nat → Nat → Option Nat := u2 cr_126 0 6 (some 70)
def ci_90 : Nat → Nat → Int32 := u2 ci_89 0 7 (nI 0)
def ci_91 : Nat → Nat → Int32 := u2 ci_90 129 1 (nI 0)
def cr_128 : Nat → Nat → Option Nat := u2 cr_127 129 0 (some 130)
def cr_129 : Nat → Nat → Option Nat := u2 cr_128 128 0 (some 129)
def cr_130 : Nat → Nat → Option Nat := u2 cr_129 128 1 (some 131)
def ci_92 : Nat → Nat → Int32 := u2 ci_91 128 2 (nI 0)
def ci_93 : Nat → Nat → Int32 := u2 ci_92 128 3 (nI 4294967295)
def ci_94 : Nat → Nat → Int32 := u2 ci_93 128 4 (nI 4294967295)
def cr_131 : Nat → Nat → Option Nat := u2 cr_130 0 8 (some 128)
def ci_95 : Nat → Nat → Int32 := u2 ci_94 133 1 (nI 0)
def cr_132 : Nat → Nat → Option Nat := u2 cr_131 133 0 (some 134)
def cr_133 : Nat → Nat → Option Nat := u2 cr_132 132 0 (some 133)
def ci_96 : Nat → Nat → Int32 := u2 ci_95 132 1 (nI 0)
def cr_134 : Nat → Nat → Option Nat := u2 cr_133 0 9 (some 132)
def cr_135 : Nat → Nat → Option Nat := u2 cr_134 0 10 (some 135)
def cr_136 : Nat → Nat → Option Nat := u2 cr_135 136 0 (some 137)
def cr_137 : Nat → Nat → Option Nat := u2 cr_136 136 1 (some 138)
def ci_97 : Nat → Nat → Int32 := u2 ci_96 136 2 (nI 0)
def ci_98 : Nat → Nat → Int32 := u2 ci_97 136 3 (nI 3)
def ci_99 : Nat → Nat → Int32 := u2 ci_98 136 4 (nI 3)
def cr_138 : Nat → Nat → Option Nat := u2 cr_137 11 0 (some 136)
def cr_139 : Nat → Nat → Option Nat := u2 cr_138 139 0 (some 140)
def cr_140 : Nat → Nat → Option Nat := u2 cr_139 139 1 (some 141)
def ci_100 : Nat → Nat → Int32 := u2 ci_99 139 2 (nI 0)
def ci_101 : Nat → Nat → Int32 := u2 ci_100 139 3 (nI 3)
def ci_102 : Nat → Nat → Int32 := u2 ci_101 139 4 (nI 3)
def cr_141 : Nat → Nat → Option Nat := u2 cr_140 11 1 (some 139)
def cr_142 : Nat → Nat → Option Nat := u2 cr_141 142 0 (some 143)
def cr_143 : Nat → Nat → Option Nat := u2 cr_142 142 1 (some 144)
def ci_103 : Nat → Nat → Int32 := u2 ci_102 142 2 (nI 0)
def ci_104 : Nat → Nat → Int32 := u2 ci_103 142 3 (nI 3)
def ci_105 : Nat → Nat → Int32 := u2 ci_104 142 4 (nI 3)
def cr_144 : Nat → Nat → Option Nat := u2 cr_143 11 2 (some 142)
def cr_145 : Nat → Nat → Option Nat := u2 cr_144 145 0 (some 146)
def cr_146 : Nat → Nat → Option Nat := u2 cr_145 145 1 (some 147)
def ci_106 : Nat → Nat → Int32 := u2 ci_105 145 2 (nI 0)
def ci_107 : Nat → Nat → Int32 := u2 ci_106 145 3 (nI 3)
def ci_108 : Nat → Nat → Int32 := u2 ci_107 145 4 (nI 3)
def cr_147 : Nat → Nat → Option Nat := u2 cr_146 11 3 (some 145)
def cr_148 : Nat → Nat → Option Nat := u2 cr_147 148 0 (some 149)
def cr_149 : Nat → Nat → Option Nat := u2 cr_148 148 1 (some 150)
def ci_109 : Nat → Nat → Int32 := u2 ci_108 148 2 (nI 0)
def ci_110 : Nat → Nat → Int32 := u2 ci_109 148 3 (nI 3)
def ci_111 : Nat → Nat → Int32 := u2 ci_110 148 4 (nI 3)
def cr_150 : Nat → Nat → Option Nat := u2 cr_149 11 4 (some 148)
def cr_151 : Nat → Nat → Option Nat := u2 cr_150 151 0 (some 152)
def cr_152 : Nat → Nat → Option Nat := u2 cr_151 151 1 (some 153)
def ci_112 : Nat → Nat → Int32 := u2 ci_111 151 2 (nI 0)
def ci_113 : Nat → Nat → Int32 := u2 ci_112 151 3 (nI 3)
def ci_114 : Nat → Nat → Int32 := u2 ci_113 151 4 (nI 3)
def cr_153 : Nat → Nat → Option Nat := u2 cr_152 11 5 (some 151)
def cr_154 : Nat → Nat → Option Nat := u2 cr_153 154 0 (some 155)
def ci_115 : Nat → Nat → Int32 := u2 ci_114 154 1 (nI 4294967295)
def ci_116 : Nat → Nat → Int32 := u2 ci_115 154 2 (nI 0)
def cr_155 : Nat → Nat → Option Nat := u2 cr_154 135 0 (some 154)
def cr_156 : Nat → Nat → Option Nat := u2 cr_155 156 0 (some 157)
def ci_117 : Nat → Nat → Int32 := u2 ci_116 156 1 (nI 4294967295)
def ci_118 : Nat → Nat → Int32 := u2 ci_117 156 2 (nI 0)
def cr_157 : Nat → Nat → Option Nat := u2 cr_156 135 1 (some 156)
def cr_158 : Nat → Nat → Option Nat := u2 cr_157 158 0 (some 159)
def ci_119 : Nat → Nat → Int32 := u2 ci_118 158 1 (nI 4294967295)
def ci_120 : Nat → Nat → Int32 := u2 ci_119 158 2 (nI 0)
def cr_159 : Nat → Nat → Option Nat := u2 cr_158 135 2 (some 158)
def cr_160 : Nat → Nat → Option Nat := u2 cr_159 160 0 (some 161)
def ci_121 : Nat → Nat → Int32 := u2 ci_120 160 1 (nI 4294967295)
def ci_122 : Nat → Nat → Int32 := u2 ci_121 160 2 (nI 0)
def cr_161 : Nat → Nat → Option Nat := u2 cr_160 135 3 (some 160)
def cr_162 : Nat → Nat → Option Nat := u2 cr_161 162 0 (some 163)
def ci_123 : Nat → Nat → Int32 := u2 ci_122 162 1 (nI 4294967295)
def ci_124 : Nat → Nat → Int32 := u2 ci_123 162 2 (nI 0)
def cr_163 : Nat → Nat → Option Nat := u2 cr_162 135 4 (some 162)
def cr_164 : Nat → Nat → Option Nat := u2 cr_163 164 0 (some 165)
def ci_125 : Nat → Nat → Int32 := u2 ci_124 164 1 (nI 4294967295)
def ci_126 : Nat → Nat → Int32 := u2 ci_125 164 2 (nI 0)
def cr_165 : Nat → Nat → Option Nat := u2 cr_164 135 5 (some 164)
def ci_127 : Nat → Nat → Int32 := u2 ci_126 166 0 (nI 0)
def ci_128 : Nat → Nat → Int32 := u2 ci_127 166 1 (nI 0)
def cr_166 : Nat → Nat → Option Nat := u2 cr_165 166 2 (some 167)
def cr_167 : Nat → Nat → Option Nat := u2 cr_166 166 3 (some 168)
def cr_168 : Nat → Nat → Option Nat := u2 cr_167 166 4 (some 169)
def cr_169 : Nat → Nat → Option Nat := u2 cr_168 166 5 (some 170)
def ci_129 : Nat → Nat → Int32 := u2 ci_128 166 6 (nI 0)
def ci_130 : Nat → Nat → Int32 := u2 ci_129 166 7 (nI 0)
def ci_131 : Nat → Nat → Int32 := u2 ci_130 166 8 (nI 4294967295)
def ci_132 : Nat → Nat → Int32 := u2 ci_131 166 9 (nI 0)
def cr_170 : Nat → Nat → Option Nat := u2 cr_169 166 10 (some 171)
def cr_171 : Nat → Nat → Option Nat := u2 cr_170 166 11 (some 172)
def cr_172 : Nat → Nat → Option Nat := u2 cr_171 166 12 (some 173)
def cr_173 : Nat → Nat → Option Nat := u2 cr_172 166 13 (some 174)
def cr_174 : Nat → Nat → Option Nat := u2 cr_173 166 14 (some 175)
def ci_133 : Nat → Nat → Int32 := u2 ci_132 166 15 (nI 0)
def ci_134 : Nat → Nat → Int32 := u2 ci_133 166 16 (nI 4294967295)
def ci_135 : Nat → Nat → Int32 := u2 ci_134 166 17 (nI 0)
def ci_136 : Nat → Nat → Int32 := u2 ci_135 166 18 (nI 0)
def ci_137 : Nat → Nat → Int32 := u2 ci_136 166 19 (nI 0)
def cr_175 : Nat → Nat → Option Nat := u2 cr_174 166 20 (some 176)
def cr_176 : Nat → Nat → Option Nat := u2 cr_175 166 21 (some 177)
def cr_177 : Nat → Nat → Option Nat := u2 cr_176 166 22 (some 178)
def cr_178 : Nat → Nat → Option Nat := u2 cr_177 166 23 (some 179)
def cr_179 : Nat → Nat → Option Nat := u2 cr_178 166 24 (some 180)
def cr_180 : Nat → Nat → Option Nat := u2 cr_179 166 25 (some 181)
def cr_181 : Nat → Nat → Option Nat := u2 cr_180 166 26 (some 182)
def cr_182 : Nat → Nat → Option Nat := u2 cr_181 166 27 (some 183)
def ci_138 : Nat → Nat → Int32 := u2 ci_137 166 28 (nI 0)
def ci_139 : Nat → Nat → Int32 := u2 ci_138 166 29 (nI 0)
def ci_140 : Nat → Nat → Int32 := u2 ci_139 166 30 (nI 0)
def ci_141 : Nat → Nat → Int32 := u2 ci_140 184 0 (nI 107)
def ci_142 : Nat → Nat → Int32 := u2 ci_141 184 1 (nI 110)
def ci_143 : Nat → Nat → Int32 := u2 ci_142 184 2 (nI 111)
def ci_144 : Nat → Nat → Int32 := u2 ci_143 184 3 (nI 119)
def ci_145 : Nat → Nat → Int32 := u2 ci_144 184 4 (nI 108)
def ci_146 : Nat → Nat → Int32 := u2 ci_145 184 5 (nI 101)
def ci_147 : Nat → Nat → Int32 := u2 ci_146 184 6 (nI 97)
def ci_148 : Nat → Nat → Int32 := u2 ci_147 184 7 (nI 115)
def ci_149 : Nat → Nat → Int32 := u2 ci_148 184 8 (nI 116)
def ci_150 : Nat → Nat → Int32 := u2 ci_149 184 9 (nI 108)
def ci_151 : Nat → Nat → Int32 := u2 ci_150 184 10 (nI 105)
def ci_152 : Nat → Nat → Int32 := u2 ci_151 184 11 (nI 118)
def ci_153 : Nat → Nat → Int32 := u2 ci_152 184 12 (nI 101)
def ci_154 : Nat → Nat → Int32 := u2 ci_153 184 13 (nI 115)
def cr_183 : Nat → Nat → Option Nat := u2 cr_182 166 31 (some 184)
def cr_184 : Nat → Nat → Option Nat := u2 cr_183 166 32 (some 185)
def ci_155 : Nat → Nat → Int32 := u2 ci_154 166 33 (nI 4294967295)
def ci_156 : Nat → Nat → Int32 := u2 ci_155 166 34 (nI 0)
def cr_185 : Nat → Nat → Option Nat := u2 cr_184 166 35 (some 186)
def ci_157 : Nat → Nat → Int32 := u2 ci_156 166 36 (nI 4294967295)
def ci_158 : Nat → Nat → Int32 := u2 ci_157 166 37 (nI 0)
def ci_159 : Nat → Nat → Int32 := u2 ci_158 166 38 (nI 4294967295)
def ci_160 : Nat → Nat → Int32 := u2 ci_159 166 39 (nI 0)
def cr_186 : Nat → Nat → Option Nat := u2 cr_185 166 40 (some 187)
def cr_187 : Nat → Nat → Option Nat := u2 cr_186 166 41 (some 188)
def ci_161 : Nat → Nat → Int32 := u2 ci_160 166 42 (nI 0)
def ci_162 : Nat → Nat → Int32 := u2 ci_161 166 43 (nI 0)
def ci_163 : Nat → Nat → Int32 := u2 ci_162 166 44 (nI 0)
def cr_188 : Nat → Nat → Option Nat := u2 cr_187 166 45 (some 189)
def cr_189 : Nat → Nat → Option Nat := u2 cr_188 166 46 (some 190)
def cr_190 : Nat → Nat → Option Nat := u2 cr_189 166 47 (some 191)
def ci_164 : Nat → Nat → Int32 := u2 ci_163 166 48 (nI 0)
def cr_191 : Nat → Nat → Option Nat := u2 cr_190 166 49 (some 192)
def ci_165 : Nat → Nat → Int32 := u2 ci_164 166 50 (nI 0)
def ci_166 : Nat → Nat → Int32 := u2 ci_165 166 51 (nI 4294967295)
def ci_167 : Nat → Nat → Int32 := u2 ci_166 166 52 (nI 0)
def ci_168 : Nat → Nat → Int32 := u2 ci_167 166 53 (nI 0)
def ci_169 : Nat → Nat → Int32 := u2 ci_168 166 54 (nI 0)
def ci_170 : Nat → Nat → Int32 := u2 ci_169 166 55 (nI 4294967295)
def ci_171 : Nat → Nat → Int32 := u2 ci_170 166 56 (nI 0)
def ci_172 : Nat → Nat → Int32 := u2 ci_171 166 57 (nI 0)
def ci_173 : Nat → Nat → Int32 := u2 ci_172 166 58 (nI 0)
def cr_192 : Nat → Nat → Option Nat := u2 cr_191 166 59 (some 193)
def cr_193 : Nat → Nat → Option Nat := u2 cr_192 166 60 (some 194)
def cr_194 : Nat → Nat → Option Nat := u2 cr_193 166 61 (some 195)
def cr_195 : Nat → Nat → Option Nat := u2 cr_194 166 62 (some 196)
def cr_196 : Nat → Nat → Option Nat := u2 cr_195 166 63 (some 197)
def cr_197 : Nat → Nat → Option Nat := u2 cr_196 166 64 (some 198)
def cr_198 : Nat → Nat → Option Nat := u2 cr_197 166 65 (some 199)
def cr_199 : Nat → Nat → Option Nat := u2 cr_198 166 66 (some 200)
def cr_200 : Nat → Nat → Option Nat := u2 cr_199 166 67 (some 201)
def cr_201 : Nat → Nat → Option Nat := u2 cr_200 166 68 (some 202)
def cr_202 : Nat → Nat → Option Nat := u2 cr_201 166 69 (some 203)
def cr_203 : Nat → Nat → Option Nat := u2 cr_202 166 70 (some 204)
def ci_174 : Nat → Nat → Int32 := u2 ci_173 166 71 (nI 0)
def cr_204 : Nat → Nat → Option Nat := u2 cr_203 166 72 (some 205)
def ci_175 : Nat → Nat → Int32 := u2 ci_174 206 0 (nI 4294967295)
def ci_176 : Nat → Nat → Int32 := u2 ci_175 206 1 (nI 4294967295)
def ci_177 : Nat → Nat → Int32 := u2 ci_176 206 2 (nI 4294967295)
def ci_178 : Nat → Nat → Int32 := u2 ci_177 206 3 (nI 4294967295)
def ci_179 : Nat → Nat → Int32 := u2 ci_178 206 4 (nI 4294967295)
def ci_180 : Nat → Nat → Int32 := u2 ci_179 206 5 (nI 4294967295)
def cr_205 : Nat → Nat → Option Nat := u2 cr_204 166 73 (some 206)
def cr_206 : Nat → Nat → Option Nat := u2 cr_205 166 74 (some 207)
def cr_207 : Nat → Nat → Option Nat := u2 cr_206 166 75 (some 208)
def cr_208 : Nat → Nat → Option Nat := u2 cr_207 166 76 (some 209)
section CV
variable {L : Nat} {xs : Nat → Int32}
theorem CV_1 (d : Nat) {Q : Po} (hq : Q none (3, ci_1, lz0, cr_1)) : Ev L xs (d + 2) 41 0 [(0, .ref 1), (1, .int (nI 6))] [] (2, ci_0, lz0, cr_0) Q := by
  refine Ev.run 8 (pc' := 12) (lv' := [(0, .ref 1), (1, .int (nI 6))]) (st' := [.int (nI 0), .int (nI 6), .ref 1]) (h' := (2, ci_1, lz0, cr_0)) rfl ?_
  refine Ev_max rfl rfl rfl (show (if nI 6 < nI 0 then nI 0 else nI 6) = nI 6 by decide) ?_
  refine Ev.run 2 (pc' := 20) (lv' := [(0, .ref 1), (1, .int (nI 6))]) (st' := []) (h' := (3, ci_1, lz0, cr_1)) rfl ?_
  exact Ev.ret (v := none) rfl hq
theorem CV_2 (d : Nat) {Q : Po} (hq : Q none (5, ci_2, lz0, cr_3)) : Ev L xs (d + 2) 41 0 [(0, .ref 3), (1, .int (nI 100))] [] (4, ci_1, lz0, cr_2) Q := by
  refine Ev.run 8 (pc' := 12) (lv' := [(0, .ref 3), (1, .int (nI 100))]) (st' := [.int (nI 0), .int (nI 100), .ref 3]) (h' := (4, ci_2, lz0, cr_2)) rfl ?_
  refine Ev_max rfl rfl rfl (show (if nI 100 < nI 0 then nI 0 else nI 100) = nI 100 by decide) ?_
  refine Ev.run 2 (pc' := 20) (lv' := [(0, .ref 3), (1, .int (nI 100))]) (st' := []) (h' := (5, ci_2, lz0, cr_3)) rfl ?_
  exact Ev.ret (v := none) rfl hq
theorem CV_3 (d : Nat) {Q : Po} (hq : Q none (8, ci_3, lz0, cr_5)) : Ev L xs (d + 2) 41 0 [(0, .ref 6), (1, .int (nI 0))] [] (7, ci_2, lz0, cr_4) Q := by
  refine Ev.run 8 (pc' := 12) (lv' := [(0, .ref 6), (1, .int (nI 0))]) (st' := [.int (nI 0), .int (nI 0), .ref 6]) (h' := (7, ci_3, lz0, cr_4)) rfl ?_
  refine Ev_max rfl rfl rfl (show (if nI 0 < nI 0 then nI 0 else nI 0) = nI 0 by decide) ?_
  refine Ev.run 2 (pc' := 20) (lv' := [(0, .ref 6), (1, .int (nI 0))]) (st' := []) (h' := (8, ci_3, lz0, cr_5)) rfl ?_
  exact Ev.ret (v := none) rfl hq
theorem CV_4 (d : Nat) {Q : Po} (hq : Q none (11, ci_6, lz0, cr_8)) : Ev L xs (d + 2) 63 0 [(0, .ref 8)] [] (9, ci_3, lz0, cr_6) Q := by
  refine Ev.run 8 (pc' := 15) (lv' := [(0, .ref 8)]) (st' := [.int (nI 20), .ref 8]) (h' := (10, ci_3, lz0, cr_7)) rfl ?_
  refine Ev.run 8 (pc' := 30) (lv' := [(0, .ref 8)]) (st' := []) (h' := (11, ci_5, lz0, cr_8)) rfl ?_
  refine Ev.run 3 (pc' := 35) (lv' := [(0, .ref 8)]) (st' := []) (h' := (11, ci_6, lz0, cr_8)) rfl ?_
  exact Ev.ret (v := none) rfl hq
theorem CV_5 (d : Nat) {Q : Po} (hq : Q none (11, ci_8, lz0, cr_9)) : Ev L xs (d + 3) 50 0 [(0, .ref 5)] [] (6, ci_2, lz0, cr_4) Q := by
  refine Ev.run 6 (pc' := 10) (lv' := [(0, .ref 5)]) (st' := [.int (nI 0), .ref 6, .ref 6, .ref 5]) (h' := (7, ci_2, lz0, cr_4)) rfl ?_
  refine Ev.call (a := 41) (as := [.ref 6, .int (nI 0)]) (rest := [.ref 6, .ref 5]) (lv0 := [(0, .ref 6), (1, .int (nI 0))]) (Q1 := (fun r h' => r = none ∧ h' = (8, ci_3, lz0, cr_5))) rfl rfl (CV_3 (d + 0) ⟨rfl, rfl⟩) (fun r h' hr => ?_)
  obtain ⟨rfl, rfl⟩ := hr
  refine Ev.run 4 (pc' := 21) (lv' := [(0, .ref 5)]) (st' := [.ref 8, .ref 8, .ref 5]) (h' := (9, ci_3, lz0, cr_6)) rfl ?_
  refine Ev.call (a := 63) (as := [.ref 8]) (rest := [.ref 8, .ref 5]) (lv0 := [(0, .ref 8)]) (Q1 := (fun r h' => r = none ∧ h' = (11, ci_6, lz0, cr_8))) rfl rfl (CV_4 (d + 0) ⟨rfl, rfl⟩) (fun r h' hr => ?_)
  obtain ⟨rfl, rfl⟩ := hr
  refine Ev.run 7 (pc' := 37) (lv' := [(0, .ref 5)]) (st' := []) (h' := (11, ci_8, lz0, cr_9)) rfl ?_
  exact Ev.ret (v := none) rfl hq
theorem CV_6 (d : Nat) {Q : Po} (hq : Q none (21, ci_11, lz0, cr_17)) : Ev L xs (d + 2) 41 0 [(0, .ref 19), (1, .int (nI 6))] [] (20, ci_10, lz0, cr_16) Q := by
  refine Ev.run 8 (pc' := 12) (lv' := [(0, .ref 19), (1, .int (nI 6))]) (st' := [.int (nI 0), .int (nI 6), .ref 19]) (h' := (20, ci_11, lz0, cr_16)) rfl ?_
  refine Ev_max rfl rfl rfl (show (if nI 6 < nI 0 then nI 0 else nI 6) = nI 6 by decide) ?_
  refine Ev.run 2 (pc' := 20) (lv' := [(0, .ref 19), (1, .int (nI 6))]) (st' := []) (h' := (21, ci_11, lz0, cr_17)) rfl ?_
  exact Ev.ret (v := none) rfl hq
theorem CV_7 (d : Nat) {Q : Po} (hq : Q none (23, ci_12, lz0, cr_19)) : Ev L xs (d + 2) 41 0 [(0, .ref 21), (1, .int (nI 6))] [] (22, ci_11, lz0, cr_18) Q := by
  refine Ev.run 8 (pc' := 12) (lv' := [(0, .ref 21), (1, .int (nI 6))]) (st' := [.int (nI 0), .int (nI 6), .ref 21]) (h' := (22, ci_12, lz0, cr_18)) rfl ?_
  refine Ev_max rfl rfl rfl (show (if nI 6 < nI 0 then nI 0 else nI 6) = nI 6 by decide) ?_
  refine Ev.run 2 (pc' := 20) (lv' := [(0, .ref 21), (1, .int (nI 6))]) (st' := []) (h' := (23, ci_12, lz0, cr_19)) rfl ?_
  exact Ev.ret (v := none) rfl hq
theorem CV_8 (d : Nat) {Q : Po} (hq : Q none (25, ci_13, lz0, cr_21)) : Ev L xs (d + 2) 41 0 [(0, .ref 23), (1, .int (nI 6))] [] (24, ci_12, lz0, cr_20) Q := by
  refine Ev.run 8 (pc' := 12) (lv' := [(0, .ref 23), (1, .int (nI 6))]) (st' := [.int (nI 0), .int (nI 6), .ref 23]) (h' := (24, ci_13, lz0, cr_20)) rfl ?_
  refine Ev_max rfl rfl rfl (show (if nI 6 < nI 0 then nI 0 else nI 6) = nI 6 by decide) ?_
  refine Ev.run 2 (pc' := 20) (lv' := [(0, .ref 23), (1, .int (nI 6))]) (st' := []) (h' := (25, ci_13, lz0, cr_21)) rfl ?_
  exact Ev.ret (v := none) rfl hq
theorem CV_9 (d : Nat) {Q : Po} (hq : Q none (27, ci_14, lz0, cr_23)) : Ev L xs (d + 2) 41 0 [(0, .ref 25), (1, .int (nI 6))] [] (26, ci_13, lz0, cr_22) Q := by
  refine Ev.run 8 (pc' := 12) (lv' := [(0, .ref 25), (1, .int (nI 6))]) (st' := [.int (nI 0), .int (nI 6), .ref 25]) (h' := (26, ci_14, lz0, cr_22)) rfl ?_
  refine Ev_max rfl rfl rfl (show (if nI 6 < nI 0 then nI 0 else nI 6) = nI 6 by decide) ?_
  refine Ev.run 2 (pc' := 20) (lv' := [(0, .ref 25), (1, .int (nI 6))]) (st' := []) (h' := (27, ci_14, lz0, cr_23)) rfl ?_
  exact Ev.ret (v := none) rfl hq
theorem CV_10 (d : Nat) {Q : Po} (hq : Q none (29, ci_15, lz0, cr_25)) : Ev L xs (d + 2) 41 0 [(0, .ref 27), (1, .int (nI 6))] [] (28, ci_14, lz0, cr_24) Q := by
  refine Ev.run 8 (pc' := 12) (lv' := [(0, .ref 27), (1, .int (nI 6))]) (st' := [.int (nI 0), .int (nI 6), .ref 27]) (h' := (28, ci_15, lz0, cr_24)) rfl ?_
  refine Ev_max rfl rfl rfl (show (if nI 6 < nI 0 then nI 0 else nI 6) = nI 6 by decide) ?_
  refine Ev.run 2 (pc' := 20) (lv' := [(0, .ref 27), (1, .int (nI 6))]) (st' := []) (h' := (29, ci_15, lz0, cr_25)) rfl ?_
  exact Ev.ret (v := none) rfl hq
theorem CV_11 (d : Nat) {Q : Po} (hq : Q none (31, ci_16, lz0, cr_27)) : Ev L xs (d + 2) 41 0 [(0, .ref 29), (1, .int (nI 6))] [] (30, ci_15, lz0, cr_26) Q := by
  refine Ev.run 8 (pc' := 12) (lv' := [(0, .ref 29), (1, .int (nI 6))]) (st' := [.int (nI 0), .int (nI 6), .ref 29]) (h' := (30, ci_16, lz0, cr_26)) rfl ?_
  refine Ev_max rfl rfl rfl (show (if nI 6 < nI 0 then nI 0 else nI 6) = nI 6 by decide) ?_
  refine Ev.run 2 (pc' := 20) (lv' := [(0, .ref 29), (1, .int (nI 6))]) (st' := []) (h' := (31, ci_16, lz0, cr_27)) rfl ?_
  exact Ev.ret (v := none) rfl hq
theorem CV_12 (d : Nat) {Q : Po} (hq : Q none (33, ci_17, lz0, cr_29)) : Ev L xs (d + 2) 41 0 [(0, .ref 31), (1, .int (nI 6))] [] (32, ci_16, lz0, cr_28) Q := by
  refine Ev.run 8 (pc' := 12) (lv' := [(0, .ref 31), (1, .int (nI 6))]) (st' := [.int (nI 0), .int (nI 6), .ref 31]) (h' := (32, ci_17, lz0, cr_28)) rfl ?_
  refine Ev_max rfl rfl rfl (show (if nI 6 < nI 0 then nI 0 else nI 6) = nI 6 by decide) ?_
  refine Ev.run 2 (pc' := 20) (lv' := [(0, .ref 31), (1, .int (nI 6))]) (st' := []) (h' := (33, ci_17, lz0, cr_29)) rfl ?_
  exact Ev.ret (v := none) rfl hq
theorem CV_13 (d : Nat) {Q : Po} (hq : Q none (35, ci_18, lz0, cr_31)) : Ev L xs (d + 2) 41 0 [(0, .ref 33), (1, .int (nI 6))] [] (34, ci_17, lz0, cr_30) Q := by
  refine Ev.run 8 (pc' := 12) (lv' := [(0, .ref 33), (1, .int (nI 6))]) (st' := [.int (nI 0), .int (nI 6), .ref 33]) (h' := (34, ci_18, lz0, cr_30)) rfl ?_
  refine Ev_max rfl rfl rfl (show (if nI 6 < nI 0 then nI 0 else nI 6) = nI 6 by decide) ?_
  refine Ev.run 2 (pc' := 20) (lv' := [(0, .ref 33), (1, .int (nI 6))]) (st' := []) (h' := (35, ci_18, lz0, cr_31)) rfl ?_
  exact Ev.ret (v := none) rfl hq
theorem CV_14 (d : Nat) {Q : Po} (hq : Q none (37, ci_19, lz0, cr_33)) : Ev L xs (d + 2) 41 0 [(0, .ref 35), (1, .int (nI 6))] [] (36, ci_18, lz0, cr_32) Q := by
  refine Ev.run 8 (pc' := 12) (lv' := [(0, .ref 35), (1, .int (nI 6))]) (st' := [.int (nI 0), .int (nI 6), .ref 35]) (h' := (36, ci_19, lz0, cr_32)) rfl ?_
  refine Ev_max rfl rfl rfl (show (if nI 6 < nI 0 then nI 0 else nI 6) = nI 6 by decide) ?_
  refine Ev.run 2 (pc' := 20) (lv' := [(0, .ref 35), (1, .int (nI 6))]) (st' := []) (h' := (37, ci_19, lz0, cr_33)) rfl ?_
  exact Ev.ret (v := none) rfl hq
theorem CV_15 (d : Nat) {Q : Po} (hq : Q none (39, ci_20, lz0, cr_35)) : Ev L xs (d + 2) 41 0 [(0, .ref 37), (1, .int (nI 6))] [] (38, ci_19, lz0, cr_34) Q := by
  refine Ev.run 8 (pc' := 12) (lv' := [(0, .ref 37), (1, .int (nI 6))]) (st' := [.int (nI 0), .int (nI 6), .ref 37]) (h' := (38, ci_20, lz0, cr_34)) rfl ?_
  refine Ev_max rfl rfl rfl (show (if nI 6 < nI 0 then nI 0 else nI 6) = nI 6 by decide) ?_
  refine Ev.run 2 (pc' := 20) (lv' := [(0, .ref 37), (1, .int (nI 6))]) (st' := []) (h' := (39, ci_20, lz0, cr_35)) rfl ?_
  exact Ev.ret (v := none) rfl hq
theorem CV_16 (d : Nat) {Q : Po} (hq : Q none (41, ci_21, lz0, cr_37)) : Ev L xs (d + 2) 41 0 [(0, .ref 39), (1, .int (nI 6))] [] (40, ci_20, lz0, cr_36) Q := by
  refine Ev.run 8 (pc' := 12) (lv' := [(0, .ref 39), (1, .int (nI 6))]) (st' := [.int (nI 0), .int (nI 6), .ref 39]) (h' := (40, ci_21, lz0, cr_36)) rfl ?_
  refine Ev_max rfl rfl rfl (show (if nI 6 < nI 0 then nI 0 else nI 6) = nI 6 by decide) ?_
  refine Ev.run 2 (pc' := 20) (lv' := [(0, .ref 39), (1, .int (nI 6))]) (st' := []) (h' := (41, ci_21, lz0, cr_37)) rfl ?_
  exact Ev.ret (v := none) rfl hq
theorem CV_17 (d : Nat) {Q : Po} (hq : Q none (43, ci_22, lz0, cr_39)) : Ev L xs (d + 2) 41 0 [(0, .ref 41), (1, .int (nI 6))] [] (42, ci_21, lz0, cr_38) Q := by
  refine Ev.run 8 (pc' := 12) (lv' := [(0, .ref 41), (1, .int (nI 6))]) (st' := [.int (nI 0), .int (nI 6), .ref 41]) (h' := (42, ci_22, lz0, cr_38)) rfl ?_
  refine Ev_max rfl rfl rfl (show (if nI 6 < nI 0 then nI 0 else nI 6) = nI 6 by decide) ?_
  refine Ev.run 2 (pc' := 20) (lv' := [(0, .ref 41), (1, .int (nI 6))]) (st' := []) (h' := (43, ci_22, lz0, cr_39)) rfl ?_
  exact Ev.ret (v := none) rfl hq
theorem CV_18 (d : Nat) {Q : Po} (hq : Q none (43, ci_22, lz0, cr_40)) : Ev L xs (d + 3) 6 0 [(0, .ref 13)] [] (14, ci_9, lz0, cr_11) Q := by
  refine Ev.run 8 (pc' := 16) (lv' := [(0, .ref 13)]) (st' := [.int (nI 12), .ref 13]) (h' := (15, ci_9, lz0, cr_12)) rfl ?_
  refine Ev.run 8 (pc' := 32) (lv' := [(0, .ref 13)]) (st' := [.int (nI 7), .ref 13]) (h' := (17, ci_9, lz0, cr_14)) rfl ?_
  refine Ev.run 8 (pc' := 47) (lv' := [(0, .ref 13)]) (st' := [.int (nI 0), .ref 13]) (h' := (19, ci_9, lz0, cr_16)) rfl ?_
  refine Ev.run 6 (pc' := (if nI 12 ≤ nI 0 then 79 else 58)) (lv' := [(1, .int (nI 0)), (0, .ref 13)]) (st' := []) (h' := (19, ci_10, lz0, cr_16)) rfl ?_
  refine Ev.ite (fun z => absurd z (by decide)) (fun _ => ?_)
  refine Ev.run 6 (pc' := 69) (lv' := [(1, .int (nI 0)), (0, .ref 13)]) (st' := [.int (nI 6), .ref 19, .ref 19, .int (nI 0), .ref 14]) (h' := (20, ci_10, lz0, cr_16)) rfl ?_
  refine Ev.call (a := 41) (as := [.ref 19, .int (nI 6)]) (rest := [.ref 19, .int (nI 0), .ref 14]) (lv0 := [(0, .ref 19), (1, .int (nI 6))]) (Q1 := (fun r h' => r = none ∧ h' = (21, ci_11, lz0, cr_17))) rfl rfl (CV_6 (d + 0) ⟨rfl, rfl⟩) (fun r h' hr => ?_)
  obtain ⟨rfl, rfl⟩ := hr
  refine Ev.run 6 (pc' := (if nI 12 ≤ nI 1 then 79 else 58)) (lv' := [(1, .int (nI 1)), (0, .ref 13)]) (st' := []) (h' := (21, ci_11, lz0, cr_18)) rfl ?_
  refine Ev.ite (fun z => absurd z (by decide)) (fun _ => ?_)
  refine Ev.run 6 (pc' := 69) (lv' := [(1, .int (nI 1)), (0, .ref 13)]) (st' := [.int (nI 6), .ref 21, .ref 21, .int (nI 1), .ref 14]) (h' := (22, ci_11, lz0, cr_18)) rfl ?_
  refine Ev.call (a := 41) (as := [.ref 21, .int (nI 6)]) (rest := [.ref 21, .int (nI 1), .ref 14]) (lv0 := [(0, .ref 21), (1, .int (nI 6))]) (Q1 := (fun r h' => r = none ∧ h' = (23, ci_12, lz0, cr_19))) rfl rfl (CV_7 (d + 0) ⟨rfl, rfl⟩) (fun r h' hr => ?_)
  obtain ⟨rfl, rfl⟩ := hr
  refine Ev.run 6 (pc' := (if nI 12 ≤ nI 2 then 79 else 58)) (lv' := [(1, .int (nI 2)), (0, .ref 13)]) (st' := []) (h' := (23, ci_12, lz0, cr_20)) rfl ?_
  refine Ev.ite (fun z => absurd z (by decide)) (fun _ => ?_)
  refine Ev.run 6 (pc' := 69) (lv' := [(1, .int (nI 2)), (0, .ref 13)]) (st' := [.int (nI 6), .ref 23, .ref 23, .int (nI 2), .ref 14]) (h' := (24, ci_12, lz0, cr_20)) rfl ?_
  refine Ev.call (a := 41) (as := [.ref 23, .int (nI 6)]) (rest := [.ref 23, .int (nI 2), .ref 14]) (lv0 := [(0, .ref 23), (1, .int (nI 6))]) (Q1 := (fun r h' => r = none ∧ h' = (25, ci_13, lz0, cr_21))) rfl rfl (CV_8 (d + 0) ⟨rfl, rfl⟩) (fun r h' hr => ?_)
  obtain ⟨rfl, rfl⟩ := hr
  refine Ev.run 6 (pc' := (if nI 12 ≤ nI 3 then 79 else 58)) (lv' := [(1, .int (nI 3)), (0, .ref 13)]) (st' := []) (h' := (25, ci_13, lz0, cr_22)) rfl ?_
  refine Ev.ite (fun z => absurd z (by decide)) (fun _ => ?_)
  refine Ev.run 6 (pc' := 69) (lv' := [(1, .int (nI 3)), (0, .ref 13)]) (st' := [.int (nI 6), .ref 25, .ref 25, .int (nI 3), .ref 14]) (h' := (26, ci_13, lz0, cr_22)) rfl ?_
  refine Ev.call (a := 41) (as := [.ref 25, .int (nI 6)]) (rest := [.ref 25, .int (nI 3), .ref 14]) (lv0 := [(0, .ref 25), (1, .int (nI 6))]) (Q1 := (fun r h' => r = none ∧ h' = (27, ci_14, lz0, cr_23))) rfl rfl (CV_9 (d + 0) ⟨rfl, rfl⟩) (fun r h' hr => ?_)
  obtain ⟨rfl, rfl⟩ := hr
  refine Ev.run 6 (pc' := (if nI 12 ≤ nI 4 then 79 else 58)) (lv' := [(1, .int (nI 4)), (0, .ref 13)]) (st' := []) (h' := (27, ci_14, lz0, cr_24)) rfl ?_
  refine Ev.ite (fun z => absurd z (by decide)) (fun _ => ?_)
  refine Ev.run 6 (pc' := 69) (lv' := [(1, .int (nI 4)), (0, .ref 13)]) (st' := [.int (nI 6), .ref 27, .ref 27, .int (nI 4), .ref 14]) (h' := (28, ci_14, lz0, cr_24)) rfl ?_
  refine Ev.call (a := 41) (as := [.ref 27, .int (nI 6)]) (rest := [.ref 27, .int (nI 4), .ref 14]) (lv0 := [(0, .ref 27), (1, .int (nI 6))]) (Q1 := (fun r h' => r = none ∧ h' = (29, ci_15, lz0, cr_25))) rfl rfl (CV_10 (d + 0) ⟨rfl, rfl⟩) (fun r h' hr => ?_)
  obtain ⟨rfl, rfl⟩ := hr
  refine Ev.run 6 (pc' := (if nI 12 ≤ nI 5 then 79 else 58)) (lv' := [(1, .int (nI 5)), (0, .ref 13)]) (st' := []) (h' := (29, ci_15, lz0, cr_26)) rfl ?_
  refine Ev.ite (fun z => absurd z (by decide)) (fun _ => ?_)
  refine Ev.run 6 (pc' := 69) (lv' := [(1, .int (nI 5)), (0, .ref 13)]) (st' := [.int (nI 6), .ref 29, .ref 29, .int (nI 5), .ref 14]) (h' := (30, ci_15, lz0, cr_26)) rfl ?_
  refine Ev.call (a := 41) (as := [.ref 29, .int (nI 6)]) (rest := [.ref 29, .int (nI 5), .ref 14]) (lv0 := [(0, .ref 29), (1, .int (nI 6))]) (Q1 := (fun r h' => r = none ∧ h' = (31, ci_16, lz0, cr_27))) rfl rfl (CV_11 (d + 0) ⟨rfl, rfl⟩) (fun r h' hr => ?_)
  obtain ⟨rfl, rfl⟩ := hr
  refine Ev.run 6 (pc' := (if nI 12 ≤ nI 6 then 79 else 58)) (lv' := [(1, .int (nI 6)), (0, .ref 13)]) (st' := []) (h' := (31, ci_16, lz0, cr_28)) rfl ?_
  refine Ev.ite (fun z => absurd z (by decide)) (fun _ => ?_)
  refine Ev.run 6 (pc' := 69) (lv' := [(1, .int (nI 6)), (0, .ref 13)]) (st' := [.int (nI 6), .ref 31, .ref 31, .int (nI 6), .ref 14]) (h' := (32, ci_16, lz0, cr_28)) rfl ?_
  refine Ev.call (a := 41) (as := [.ref 31, .int (nI 6)]) (rest := [.ref 31, .int (nI 6), .ref 14]) (lv0 := [(0, .ref 31), (1, .int (nI 6))]) (Q1 := (fun r h' => r = none ∧ h' = (33, ci_17, lz0, cr_29))) rfl rfl (CV_12 (d + 0) ⟨rfl, rfl⟩) (fun r h' hr => ?_)
  obtain ⟨rfl, rfl⟩ := hr
  refine Ev.run 6 (pc' := (if nI 12 ≤ nI 7 then 79 else 58)) (lv' := [(1, .int (nI 7)), (0, .ref 13)]) (st' := []) (h' := (33, ci_17, lz0, cr_30)) rfl ?_
  refine Ev.ite (fun z => absurd z (by decide)) (fun _ => ?_)
  refine Ev.run 6 (pc' := 69) (lv' := [(1, .int (nI 7)), (0, .ref 13)]) (st' := [.int (nI 6), .ref 33, .ref 33, .int (nI 7), .ref 14]) (h' := (34, ci_17, lz0, cr_30)) rfl ?_
  refine Ev.call (a := 41) (as := [.ref 33, .int (nI 6)]) (rest := [.ref 33, .int (nI 7), .ref 14]) (lv0 := [(0, .ref 33), (1, .int (nI 6))]) (Q1 := (fun r h' => r = none ∧ h' = (35, ci_18, lz0, cr_31))) rfl rfl (CV_13 (d + 0) ⟨rfl, rfl⟩) (fun r h' hr => ?_)
  obtain ⟨rfl, rfl⟩ := hr
  refine Ev.run 6 (pc' := (if nI 12 ≤ nI 8 then 79 else 58)) (lv' := [(1, .int (nI 8)), (0, .ref 13)]) (st' := []) (h' := (35, ci_18, lz0, cr_32)) rfl ?_
  refine Ev.ite (fun z => absurd z (by decide)) (fun _ => ?_)
  refine Ev.run 6 (pc' := 69) (lv' := [(1, .int (nI 8)), (0, .ref 13)]) (st' := [.int (nI 6), .ref 35, .ref 35, .int (nI 8), .ref 14]) (h' := (36, ci_18, lz0, cr_32)) rfl ?_
  refine Ev.call (a := 41) (as := [.ref 35, .int (nI 6)]) (rest := [.ref 35, .int (nI 8), .ref 14]) (lv0 := [(0, .ref 35), (1, .int (nI 6))]) (Q1 := (fun r h' => r = none ∧ h' = (37, ci_19, lz0, cr_33))) rfl rfl (CV_14 (d + 0) ⟨rfl, rfl⟩) (fun r h' hr => ?_)
  obtain ⟨rfl, rfl⟩ := hr
  refine Ev.run 6 (pc' := (if nI 12 ≤ nI 9 then 79 else 58)) (lv' := [(1, .int (nI 9)), (0, .ref 13)]) (st' := []) (h' := (37, ci_19, lz0, cr_34)) rfl ?_
  refine Ev.ite (fun z => absurd z (by decide)) (fun _ => ?_)
  refine Ev.run 6 (pc' := 69) (lv' := [(1, .int (nI 9)), (0, .ref 13)]) (st' := [.int (nI 6), .ref 37, .ref 37, .int (nI 9), .ref 14]) (h' := (38, ci_19, lz0, cr_34)) rfl ?_
  refine Ev.call (a := 41) (as := [.ref 37, .int (nI 6)]) (rest := [.ref 37, .int (nI 9), .ref 14]) (lv0 := [(0, .ref 37), (1, .int (nI 6))]) (Q1 := (fun r h' => r = none ∧ h' = (39, ci_20, lz0, cr_35))) rfl rfl (CV_15 (d + 0) ⟨rfl, rfl⟩) (fun r h' hr => ?_)
  obtain ⟨rfl, rfl⟩ := hr
  refine Ev.run 6 (pc' := (if nI 12 ≤ nI 10 then 79 else 58)) (lv' := [(1, .int (nI 10)), (0, .ref 13)]) (st' := []) (h' := (39, ci_20, lz0, cr_36)) rfl ?_
  refine Ev.ite (fun z => absurd z (by decide)) (fun _ => ?_)
  refine Ev.run 6 (pc' := 69) (lv' := [(1, .int (nI 10)), (0, .ref 13)]) (st' := [.int (nI 6), .ref 39, .ref 39, .int (nI 10), .ref 14]) (h' := (40, ci_20, lz0, cr_36)) rfl ?_
  refine Ev.call (a := 41) (as := [.ref 39, .int (nI 6)]) (rest := [.ref 39, .int (nI 10), .ref 14]) (lv0 := [(0, .ref 39), (1, .int (nI 6))]) (Q1 := (fun r h' => r = none ∧ h' = (41, ci_21, lz0, cr_37))) rfl rfl (CV_16 (d + 0) ⟨rfl, rfl⟩) (fun r h' hr => ?_)
  obtain ⟨rfl, rfl⟩ := hr
  refine Ev.run 6 (pc' := (if nI 12 ≤ nI 11 then 79 else 58)) (lv' := [(1, .int (nI 11)), (0, .ref 13)]) (st' := []) (h' := (41, ci_21, lz0, cr_38)) rfl ?_
  refine Ev.ite (fun z => absurd z (by decide)) (fun _ => ?_)
  refine Ev.run 6 (pc' := 69) (lv' := [(1, .int (nI 11)), (0, .ref 13)]) (st' := [.int (nI 6), .ref 41, .ref 41, .int (nI 11), .ref 14]) (h' := (42, ci_21, lz0, cr_38)) rfl ?_
  refine Ev.call (a := 41) (as := [.ref 41, .int (nI 6)]) (rest := [.ref 41, .int (nI 11), .ref 14]) (lv0 := [(0, .ref 41), (1, .int (nI 6))]) (Q1 := (fun r h' => r = none ∧ h' = (43, ci_22, lz0, cr_39))) rfl rfl (CV_17 (d + 0) ⟨rfl, rfl⟩) (fun r h' hr => ?_)
  obtain ⟨rfl, rfl⟩ := hr
  refine Ev.run 6 (pc' := (if nI 12 ≤ nI 12 then 79 else 58)) (lv' := [(1, .int (nI 12)), (0, .ref 13)]) (st' := []) (h' := (43, ci_22, lz0, cr_40)) rfl ?_
  refine Ev.ite (fun _ => ?_) (fun z => absurd (by decide) z)
  exact Ev.ret (v := none) rfl hq
theorem CV_19 (d : Nat) {Q : Po} (hq : Q none (47, ci_24, lz0, cr_43)) : Ev L xs (d + 2) 41 0 [(0, .ref 45), (1, .int (nI 12))] [] (46, ci_23, lz0, cr_42) Q := by
  refine Ev.run 8 (pc' := 12) (lv' := [(0, .ref 45), (1, .int (nI 12))]) (st' := [.int (nI 0), .int (nI 12), .ref 45]) (h' := (46, ci_24, lz0, cr_42)) rfl ?_
  refine Ev_max rfl rfl rfl (show (if nI 12 < nI 0 then nI 0 else nI 12) = nI 12 by decide) ?_
  refine Ev.run 2 (pc' := 20) (lv' := [(0, .ref 45), (1, .int (nI 12))]) (st' := []) (h' := (47, ci_24, lz0, cr_43)) rfl ?_
  exact Ev.ret (v := none) rfl hq
theorem CV_20 (d : Nat) {Q : Po} (hq : Q none (48, ci_27, lz0, cr_45)) : Ev L xs (d + 3) 60 0 [(0, .ref 44)] [] (45, ci_23, lz0, cr_42) Q := by
  refine Ev.run 6 (pc' := 11) (lv' := [(0, .ref 44)]) (st' := [.int (nI 12), .ref 45, .ref 45, .ref 44]) (h' := (46, ci_23, lz0, cr_42)) rfl ?_
  refine Ev.call (a := 41) (as := [.ref 45, .int (nI 12)]) (rest := [.ref 45, .ref 44]) (lv0 := [(0, .ref 45), (1, .int (nI 12))]) (Q1 := (fun r h' => r = none ∧ h' = (47, ci_24, lz0, cr_43))) rfl rfl (CV_19 (d + 0) ⟨rfl, rfl⟩) (fun r h' hr => ?_)
  obtain ⟨rfl, rfl⟩ := hr
  refine Ev.run 8 (pc' := 29) (lv' := [(0, .ref 44)]) (st' := []) (h' := (48, ci_25, lz0, cr_45)) rfl ?_
  refine Ev.run 6 (pc' := 39) (lv' := [(0, .ref 44)]) (st' := []) (h' := (48, ci_27, lz0, cr_45)) rfl ?_
  exact Ev.ret (v := none) rfl hq
theorem CV_21 (d : Nat) {Q : Po} (hq : Q none (50, ci_28, lz0, cr_47)) : Ev L xs (d + 2) 41 0 [(0, .ref 48), (1, .int (nI 6))] [] (49, ci_27, lz0, cr_46) Q := by
  refine Ev.run 8 (pc' := 12) (lv' := [(0, .ref 48), (1, .int (nI 6))]) (st' := [.int (nI 0), .int (nI 6), .ref 48]) (h' := (49, ci_28, lz0, cr_46)) rfl ?_
  refine Ev_max rfl rfl rfl (show (if nI 6 < nI 0 then nI 0 else nI 6) = nI 6 by decide) ?_
  refine Ev.run 2 (pc' := 20) (lv' := [(0, .ref 48), (1, .int (nI 6))]) (st' := []) (h' := (50, ci_28, lz0, cr_47)) rfl ?_
  exact Ev.ret (v := none) rfl hq
theorem CV_22 (d : Nat) {Q : Po} (hq : Q none (52, ci_29, lz0, cr_49)) : Ev L xs (d + 2) 41 0 [(0, .ref 50), (1, .int (nI 6))] [] (51, ci_28, lz0, cr_48) Q := by
  refine Ev.run 8 (pc' := 12) (lv' := [(0, .ref 50), (1, .int (nI 6))]) (st' := [.int (nI 0), .int (nI 6), .ref 50]) (h' := (51, ci_29, lz0, cr_48)) rfl ?_
  refine Ev_max rfl rfl rfl (show (if nI 6 < nI 0 then nI 0 else nI 6) = nI 6 by decide) ?_
  refine Ev.run 2 (pc' := 20) (lv' := [(0, .ref 50), (1, .int (nI 6))]) (st' := []) (h' := (52, ci_29, lz0, cr_49)) rfl ?_
  exact Ev.ret (v := none) rfl hq
theorem CV_23 (d : Nat) {Q : Po} (hq : Q none (54, ci_30, lz0, cr_51)) : Ev L xs (d + 2) 41 0 [(0, .ref 52), (1, .int (nI 6))] [] (53, ci_29, lz0, cr_50) Q := by
  refine Ev.run 8 (pc' := 12) (lv' := [(0, .ref 52), (1, .int (nI 6))]) (st' := [.int (nI 0), .int (nI 6), .ref 52]) (h' := (53, ci_30, lz0, cr_50)) rfl ?_
  refine Ev_max rfl rfl rfl (show (if nI 6 < nI 0 then nI 0 else nI 6) = nI 6 by decide) ?_
  refine Ev.run 2 (pc' := 20) (lv' := [(0, .ref 52), (1, .int (nI 6))]) (st' := []) (h' := (54, ci_30, lz0, cr_51)) rfl ?_
  exact Ev.ret (v := none) rfl hq
theorem CV_24 (d : Nat) {Q : Po} (hq : Q none (56, ci_31, lz0, cr_53)) : Ev L xs (d + 2) 41 0 [(0, .ref 54), (1, .int (nI 8))] [] (55, ci_30, lz0, cr_52) Q := by
  refine Ev.run 8 (pc' := 12) (lv' := [(0, .ref 54), (1, .int (nI 8))]) (st' := [.int (nI 0), .int (nI 8), .ref 54]) (h' := (55, ci_31, lz0, cr_52)) rfl ?_
  refine Ev_max rfl rfl rfl (show (if nI 8 < nI 0 then nI 0 else nI 8) = nI 8 by decide) ?_
  refine Ev.run 2 (pc' := 20) (lv' := [(0, .ref 54), (1, .int (nI 8))]) (st' := []) (h' := (56, ci_31, lz0, cr_53)) rfl ?_
  exact Ev.ret (v := none) rfl hq
theorem CV_25 (d : Nat) {Q : Po} (hq : Q none (59, ci_34, lz0, cr_56)) : Ev L xs (d + 2) 63 0 [(0, .ref 56)] [] (57, ci_31, lz0, cr_54) Q := by
  refine Ev.run 8 (pc' := 15) (lv' := [(0, .ref 56)]) (st' := [.int (nI 20), .ref 56]) (h' := (58, ci_31, lz0, cr_55)) rfl ?_
  refine Ev.run 8 (pc' := 30) (lv' := [(0, .ref 56)]) (st' := []) (h' := (59, ci_33, lz0, cr_56)) rfl ?_
  refine Ev.run 3 (pc' := 35) (lv' := [(0, .ref 56)]) (st' := []) (h' := (59, ci_34, lz0, cr_56)) rfl ?_
  exact Ev.ret (v := none) rfl hq
theorem CV_26 (d : Nat) {Q : Po} (hq : Q none (62, ci_37, lz0, cr_59)) : Ev L xs (d + 2) 47 0 [(0, .ref 60)] [] (61, ci_34, lz0, cr_58) Q := by
  refine Ev.run 8 (pc' := 13) (lv' := [(0, .ref 60)]) (st' := [.int (nI 0), .ref 60]) (h' := (62, ci_34, lz0, cr_59)) rfl ?_
  refine Ev.run 7 (pc' := 26) (lv' := [(0, .ref 60)]) (st' := []) (h' := (62, ci_37, lz0, cr_59)) rfl ?_
  exact Ev.ret (v := none) rfl hq
theorem CV_27 (d : Nat) {Q : Po} (hq : Q none (64, ci_40, lz0, cr_61)) : Ev L xs (d + 2) 47 0 [(0, .ref 62)] [] (63, ci_37, lz0, cr_60) Q := by
  refine Ev.run 8 (pc' := 13) (lv' := [(0, .ref 62)]) (st' := [.int (nI 0), .ref 62]) (h' := (64, ci_37, lz0, cr_61)) rfl ?_
  refine Ev.run 7 (pc' := 26) (lv' := [(0, .ref 62)]) (st' := []) (h' := (64, ci_40, lz0, cr_61)) rfl ?_
  exact Ev.ret (v := none) rfl hq
theorem CV_28 (d : Nat) {Q : Po} (hq : Q none (66, ci_43, lz0, cr_63)) : Ev L xs (d + 2) 47 0 [(0, .ref 64)] [] (65, ci_40, lz0, cr_62) Q := by
  refine Ev.run 8 (pc' := 13) (lv' := [(0, .ref 64)]) (st' := [.int (nI 0), .ref 64]) (h' := (66, ci_40, lz0, cr_63)) rfl ?_
  refine Ev.run 7 (pc' := 26) (lv' := [(0, .ref 64)]) (st' := []) (h' := (66, ci_43, lz0, cr_63)) rfl ?_
  exact Ev.ret (v := none) rfl hq
theorem CV_29 (d : Nat) {Q : Po} (hq : Q none (68, ci_46, lz0, cr_65)) : Ev L xs (d + 2) 47 0 [(0, .ref 66)] [] (67, ci_43, lz0, cr_64) Q := by
  refine Ev.run 8 (pc' := 13) (lv' := [(0, .ref 66)]) (st' := [.int (nI 0), .ref 66]) (h' := (68, ci_43, lz0, cr_65)) rfl ?_
  refine Ev.run 7 (pc' := 26) (lv' := [(0, .ref 66)]) (st' := []) (h' := (68, ci_46, lz0, cr_65)) rfl ?_
  exact Ev.ret (v := none) rfl hq
theorem CV_30 (d : Nat) {Q : Po} (hq : Q none (70, ci_49, lz0, cr_67)) : Ev L xs (d + 2) 47 0 [(0, .ref 68)] [] (69, ci_46, lz0, cr_66) Q := by
  refine Ev.run 8 (pc' := 13) (lv' := [(0, .ref 68)]) (st' := [.int (nI 0), .ref 68]) (h' := (70, ci_46, lz0, cr_67)) rfl ?_
  refine Ev.run 7 (pc' := 26) (lv' := [(0, .ref 68)]) (st' := []) (h' := (70, ci_49, lz0, cr_67)) rfl ?_
  exact Ev.ret (v := none) rfl hq
theorem CV_31 (d : Nat) {Q : Po} (hq : Q none (70, ci_49, lz0, cr_68)) : Ev L xs (d + 4) 21 0 [(0, .ref 12)] [] (13, ci_9, lz0, cr_11) Q := by
  refine Ev.run 5 (pc' := 9) (lv' := [(0, .ref 12)]) (st' := [.ref 13, .ref 13, .ref 12]) (h' := (14, ci_9, lz0, cr_11)) rfl ?_
  refine Ev.call (a := 6) (as := [.ref 13]) (rest := [.ref 13, .ref 12]) (lv0 := [(0, .ref 13)]) (Q1 := (fun r h' => r = none ∧ h' = (43, ci_22, lz0, cr_40))) rfl rfl (CV_18 (d + 0) ⟨rfl, rfl⟩) (fun r h' hr => ?_)
  obtain ⟨rfl, rfl⟩ := hr
  refine Ev.run 8 (pc' := 28) (lv' := [(0, .ref 12)]) (st' := []) (h' := (44, ci_23, lz0, cr_42)) rfl ?_
  refine Ev.run 3 (pc' := 33) (lv' := [(0, .ref 12)]) (st' := [.ref 44, .ref 44, .ref 12]) (h' := (45, ci_23, lz0, cr_42)) rfl ?_
  refine Ev.call (a := 60) (as := [.ref 44]) (rest := [.ref 44, .ref 12]) (lv0 := [(0, .ref 44)]) (Q1 := (fun r h' => r = none ∧ h' = (48, ci_27, lz0, cr_45))) rfl rfl (CV_20 (d + 0) ⟨rfl, rfl⟩) (fun r h' hr => ?_)
  obtain ⟨rfl, rfl⟩ := hr
  refine Ev.run 5 (pc' := 46) (lv' := [(0, .ref 12)]) (st' := [.int (nI 6), .ref 48, .ref 48, .ref 12]) (h' := (49, ci_27, lz0, cr_46)) rfl ?_
  refine Ev.call (a := 41) (as := [.ref 48, .int (nI 6)]) (rest := [.ref 48, .ref 12]) (lv0 := [(0, .ref 48), (1, .int (nI 6))]) (Q1 := (fun r h' => r = none ∧ h' = (50, ci_28, lz0, cr_47))) rfl rfl (CV_21 (d + 1) ⟨rfl, rfl⟩) (fun r h' hr => ?_)
  obtain ⟨rfl, rfl⟩ := hr
  refine Ev.run 5 (pc' := 59) (lv' := [(0, .ref 12)]) (st' := [.int (nI 6), .ref 50, .ref 50, .ref 12]) (h' := (51, ci_28, lz0, cr_48)) rfl ?_
  refine Ev.call (a := 41) (as := [.ref 50, .int (nI 6)]) (rest := [.ref 50, .ref 12]) (lv0 := [(0, .ref 50), (1, .int (nI 6))]) (Q1 := (fun r h' => r = none ∧ h' = (52, ci_29, lz0, cr_49))) rfl rfl (CV_22 (d + 1) ⟨rfl, rfl⟩) (fun r h' hr => ?_)
  obtain ⟨rfl, rfl⟩ := hr
  refine Ev.run 5 (pc' := 72) (lv' := [(0, .ref 12)]) (st' := [.int (nI 6), .ref 52, .ref 52, .ref 12]) (h' := (53, ci_29, lz0, cr_50)) rfl ?_
  refine Ev.call (a := 41) (as := [.ref 52, .int (nI 6)]) (rest := [.ref 52, .ref 12]) (lv0 := [(0, .ref 52), (1, .int (nI 6))]) (Q1 := (fun r h' => r = none ∧ h' = (54, ci_30, lz0, cr_51))) rfl rfl (CV_23 (d + 1) ⟨rfl, rfl⟩) (fun r h' hr => ?_)
  obtain ⟨rfl, rfl⟩ := hr
  refine Ev.run 5 (pc' := 85) (lv' := [(0, .ref 12)]) (st' := [.int (nI 8), .ref 54, .ref 54, .ref 12]) (h' := (55, ci_30, lz0, cr_52)) rfl ?_
  refine Ev.call (a := 41) (as := [.ref 54, .int (nI 8)]) (rest := [.ref 54, .ref 12]) (lv0 := [(0, .ref 54), (1, .int (nI 8))]) (Q1 := (fun r h' => r = none ∧ h' = (56, ci_31, lz0, cr_53))) rfl rfl (CV_24 (d + 1) ⟨rfl, rfl⟩) (fun r h' hr => ?_)
  obtain ⟨rfl, rfl⟩ := hr
  refine Ev.run 4 (pc' := 96) (lv' := [(0, .ref 12)]) (st' := [.ref 56, .ref 56, .ref 12]) (h' := (57, ci_31, lz0, cr_54)) rfl ?_
  refine Ev.call (a := 63) (as := [.ref 56]) (rest := [.ref 56, .ref 12]) (lv0 := [(0, .ref 56)]) (Q1 := (fun r h' => r = none ∧ h' = (59, ci_34, lz0, cr_56))) rfl rfl (CV_25 (d + 1) ⟨rfl, rfl⟩) (fun r h' hr => ?_)
  obtain ⟨rfl, rfl⟩ := hr
  refine Ev.run 8 (pc' := 112) (lv' := [(1, .int (nI 0)), (0, .ref 12)]) (st' := [.int (nI 0)]) (h' := (60, ci_34, lz0, cr_58)) rfl ?_
  refine Ev.run 2 (pc' := (if nI 5 ≤ nI 0 then 135 else 116)) (lv' := [(1, .int (nI 0)), (0, .ref 12)]) (st' := []) (h' := (60, ci_34, lz0, cr_58)) rfl ?_
  refine Ev.ite (fun z => absurd z (by decide)) (fun _ => ?_)
  refine Ev.run 5 (pc' := 125) (lv' := [(1, .int (nI 0)), (0, .ref 12)]) (st' := [.ref 60, .ref 60, .int (nI 0), .ref 43]) (h' := (61, ci_34, lz0, cr_58)) rfl ?_
  refine Ev.call (a := 47) (as := [.ref 60]) (rest := [.ref 60, .int (nI 0), .ref 43]) (lv0 := [(0, .ref 60)]) (Q1 := (fun r h' => r = none ∧ h' = (62, ci_37, lz0, cr_59))) rfl rfl (CV_26 (d + 1) ⟨rfl, rfl⟩) (fun r h' hr => ?_)
  obtain ⟨rfl, rfl⟩ := hr
  refine Ev.run 6 (pc' := (if nI 5 ≤ nI 1 then 135 else 116)) (lv' := [(1, .int (nI 1)), (0, .ref 12)]) (st' := []) (h' := (62, ci_37, lz0, cr_60)) rfl ?_
  refine Ev.ite (fun z => absurd z (by decide)) (fun _ => ?_)
  refine Ev.run 5 (pc' := 125) (lv' := [(1, .int (nI 1)), (0, .ref 12)]) (st' := [.ref 62, .ref 62, .int (nI 1), .ref 43]) (h' := (63, ci_37, lz0, cr_60)) rfl ?_
  refine Ev.call (a := 47) (as := [.ref 62]) (rest := [.ref 62, .int (nI 1), .ref 43]) (lv0 := [(0, .ref 62)]) (Q1 := (fun r h' => r = none ∧ h' = (64, ci_40, lz0, cr_61))) rfl rfl (CV_27 (d + 1) ⟨rfl, rfl⟩) (fun r h' hr => ?_)
  obtain ⟨rfl, rfl⟩ := hr
  refine Ev.run 6 (pc' := (if nI 5 ≤ nI 2 then 135 else 116)) (lv' := [(1, .int (nI 2)), (0, .ref 12)]) (st' := []) (h' := (64, ci_40, lz0, cr_62)) rfl ?_
  refine Ev.ite (fun z => absurd z (by decide)) (fun _ => ?_)
  refine Ev.run 5 (pc' := 125) (lv' := [(1, .int (nI 2)), (0, .ref 12)]) (st' := [.ref 64, .ref 64, .int (nI 2), .ref 43]) (h' := (65, ci_40, lz0, cr_62)) rfl ?_
  refine Ev.call (a := 47) (as := [.ref 64]) (rest := [.ref 64, .int (nI 2), .ref 43]) (lv0 := [(0, .ref 64)]) (Q1 := (fun r h' => r = none ∧ h' = (66, ci_43, lz0, cr_63))) rfl rfl (CV_28 (d + 1) ⟨rfl, rfl⟩) (fun r h' hr => ?_)
  obtain ⟨rfl, rfl⟩ := hr
  refine Ev.run 6 (pc' := (if nI 5 ≤ nI 3 then 135 else 116)) (lv' := [(1, .int (nI 3)), (0, .ref 12)]) (st' := []) (h' := (66, ci_43, lz0, cr_64)) rfl ?_
  refine Ev.ite (fun z => absurd z (by decide)) (fun _ => ?_)
  refine Ev.run 5 (pc' := 125) (lv' := [(1, .int (nI 3)), (0, .ref 12)]) (st' := [.ref 66, .ref 66, .int (nI 3), .ref 43]) (h' := (67, ci_43, lz0, cr_64)) rfl ?_
  refine Ev.call (a := 47) (as := [.ref 66]) (rest := [.ref 66, .int (nI 3), .ref 43]) (lv0 := [(0, .ref 66)]) (Q1 := (fun r h' => r = none ∧ h' = (68, ci_46, lz0, cr_65))) rfl rfl (CV_29 (d + 1) ⟨rfl, rfl⟩) (fun r h' hr => ?_)
  obtain ⟨rfl, rfl⟩ := hr
  refine Ev.run 6 (pc' := (if nI 5 ≤ nI 4 then 135 else 116)) (lv' := [(1, .int (nI 4)), (0, .ref 12)]) (st' := []) (h' := (68, ci_46, lz0, cr_66)) rfl ?_
  refine Ev.ite (fun z => absurd z (by decide)) (fun _ => ?_)
  refine Ev.run 5 (pc' := 125) (lv' := [(1, .int (nI 4)), (0, .ref 12)]) (st' := [.ref 68, .ref 68, .int (nI 4), .ref 43]) (h' := (69, ci_46, lz0, cr_66)) rfl ?_
  refine Ev.call (a := 47) (as := [.ref 68]) (rest := [.ref 68, .int (nI 4), .ref 43]) (lv0 := [(0, .ref 68)]) (Q1 := (fun r h' => r = none ∧ h' = (70, ci_49, lz0, cr_67))) rfl rfl (CV_30 (d + 1) ⟨rfl, rfl⟩) (fun r h' hr => ?_)
  obtain ⟨rfl, rfl⟩ := hr
  refine Ev.run 6 (pc' := (if nI 5 ≤ nI 5 then 135 else 116)) (lv' := [(1, .int (nI 5)), (0, .ref 12)]) (st' := []) (h' := (70, ci_49, lz0, cr_68)) rfl ?_
  refine Ev.ite (fun _ => ?_) (fun z => absurd (by decide) z)
  exact Ev.ret (v := none) rfl hq
theorem CV_32 (d : Nat) {Q : Po} (hq : Q none (79, ci_51, lz0, cr_75)) : Ev L xs (d + 2) 41 0 [(0, .ref 77), (1, .int (nI 6))] [] (78, ci_50, lz0, cr_74) Q := by
  refine Ev.run 8 (pc' := 12) (lv' := [(0, .ref 77), (1, .int (nI 6))]) (st' := [.int (nI 0), .int (nI 6), .ref 77]) (h' := (78, ci_51, lz0, cr_74)) rfl ?_
  refine Ev_max rfl rfl rfl (show (if nI 6 < nI 0 then nI 0 else nI 6) = nI 6 by decide) ?_
  refine Ev.run 2 (pc' := 20) (lv' := [(0, .ref 77), (1, .int (nI 6))]) (st' := []) (h' := (79, ci_51, lz0, cr_75)) rfl ?_
  exact Ev.ret (v := none) rfl hq
theorem CV_33 (d : Nat) {Q : Po} (hq : Q none (81, ci_52, lz0, cr_77)) : Ev L xs (d + 2) 41 0 [(0, .ref 79), (1, .int (nI 6))] [] (80, ci_51, lz0, cr_76) Q := by
  refine Ev.run 8 (pc' := 12) (lv' := [(0, .ref 79), (1, .int (nI 6))]) (st' := [.int (nI 0), .int (nI 6), .ref 79]) (h' := (80, ci_52, lz0, cr_76)) rfl ?_
  refine Ev_max rfl rfl rfl (show (if nI 6 < nI 0 then nI 0 else nI 6) = nI 6 by decide) ?_
  refine Ev.run 2 (pc' := 20) (lv' := [(0, .ref 79), (1, .int (nI 6))]) (st' := []) (h' := (81, ci_52, lz0, cr_77)) rfl ?_
  exact Ev.ret (v := none) rfl hq
theorem CV_34 (d : Nat) {Q : Po} (hq : Q none (83, ci_53, lz0, cr_79)) : Ev L xs (d + 2) 41 0 [(0, .ref 81), (1, .int (nI 6))] [] (82, ci_52, lz0, cr_78) Q := by
  refine Ev.run 8 (pc' := 12) (lv' := [(0, .ref 81), (1, .int (nI 6))]) (st' := [.int (nI 0), .int (nI 6), .ref 81]) (h' := (82, ci_53, lz0, cr_78)) rfl ?_
  refine Ev_max rfl rfl rfl (show (if nI 6 < nI 0 then nI 0 else nI 6) = nI 6 by decide) ?_
  refine Ev.run 2 (pc' := 20) (lv' := [(0, .ref 81), (1, .int (nI 6))]) (st' := []) (h' := (83, ci_53, lz0, cr_79)) rfl ?_
  exact Ev.ret (v := none) rfl hq
theorem CV_35 (d : Nat) {Q : Po} (hq : Q none (85, ci_54, lz0, cr_81)) : Ev L xs (d + 2) 41 0 [(0, .ref 83), (1, .int (nI 6))] [] (84, ci_53, lz0, cr_80) Q := by
  refine Ev.run 8 (pc' := 12) (lv' := [(0, .ref 83), (1, .int (nI 6))]) (st' := [.int (nI 0), .int (nI 6), .ref 83]) (h' := (84, ci_54, lz0, cr_80)) rfl ?_
  refine Ev_max rfl rfl rfl (show (if nI 6 < nI 0 then nI 0 else nI 6) = nI 6 by decide) ?_
  refine Ev.run 2 (pc' := 20) (lv' := [(0, .ref 83), (1, .int (nI 6))]) (st' := []) (h' := (85, ci_54, lz0, cr_81)) rfl ?_
  exact Ev.ret (v := none) rfl hq
theorem CV_36 (d : Nat) {Q : Po} (hq : Q none (87, ci_55, lz0, cr_83)) : Ev L xs (d + 2) 41 0 [(0, .ref 85), (1, .int (nI 6))] [] (86, ci_54, lz0, cr_82) Q := by
  refine Ev.run 8 (pc' := 12) (lv' := [(0, .ref 85), (1, .int (nI 6))]) (st' := [.int (nI 0), .int (nI 6), .ref 85]) (h' := (86, ci_55, lz0, cr_82)) rfl ?_
  refine Ev_max rfl rfl rfl (show (if nI 6 < nI 0 then nI 0 else nI 6) = nI 6 by decide) ?_
  refine Ev.run 2 (pc' := 20) (lv' := [(0, .ref 85), (1, .int (nI 6))]) (st' := []) (h' := (87, ci_55, lz0, cr_83)) rfl ?_
  exact Ev.ret (v := none) rfl hq
theorem CV_37 (d : Nat) {Q : Po} (hq : Q none (89, ci_56, lz0, cr_85)) : Ev L xs (d + 2) 41 0 [(0, .ref 87), (1, .int (nI 6))] [] (88, ci_55, lz0, cr_84) Q := by
  refine Ev.run 8 (pc' := 12) (lv' := [(0, .ref 87), (1, .int (nI 6))]) (st' := [.int (nI 0), .int (nI 6), .ref 87]) (h' := (88, ci_56, lz0, cr_84)) rfl ?_
  refine Ev_max rfl rfl rfl (show (if nI 6 < nI 0 then nI 0 else nI 6) = nI 6 by decide) ?_
  refine Ev.run 2 (pc' := 20) (lv' := [(0, .ref 87), (1, .int (nI 6))]) (st' := []) (h' := (89, ci_56, lz0, cr_85)) rfl ?_
  exact Ev.ret (v := none) rfl hq
theorem CV_38 (d : Nat) {Q : Po} (hq : Q none (91, ci_57, lz0, cr_87)) : Ev L xs (d + 2) 41 0 [(0, .ref 89), (1, .int (nI 6))] [] (90, ci_56, lz0, cr_86) Q := by
  refine Ev.run 8 (pc' := 12) (lv' := [(0, .ref 89), (1, .int (nI 6))]) (st' := [.int (nI 0), .int (nI 6), .ref 89]) (h' := (90, ci_57, lz0, cr_86)) rfl ?_
  refine Ev_max rfl rfl rfl (show (if nI 6 < nI 0 then nI 0 else nI 6) = nI 6 by decide) ?_
  refine Ev.run 2 (pc' := 20) (lv' := [(0, .ref 89), (1, .int (nI 6))]) (st' := []) (h' := (91, ci_57, lz0, cr_87)) rfl ?_
  exact Ev.ret (v := none) rfl hq
theorem CV_39 (d : Nat) {Q : Po} (hq : Q none (93, ci_58, lz0, cr_89)) : Ev L xs (d + 2) 41 0 [(0, .ref 91), (1, .int (nI 6))] [] (92, ci_57, lz0, cr_88) Q := by
  refine Ev.run 8 (pc' := 12) (lv' := [(0, .ref 91), (1, .int (nI 6))]) (st' := [.int (nI 0), .int (nI 6), .ref 91]) (h' := (92, ci_58, lz0, cr_88)) rfl ?_
  refine Ev_max rfl rfl rfl (show (if nI 6 < nI 0 then nI 0 else nI 6) = nI 6 by decide) ?_
  refine Ev.run 2 (pc' := 20) (lv' := [(0, .ref 91), (1, .int (nI 6))]) (st' := []) (h' := (93, ci_58, lz0, cr_89)) rfl ?_
  exact Ev.ret (v := none) rfl hq
theorem CV_40 (d : Nat) {Q : Po} (hq : Q none (95, ci_59, lz0, cr_91)) : Ev L xs (d + 2) 41 0 [(0, .ref 93), (1, .int (nI 6))] [] (94, ci_58, lz0, cr_90) Q := by
  refine Ev.run 8 (pc' := 12) (lv' := [(0, .ref 93), (1, .int (nI 6))]) (st' := [.int (nI 0), .int (nI 6), .ref 93]) (h' := (94, ci_59, lz0, cr_90)) rfl ?_
  refine Ev_max rfl rfl rfl (show (if nI 6 < nI 0 then nI 0 else nI 6) = nI 6 by decide) ?_
  refine Ev.run 2 (pc' := 20) (lv' := [(0, .ref 93), (1, .int (nI 6))]) (st' := []) (h' := (95, ci_59, lz0, cr_91)) rfl ?_
  exact Ev.ret (v := none) rfl hq
theorem CV_41 (d : Nat) {Q : Po} (hq : Q none (97, ci_60, lz0, cr_93)) : Ev L xs (d + 2) 41 0 [(0, .ref 95), (1, .int (nI 6))] [] (96, ci_59, lz0, cr_92) Q := by
  refine Ev.run 8 (pc' := 12) (lv' := [(0, .ref 95), (1, .int (nI 6))]) (st' := [.int (nI 0), .int (nI 6), .ref 95]) (h' := (96, ci_60, lz0, cr_92)) rfl ?_
  refine Ev_max rfl rfl rfl (show (if nI 6 < nI 0 then nI 0 else nI 6) = nI 6 by decide) ?_
  refine Ev.run 2 (pc' := 20) (lv' := [(0, .ref 95), (1, .int (nI 6))]) (st' := []) (h' := (97, ci_60, lz0, cr_93)) rfl ?_
  exact Ev.ret (v := none) rfl hq
theorem CV_42 (d : Nat) {Q : Po} (hq : Q none (99, ci_61, lz0, cr_95)) : Ev L xs (d + 2) 41 0 [(0, .ref 97), (1, .int (nI 6))] [] (98, ci_60, lz0, cr_94) Q := by
  refine Ev.run 8 (pc' := 12) (lv' := [(0, .ref 97), (1, .int (nI 6))]) (st' := [.int (nI 0), .int (nI 6), .ref 97]) (h' := (98, ci_61, lz0, cr_94)) rfl ?_
  refine Ev_max rfl rfl rfl (show (if nI 6 < nI 0 then nI 0 else nI 6) = nI 6 by decide) ?_
  refine Ev.run 2 (pc' := 20) (lv' := [(0, .ref 97), (1, .int (nI 6))]) (st' := []) (h' := (99, ci_61, lz0, cr_95)) rfl ?_
  exact Ev.ret (v := none) rfl hq
theorem CV_43 (d : Nat) {Q : Po} (hq : Q none (101, ci_62, lz0, cr_97)) : Ev L xs (d + 2) 41 0 [(0, .ref 99), (1, .int (nI 6))] [] (100, ci_61, lz0, cr_96) Q := by
  refine Ev.run 8 (pc' := 12) (lv' := [(0, .ref 99), (1, .int (nI 6))]) (st' := [.int (nI 0), .int (nI 6), .ref 99]) (h' := (100, ci_62, lz0, cr_96)) rfl ?_
  refine Ev_max rfl rfl rfl (show (if nI 6 < nI 0 then nI 0 else nI 6) = nI 6 by decide) ?_
  refine Ev.run 2 (pc' := 20) (lv' := [(0, .ref 99), (1, .int (nI 6))]) (st' := []) (h' := (101, ci_62, lz0, cr_97)) rfl ?_
  exact Ev.ret (v := none) rfl hq
theorem CV_44 (d : Nat) {Q : Po} (hq : Q none (101, ci_62, lz0, cr_98)) : Ev L xs (d + 3) 6 0 [(0, .ref 71)] [] (72, ci_49, lz0, cr_69) Q := by
  refine Ev.run 8 (pc' := 16) (lv' := [(0, .ref 71)]) (st' := [.int (nI 12), .ref 71]) (h' := (73, ci_49, lz0, cr_70)) rfl ?_
  refine Ev.run 8 (pc' := 32) (lv' := [(0, .ref 71)]) (st' := [.int (nI 7), .ref 71]) (h' := (75, ci_49, lz0, cr_72)) rfl ?_
  refine Ev.run 8 (pc' := 47) (lv' := [(0, .ref 71)]) (st' := [.int (nI 0), .ref 71]) (h' := (77, ci_49, lz0, cr_74)) rfl ?_
  refine Ev.run 6 (pc' := (if nI 12 ≤ nI 0 then 79 else 58)) (lv' := [(1, .int (nI 0)), (0, .ref 71)]) (st' := []) (h' := (77, ci_50, lz0, cr_74)) rfl ?_
  refine Ev.ite (fun z => absurd z (by decide)) (fun _ => ?_)
  refine Ev.run 6 (pc' := 69) (lv' := [(1, .int (nI 0)), (0, .ref 71)]) (st' := [.int (nI 6), .ref 77, .ref 77, .int (nI 0), .ref 72]) (h' := (78, ci_50, lz0, cr_74)) rfl ?_
  refine Ev.call (a := 41) (as := [.ref 77, .int (nI 6)]) (rest := [.ref 77, .int (nI 0), .ref 72]) (lv0 := [(0, .ref 77), (1, .int (nI 6))]) (Q1 := (fun r h' => r = none ∧ h' = (79, ci_51, lz0, cr_75))) rfl rfl (CV_32 (d + 0) ⟨rfl, rfl⟩) (fun r h' hr => ?_)
  obtain ⟨rfl, rfl⟩ := hr
  refine Ev.run 6 (pc' := (if nI 12 ≤ nI 1 then 79 else 58)) (lv' := [(1, .int (nI 1)), (0, .ref 71)]) (st' := []) (h' := (79, ci_51, lz0, cr_76)) rfl ?_
  refine Ev.ite (fun z => absurd z (by decide)) (fun _ => ?_)
  refine Ev.run 6 (pc' := 69) (lv' := [(1, .int (nI 1)), (0, .ref 71)]) (st' := [.int (nI 6), .ref 79, .ref 79, .int (nI 1), .ref 72]) (h' := (80, ci_51, lz0, cr_76)) rfl ?_
  refine Ev.call (a := 41) (as := [.ref 79, .int (nI 6)]) (rest := [.ref 79, .int (nI 1), .ref 72]) (lv0 := [(0, .ref 79), (1, .int (nI 6))]) (Q1 := (fun r h' => r = none ∧ h' = (81, ci_52, lz0, cr_77))) rfl rfl (CV_33 (d + 0) ⟨rfl, rfl⟩) (fun r h' hr => ?_)
  obtain ⟨rfl, rfl⟩ := hr
  refine Ev.run 6 (pc' := (if nI 12 ≤ nI 2 then 79 else 58)) (lv' := [(1, .int (nI 2)), (0, .ref 71)]) (st' := []) (h' := (81, ci_52, lz0, cr_78)) rfl ?_
  refine Ev.ite (fun z => absurd z (by decide)) (fun _ => ?_)
  refine Ev.run 6 (pc' := 69) (lv' := [(1, .int (nI 2)), (0, .ref 71)]) (st' := [.int (nI 6), .ref 81, .ref 81, .int (nI 2), .ref 72]) (h' := (82, ci_52, lz0, cr_78)) rfl ?_
  refine Ev.call (a := 41) (as := [.ref 81, .int (nI 6)]) (rest := [.ref 81, .int (nI 2), .ref 72]) (lv0 := [(0, .ref 81), (1, .int (nI 6))]) (Q1 := (fun r h' => r = none ∧ h' = (83, ci_53, lz0, cr_79))) rfl rfl (CV_34 (d + 0) ⟨rfl, rfl⟩) (fun r h' hr => ?_)
  obtain ⟨rfl, rfl⟩ := hr
  refine Ev.run 6 (pc' := (if nI 12 ≤ nI 3 then 79 else 58)) (lv' := [(1, .int (nI 3)), (0, .ref 71)]) (st' := []) (h' := (83, ci_53, lz0, cr_80)) rfl ?_
  refine Ev.ite (fun z => absurd z (by decide)) (fun _ => ?_)
  refine Ev.run 6 (pc' := 69) (lv' := [(1, .int (nI 3)), (0, .ref 71)]) (st' := [.int (nI 6), .ref 83, .ref 83, .int (nI 3), .ref 72]) (h' := (84, ci_53, lz0, cr_80)) rfl ?_
  refine Ev.call (a := 41) (as := [.ref 83, .int (nI 6)]) (rest := [.ref 83, .int (nI 3), .ref 72]) (lv0 := [(0, .ref 83), (1, .int (nI 6))]) (Q1 := (fun r h' => r = none ∧ h' = (85, ci_54, lz0, cr_81))) rfl rfl (CV_35 (d + 0) ⟨rfl, rfl⟩) (fun r h' hr => ?_)
  obtain ⟨rfl, rfl⟩ := hr
  refine Ev.run 6 (pc' := (if nI 12 ≤ nI 4 then 79 else 58)) (lv' := [(1, .int (nI 4)), (0, .ref 71)]) (st' := []) (h' := (85, ci_54, lz0, cr_82)) rfl ?_
  refine Ev.ite (fun z => absurd z (by decide)) (fun _ => ?_)
  refine Ev.run 6 (pc' := 69) (lv' := [(1, .int (nI 4)), (0, .ref 71)]) (st' := [.int (nI 6), .ref 85, .ref 85, .int (nI 4), .ref 72]) (h' := (86, ci_54, lz0, cr_82)) rfl ?_
  refine Ev.call (a := 41) (as := [.ref 85, .int (nI 6)]) (rest := [.ref 85, .int (nI 4), .ref 72]) (lv0 := [(0, .ref 85), (1, .int (nI 6))]) (Q1 := (fun r h' => r = none ∧ h' = (87, ci_55, lz0, cr_83))) rfl rfl (CV_36 (d + 0) ⟨rfl, rfl⟩) (fun r h' hr => ?_)
  obtain ⟨rfl, rfl⟩ := hr
  refine Ev.run 6 (pc' := (if nI 12 ≤ nI 5 then 79 else 58)) (lv' := [(1, .int (nI 5)), (0, .ref 71)]) (st' := []) (h' := (87, ci_55, lz0, cr_84)) rfl ?_
  refine Ev.ite (fun z => absurd z (by decide)) (fun _ => ?_)
  refine Ev.run 6 (pc' := 69) (lv' := [(1, .int (nI 5)), (0, .ref 71)]) (st' := [.int (nI 6), .ref 87, .ref 87, .int (nI 5), .ref 72]) (h' := (88, ci_55, lz0, cr_84)) rfl ?_
  refine Ev.call (a := 41) (as := [.ref 87, .int (nI 6)]) (rest := [.ref 87, .int (nI 5), .ref 72]) (lv0 := [(0, .ref 87), (1, .int (nI 6))]) (Q1 := (fun r h' => r = none ∧ h' = (89, ci_56, lz0, cr_85))) rfl rfl (CV_37 (d + 0) ⟨rfl, rfl⟩) (fun r h' hr => ?_)
  obtain ⟨rfl, rfl⟩ := hr
  refine Ev.run 6 (pc' := (if nI 12 ≤ nI 6 then 79 else 58)) (lv' := [(1, .int (nI 6)), (0, .ref 71)]) (st' := []) (h' := (89, ci_56, lz0, cr_86)) rfl ?_
  refine Ev.ite (fun z => absurd z (by decide)) (fun _ => ?_)
  refine Ev.run 6 (pc' := 69) (lv' := [(1, .int (nI 6)), (0, .ref 71)]) (st' := [.int (nI 6), .ref 89, .ref 89, .int (nI 6), .ref 72]) (h' := (90, ci_56, lz0, cr_86)) rfl ?_
  refine Ev.call (a := 41) (as := [.ref 89, .int (nI 6)]) (rest := [.ref 89, .int (nI 6), .ref 72]) (lv0 := [(0, .ref 89), (1, .int (nI 6))]) (Q1 := (fun r h' => r = none ∧ h' = (91, ci_57, lz0, cr_87))) rfl rfl (CV_38 (d + 0) ⟨rfl, rfl⟩) (fun r h' hr => ?_)
  obtain ⟨rfl, rfl⟩ := hr
  refine Ev.run 6 (pc' := (if nI 12 ≤ nI 7 then 79 else 58)) (lv' := [(1, .int (nI 7)), (0, .ref 71)]) (st' := []) (h' := (91, ci_57, lz0, cr_88)) rfl ?_
  refine Ev.ite (fun z => absurd z (by decide)) (fun _ => ?_)
  refine Ev.run 6 (pc' := 69) (lv' := [(1, .int (nI 7)), (0, .ref 71)]) (st' := [.int (nI 6), .ref 91, .ref 91, .int (nI 7), .ref 72]) (h' := (92, ci_57, lz0, cr_88)) rfl ?_
  refine Ev.call (a := 41) (as := [.ref 91, .int (nI 6)]) (rest := [.ref 91, .int (nI 7), .ref 72]) (lv0 := [(0, .ref 91), (1, .int (nI 6))]) (Q1 := (fun r h' => r = none ∧ h' = (93, ci_58, lz0, cr_89))) rfl rfl (CV_39 (d + 0) ⟨rfl, rfl⟩) (fun r h' hr => ?_)
  obtain ⟨rfl, rfl⟩ := hr
  refine Ev.run 6 (pc' := (if nI 12 ≤ nI 8 then 79 else 58)) (lv' := [(1, .int (nI 8)), (0, .ref 71)]) (st' := []) (h' := (93, ci_58, lz0, cr_90)) rfl ?_
  refine Ev.ite (fun z => absurd z (by decide)) (fun _ => ?_)
  refine Ev.run 6 (pc' := 69) (lv' := [(1, .int (nI 8)), (0, .ref 71)]) (st' := [.int (nI 6), .ref 93, .ref 93, .int (nI 8), .ref 72]) (h' := (94, ci_58, lz0, cr_90)) rfl ?_
  refine Ev.call (a := 41) (as := [.ref 93, .int (nI 6)]) (rest := [.ref 93, .int (nI 8), .ref 72]) (lv0 := [(0, .ref 93), (1, .int (nI 6))]) (Q1 := (fun r h' => r = none ∧ h' = (95, ci_59, lz0, cr_91))) rfl rfl (CV_40 (d + 0) ⟨rfl, rfl⟩) (fun r h' hr => ?_)
  obtain ⟨rfl, rfl⟩ := hr
  refine Ev.run 6 (pc' := (if nI 12 ≤ nI 9 then 79 else 58)) (lv' := [(1, .int (nI 9)), (0, .ref 71)]) (st' := []) (h' := (95, ci_59, lz0, cr_92)) rfl ?_
  refine Ev.ite (fun z => absurd z (by decide)) (fun _ => ?_)
  refine Ev.run 6 (pc' := 69) (lv' := [(1, .int (nI 9)), (0, .ref 71)]) (st' := [.int (nI 6), .ref 95, .ref 95, .int (nI 9), .ref 72]) (h' := (96, ci_59, lz0, cr_92)) rfl ?_
  refine Ev.call (a := 41) (as := [.ref 95, .int (nI 6)]) (rest := [.ref 95, .int (nI 9), .ref 72]) (lv0 := [(0, .ref 95), (1, .int (nI 6))]) (Q1 := (fun r h' => r = none ∧ h' = (97, ci_60, lz0, cr_93))) rfl rfl (CV_41 (d + 0) ⟨rfl, rfl⟩) (fun r h' hr => ?_)
  obtain ⟨rfl, rfl⟩ := hr
  refine Ev.run 6 (pc' := (if nI 12 ≤ nI 10 then 79 else 58)) (lv' := [(1, .int (nI 10)), (0, .ref 71)]) (st' := []) (h' := (97, ci_60, lz0, cr_94)) rfl ?_
  refine Ev.ite (fun z => absurd z (by decide)) (fun _ => ?_)
  refine Ev.run 6 (pc' := 69) (lv' := [(1, .int (nI 10)), (0, .ref 71)]) (st' := [.int (nI 6), .ref 97, .ref 97, .int (nI 10), .ref 72]) (h' := (98, ci_60, lz0, cr_94)) rfl ?_
  refine Ev.call (a := 41) (as := [.ref 97, .int (nI 6)]) (rest := [.ref 97, .int (nI 10), .ref 72]) (lv0 := [(0, .ref 97), (1, .int (nI 6))]) (Q1 := (fun r h' => r = none ∧ h' = (99, ci_61, lz0, cr_95))) rfl rfl (CV_42 (d + 0) ⟨rfl, rfl⟩) (fun r h' hr => ?_)
  obtain ⟨rfl, rfl⟩ := hr
  refine Ev.run 6 (pc' := (if nI 12 ≤ nI 11 then 79 else 58)) (lv' := [(1, .int (nI 11)), (0, .ref 71)]) (st' := []) (h' := (99, ci_61, lz0, cr_96)) rfl ?_
  refine Ev.ite (fun z => absurd z (by decide)) (fun _ => ?_)
  refine Ev.run 6 (pc' := 69) (lv' := [(1, .int (nI 11)), (0, .ref 71)]) (st' := [.int (nI 6), .ref 99, .ref 99, .int (nI 11), .ref 72]) (h' := (100, ci_61, lz0, cr_96)) rfl ?_
  refine Ev.call (a := 41) (as := [.ref 99, .int (nI 6)]) (rest := [.ref 99, .int (nI 11), .ref 72]) (lv0 := [(0, .ref 99), (1, .int (nI 6))]) (Q1 := (fun r h' => r = none ∧ h' = (101, ci_62, lz0, cr_97))) rfl rfl (CV_43 (d + 0) ⟨rfl, rfl⟩) (fun r h' hr => ?_)
  obtain ⟨rfl, rfl⟩ := hr
  refine Ev.run 6 (pc' := (if nI 12 ≤ nI 12 then 79 else 58)) (lv' := [(1, .int (nI 12)), (0, .ref 71)]) (st' := []) (h' := (101, ci_62, lz0, cr_98)) rfl ?_
  refine Ev.ite (fun _ => ?_) (fun z => absurd (by decide) z)
  exact Ev.ret (v := none) rfl hq
theorem CV_45 (d : Nat) {Q : Po} (hq : Q none (105, ci_64, lz0, cr_101)) : Ev L xs (d + 2) 41 0 [(0, .ref 103), (1, .int (nI 12))] [] (104, ci_63, lz0, cr_100) Q := by
  refine Ev.run 8 (pc' := 12) (lv' := [(0, .ref 103), (1, .int (nI 12))]) (st' := [.int (nI 0), .int (nI 12), .ref 103]) (h' := (104, ci_64, lz0, cr_100)) rfl ?_
  refine Ev_max rfl rfl rfl (show (if nI 12 < nI 0 then nI 0 else nI 12) = nI 12 by decide) ?_
  refine Ev.run 2 (pc' := 20) (lv' := [(0, .ref 103), (1, .int (nI 12))]) (st' := []) (h' := (105, ci_64, lz0, cr_101)) rfl ?_
  exact Ev.ret (v := none) rfl hq
theorem CV_46 (d : Nat) {Q : Po} (hq : Q none (106, ci_67, lz0, cr_103)) : Ev L xs (d + 3) 60 0 [(0, .ref 102)] [] (103, ci_63, lz0, cr_100) Q := by
  refine Ev.run 6 (pc' := 11) (lv' := [(0, .ref 102)]) (st' := [.int (nI 12), .ref 103, .ref 103, .ref 102]) (h' := (104, ci_63, lz0, cr_100)) rfl ?_
  refine Ev.call (a := 41) (as := [.ref 103, .int (nI 12)]) (rest := [.ref 103, .ref 102]) (lv0 := [(0, .ref 103), (1, .int (nI 12))]) (Q1 := (fun r h' => r = none ∧ h' = (105, ci_64, lz0, cr_101))) rfl rfl (CV_45 (d + 0) ⟨rfl, rfl⟩) (fun r h' hr => ?_)
  obtain ⟨rfl, rfl⟩ := hr
  refine Ev.run 8 (pc' := 29) (lv' := [(0, .ref 102)]) (st' := []) (h' := (106, ci_65, lz0, cr_103)) rfl ?_
  refine Ev.run 6 (pc' := 39) (lv' := [(0, .ref 102)]) (st' := []) (h' := (106, ci_67, lz0, cr_103)) rfl ?_
  exact Ev.ret (v := none) rfl hq
theorem CV_47 (d : Nat) {Q : Po} (hq : Q none (108, ci_68, lz0, cr_105)) : Ev L xs (d + 2) 41 0 [(0, .ref 106), (1, .int (nI 6))] [] (107, ci_67, lz0, cr_104) Q := by
  refine Ev.run 8 (pc' := 12) (lv' := [(0, .ref 106), (1, .int (nI 6))]) (st' := [.int (nI 0), .int (nI 6), .ref 106]) (h' := (107, ci_68, lz0, cr_104)) rfl ?_
  refine Ev_max rfl rfl rfl (show (if nI 6 < nI 0 then nI 0 else nI 6) = nI 6 by decide) ?_
  refine Ev.run 2 (pc' := 20) (lv' := [(0, .ref 106), (1, .int (nI 6))]) (st' := []) (h' := (108, ci_68, lz0, cr_105)) rfl ?_
  exact Ev.ret (v := none) rfl hq
theorem CV_48 (d : Nat) {Q : Po} (hq : Q none (110, ci_69, lz0, cr_107)) : Ev L xs (d + 2) 41 0 [(0, .ref 108), (1, .int (nI 6))] [] (109, ci_68, lz0, cr_106) Q := by
  refine Ev.run 8 (pc' := 12) (lv' := [(0, .ref 108), (1, .int (nI 6))]) (st' := [.int (nI 0), .int (nI 6), .ref 108]) (h' := (109, ci_69, lz0, cr_106)) rfl ?_
  refine Ev_max rfl rfl rfl (show (if nI 6 < nI 0 then nI 0 else nI 6) = nI 6 by decide) ?_
  refine Ev.run 2 (pc' := 20) (lv' := [(0, .ref 108), (1, .int (nI 6))]) (st' := []) (h' := (110, ci_69, lz0, cr_107)) rfl ?_
  exact Ev.ret (v := none) rfl hq
theorem CV_49 (d : Nat) {Q : Po} (hq : Q none (112, ci_70, lz0, cr_109)) : Ev L xs (d + 2) 41 0 [(0, .ref 110), (1, .int (nI 6))] [] (111, ci_69, lz0, cr_108) Q := by
  refine Ev.run 8 (pc' := 12) (lv' := [(0, .ref 110), (1, .int (nI 6))]) (st' := [.int (nI 0), .int (nI 6), .ref 110]) (h' := (111, ci_70, lz0, cr_108)) rfl ?_
  refine Ev_max rfl rfl rfl (show (if nI 6 < nI 0 then nI 0 else nI 6) = nI 6 by decide) ?_
  refine Ev.run 2 (pc' := 20) (lv' := [(0, .ref 110), (1, .int (nI 6))]) (st' := []) (h' := (112, ci_70, lz0, cr_109)) rfl ?_
  exact Ev.ret (v := none) rfl hq
theorem CV_50 (d : Nat) {Q : Po} (hq : Q none (114, ci_71, lz0, cr_111)) : Ev L xs (d + 2) 41 0 [(0, .ref 112), (1, .int (nI 8))] [] (113, ci_70, lz0, cr_110) Q := by
  refine Ev.run 8 (pc' := 12) (lv' := [(0, .ref 112), (1, .int (nI 8))]) (st' := [.int (nI 0), .int (nI 8), .ref 112]) (h' := (113, ci_71, lz0, cr_110)) rfl ?_
  refine Ev_max rfl rfl rfl (show (if nI 8 < nI 0 then nI 0 else nI 8) = nI 8 by decide) ?_
  refine Ev.run 2 (pc' := 20) (lv' := [(0, .ref 112), (1, .int (nI 8))]) (st' := []) (h' := (114, ci_71, lz0, cr_111)) rfl ?_
  exact Ev.ret (v := none) rfl hq
theorem CV_51 (d : Nat) {Q : Po} (hq : Q none (117, ci_74, lz0, cr_114)) : Ev L xs (d + 2) 63 0 [(0, .ref 114)] [] (115, ci_71, lz0, cr_112) Q := by
  refine Ev.run 8 (pc' := 15) (lv' := [(0, .ref 114)]) (st' := [.int (nI 20), .ref 114]) (h' := (116, ci_71, lz0, cr_113)) rfl ?_
  refine Ev.run 8 (pc' := 30) (lv' := [(0, .ref 114)]) (st' := []) (h' := (117, ci_73, lz0, cr_114)) rfl ?_
  refine Ev.run 3 (pc' := 35) (lv' := [(0, .ref 114)]) (st' := []) (h' := (117, ci_74, lz0, cr_114)) rfl ?_
  exact Ev.ret (v := none) rfl hq
theorem CV_52 (d : Nat) {Q : Po} (hq : Q none (120, ci_77, lz0, cr_117)) : Ev L xs (d + 2) 47 0 [(0, .ref 118)] [] (119, ci_74, lz0, cr_116) Q := by
  refine Ev.run 8 (pc' := 13) (lv' := [(0, .ref 118)]) (st' := [.int (nI 0), .ref 118]) (h' := (120, ci_74, lz0, cr_117)) rfl ?_
  refine Ev.run 7 (pc' := 26) (lv' := [(0, .ref 118)]) (st' := []) (h' := (120, ci_77, lz0, cr_117)) rfl ?_
  exact Ev.ret (v := none) rfl hq
theorem CV_53 (d : Nat) {Q : Po} (hq : Q none (122, ci_80, lz0, cr_119)) : Ev L xs (d + 2) 47 0 [(0, .ref 120)] [] (121, ci_77, lz0, cr_118) Q := by
  refine Ev.run 8 (pc' := 13) (lv' := [(0, .ref 120)]) (st' := [.int (nI 0), .ref 120]) (h' := (122, ci_77, lz0, cr_119)) rfl ?_
  refine Ev.run 7 (pc' := 26) (lv' := [(0, .ref 120)]) (st' := []) (h' := (122, ci_80, lz0, cr_119)) rfl ?_
  exact Ev.ret (v := none) rfl hq
theorem CV_54 (d : Nat) {Q : Po} (hq : Q none (124, ci_83, lz0, cr_121)) : Ev L xs (d + 2) 47 0 [(0, .ref 122)] [] (123, ci_80, lz0, cr_120) Q := by
  refine Ev.run 8 (pc' := 13) (lv' := [(0, .ref 122)]) (st' := [.int (nI 0), .ref 122]) (h' := (124, ci_80, lz0, cr_121)) rfl ?_
  refine Ev.run 7 (pc' := 26) (lv' := [(0, .ref 122)]) (st' := []) (h' := (124, ci_83, lz0, cr_121)) rfl ?_
  exact Ev.ret (v := none) rfl hq
theorem CV_55 (d : Nat) {Q : Po} (hq : Q none (126, ci_86, lz0, cr_123)) : Ev L xs (d + 2) 47 0 [(0, .ref 124)] [] (125, ci_83, lz0, cr_122) Q := by
  refine Ev.run 8 (pc' := 13) (lv' := [(0, .ref 124)]) (st' := [.int (nI 0), .ref 124]) (h' := (126, ci_83, lz0, cr_123)) rfl ?_
  refine Ev.run 7 (pc' := 26) (lv' := [(0, .ref 124)]) (st' := []) (h' := (126, ci_86, lz0, cr_123)) rfl ?_
  exact Ev.ret (v := none) rfl hq
theorem CV_56 (d : Nat) {Q : Po} (hq : Q none (128, ci_89, lz0, cr_125)) : Ev L xs (d + 2) 47 0 [(0, .ref 126)] [] (127, ci_86, lz0, cr_124) Q := by
  refine Ev.run 8 (pc' := 13) (lv' := [(0, .ref 126)]) (st' := [.int (nI 0), .ref 126]) (h' := (128, ci_86, lz0, cr_125)) rfl ?_
  refine Ev.run 7 (pc' := 26) (lv' := [(0, .ref 126)]) (st' := []) (h' := (128, ci_89, lz0, cr_125)) rfl ?_
  exact Ev.ret (v := none) rfl hq
theorem CV_57 (d : Nat) {Q : Po} (hq : Q none (128, ci_89, lz0, cr_126)) : Ev L xs (d + 4) 21 0 [(0, .ref 70)] [] (71, ci_49, lz0, cr_69) Q := by
  refine Ev.run 5 (pc' := 9) (lv' := [(0, .ref 70)]) (st' := [.ref 71, .ref 71, .ref 70]) (h' := (72, ci_49, lz0, cr_69)) rfl ?_
  refine Ev.call (a := 6) (as := [.ref 71]) (rest := [.ref 71, .ref 70]) (lv0 := [(0, .ref 71)]) (Q1 := (fun r h' => r = none ∧ h' = (101, ci_62, lz0, cr_98))) rfl rfl (CV_44 (d + 0) ⟨rfl, rfl⟩) (fun r h' hr => ?_)
  obtain ⟨rfl, rfl⟩ := hr
  refine Ev.run 8 (pc' := 28) (lv' := [(0, .ref 70)]) (st' := []) (h' := (102, ci_63, lz0, cr_100)) rfl ?_
  refine Ev.run 3 (pc' := 33) (lv' := [(0, .ref 70)]) (st' := [.ref 102, .ref 102, .ref 70]) (h' := (103, ci_63, lz0, cr_100)) rfl ?_
  refine Ev.call (a := 60) (as := [.ref 102]) (rest := [.ref 102, .ref 70]) (lv0 := [(0, .ref 102)]) (Q1 := (fun r h' => r = none ∧ h' = (106, ci_67, lz0, cr_103))) rfl rfl (CV_46 (d + 0) ⟨rfl, rfl⟩) (fun r h' hr => ?_)
  obtain ⟨rfl, rfl⟩ := hr
  refine Ev.run 5 (pc' := 46) (lv' := [(0, .ref 70)]) (st' := [.int (nI 6), .ref 106, .ref 106, .ref 70]) (h' := (107, ci_67, lz0, cr_104)) rfl ?_
  refine Ev.call (a := 41) (as := [.ref 106, .int (nI 6)]) (rest := [.ref 106, .ref 70]) (lv0 := [(0, .ref 106), (1, .int (nI 6))]) (Q1 := (fun r h' => r = none ∧ h' = (108, ci_68, lz0, cr_105))) rfl rfl (CV_47 (d + 1) ⟨rfl, rfl⟩) (fun r h' hr => ?_)
  obtain ⟨rfl, rfl⟩ := hr
  refine Ev.run 5 (pc' := 59) (lv' := [(0, .ref 70)]) (st' := [.int (nI 6), .ref 108, .ref 108, .ref 70]) (h' := (109, ci_68, lz0, cr_106)) rfl ?_
  refine Ev.call (a := 41) (as := [.ref 108, .int (nI 6)]) (rest := [.ref 108, .ref 70]) (lv0 := [(0, .ref 108), (1, .int (nI 6))]) (Q1 := (fun r h' => r = none ∧ h' = (110, ci_69, lz0, cr_107))) rfl rfl (CV_48 (d + 1) ⟨rfl, rfl⟩) (fun r h' hr => ?_)
  obtain ⟨rfl, rfl⟩ := hr
  refine Ev.run 5 (pc' := 72) (lv' := [(0, .ref 70)]) (st' := [.int (nI 6), .ref 110, .ref 110, .ref 70]) (h' := (111, ci_69, lz0, cr_108)) rfl ?_
  refine Ev.call (a := 41) (as := [.ref 110, .int (nI 6)]) (rest := [.ref 110, .ref 70]) (lv0 := [(0, .ref 110), (1, .int (nI 6))]) (Q1 := (fun r h' => r = none ∧ h' = (112, ci_70, lz0, cr_109))) rfl rfl (CV_49 (d + 1) ⟨rfl, rfl⟩) (fun r h' hr => ?_)
  obtain ⟨rfl, rfl⟩ := hr
  refine Ev.run 5 (pc' := 85) (lv' := [(0, .ref 70)]) (st' := [.int (nI 8), .ref 112, .ref 112, .ref 70]) (h' := (113, ci_70, lz0, cr_110)) rfl ?_
  refine Ev.call (a := 41) (as := [.ref 112, .int (nI 8)]) (rest := [.ref 112, .ref 70]) (lv0 := [(0, .ref 112), (1, .int (nI 8))]) (Q1 := (fun r h' => r = none ∧ h' = (114, ci_71, lz0, cr_111))) rfl rfl (CV_50 (d + 1) ⟨rfl, rfl⟩) (fun r h' hr => ?_)
  obtain ⟨rfl, rfl⟩ := hr
  refine Ev.run 4 (pc' := 96) (lv' := [(0, .ref 70)]) (st' := [.ref 114, .ref 114, .ref 70]) (h' := (115, ci_71, lz0, cr_112)) rfl ?_
  refine Ev.call (a := 63) (as := [.ref 114]) (rest := [.ref 114, .ref 70]) (lv0 := [(0, .ref 114)]) (Q1 := (fun r h' => r = none ∧ h' = (117, ci_74, lz0, cr_114))) rfl rfl (CV_51 (d + 1) ⟨rfl, rfl⟩) (fun r h' hr => ?_)
  obtain ⟨rfl, rfl⟩ := hr
  refine Ev.run 8 (pc' := 112) (lv' := [(1, .int (nI 0)), (0, .ref 70)]) (st' := [.int (nI 0)]) (h' := (118, ci_74, lz0, cr_116)) rfl ?_
  refine Ev.run 2 (pc' := (if nI 5 ≤ nI 0 then 135 else 116)) (lv' := [(1, .int (nI 0)), (0, .ref 70)]) (st' := []) (h' := (118, ci_74, lz0, cr_116)) rfl ?_
  refine Ev.ite (fun z => absurd z (by decide)) (fun _ => ?_)
  refine Ev.run 5 (pc' := 125) (lv' := [(1, .int (nI 0)), (0, .ref 70)]) (st' := [.ref 118, .ref 118, .int (nI 0), .ref 101]) (h' := (119, ci_74, lz0, cr_116)) rfl ?_
  refine Ev.call (a := 47) (as := [.ref 118]) (rest := [.ref 118, .int (nI 0), .ref 101]) (lv0 := [(0, .ref 118)]) (Q1 := (fun r h' => r = none ∧ h' = (120, ci_77, lz0, cr_117))) rfl rfl (CV_52 (d + 1) ⟨rfl, rfl⟩) (fun r h' hr => ?_)
  obtain ⟨rfl, rfl⟩ := hr
  refine Ev.run 6 (pc' := (if nI 5 ≤ nI 1 then 135 else 116)) (lv' := [(1, .int (nI 1)), (0, .ref 70)]) (st' := []) (h' := (120, ci_77, lz0, cr_118)) rfl ?_
  refine Ev.ite (fun z => absurd z (by decide)) (fun _ => ?_)
  refine Ev.run 5 (pc' := 125) (lv' := [(1, .int (nI 1)), (0, .ref 70)]) (st' := [.ref 120, .ref 120, .int (nI 1), .ref 101]) (h' := (121, ci_77, lz0, cr_118)) rfl ?_
  refine Ev.call (a := 47) (as := [.ref 120]) (rest := [.ref 120, .int (nI 1), .ref 101]) (lv0 := [(0, .ref 120)]) (Q1 := (fun r h' => r = none ∧ h' = (122, ci_80, lz0, cr_119))) rfl rfl (CV_53 (d + 1) ⟨rfl, rfl⟩) (fun r h' hr => ?_)
  obtain ⟨rfl, rfl⟩ := hr
  refine Ev.run 6 (pc' := (if nI 5 ≤ nI 2 then 135 else 116)) (lv' := [(1, .int (nI 2)), (0, .ref 70)]) (st' := []) (h' := (122, ci_80, lz0, cr_120)) rfl ?_
  refine Ev.ite (fun z => absurd z (by decide)) (fun _ => ?_)
  refine Ev.run 5 (pc' := 125) (lv' := [(1, .int (nI 2)), (0, .ref 70)]) (st' := [.ref 122, .ref 122, .int (nI 2), .ref 101]) (h' := (123, ci_80, lz0, cr_120)) rfl ?_
  refine Ev.call (a := 47) (as := [.ref 122]) (rest := [.ref 122, .int (nI 2), .ref 101]) (lv0 := [(0, .ref 122)]) (Q1 := (fun r h' => r = none ∧ h' = (124, ci_83, lz0, cr_121))) rfl rfl (CV_54 (d + 1) ⟨rfl, rfl⟩) (fun r h' hr => ?_)
  obtain ⟨rfl, rfl⟩ := hr
  refine Ev.run 6 (pc' := (if nI 5 ≤ nI 3 then 135 else 116)) (lv' := [(1, .int (nI 3)), (0, .ref 70)]) (st' := []) (h' := (124, ci_83, lz0, cr_122)) rfl ?_
  refine Ev.ite (fun z => absurd z (by decide)) (fun _ => ?_)
  refine Ev.run 5 (pc' := 125) (lv' := [(1, .int (nI 3)), (0, .ref 70)]) (st' := [.ref 124, .ref 124, .int (nI 3), .ref 101]) (h' := (125, ci_83, lz0, cr_122)) rfl ?_
  refine Ev.call (a := 47) (as := [.ref 124]) (rest := [.ref 124, .int (nI 3), .ref 101]) (lv0 := [(0, .ref 124)]) (Q1 := (fun r h' => r = none ∧ h' = (126, ci_86, lz0, cr_123))) rfl rfl (CV_55 (d + 1) ⟨rfl, rfl⟩) (fun r h' hr => ?_)
  obtain ⟨rfl, rfl⟩ := hr
  refine Ev.run 6 (pc' := (if nI 5 ≤ nI 4 then 135 else 116)) (lv' := [(1, .int (nI 4)), (0, .ref 70)]) (st' := []) (h' := (126, ci_86, lz0, cr_124)) rfl ?_
  refine Ev.ite (fun z => absurd z (by decide)) (fun _ => ?_)
  refine Ev.run 5 (pc' := 125) (lv' := [(1, .int (nI 4)), (0, .ref 70)]) (st' := [.ref 126, .ref 126, .int (nI 4), .ref 101]) (h' := (127, ci_86, lz0, cr_124)) rfl ?_
  refine Ev.call (a := 47) (as := [.ref 126]) (rest := [.ref 126, .int (nI 4), .ref 101]) (lv0 := [(0, .ref 126)]) (Q1 := (fun r h' => r = none ∧ h' = (128, ci_89, lz0, cr_125))) rfl rfl (CV_56 (d + 1) ⟨rfl, rfl⟩) (fun r h' hr => ?_)
  obtain ⟨rfl, rfl⟩ := hr
  refine Ev.run 6 (pc' := (if nI 5 ≤ nI 5 then 135 else 116)) (lv' := [(1, .int (nI 5)), (0, .ref 70)]) (st' := []) (h' := (128, ci_89, lz0, cr_126)) rfl ?_
  refine Ev.ite (fun _ => ?_) (fun z => absurd (by decide) z)
  exact Ev.ret (v := none) rfl hq
theorem CV_58 (d : Nat) {Q : Po} (hq : Q none (131, ci_91, lz0, cr_128)) : Ev L xs (d + 2) 41 0 [(0, .ref 129), (1, .int (nI 12))] [] (130, ci_90, lz0, cr_127) Q := by
  refine Ev.run 8 (pc' := 12) (lv' := [(0, .ref 129), (1, .int (nI 12))]) (st' := [.int (nI 0), .int (nI 12), .ref 129]) (h' := (130, ci_91, lz0, cr_127)) rfl ?_
  refine Ev_max rfl rfl rfl (show (if nI 12 < nI 0 then nI 0 else nI 12) = nI 12 by decide) ?_
  refine Ev.run 2 (pc' := 20) (lv' := [(0, .ref 129), (1, .int (nI 12))]) (st' := []) (h' := (131, ci_91, lz0, cr_128)) rfl ?_
  exact Ev.ret (v := none) rfl hq
theorem CV_59 (d : Nat) {Q : Po} (hq : Q none (132, ci_94, lz0, cr_130)) : Ev L xs (d + 3) 60 0 [(0, .ref 128)] [] (129, ci_90, lz0, cr_127) Q := by
  refine Ev.run 6 (pc' := 11) (lv' := [(0, .ref 128)]) (st' := [.int (nI 12), .ref 129, .ref 129, .ref 128]) (h' := (130, ci_90, lz0, cr_127)) rfl ?_
  refine Ev.call (a := 41) (as := [.ref 129, .int (nI 12)]) (rest := [.ref 129, .ref 128]) (lv0 := [(0, .ref 129), (1, .int (nI 12))]) (Q1 := (fun r h' => r = none ∧ h' = (131, ci_91, lz0, cr_128))) rfl rfl (CV_58 (d + 0) ⟨rfl, rfl⟩) (fun r h' hr => ?_)
  obtain ⟨rfl, rfl⟩ := hr
  refine Ev.run 8 (pc' := 29) (lv' := [(0, .ref 128)]) (st' := []) (h' := (132, ci_92, lz0, cr_130)) rfl ?_
  refine Ev.run 6 (pc' := 39) (lv' := [(0, .ref 128)]) (st' := []) (h' := (132, ci_94, lz0, cr_130)) rfl ?_
  exact Ev.ret (v := none) rfl hq
theorem CV_60 (d : Nat) {Q : Po} (hq : Q none (135, ci_95, lz0, cr_132)) : Ev L xs (d + 2) 41 0 [(0, .ref 133), (1, .int (nI 20))] [] (134, ci_94, lz0, cr_131) Q := by
  refine Ev.run 8 (pc' := 12) (lv' := [(0, .ref 133), (1, .int (nI 20))]) (st' := [.int (nI 0), .int (nI 20), .ref 133]) (h' := (134, ci_95, lz0, cr_131)) rfl ?_
  refine Ev_max rfl rfl rfl (show (if nI 20 < nI 0 then nI 0 else nI 20) = nI 20 by decide) ?_
  refine Ev.run 2 (pc' := 20) (lv' := [(0, .ref 133), (1, .int (nI 20))]) (st' := []) (h' := (135, ci_95, lz0, cr_132)) rfl ?_
  exact Ev.ret (v := none) rfl hq
theorem CV_61 (d : Nat) {Q : Po} (hq : Q none (135, ci_96, lz0, cr_133)) : Ev L xs (d + 3) 1 0 [(0, .ref 132)] [] (133, ci_94, lz0, cr_131) Q := by
  refine Ev.run 6 (pc' := 11) (lv' := [(0, .ref 132)]) (st' := [.int (nI 20), .ref 133, .ref 133, .ref 132]) (h' := (134, ci_94, lz0, cr_131)) rfl ?_
  refine Ev.call (a := 41) (as := [.ref 133, .int (nI 20)]) (rest := [.ref 133, .ref 132]) (lv0 := [(0, .ref 133), (1, .int (nI 20))]) (Q1 := (fun r h' => r = none ∧ h' = (135, ci_95, lz0, cr_132))) rfl rfl (CV_60 (d + 0) ⟨rfl, rfl⟩) (fun r h' hr => ?_)
  obtain ⟨rfl, rfl⟩ := hr
  refine Ev.run 4 (pc' := 22) (lv' := [(0, .ref 132)]) (st' := []) (h' := (135, ci_96, lz0, cr_133)) rfl ?_
  exact Ev.ret (v := none) rfl hq
theorem CV_62 (d : Nat) {Q : Po} (hq : Q none (139, ci_99, lz0, cr_137)) : Ev L xs (d + 2) 63 0 [(0, .ref 136)] [] (137, ci_96, lz0, cr_135) Q := by
  refine Ev.run 8 (pc' := 15) (lv' := [(0, .ref 136)]) (st' := [.int (nI 20), .ref 136]) (h' := (138, ci_96, lz0, cr_136)) rfl ?_
  refine Ev.run 8 (pc' := 30) (lv' := [(0, .ref 136)]) (st' := []) (h' := (139, ci_98, lz0, cr_137)) rfl ?_
  refine Ev.run 3 (pc' := 35) (lv' := [(0, .ref 136)]) (st' := []) (h' := (139, ci_99, lz0, cr_137)) rfl ?_
  exact Ev.ret (v := none) rfl hq
theorem CV_63 (d : Nat) {Q : Po} (hq : Q none (142, ci_102, lz0, cr_140)) : Ev L xs (d + 2) 63 0 [(0, .ref 139)] [] (140, ci_99, lz0, cr_138) Q := by
  refine Ev.run 8 (pc' := 15) (lv' := [(0, .ref 139)]) (st' := [.int (nI 20), .ref 139]) (h' := (141, ci_99, lz0, cr_139)) rfl ?_
  refine Ev.run 8 (pc' := 30) (lv' := [(0, .ref 139)]) (st' := []) (h' := (142, ci_101, lz0, cr_140)) rfl ?_
  refine Ev.run 3 (pc' := 35) (lv' := [(0, .ref 139)]) (st' := []) (h' := (142, ci_102, lz0, cr_140)) rfl ?_
  exact Ev.ret (v := none) rfl hq
theorem CV_64 (d : Nat) {Q : Po} (hq : Q none (145, ci_105, lz0, cr_143)) : Ev L xs (d + 2) 63 0 [(0, .ref 142)] [] (143, ci_102, lz0, cr_141) Q := by
  refine Ev.run 8 (pc' := 15) (lv' := [(0, .ref 142)]) (st' := [.int (nI 20), .ref 142]) (h' := (144, ci_102, lz0, cr_142)) rfl ?_
  refine Ev.run 8 (pc' := 30) (lv' := [(0, .ref 142)]) (st' := []) (h' := (145, ci_104, lz0, cr_143)) rfl ?_
  refine Ev.run 3 (pc' := 35) (lv' := [(0, .ref 142)]) (st' := []) (h' := (145, ci_105, lz0, cr_143)) rfl ?_
  exact Ev.ret (v := none) rfl hq
theorem CV_65 (d : Nat) {Q : Po} (hq : Q none (148, ci_108, lz0, cr_146)) : Ev L xs (d + 2) 63 0 [(0, .ref 145)] [] (146, ci_105, lz0, cr_144) Q := by
  refine Ev.run 8 (pc' := 15) (lv' := [(0, .ref 145)]) (st' := [.int (nI 20), .ref 145]) (h' := (147, ci_105, lz0, cr_145)) rfl ?_
  refine Ev.run 8 (pc' := 30) (lv' := [(0, .ref 145)]) (st' := []) (h' := (148, ci_107, lz0, cr_146)) rfl ?_
  refine Ev.run 3 (pc' := 35) (lv' := [(0, .ref 145)]) (st' := []) (h' := (148, ci_108, lz0, cr_146)) rfl ?_
  exact Ev.ret (v := none) rfl hq
theorem CV_66 (d : Nat) {Q : Po} (hq : Q none (151, ci_111, lz0, cr_149)) : Ev L xs (d + 2) 63 0 [(0, .ref 148)] [] (149, ci_108, lz0, cr_147) Q := by
  refine Ev.run 8 (pc' := 15) (lv' := [(0, .ref 148)]) (st' := [.int (nI 20), .ref 148]) (h' := (150, ci_108, lz0, cr_148)) rfl ?_
  refine Ev.run 8 (pc' := 30) (lv' := [(0, .ref 148)]) (st' := []) (h' := (151, ci_110, lz0, cr_149)) rfl ?_
  refine Ev.run 3 (pc' := 35) (lv' := [(0, .ref 148)]) (st' := []) (h' := (151, ci_111, lz0, cr_149)) rfl ?_
  exact Ev.ret (v := none) rfl hq
theorem CV_67 (d : Nat) {Q : Po} (hq : Q none (154, ci_114, lz0, cr_152)) : Ev L xs (d + 2) 63 0 [(0, .ref 151)] [] (152, ci_111, lz0, cr_150) Q := by
  refine Ev.run 8 (pc' := 15) (lv' := [(0, .ref 151)]) (st' := [.int (nI 20), .ref 151]) (h' := (153, ci_111, lz0, cr_151)) rfl ?_
  refine Ev.run 8 (pc' := 30) (lv' := [(0, .ref 151)]) (st' := []) (h' := (154, ci_113, lz0, cr_152)) rfl ?_
  refine Ev.run 3 (pc' := 35) (lv' := [(0, .ref 151)]) (st' := []) (h' := (154, ci_114, lz0, cr_152)) rfl ?_
  exact Ev.ret (v := none) rfl hq
theorem CV_68 (d : Nat) {Q : Po} (hq : Q none (156, ci_116, lz0, cr_154)) : Ev L xs (d + 2) 70 0 [(0, .ref 154)] [] (155, ci_114, lz0, cr_153) Q := by
  refine Ev.run 8 (pc' := 14) (lv' := [(0, .ref 154)]) (st' := [.int (nI 4294967295), .ref 154]) (h' := (156, ci_114, lz0, cr_154)) rfl ?_
  refine Ev.run 4 (pc' := 22) (lv' := [(0, .ref 154)]) (st' := []) (h' := (156, ci_116, lz0, cr_154)) rfl ?_
  exact Ev.ret (v := none) rfl hq
theorem CV_69 (d : Nat) {Q : Po} (hq : Q none (158, ci_118, lz0, cr_156)) : Ev L xs (d + 2) 70 0 [(0, .ref 156)] [] (157, ci_116, lz0, cr_155) Q := by
  refine Ev.run 8 (pc' := 14) (lv' := [(0, .ref 156)]) (st' := [.int (nI 4294967295), .ref 156]) (h' := (158, ci_116, lz0, cr_156)) rfl ?_
  refine Ev.run 4 (pc' := 22) (lv' := [(0, .ref 156)]) (st' := []) (h' := (158, ci_118, lz0, cr_156)) rfl ?_
  exact Ev.ret (v := none) rfl hq
theorem CV_70 (d : Nat) {Q : Po} (hq : Q none (160, ci_120, lz0, cr_158)) : Ev L xs (d + 2) 70 0 [(0, .ref 158)] [] (159, ci_118, lz0, cr_157) Q := by
  refine Ev.run 8 (pc' := 14) (lv' := [(0, .ref 158)]) (st' := [.int (nI 4294967295), .ref 158]) (h' := (160, ci_118, lz0, cr_158)) rfl ?_
  refine Ev.run 4 (pc' := 22) (lv' := [(0, .ref 158)]) (st' := []) (h' := (160, ci_120, lz0, cr_158)) rfl ?_
  exact Ev.ret (v := none) rfl hq
theorem CV_71 (d : Nat) {Q : Po} (hq : Q none (162, ci_122, lz0, cr_160)) : Ev L xs (d + 2) 70 0 [(0, .ref 160)] [] (161, ci_120, lz0, cr_159) Q := by
  refine Ev.run 8 (pc' := 14) (lv' := [(0, .ref 160)]) (st' := [.int (nI 4294967295), .ref 160]) (h' := (162, ci_120, lz0, cr_160)) rfl ?_
  refine Ev.run 4 (pc' := 22) (lv' := [(0, .ref 160)]) (st' := []) (h' := (162, ci_122, lz0, cr_160)) rfl ?_
  exact Ev.ret (v := none) rfl hq
theorem CV_72 (d : Nat) {Q : Po} (hq : Q none (164, ci_124, lz0, cr_162)) : Ev L xs (d + 2) 70 0 [(0, .ref 162)] [] (163, ci_122, lz0, cr_161) Q := by
  refine Ev.run 8 (pc' := 14) (lv' := [(0, .ref 162)]) (st' := [.int (nI 4294967295), .ref 162]) (h' := (164, ci_122, lz0, cr_162)) rfl ?_
  refine Ev.run 4 (pc' := 22) (lv' := [(0, .ref 162)]) (st' := []) (h' := (164, ci_124, lz0, cr_162)) rfl ?_
  exact Ev.ret (v := none) rfl hq
theorem CV_73 (d : Nat) {Q : Po} (hq : Q none (166, ci_126, lz0, cr_164)) : Ev L xs (d + 2) 70 0 [(0, .ref 164)] [] (165, ci_124, lz0, cr_163) Q := by
  refine Ev.run 8 (pc' := 14) (lv' := [(0, .ref 164)]) (st' := [.int (nI 4294967295), .ref 164]) (h' := (166, ci_124, lz0, cr_164)) rfl ?_
  refine Ev.run 4 (pc' := 22) (lv' := [(0, .ref 164)]) (st' := []) (h' := (166, ci_126, lz0, cr_164)) rfl ?_
  exact Ev.ret (v := none) rfl hq
theorem CV_74 (d : Nat) {Q : Po} (hq : Q none (166, ci_126, lz0, cr_165)) : Ev L xs (d + 5) 75 0 [(0, .ref 0)] [] (1, ci_0, lz0, cr_0) Q := by
  refine Ev.run 6 (pc' := 11) (lv' := [(0, .ref 0)]) (st' := [.int (nI 6), .ref 1, .ref 1, .ref 0]) (h' := (2, ci_0, lz0, cr_0)) rfl ?_
  refine Ev.call (a := 41) (as := [.ref 1, .int (nI 6)]) (rest := [.ref 1, .ref 0]) (lv0 := [(0, .ref 1), (1, .int (nI 6))]) (Q1 := (fun r h' => r = none ∧ h' = (3, ci_1, lz0, cr_1))) rfl rfl (CV_1 (d + 2) ⟨rfl, rfl⟩) (fun r h' hr => ?_)
  obtain ⟨rfl, rfl⟩ := hr
  refine Ev.run 5 (pc' := 24) (lv' := [(0, .ref 0)]) (st' := [.int (nI 100), .ref 3, .ref 3, .ref 0]) (h' := (4, ci_1, lz0, cr_2)) rfl ?_
  refine Ev.call (a := 41) (as := [.ref 3, .int (nI 100)]) (rest := [.ref 3, .ref 0]) (lv0 := [(0, .ref 3), (1, .int (nI 100))]) (Q1 := (fun r h' => r = none ∧ h' = (5, ci_2, lz0, cr_3))) rfl rfl (CV_2 (d + 2) ⟨rfl, rfl⟩) (fun r h' hr => ?_)
  obtain ⟨rfl, rfl⟩ := hr
  refine Ev.run 4 (pc' := 35) (lv' := [(0, .ref 0)]) (st' := [.ref 5, .ref 5, .ref 0]) (h' := (6, ci_2, lz0, cr_4)) rfl ?_
  refine Ev.call (a := 50) (as := [.ref 5]) (rest := [.ref 5, .ref 0]) (lv0 := [(0, .ref 5)]) (Q1 := (fun r h' => r = none ∧ h' = (11, ci_8, lz0, cr_9))) rfl rfl (CV_5 (d + 1) ⟨rfl, rfl⟩) (fun r h' hr => ?_)
  obtain ⟨rfl, rfl⟩ := hr
  refine Ev.run 8 (pc' := 55) (lv' := [(0, .ref 0)]) (st' := []) (h' := (12, ci_9, lz0, cr_11)) rfl ?_
  refine Ev.run 3 (pc' := 60) (lv' := [(0, .ref 0)]) (st' := [.ref 12, .ref 12, .ref 0]) (h' := (13, ci_9, lz0, cr_11)) rfl ?_
  refine Ev.call (a := 21) (as := [.ref 12]) (rest := [.ref 12, .ref 0]) (lv0 := [(0, .ref 12)]) (Q1 := (fun r h' => r = none ∧ h' = (70, ci_49, lz0, cr_68))) rfl rfl (CV_31 (d + 0) ⟨rfl, rfl⟩) (fun r h' hr => ?_)
  obtain ⟨rfl, rfl⟩ := hr
  refine Ev.run 4 (pc' := 71) (lv' := [(0, .ref 0)]) (st' := [.ref 70, .ref 70, .ref 0]) (h' := (71, ci_49, lz0, cr_69)) rfl ?_
  refine Ev.call (a := 21) (as := [.ref 70]) (rest := [.ref 70, .ref 0]) (lv0 := [(0, .ref 70)]) (Q1 := (fun r h' => r = none ∧ h' = (128, ci_89, lz0, cr_126))) rfl rfl (CV_57 (d + 0) ⟨rfl, rfl⟩) (fun r h' hr => ?_)
  obtain ⟨rfl, rfl⟩ := hr
  refine Ev.run 7 (pc' := 87) (lv' := [(0, .ref 0)]) (st' := [.ref 128, .ref 128, .ref 0]) (h' := (129, ci_90, lz0, cr_127)) rfl ?_
  refine Ev.call (a := 60) (as := [.ref 128]) (rest := [.ref 128, .ref 0]) (lv0 := [(0, .ref 128)]) (Q1 := (fun r h' => r = none ∧ h' = (132, ci_94, lz0, cr_130))) rfl rfl (CV_59 (d + 1) ⟨rfl, rfl⟩) (fun r h' hr => ?_)
  obtain ⟨rfl, rfl⟩ := hr
  refine Ev.run 4 (pc' := 98) (lv' := [(0, .ref 0)]) (st' := [.ref 132, .ref 132, .ref 0]) (h' := (133, ci_94, lz0, cr_131)) rfl ?_
  refine Ev.call (a := 1) (as := [.ref 132]) (rest := [.ref 132, .ref 0]) (lv0 := [(0, .ref 132)]) (Q1 := (fun r h' => r = none ∧ h' = (135, ci_96, lz0, cr_133))) rfl rfl (CV_61 (d + 1) ⟨rfl, rfl⟩) (fun r h' hr => ?_)
  obtain ⟨rfl, rfl⟩ := hr
  refine Ev.run 8 (pc' := 116) (lv' := [(1, .int (nI 0)), (0, .ref 0)]) (st' := [.int (nI 0)]) (h' := (136, ci_96, lz0, cr_135)) rfl ?_
  refine Ev.run 2 (pc' := (if nI 6 ≤ nI 0 then 140 else 121)) (lv' := [(1, .int (nI 0)), (0, .ref 0)]) (st' := []) (h' := (136, ci_96, lz0, cr_135)) rfl ?_
  refine Ev.ite (fun z => absurd z (by decide)) (fun _ => ?_)
  refine Ev.run 5 (pc' := 130) (lv' := [(1, .int (nI 0)), (0, .ref 0)]) (st' := [.ref 136, .ref 136, .int (nI 0), .ref 11]) (h' := (137, ci_96, lz0, cr_135)) rfl ?_
  refine Ev.call (a := 63) (as := [.ref 136]) (rest := [.ref 136, .int (nI 0), .ref 11]) (lv0 := [(0, .ref 136)]) (Q1 := (fun r h' => r = none ∧ h' = (139, ci_99, lz0, cr_137))) rfl rfl (CV_62 (d + 2) ⟨rfl, rfl⟩) (fun r h' hr => ?_)
  obtain ⟨rfl, rfl⟩ := hr
  refine Ev.run 6 (pc' := (if nI 6 ≤ nI 1 then 140 else 121)) (lv' := [(1, .int (nI 1)), (0, .ref 0)]) (st' := []) (h' := (139, ci_99, lz0, cr_138)) rfl ?_
  refine Ev.ite (fun z => absurd z (by decide)) (fun _ => ?_)
  refine Ev.run 5 (pc' := 130) (lv' := [(1, .int (nI 1)), (0, .ref 0)]) (st' := [.ref 139, .ref 139, .int (nI 1), .ref 11]) (h' := (140, ci_99, lz0, cr_138)) rfl ?_
  refine Ev.call (a := 63) (as := [.ref 139]) (rest := [.ref 139, .int (nI 1), .ref 11]) (lv0 := [(0, .ref 139)]) (Q1 := (fun r h' => r = none ∧ h' = (142, ci_102, lz0, cr_140))) rfl rfl (CV_63 (d + 2) ⟨rfl, rfl⟩) (fun r h' hr => ?_)
  obtain ⟨rfl, rfl⟩ := hr
  refine Ev.run 6 (pc' := (if nI 6 ≤ nI 2 then 140 else 121)) (lv' := [(1, .int (nI 2)), (0, .ref 0)]) (st' := []) (h' := (142, ci_102, lz0, cr_141)) rfl ?_
  refine Ev.ite (fun z => absurd z (by decide)) (fun _ => ?_)
  refine Ev.run 5 (pc' := 130) (lv' := [(1, .int (nI 2)), (0, .ref 0)]) (st' := [.ref 142, .ref 142, .int (nI 2), .ref 11]) (h' := (143, ci_102, lz0, cr_141)) rfl ?_
  refine Ev.call (a := 63) (as := [.ref 142]) (rest := [.ref 142, .int (nI 2), .ref 11]) (lv0 := [(0, .ref 142)]) (Q1 := (fun r h' => r = none ∧ h' = (145, ci_105, lz0, cr_143))) rfl rfl (CV_64 (d + 2) ⟨rfl, rfl⟩) (fun r h' hr => ?_)
  obtain ⟨rfl, rfl⟩ := hr
  refine Ev.run 6 (pc' := (if nI 6 ≤ nI 3 then 140 else 121)) (lv' := [(1, .int (nI 3)), (0, .ref 0)]) (st' := []) (h' := (145, ci_105, lz0, cr_144)) rfl ?_
  refine Ev.ite (fun z => absurd z (by decide)) (fun _ => ?_)
  refine Ev.run 5 (pc' := 130) (lv' := [(1, .int (nI 3)), (0, .ref 0)]) (st' := [.ref 145, .ref 145, .int (nI 3), .ref 11]) (h' := (146, ci_105, lz0, cr_144)) rfl ?_
  refine Ev.call (a := 63) (as := [.ref 145]) (rest := [.ref 145, .int (nI 3), .ref 11]) (lv0 := [(0, .ref 145)]) (Q1 := (fun r h' => r = none ∧ h' = (148, ci_108, lz0, cr_146))) rfl rfl (CV_65 (d + 2) ⟨rfl, rfl⟩) (fun r h' hr => ?_)
  obtain ⟨rfl, rfl⟩ := hr
  refine Ev.run 6 (pc' := (if nI 6 ≤ nI 4 then 140 else 121)) (lv' := [(1, .int (nI 4)), (0, .ref 0)]) (st' := []) (h' := (148, ci_108, lz0, cr_147)) rfl ?_
  refine Ev.ite (fun z => absurd z (by decide)) (fun _ => ?_)
  refine Ev.run 5 (pc' := 130) (lv' := [(1, .int (nI 4)), (0, .ref 0)]) (st' := [.ref 148, .ref 148, .int (nI 4), .ref 11]) (h' := (149, ci_108, lz0, cr_147)) rfl ?_
  refine Ev.call (a := 63) (as := [.ref 148]) (rest := [.ref 148, .int (nI 4), .ref 11]) (lv0 := [(0, .ref 148)]) (Q1 := (fun r h' => r = none ∧ h' = (151, ci_111, lz0, cr_149))) rfl rfl (CV_66 (d + 2) ⟨rfl, rfl⟩) (fun r h' hr => ?_)
  obtain ⟨rfl, rfl⟩ := hr
  refine Ev.run 6 (pc' := (if nI 6 ≤ nI 5 then 140 else 121)) (lv' := [(1, .int (nI 5)), (0, .ref 0)]) (st' := []) (h' := (151, ci_111, lz0, cr_150)) rfl ?_
  refine Ev.ite (fun z => absurd z (by decide)) (fun _ => ?_)
  refine Ev.run 5 (pc' := 130) (lv' := [(1, .int (nI 5)), (0, .ref 0)]) (st' := [.ref 151, .ref 151, .int (nI 5), .ref 11]) (h' := (152, ci_111, lz0, cr_150)) rfl ?_
  refine Ev.call (a := 63) (as := [.ref 151]) (rest := [.ref 151, .int (nI 5), .ref 11]) (lv0 := [(0, .ref 151)]) (Q1 := (fun r h' => r = none ∧ h' = (154, ci_114, lz0, cr_152))) rfl rfl (CV_67 (d + 2) ⟨rfl, rfl⟩) (fun r h' hr => ?_)
  obtain ⟨rfl, rfl⟩ := hr
  refine Ev.run 6 (pc' := (if nI 6 ≤ nI 6 then 140 else 121)) (lv' := [(1, .int (nI 6)), (0, .ref 0)]) (st' := []) (h' := (154, ci_114, lz0, cr_153)) rfl ?_
  refine Ev.ite (fun _ => ?_) (fun z => absurd (by decide) z)
  refine Ev.run 5 (pc' := (if nI 6 ≤ nI 0 then 167 else 148)) (lv' := [(1, .int (nI 0)), (0, .ref 0)]) (st' := []) (h' := (154, ci_114, lz0, cr_153)) rfl ?_
  refine Ev.ite (fun z => absurd z (by decide)) (fun _ => ?_)
  refine Ev.run 5 (pc' := 157) (lv' := [(1, .int (nI 0)), (0, .ref 0)]) (st' := [.ref 154, .ref 154, .int (nI 0), .ref 135]) (h' := (155, ci_114, lz0, cr_153)) rfl ?_
  refine Ev.call (a := 70) (as := [.ref 154]) (rest := [.ref 154, .int (nI 0), .ref 135]) (lv0 := [(0, .ref 154)]) (Q1 := (fun r h' => r = none ∧ h' = (156, ci_116, lz0, cr_154))) rfl rfl (CV_68 (d + 2) ⟨rfl, rfl⟩) (fun r h' hr => ?_)
  obtain ⟨rfl, rfl⟩ := hr
  refine Ev.run 6 (pc' := (if nI 6 ≤ nI 1 then 167 else 148)) (lv' := [(1, .int (nI 1)), (0, .ref 0)]) (st' := []) (h' := (156, ci_116, lz0, cr_155)) rfl ?_
  refine Ev.ite (fun z => absurd z (by decide)) (fun _ => ?_)
  refine Ev.run 5 (pc' := 157) (lv' := [(1, .int (nI 1)), (0, .ref 0)]) (st' := [.ref 156, .ref 156, .int (nI 1), .ref 135]) (h' := (157, ci_116, lz0, cr_155)) rfl ?_
  refine Ev.call (a := 70) (as := [.ref 156]) (rest := [.ref 156, .int (nI 1), .ref 135]) (lv0 := [(0, .ref 156)]) (Q1 := (fun r h' => r = none ∧ h' = (158, ci_118, lz0, cr_156))) rfl rfl (CV_69 (d + 2) ⟨rfl, rfl⟩) (fun r h' hr => ?_)
  obtain ⟨rfl, rfl⟩ := hr
  refine Ev.run 6 (pc' := (if nI 6 ≤ nI 2 then 167 else 148)) (lv' := [(1, .int (nI 2)), (0, .ref 0)]) (st' := []) (h' := (158, ci_118, lz0, cr_157)) rfl ?_
  refine Ev.ite (fun z => absurd z (by decide)) (fun _ => ?_)
  refine Ev.run 5 (pc' := 157) (lv' := [(1, .int (nI 2)), (0, .ref 0)]) (st' := [.ref 158, .ref 158, .int (nI 2), .ref 135]) (h' := (159, ci_118, lz0, cr_157)) rfl ?_
  refine Ev.call (a := 70) (as := [.ref 158]) (rest := [.ref 158, .int (nI 2), .ref 135]) (lv0 := [(0, .ref 158)]) (Q1 := (fun r h' => r = none ∧ h' = (160, ci_120, lz0, cr_158))) rfl rfl (CV_70 (d + 2) ⟨rfl, rfl⟩) (fun r h' hr => ?_)
  obtain ⟨rfl, rfl⟩ := hr
  refine Ev.run 6 (pc' := (if nI 6 ≤ nI 3 then 167 else 148)) (lv' := [(1, .int (nI 3)), (0, .ref 0)]) (st' := []) (h' := (160, ci_120, lz0, cr_159)) rfl ?_
  refine Ev.ite (fun z => absurd z (by decide)) (fun _ => ?_)
  refine Ev.run 5 (pc' := 157) (lv' := [(1, .int (nI 3)), (0, .ref 0)]) (st' := [.ref 160, .ref 160, .int (nI 3), .ref 135]) (h' := (161, ci_120, lz0, cr_159)) rfl ?_
  refine Ev.call (a := 70) (as := [.ref 160]) (rest := [.ref 160, .int (nI 3), .ref 135]) (lv0 := [(0, .ref 160)]) (Q1 := (fun r h' => r = none ∧ h' = (162, ci_122, lz0, cr_160))) rfl rfl (CV_71 (d + 2) ⟨rfl, rfl⟩) (fun r h' hr => ?_)
  obtain ⟨rfl, rfl⟩ := hr
  refine Ev.run 6 (pc' := (if nI 6 ≤ nI 4 then 167 else 148)) (lv' := [(1, .int (nI 4)), (0, .ref 0)]) (st' := []) (h' := (162, ci_122, lz0, cr_161)) rfl ?_
  refine Ev.ite (fun z => absurd z (by decide)) (fun _ => ?_)
  refine Ev.run 5 (pc' := 157) (lv' := [(1, .int (nI 4)), (0, .ref 0)]) (st' := [.ref 162, .ref 162, .int (nI 4), .ref 135]) (h' := (163, ci_122, lz0, cr_161)) rfl ?_
  refine Ev.call (a := 70) (as := [.ref 162]) (rest := [.ref 162, .int (nI 4), .ref 135]) (lv0 := [(0, .ref 162)]) (Q1 := (fun r h' => r = none ∧ h' = (164, ci_124, lz0, cr_162))) rfl rfl (CV_72 (d + 2) ⟨rfl, rfl⟩) (fun r h' hr => ?_)
  obtain ⟨rfl, rfl⟩ := hr
  refine Ev.run 6 (pc' := (if nI 6 ≤ nI 5 then 167 else 148)) (lv' := [(1, .int (nI 5)), (0, .ref 0)]) (st' := []) (h' := (164, ci_124, lz0, cr_163)) rfl ?_
  refine Ev.ite (fun z => absurd z (by decide)) (fun _ => ?_)
  refine Ev.run 5 (pc' := 157) (lv' := [(1, .int (nI 5)), (0, .ref 0)]) (st' := [.ref 164, .ref 164, .int (nI 5), .ref 135]) (h' := (165, ci_124, lz0, cr_163)) rfl ?_
  refine Ev.call (a := 70) (as := [.ref 164]) (rest := [.ref 164, .int (nI 5), .ref 135]) (lv0 := [(0, .ref 164)]) (Q1 := (fun r h' => r = none ∧ h' = (166, ci_126, lz0, cr_164))) rfl rfl (CV_73 (d + 2) ⟨rfl, rfl⟩) (fun r h' hr => ?_)
  obtain ⟨rfl, rfl⟩ := hr
  refine Ev.run 6 (pc' := (if nI 6 ≤ nI 6 then 167 else 148)) (lv' := [(1, .int (nI 6)), (0, .ref 0)]) (st' := []) (h' := (166, ci_126, lz0, cr_165)) rfl ?_
  refine Ev.ite (fun _ => ?_) (fun z => absurd (by decide) z)
  exact Ev.ret (v := none) rfl hq
theorem CV_75 (d : Nat) {Q : Po} (hq : Q none (210, ci_180, lz0, cr_208)) : Ev L xs (d + 2) 125 0 [(0, .ref 166)] [] (167, ci_126, lz0, cr_165) Q := by
  refine Ev.run 8 (pc' := 14) (lv' := [(0, .ref 166)]) (st' := []) (h' := (167, ci_128, lz0, cr_165)) rfl ?_
  refine Ev.run 8 (pc' := 30) (lv' := [(0, .ref 166)]) (st' := []) (h' := (169, ci_128, lz0, cr_167)) rfl ?_
  refine Ev.run 8 (pc' := 46) (lv' := [(0, .ref 166)]) (st' := []) (h' := (171, ci_128, lz0, cr_169)) rfl ?_
  refine Ev.run 8 (pc' := 58) (lv' := [(0, .ref 166)]) (st' := [.int (nI 4294967295), .ref 166]) (h' := (171, ci_130, lz0, cr_169)) rfl ?_
  refine Ev.run 8 (pc' := 73) (lv' := [(0, .ref 166)]) (st' := []) (h' := (172, ci_132, lz0, cr_170)) rfl ?_
  refine Ev.run 8 (pc' := 87) (lv' := [(0, .ref 166)]) (st' := []) (h' := (174, ci_132, lz0, cr_172)) rfl ?_
  refine Ev.run 8 (pc' := 103) (lv' := [(0, .ref 166)]) (st' := []) (h' := (176, ci_132, lz0, cr_174)) rfl ?_
  refine Ev.run 8 (pc' := 115) (lv' := [(0, .ref 166)]) (st' := [.int (nI 0), .ref 166]) (h' := (176, ci_134, lz0, cr_174)) rfl ?_
  refine Ev.run 8 (pc' := 129) (lv' := [(0, .ref 166)]) (st' := [.ref 166]) (h' := (176, ci_137, lz0, cr_174)) rfl ?_
  refine Ev.run 8 (pc' := 145) (lv' := [(0, .ref 166)]) (st' := [.ref 166]) (h' := (178, ci_137, lz0, cr_176)) rfl ?_
  refine Ev.run 8 (pc' := 161) (lv' := [(0, .ref 166)]) (st' := [.ref 166]) (h' := (180, ci_137, lz0, cr_178)) rfl ?_
  refine Ev.run 8 (pc' := 177) (lv' := [(0, .ref 166)]) (st' := [.ref 166]) (h' := (182, ci_137, lz0, cr_180)) rfl ?_
  refine Ev.run 8 (pc' := 194) (lv' := [(0, .ref 166)]) (st' := [.ref 166]) (h' := (184, ci_137, lz0, cr_182)) rfl ?_
  refine Ev.run 8 (pc' := 208) (lv' := [(0, .ref 166)]) (st' := []) (h' := (184, ci_140, lz0, cr_182)) rfl ?_
  refine Ev.run 8 (pc' := 219) (lv' := [(0, .ref 166)]) (st' := [.ref 184, .ref 184, .ref 166]) (h' := (185, ci_141, lz0, cr_182)) rfl ?_
  refine Ev.run 8 (pc' := 229) (lv' := [(0, .ref 166)]) (st' := [.ref 184, .ref 184, .ref 166]) (h' := (185, ci_143, lz0, cr_182)) rfl ?_
  refine Ev.run 8 (pc' := 239) (lv' := [(0, .ref 166)]) (st' := [.ref 184, .ref 184, .ref 166]) (h' := (185, ci_145, lz0, cr_182)) rfl ?_
  refine Ev.run 8 (pc' := 250) (lv' := [(0, .ref 166)]) (st' := [.ref 184, .ref 184, .ref 166]) (h' := (185, ci_147, lz0, cr_182)) rfl ?_
  refine Ev.run 8 (pc' := 262) (lv' := [(0, .ref 166)]) (st' := [.ref 184, .ref 184, .ref 166]) (h' := (185, ci_149, lz0, cr_182)) rfl ?_
  refine Ev.run 8 (pc' := 274) (lv' := [(0, .ref 166)]) (st' := [.ref 184, .ref 184, .ref 166]) (h' := (185, ci_151, lz0, cr_182)) rfl ?_
  refine Ev.run 8 (pc' := 286) (lv' := [(0, .ref 166)]) (st' := [.ref 184, .ref 184, .ref 166]) (h' := (185, ci_153, lz0, cr_182)) rfl ?_
  refine Ev.run 8 (pc' := 302) (lv' := [(0, .ref 166)]) (st' := []) (h' := (186, ci_154, lz0, cr_184)) rfl ?_
  refine Ev.run 8 (pc' := 315) (lv' := [(0, .ref 166)]) (st' := [.int (nI 84), .ref 166]) (h' := (186, ci_156, lz0, cr_184)) rfl ?_
  refine Ev.run 8 (pc' := 330) (lv' := [(0, .ref 166)]) (st' := []) (h' := (187, ci_158, lz0, cr_185)) rfl ?_
  refine Ev.run 8 (pc' := 343) (lv' := [(0, .ref 166)]) (st' := [.int (nI 12), .ref 166]) (h' := (187, ci_160, lz0, cr_185)) rfl ?_
  refine Ev.run 8 (pc' := 357) (lv' := [(0, .ref 166)]) (st' := [.int (nI 0), .ref 166]) (h' := (189, ci_160, lz0, cr_187)) rfl ?_
  refine Ev.run 8 (pc' := 371) (lv' := [(0, .ref 166)]) (st' := [.ref 166]) (h' := (189, ci_163, lz0, cr_187)) rfl ?_
  refine Ev.run 8 (pc' := 387) (lv' := [(0, .ref 166)]) (st' := [.ref 166]) (h' := (191, ci_163, lz0, cr_189)) rfl ?_
  refine Ev.run 8 (pc' := 402) (lv' := [(0, .ref 166)]) (st' := [.int (nI 8), .ref 166]) (h' := (192, ci_164, lz0, cr_190)) rfl ?_
  refine Ev.run 8 (pc' := 417) (lv' := [(0, .ref 166)]) (st' := []) (h' := (193, ci_166, lz0, cr_191)) rfl ?_
  refine Ev.run 8 (pc' := 429) (lv' := [(0, .ref 166)]) (st' := [.int (nI 0), .ref 166]) (h' := (193, ci_168, lz0, cr_191)) rfl ?_
  refine Ev.run 8 (pc' := 443) (lv' := [(0, .ref 166)]) (st' := [.ref 166]) (h' := (193, ci_171, lz0, cr_191)) rfl ?_
  refine Ev.run 8 (pc' := 457) (lv' := [(0, .ref 166)]) (st' := [.ref 193, .ref 166]) (h' := (194, ci_173, lz0, cr_191)) rfl ?_
  refine Ev.run 8 (pc' := 473) (lv' := [(0, .ref 166)]) (st' := [.ref 195, .ref 166]) (h' := (196, ci_173, lz0, cr_193)) rfl ?_
  refine Ev.run 8 (pc' := 487) (lv' := [(0, .ref 166)]) (st' := [.ref 197, .ref 166]) (h' := (198, ci_173, lz0, cr_195)) rfl ?_
  refine Ev.run 8 (pc' := 502) (lv' := [(0, .ref 166)]) (st' := [.ref 199, .ref 166]) (h' := (200, ci_173, lz0, cr_197)) rfl ?_
  refine Ev.run 8 (pc' := 518) (lv' := [(0, .ref 166)]) (st' := [.ref 201, .ref 166]) (h' := (202, ci_173, lz0, cr_199)) rfl ?_
  refine Ev.run 8 (pc' := 534) (lv' := [(0, .ref 166)]) (st' := [.ref 203, .ref 166]) (h' := (204, ci_173, lz0, cr_201)) rfl ?_
  refine Ev.run 8 (pc' := 550) (lv' := [(0, .ref 166)]) (st' := []) (h' := (205, ci_174, lz0, cr_203)) rfl ?_
  refine Ev.run 8 (pc' := 564) (lv' := [(0, .ref 166)]) (st' := [.ref 206, .ref 206, .ref 166]) (h' := (207, ci_174, lz0, cr_204)) rfl ?_
  refine Ev.run 8 (pc' := 572) (lv' := [(0, .ref 166)]) (st' := [.ref 206, .ref 206, .ref 166]) (h' := (207, ci_176, lz0, cr_204)) rfl ?_
  refine Ev.run 8 (pc' := 580) (lv' := [(0, .ref 166)]) (st' := [.ref 206, .ref 206, .ref 166]) (h' := (207, ci_178, lz0, cr_204)) rfl ?_
  refine Ev.run 8 (pc' := 590) (lv' := [(0, .ref 166)]) (st' := []) (h' := (207, ci_180, lz0, cr_205)) rfl ?_
  refine Ev.run 8 (pc' := 607) (lv' := [(0, .ref 166)]) (st' := []) (h' := (209, ci_180, lz0, cr_207)) rfl ?_
  refine Ev.run 4 (pc' := 615) (lv' := [(0, .ref 166)]) (st' := []) (h' := (210, ci_180, lz0, cr_208)) rfl ?_
  exact Ev.ret (v := none) rfl hq
end CV
