/-! the first cells are whole -/
def g0 : Nat → Nat → Nat := fun k j => (ci_180 k j).toBitVec.toNat
theorem g0_eq : ci_180 = fun k j => nI (g0 k j) := funext fun k => funext fun j => nI_ext (Nat.mod_eq_of_lt (BitVec.isLt _)).symm
theorem cnd_nn (c : Bool) : (bif c then (none : Option Nat) else none) = none := by cases c <;> rfl
theorem cf_0 (k j : Nat) (_ : 77 ≤ j) : cr_0 k j = none := rfl
theorem cf_1 (k j : Nat) (h : 77 ≤ j) : cr_1 k j = none := (u2_off _ _ (fun z => by omega)).trans (cf_0 k j h)
theorem cf_2 (k j : Nat) (h : 77 ≤ j) : cr_2 k j = none := (u2_off _ _ (fun z => by omega)).trans (cf_1 k j h)
theorem cf_3 (k j : Nat) (h : 77 ≤ j) : cr_3 k j = none := (u2_off _ _ (fun z => by omega)).trans (cf_2 k j h)
theorem cf_4 (k j : Nat) (h : 77 ≤ j) : cr_4 k j = none := (u2_off _ _ (fun z => by omega)).trans (cf_3 k j h)
theorem cf_5 (k j : Nat) (h : 77 ≤ j) : cr_5 k j = none := (u2_off _ _ (fun z => by omega)).trans (cf_4 k j h)
theorem cf_6 (k j : Nat) (h : 77 ≤ j) : cr_6 k j = none := (u2_off _ _ (fun z => by omega)).trans (cf_5 k j h)
theorem cf_7 (k j : Nat) (h : 77 ≤ j) : cr_7 k j = none := (u2_off _ _ (fun z => by omega)).trans (cf_6 k j h)
theorem cf_8 (k j : Nat) (h : 77 ≤ j) : cr_8 k j = none := (u2_off _ _ (fun z => by omega)).trans (cf_7 k j h)
theorem cf_9 (k j : Nat) (h : 77 ≤ j) : cr_9 k j = none := (u2_off _ _ (fun z => by omega)).trans (cf_8 k j h)
theorem cf_10 (k j : Nat) (h : 77 ≤ j) : cr_10 k j = none := (u2_off _ _ (fun z => by omega)).trans (cf_9 k j h)
theorem cf_11 (k j : Nat) (h : 77 ≤ j) : cr_11 k j = none := (u2_off _ _ (fun z => by omega)).trans (cf_10 k j h)
theorem cf_12 (k j : Nat) (h : 77 ≤ j) : cr_12 k j = none := (u2_off _ _ (fun z => by omega)).trans (cf_11 k j h)
theorem cf_13 (k j : Nat) (h : 77 ≤ j) : cr_13 k j = none := (u2_off _ _ (fun z => by omega)).trans (cf_12 k j h)
theorem cf_14 (k j : Nat) (h : 77 ≤ j) : cr_14 k j = none := (u2_off _ _ (fun z => by omega)).trans (cf_13 k j h)
theorem cf_15 (k j : Nat) (h : 77 ≤ j) : cr_15 k j = none := (u2_off _ _ (fun z => by omega)).trans (cf_14 k j h)
theorem cf_16 (k j : Nat) (h : 77 ≤ j) : cr_16 k j = none := (u2_off _ _ (fun z => by omega)).trans (cf_15 k j h)
theorem cf_17 (k j : Nat) (h : 77 ≤ j) : cr_17 k j = none := (u2_off _ _ (fun z => by omega)).trans (cf_16 k j h)
theorem cf_18 (k j : Nat) (h : 77 ≤ j) : cr_18 k j = none := (u2_off _ _ (fun z => by omega)).trans (cf_17 k j h)
theorem cf_19 (k j : Nat) (h : 77 ≤ j) : cr_19 k j = none := (u2_off _ _ (fun z => by omega)).trans (cf_18 k j h)
theorem cf_20 (k j : Nat) (h : 77 ≤ j) : cr_20 k j = none := (u2_off _ _ (fun z => by omega)).trans (cf_19 k j h)
theorem cf_21 (k j : Nat) (h : 77 ≤ j) : cr_21 k j = none := (u2_off _ _ (fun z => by omega)).trans (cf_20 k j h)
theorem cf_22 (k j : Nat) (h : 77 ≤ j) : cr_22 k j = none := (u2_off _ _ (fun z => by omega)).trans (cf_21 k j h)
theorem cf_23 (k j : Nat) (h : 77 ≤ j) : cr_23 k j = none := (u2_off _ _ (fun z => by omega)).trans (cf_22 k j h)
theorem cf_24 (k j : Nat) (h : 77 ≤ j) : cr_24 k j = none := (u2_off _ _ (fun z => by omega)).trans (cf_23 k j h)
theorem cf_25 (k j : Nat) (h : 77 ≤ j) : cr_25 k j = none := (u2_off _ _ (fun z => by omega)).trans (cf_24 k j h)
theorem cf_26 (k j : Nat) (h : 77 ≤ j) : cr_26 k j = none := (u2_off _ _ (fun z => by omega)).trans (cf_25 k j h)
theorem cf_27 (k j : Nat) (h : 77 ≤ j) : cr_27 k j = none := (u2_off _ _ (fun z => by omega)).trans (cf_26 k j h)
theorem cf_28 (k j : Nat) (h : 77 ≤ j) : cr_28 k j = none := (u2_off _ _ (fun z => by omega)).trans (cf_27 k j h)
theorem cf_29 (k j : Nat) (h : 77 ≤ j) : cr_29 k j = none := (u2_off _ _ (fun z => by omega)).trans (cf_28 k j h)
theorem cf_30 (k j : Nat) (h : 77 ≤ j) : cr_30 k j = none := (u2_off _ _ (fun z => by omega)).trans (cf_29 k j h)
theorem cf_31 (k j : Nat) (h : 77 ≤ j) : cr_31 k j = none := (u2_off _ _ (fun z => by omega)).trans (cf_30 k j h)
theorem cf_32 (k j : Nat) (h : 77 ≤ j) : cr_32 k j = none := (u2_off _ _ (fun z => by omega)).trans (cf_31 k j h)
theorem cf_33 (k j : Nat) (h : 77 ≤ j) : cr_33 k j = none := (u2_off _ _ (fun z => by omega)).trans (cf_32 k j h)
theorem cf_34 (k j : Nat) (h : 77 ≤ j) : cr_34 k j = none := (u2_off _ _ (fun z => by omega)).trans (cf_33 k j h)
theorem cf_35 (k j : Nat) (h : 77 ≤ j) : cr_35 k j = none := (u2_off _ _ (fun z => by omega)).trans (cf_34 k j h)
theorem cf_36 (k j : Nat) (h : 77 ≤ j) : cr_36 k j = none := (u2_off _ _ (fun z => by omega)).trans (cf_35 k j h)
theorem cf_37 (k j : Nat) (h : 77 ≤ j) : cr_37 k j = none := (u2_off _ _ (fun z => by omega)).trans (cf_36 k j h)
theorem cf_38 (k j : Nat) (h : 77 ≤ j) : cr_38 k j = none := (u2_off _ _ (fun z => by omega)).trans (cf_37 k j h)
theorem cf_39 (k j : Nat) (h : 77 ≤ j) : cr_39 k j = none := (u2_off _ _ (fun z => by omega)).trans (cf_38 k j h)
theorem cf_40 (k j : Nat) (h : 77 ≤ j) : cr_40 k j = none := (u2_off _ _ (fun z => by omega)).trans (cf_39 k j h)
theorem cf_41 (k j : Nat) (h : 77 ≤ j) : cr_41 k j = none := (u2_off _ _ (fun z => by omega)).trans (cf_40 k j h)
theorem cf_42 (k j : Nat) (h : 77 ≤ j) : cr_42 k j = none := (u2_off _ _ (fun z => by omega)).trans (cf_41 k j h)
theorem cf_43 (k j : Nat) (h : 77 ≤ j) : cr_43 k j = none := (u2_off _ _ (fun z => by omega)).trans (cf_42 k j h)
theorem cf_44 (k j : Nat) (h : 77 ≤ j) : cr_44 k j = none := (u2_off _ _ (fun z => by omega)).trans (cf_43 k j h)
theorem cf_45 (k j : Nat) (h : 77 ≤ j) : cr_45 k j = none := (u2_off _ _ (fun z => by omega)).trans (cf_44 k j h)
theorem cf_46 (k j : Nat) (h : 77 ≤ j) : cr_46 k j = none := (u2_off _ _ (fun z => by omega)).trans (cf_45 k j h)
theorem cf_47 (k j : Nat) (h : 77 ≤ j) : cr_47 k j = none := (u2_off _ _ (fun z => by omega)).trans (cf_46 k j h)
theorem cf_48 (k j : Nat) (h : 77 ≤ j) : cr_48 k j = none := (u2_off _ _ (fun z => by omega)).trans (cf_47 k j h)
theorem cf_49 (k j : Nat) (h : 77 ≤ j) : cr_49 k j = none := (u2_off _ _ (fun z => by omega)).trans (cf_48 k j h)
theorem cf_50 (k j : Nat) (h : 77 ≤ j) : cr_50 k j = none := (u2_off _ _ (fun z => by omega)).trans (cf_49 k j h)
theorem cf_51 (k j : Nat) (h : 77 ≤ j) : cr_51 k j = none := (u2_off _ _ (fun z => by omega)).trans (cf_50 k j h)
theorem cf_52 (k j : Nat) (h : 77 ≤ j) : cr_52 k j = none := (u2_off _ _ (fun z => by omega)).trans (cf_51 k j h)
theorem cf_53 (k j : Nat) (h : 77 ≤ j) : cr_53 k j = none := (u2_off _ _ (fun z => by omega)).trans (cf_52 k j h)
theorem cf_54 (k j : Nat) (h : 77 ≤ j) : cr_54 k j = none := (u2_off _ _ (fun z => by omega)).trans (cf_53 k j h)
theorem cf_55 (k j : Nat) (h : 77 ≤ j) : cr_55 k j = none := (u2_off _ _ (fun z => by omega)).trans (cf_54 k j h)
theorem cf_56 (k j : Nat) (h : 77 ≤ j) : cr_56 k j = none := (u2_off _ _ (fun z => by omega)).trans (cf_55 k j h)
theorem cf_57 (k j : Nat) (h : 77 ≤ j) : cr_57 k j = none := (u2_off _ _ (fun z => by omega)).trans (cf_56 k j h)
theorem cf_58 (k j : Nat) (h : 77 ≤ j) : cr_58 k j = none := (u2_off _ _ (fun z => by omega)).trans (cf_57 k j h)
theorem cf_59 (k j : Nat) (h : 77 ≤ j) : cr_59 k j = none := (u2_off _ _ (fun z => by omega)).trans (cf_58 k j h)
theorem cf_60 (k j : Nat) (h : 77 ≤ j) : cr_60 k j = none := (u2_off _ _ (fun z => by omega)).trans (cf_59 k j h)
theorem cf_61 (k j : Nat) (h : 77 ≤ j) : cr_61 k j = none := (u2_off _ _ (fun z => by omega)).trans (cf_60 k j h)
theorem cf_62 (k j : Nat) (h : 77 ≤ j) : cr_62 k j = none := (u2_off _ _ (fun z => by omega)).trans (cf_61 k j h)
theorem cf_63 (k j : Nat) (h : 77 ≤ j) : cr_63 k j = none := (u2_off _ _ (fun z => by omega)).trans (cf_62 k j h)
theorem cf_64 (k j : Nat) (h : 77 ≤ j) : cr_64 k j = none := (u2_off _ _ (fun z => by omega)).trans (cf_63 k j h)
theorem cf_65 (k j : Nat) (h : 77 ≤ j) : cr_65 k j = none := (u2_off _ _ (fun z => by omega)).trans (cf_64 k j h)
theorem cf_66 (k j : Nat) (h : 77 ≤ j) : cr_66 k j = none := (u2_off _ _ (fun z => by omega)).trans (cf_65 k j h)
theorem cf_67 (k j : Nat) (h : 77 ≤ j) : cr_67 k j = none := (u2_off _ _ (fun z => by omega)).trans (cf_66 k j h)
theorem cf_68 (k j : Nat) (h : 77 ≤ j) : cr_68 k j = none := (u2_off _ _ (fun z => by omega)).trans (cf_67 k j h)
theorem cf_69 (k j : Nat) (h : 77 ≤ j) : cr_69 k j = none := (u2_off _ _ (fun z => by omega)).trans (cf_68 k j h)
theorem cf_70 (k j : Nat) (h : 77 ≤ j) : cr_70 k j = none := (u2_off _ _ (fun z => by omega)).trans (cf_69 k j h)
theorem cf_71 (k j : Nat) (h : 77 ≤ j) : cr_71 k j = none := (u2_off _ _ (fun z => by omega)).trans (cf_70 k j h)
theorem cf_72 (k j : Nat) (h : 77 ≤ j) : cr_72 k j = none := (u2_off _ _ (fun z => by omega)).trans (cf_71 k j h)
theorem cf_73 (k j : Nat) (h : 77 ≤ j) : cr_73 k j = none := (u2_off _ _ (fun z => by omega)).trans (cf_72 k j h)
theorem cf_74 (k j : Nat) (h : 77 ≤ j) : cr_74 k j = none := (u2_off _ _ (fun z => by omega)).trans (cf_73 k j h)
theorem cf_75 (k j : Nat) (h : 77 ≤ j) : cr_75 k j = none := (u2_off _ _ (fun z => by omega)).trans (cf_74 k j h)
theorem cf_76 (k j : Nat) (h : 77 ≤ j) : cr_76 k j = none := (u2_off _ _ (fun z => by omega)).trans (cf_75 k j h)
theorem cf_77 (k j : Nat) (h : 77 ≤ j) : cr_77 k j = none := (u2_off _ _ (fun z => by omega)).trans (cf_76 k j h)
theorem cf_78 (k j : Nat) (h : 77 ≤ j) : cr_78 k j = none := (u2_off _ _ (fun z => by omega)).trans (cf_77 k j h)
theorem cf_79 (k j : Nat) (h : 77 ≤ j) : cr_79 k j = none := (u2_off _ _ (fun z => by omega)).trans (cf_78 k j h)
theorem cf_80 (k j : Nat) (h : 77 ≤ j) : cr_80 k j = none := (u2_off _ _ (fun z => by omega)).trans (cf_79 k j h)
theorem cf_81 (k j : Nat) (h : 77 ≤ j) : cr_81 k j = none := (u2_off _ _ (fun z => by omega)).trans (cf_80 k j h)
theorem cf_82 (k j : Nat) (h : 77 ≤ j) : cr_82 k j = none := (u2_off _ _ (fun z => by omega)).trans (cf_81 k j h)
theorem cf_83 (k j : Nat) (h : 77 ≤ j) : cr_83 k j = none := (u2_off _ _ (fun z => by omega)).trans (cf_82 k j h)
theorem cf_84 (k j : Nat) (h : 77 ≤ j) : cr_84 k j = none := (u2_off _ _ (fun z => by omega)).trans (cf_83 k j h)
theorem cf_85 (k j : Nat) (h : 77 ≤ j) : cr_85 k j = none := (u2_off _ _ (fun z => by omega)).trans (cf_84 k j h)
theorem cf_86 (k j : Nat) (h : 77 ≤ j) : cr_86 k j = none := (u2_off _ _ (fun z => by omega)).trans (cf_85 k j h)
theorem cf_87 (k j : Nat) (h : 77 ≤ j) : cr_87 k j = none := (u2_off _ _ (fun z => by omega)).trans (cf_86 k j h)
theorem cf_88 (k j : Nat) (h : 77 ≤ j) : cr_88 k j = none := (u2_off _ _ (fun z => by omega)).trans (cf_87 k j h)
theorem cf_89 (k j : Nat) (h : 77 ≤ j) : cr_89 k j = none := (u2_off _ _ (fun z => by omega)).trans (cf_88 k j h)
theorem cf_90 (k j : Nat) (h : 77 ≤ j) : cr_90 k j = none := (u2_off _ _ (fun z => by omega)).trans (cf_89 k j h)
theorem cf_91 (k j : Nat) (h : 77 ≤ j) : cr_91 k j = none := (u2_off _ _ (fun z => by omega)).trans (cf_90 k j h)
theorem cf_92 (k j : Nat) (h : 77 ≤ j) : cr_92 k j = none := (u2_off _ _ (fun z => by omega)).trans (cf_91 k j h)
theorem cf_93 (k j : Nat) (h : 77 ≤ j) : cr_93 k j = none := (u2_off _ _ (fun z => by omega)).trans (cf_92 k j h)
theorem cf_94 (k j : Nat) (h : 77 ≤ j) : cr_94 k j = none := (u2_off _ _ (fun z => by omega)).trans (cf_93 k j h)
theorem cf_95 (k j : Nat) (h : 77 ≤ j) : cr_95 k j = none := (u2_off _ _ (fun z => by omega)).trans (cf_94 k j h)
theorem cf_96 (k j : Nat) (h : 77 ≤ j) : cr_96 k j = none := (u2_off _ _ (fun z => by omega)).trans (cf_95 k j h)
theorem cf_97 (k j : Nat) (h : 77 ≤ j) : cr_97 k j = none := (u2_off _ _ (fun z => by omega)).trans (cf_96 k j h)
theorem cf_98 (k j : Nat) (h : 77 ≤ j) : cr_98 k j = none := (u2_off _ _ (fun z => by omega)).trans (cf_97 k j h)
theorem cf_99 (k j : Nat) (h : 77 ≤ j) : cr_99 k j = none := (u2_off _ _ (fun z => by omega)).trans (cf_98 k j h)
theorem cf_100 (k j : Nat) (h : 77 ≤ j) : cr_100 k j = none := (u2_off _ _ (fun z => by omega)).trans (cf_99 k j h)
theorem cf_101 (k j : Nat) (h : 77 ≤ j) : cr_101 k j = none := (u2_off _ _ (fun z => by omega)).trans (cf_100 k j h)
theorem cf_102 (k j : Nat) (h : 77 ≤ j) : cr_102 k j = none := (u2_off _ _ (fun z => by omega)).trans (cf_101 k j h)
theorem cf_103 (k j : Nat) (h : 77 ≤ j) : cr_103 k j = none := (u2_off _ _ (fun z => by omega)).trans (cf_102 k j h)
theorem cf_104 (k j : Nat) (h : 77 ≤ j) : cr_104 k j = none := (u2_off _ _ (fun z => by omega)).trans (cf_103 k j h)
theorem cf_105 (k j : Nat) (h : 77 ≤ j) : cr_105 k j = none := (u2_off _ _ (fun z => by omega)).trans (cf_104 k j h)
theorem cf_106 (k j : Nat) (h : 77 ≤ j) : cr_106 k j = none := (u2_off _ _ (fun z => by omega)).trans (cf_105 k j h)
theorem cf_107 (k j : Nat) (h : 77 ≤ j) : cr_107 k j = none := (u2_off _ _ (fun z => by omega)).trans (cf_106 k j h)
theorem cf_108 (k j : Nat) (h : 77 ≤ j) : cr_108 k j = none := (u2_off _ _ (fun z => by omega)).trans (cf_107 k j h)
theorem cf_109 (k j : Nat) (h : 77 ≤ j) : cr_109 k j = none := (u2_off _ _ (fun z => by omega)).trans (cf_108 k j h)
theorem cf_110 (k j : Nat) (h : 77 ≤ j) : cr_110 k j = none := (u2_off _ _ (fun z => by omega)).trans (cf_109 k j h)
theorem cf_111 (k j : Nat) (h : 77 ≤ j) : cr_111 k j = none := (u2_off _ _ (fun z => by omega)).trans (cf_110 k j h)
theorem cf_112 (k j : Nat) (h : 77 ≤ j) : cr_112 k j = none := (u2_off _ _ (fun z => by omega)).trans (cf_111 k j h)
theorem cf_113 (k j : Nat) (h : 77 ≤ j) : cr_113 k j = none := (u2_off _ _ (fun z => by omega)).trans (cf_112 k j h)
theorem cf_114 (k j : Nat) (h : 77 ≤ j) : cr_114 k j = none := (u2_off _ _ (fun z => by omega)).trans (cf_113 k j h)
theorem cf_115 (k j : Nat) (h : 77 ≤ j) : cr_115 k j = none := (u2_off _ _ (fun z => by omega)).trans (cf_114 k j h)
theorem cf_116 (k j : Nat) (h : 77 ≤ j) : cr_116 k j = none := (u2_off _ _ (fun z => by omega)).trans (cf_115 k j h)
theorem cf_117 (k j : Nat) (h : 77 ≤ j) : cr_117 k j = none := (u2_off _ _ (fun z => by omega)).trans (cf_116 k j h)
theorem cf_118 (k j : Nat) (h : 77 ≤ j) : cr_118 k j = none := (u2_off _ _ (fun z => by omega)).trans (cf_117 k j h)
theorem cf_119 (k j : Nat) (h : 77 ≤ j) : cr_119 k j = none := (u2_off _ _ (fun z => by omega)).trans (cf_118 k j h)
theorem cf_120 (k j : Nat) (h : 77 ≤ j) : cr_120 k j = none := (u2_off _ _ (fun z => by omega)).trans (cf_119 k j h)
theorem cf_121 (k j : Nat) (h : 77 ≤ j) : cr_121 k j = none := (u2_off _ _ (fun z => by omega)).trans (cf_120 k j h)
theorem cf_122 (k j : Nat) (h : 77 ≤ j) : cr_122 k j = none := (u2_off _ _ (fun z => by omega)).trans (cf_121 k j h)
theorem cf_123 (k j : Nat) (h : 77 ≤ j) : cr_123 k j = none := (u2_off _ _ (fun z => by omega)).trans (cf_122 k j h)
theorem cf_124 (k j : Nat) (h : 77 ≤ j) : cr_124 k j = none := (u2_off _ _ (fun z => by omega)).trans (cf_123 k j h)
theorem cf_125 (k j : Nat) (h : 77 ≤ j) : cr_125 k j = none := (u2_off _ _ (fun z => by omega)).trans (cf_124 k j h)
theorem cf_126 (k j : Nat) (h : 77 ≤ j) : cr_126 k j = none := (u2_off _ _ (fun z => by omega)).trans (cf_125 k j h)
theorem cf_127 (k j : Nat) (h : 77 ≤ j) : cr_127 k j = none := (u2_off _ _ (fun z => by omega)).trans (cf_126 k j h)
theorem cf_128 (k j : Nat) (h : 77 ≤ j) : cr_128 k j = none := (u2_off _ _ (fun z => by omega)).trans (cf_127 k j h)
theorem cf_129 (k j : Nat) (h : 77 ≤ j) : cr_129 k j = none := (u2_off _ _ (fun z => by omega)).trans (cf_128 k j h)
theorem cf_130 (k j : Nat) (h : 77 ≤ j) : cr_130 k j = none := (u2_off _ _ (fun z => by omega)).trans (cf_129 k j h)
theorem cf_131 (k j : Nat) (h : 77 ≤ j) : cr_131 k j = none := (u2_off _ _ (fun z => by omega)).trans (cf_130 k j h)
theorem cf_132 (k j : Nat) (h : 77 ≤ j) : cr_132 k j = none := (u2_off _ _ (fun z => by omega)).trans (cf_131 k j h)
theorem cf_133 (k j : Nat) (h : 77 ≤ j) : cr_133 k j = none := (u2_off _ _ (fun z => by omega)).trans (cf_132 k j h)
theorem cf_134 (k j : Nat) (h : 77 ≤ j) : cr_134 k j = none := (u2_off _ _ (fun z => by omega)).trans (cf_133 k j h)
theorem cf_135 (k j : Nat) (h : 77 ≤ j) : cr_135 k j = none := (u2_off _ _ (fun z => by omega)).trans (cf_134 k j h)
theorem cf_136 (k j : Nat) (h : 77 ≤ j) : cr_136 k j = none := (u2_off _ _ (fun z => by omega)).trans (cf_135 k j h)
theorem cf_137 (k j : Nat) (h : 77 ≤ j) : cr_137 k j = none := (u2_off _ _ (fun z => by omega)).trans (cf_136 k j h)
theorem cf_138 (k j : Nat) (h : 77 ≤ j) : cr_138 k j = none := (u2_off _ _ (fun z => by omega)).trans (cf_137 k j h)
theorem cf_139 (k j : Nat) (h : 77 ≤ j) : cr_139 k j = none := (u2_off _ _ (fun z => by omega)).trans (cf_138 k j h)
theorem cf_140 (k j : Nat) (h : 77 ≤ j) : cr_140 k j = none := (u2_off _ _ (fun z => by omega)).trans (cf_139 k j h)
theorem cf_141 (k j : Nat) (h : 77 ≤ j) : cr_141 k j = none := (u2_off _ _ (fun z => by omega)).trans (cf_140 k j h)
theorem cf_142 (k j : Nat) (h : 77 ≤ j) : cr_142 k j = none := (u2_off _ _ (fun z => by omega)).trans (cf_141 k j h)
theorem cf_143 (k j : Nat) (h : 77 ≤ j) : cr_143 k j = none := (u2_off _ _ (fun z => by omega)).trans (cf_142 k j h)
theorem cf_144 (k j : Nat) (h : 77 ≤ j) : cr_144 k j = none := (u2_off _ _ (fun z => by omega)).trans (cf_143 k j h)
theorem cf_145 (k j : Nat) (h : 77 ≤ j) : cr_145 k j = none := (u2_off _ _ (fun z => by omega)).trans (cf_144 k j h)
theorem cf_146 (k j : Nat) (h : 77 ≤ j) : cr_146 k j = none := (u2_off _ _ (fun z => by omega)).trans (cf_145 k j h)
theorem cf_147 (k j : Nat) (h : 77 ≤ j) : cr_147 k j = none := (u2_off _ _ (fun z => by omega)).trans (cf_146 k j h)
theorem cf_148 (k j : Nat) (h : 77 ≤ j) : cr_148 k j = none := (u2_off _ _ (fun z => by omega)).trans (cf_147 k j h)
theorem cf_149 (k j : Nat) (h : 77 ≤ j) : cr_149 k j = none := (u2_off _ _ (fun z => by omega)).trans (cf_148 k j h)
theorem cf_150 (k j : Nat) (h : 77 ≤ j) : cr_150 k j = none := (u2_off _ _ (fun z => by omega)).trans (cf_149 k j h)
theorem cf_151 (k j : Nat) (h : 77 ≤ j) : cr_151 k j = none := (u2_off _ _ (fun z => by omega)).trans (cf_150 k j h)
theorem cf_152 (k j : Nat) (h : 77 ≤ j) : cr_152 k j = none := (u2_off _ _ (fun z => by omega)).trans (cf_151 k j h)
theorem cf_153 (k j : Nat) (h : 77 ≤ j) : cr_153 k j = none := (u2_off _ _ (fun z => by omega)).trans (cf_152 k j h)
theorem cf_154 (k j : Nat) (h : 77 ≤ j) : cr_154 k j = none := (u2_off _ _ (fun z => by omega)).trans (cf_153 k j h)
theorem cf_155 (k j : Nat) (h : 77 ≤ j) : cr_155 k j = none := (u2_off _ _ (fun z => by omega)).trans (cf_154 k j h)
theorem cf_156 (k j : Nat) (h : 77 ≤ j) : cr_156 k j = none := (u2_off _ _ (fun z => by omega)).trans (cf_155 k j h)
theorem cf_157 (k j : Nat) (h : 77 ≤ j) : cr_157 k j = none := (u2_off _ _ (fun z => by omega)).trans (cf_156 k j h)
theorem cf_158 (k j : Nat) (h : 77 ≤ j) : cr_158 k j = none := (u2_off _ _ (fun z => by omega)).trans (cf_157 k j h)
theorem cf_159 (k j : Nat) (h : 77 ≤ j) : cr_159 k j = none := (u2_off _ _ (fun z => by omega)).trans (cf_158 k j h)
theorem cf_160 (k j : Nat) (h : 77 ≤ j) : cr_160 k j = none := (u2_off _ _ (fun z => by omega)).trans (cf_159 k j h)
theorem cf_161 (k j : Nat) (h : 77 ≤ j) : cr_161 k j = none := (u2_off _ _ (fun z => by omega)).trans (cf_160 k j h)
theorem cf_162 (k j : Nat) (h : 77 ≤ j) : cr_162 k j = none := (u2_off _ _ (fun z => by omega)).trans (cf_161 k j h)
theorem cf_163 (k j : Nat) (h : 77 ≤ j) : cr_163 k j = none := (u2_off _ _ (fun z => by omega)).trans (cf_162 k j h)
theorem cf_164 (k j : Nat) (h : 77 ≤ j) : cr_164 k j = none := (u2_off _ _ (fun z => by omega)).trans (cf_163 k j h)
theorem cf_165 (k j : Nat) (h : 77 ≤ j) : cr_165 k j = none := (u2_off _ _ (fun z => by omega)).trans (cf_164 k j h)
theorem cf_166 (k j : Nat) (h : 77 ≤ j) : cr_166 k j = none := (u2_off _ _ (fun z => by omega)).trans (cf_165 k j h)
theorem cf_167 (k j : Nat) (h : 77 ≤ j) : cr_167 k j = none := (u2_off _ _ (fun z => by omega)).trans (cf_166 k j h)
theorem cf_168 (k j : Nat) (h : 77 ≤ j) : cr_168 k j = none := (u2_off _ _ (fun z => by omega)).trans (cf_167 k j h)
theorem cf_169 (k j : Nat) (h : 77 ≤ j) : cr_169 k j = none := (u2_off _ _ (fun z => by omega)).trans (cf_168 k j h)
theorem cf_170 (k j : Nat) (h : 77 ≤ j) : cr_170 k j = none := (u2_off _ _ (fun z => by omega)).trans (cf_169 k j h)
theorem cf_171 (k j : Nat) (h : 77 ≤ j) : cr_171 k j = none := (u2_off _ _ (fun z => by omega)).trans (cf_170 k j h)
theorem cf_172 (k j : Nat) (h : 77 ≤ j) : cr_172 k j = none := (u2_off _ _ (fun z => by omega)).trans (cf_171 k j h)
theorem cf_173 (k j : Nat) (h : 77 ≤ j) : cr_173 k j = none := (u2_off _ _ (fun z => by omega)).trans (cf_172 k j h)
theorem cf_174 (k j : Nat) (h : 77 ≤ j) : cr_174 k j = none := (u2_off _ _ (fun z => by omega)).trans (cf_173 k j h)
theorem cf_175 (k j : Nat) (h : 77 ≤ j) : cr_175 k j = none := (u2_off _ _ (fun z => by omega)).trans (cf_174 k j h)
theorem cf_176 (k j : Nat) (h : 77 ≤ j) : cr_176 k j = none := (u2_off _ _ (fun z => by omega)).trans (cf_175 k j h)
theorem cf_177 (k j : Nat) (h : 77 ≤ j) : cr_177 k j = none := (u2_off _ _ (fun z => by omega)).trans (cf_176 k j h)
theorem cf_178 (k j : Nat) (h : 77 ≤ j) : cr_178 k j = none := (u2_off _ _ (fun z => by omega)).trans (cf_177 k j h)
theorem cf_179 (k j : Nat) (h : 77 ≤ j) : cr_179 k j = none := (u2_off _ _ (fun z => by omega)).trans (cf_178 k j h)
theorem cf_180 (k j : Nat) (h : 77 ≤ j) : cr_180 k j = none := (u2_off _ _ (fun z => by omega)).trans (cf_179 k j h)
theorem cf_181 (k j : Nat) (h : 77 ≤ j) : cr_181 k j = none := (u2_off _ _ (fun z => by omega)).trans (cf_180 k j h)
theorem cf_182 (k j : Nat) (h : 77 ≤ j) : cr_182 k j = none := (u2_off _ _ (fun z => by omega)).trans (cf_181 k j h)
theorem cf_183 (k j : Nat) (h : 77 ≤ j) : cr_183 k j = none := (u2_off _ _ (fun z => by omega)).trans (cf_182 k j h)
theorem cf_184 (k j : Nat) (h : 77 ≤ j) : cr_184 k j = none := (u2_off _ _ (fun z => by omega)).trans (cf_183 k j h)
theorem cf_185 (k j : Nat) (h : 77 ≤ j) : cr_185 k j = none := (u2_off _ _ (fun z => by omega)).trans (cf_184 k j h)
theorem cf_186 (k j : Nat) (h : 77 ≤ j) : cr_186 k j = none := (u2_off _ _ (fun z => by omega)).trans (cf_185 k j h)
theorem cf_187 (k j : Nat) (h : 77 ≤ j) : cr_187 k j = none := (u2_off _ _ (fun z => by omega)).trans (cf_186 k j h)
theorem cf_188 (k j : Nat) (h : 77 ≤ j) : cr_188 k j = none := (u2_off _ _ (fun z => by omega)).trans (cf_187 k j h)
theorem cf_189 (k j : Nat) (h : 77 ≤ j) : cr_189 k j = none := (u2_off _ _ (fun z => by omega)).trans (cf_188 k j h)
theorem cf_190 (k j : Nat) (h : 77 ≤ j) : cr_190 k j = none := (u2_off _ _ (fun z => by omega)).trans (cf_189 k j h)
theorem cf_191 (k j : Nat) (h : 77 ≤ j) : cr_191 k j = none := (u2_off _ _ (fun z => by omega)).trans (cf_190 k j h)
theorem cf_192 (k j : Nat) (h : 77 ≤ j) : cr_192 k j = none := (u2_off _ _ (fun z => by omega)).trans (cf_191 k j h)
theorem cf_193 (k j : Nat) (h : 77 ≤ j) : cr_193 k j = none := (u2_off _ _ (fun z => by omega)).trans (cf_192 k j h)
theorem cf_194 (k j : Nat) (h : 77 ≤ j) : cr_194 k j = none := (u2_off _ _ (fun z => by omega)).trans (cf_193 k j h)
theorem cf_195 (k j : Nat) (h : 77 ≤ j) : cr_195 k j = none := (u2_off _ _ (fun z => by omega)).trans (cf_194 k j h)
theorem cf_196 (k j : Nat) (h : 77 ≤ j) : cr_196 k j = none := (u2_off _ _ (fun z => by omega)).trans (cf_195 k j h)
theorem cf_197 (k j : Nat) (h : 77 ≤ j) : cr_197 k j = none := (u2_off _ _ (fun z => by omega)).trans (cf_196 k j h)
theorem cf_198 (k j : Nat) (h : 77 ≤ j) : cr_198 k j = none := (u2_off _ _ (fun z => by omega)).trans (cf_197 k j h)
theorem cf_199 (k j : Nat) (h : 77 ≤ j) : cr_199 k j = none := (u2_off _ _ (fun z => by omega)).trans (cf_198 k j h)
theorem cf_200 (k j : Nat) (h : 77 ≤ j) : cr_200 k j = none := (u2_off _ _ (fun z => by omega)).trans (cf_199 k j h)
theorem cf_201 (k j : Nat) (h : 77 ≤ j) : cr_201 k j = none := (u2_off _ _ (fun z => by omega)).trans (cf_200 k j h)
theorem cf_202 (k j : Nat) (h : 77 ≤ j) : cr_202 k j = none := (u2_off _ _ (fun z => by omega)).trans (cf_201 k j h)
theorem cf_203 (k j : Nat) (h : 77 ≤ j) : cr_203 k j = none := (u2_off _ _ (fun z => by omega)).trans (cf_202 k j h)
theorem cf_204 (k j : Nat) (h : 77 ≤ j) : cr_204 k j = none := (u2_off _ _ (fun z => by omega)).trans (cf_203 k j h)
theorem cf_205 (k j : Nat) (h : 77 ≤ j) : cr_205 k j = none := (u2_off _ _ (fun z => by omega)).trans (cf_204 k j h)
theorem cf_206 (k j : Nat) (h : 77 ≤ j) : cr_206 k j = none := (u2_off _ _ (fun z => by omega)).trans (cf_205 k j h)
theorem cf_207 (k j : Nat) (h : 77 ≤ j) : cr_207 k j = none := (u2_off _ _ (fun z => by omega)).trans (cf_206 k j h)
theorem cf_208 (k j : Nat) (h : 77 ≤ j) : cr_208 k j = none := (u2_off _ _ (fun z => by omega)).trans (cf_207 k j h)
theorem RF_far (t : Nat × Nat × Nat × Nat) (k j : Nat) (h : 77 ≤ j) : RF t k j = none := by
  have b : ∀ c, c ≤ 77 → Nat.blt j c = false := fun c hc => by rw [← Bool.not_eq_true, Nat.blt_eq]; omega
  have e : ∀ c, c < 77 → Nat.beq j c = false := fun c hc => by rw [← Bool.not_eq_true, Nat.beq_eq]; omega
  unfold RF
  simp only [b 1 (by decide), b 2 (by decide), b 3 (by decide), b 4 (by decide), b 5 (by decide), b 6 (by decide), b 7 (by decide), b 8 (by decide), b 9 (by decide), b 10 (by decide), b 11 (by decide), b 12 (by decide), b 13 (by decide), b 14 (by decide), b 20 (by decide), b 21 (by decide), b 22 (by decide), b 23 (by decide), b 24 (by decide), b 25 (by decide), b 26 (by decide), b 27 (by decide), b 31 (by decide), b 32 (by decide), b 35 (by decide), b 40 (by decide), b 41 (by decide), b 45 (by decide), b 46 (by decide), b 47 (by decide), b 49 (by decide), b 59 (by decide), b 60 (by decide), b 61 (by decide), b 62 (by decide), b 63 (by decide), b 64 (by decide), b 65 (by decide), b 66 (by decide), b 67 (by decide), b 68 (by decide), b 69 (by decide), b 70 (by decide), b 72 (by decide), b 73 (by decide), b 74 (by decide), b 75 (by decide), b 76 (by decide), e 0 (by decide), e 1 (by decide), e 2 (by decide), e 3 (by decide), e 4 (by decide), e 5 (by decide), e 6 (by decide), e 7 (by decide), e 8 (by decide), e 9 (by decide), e 10 (by decide), e 11 (by decide), e 12 (by decide), e 13 (by decide), e 14 (by decide), e 20 (by decide), e 21 (by decide), e 22 (by decide), e 23 (by decide), e 24 (by decide), e 25 (by decide), e 26 (by decide), e 27 (by decide), e 31 (by decide), e 32 (by decide), e 35 (by decide), e 40 (by decide), e 41 (by decide), e 45 (by decide), e 46 (by decide), e 47 (by decide), e 49 (by decide), e 59 (by decide), e 60 (by decide), e 61 (by decide), e 62 (by decide), e 63 (by decide), e 64 (by decide), e 65 (by decide), e 66 (by decide), e 67 (by decide), e 68 (by decide), e 69 (by decide), e 70 (by decide), e 72 (by decide), e 73 (by decide), e 74 (by decide), e 75 (by decide), e 76 (by decide), cond_false, cnd_nn]
theorem RF_high (t : Nat × Nat × Nat × Nat) (k j : Nat) (h : 210 ≤ k) : RF t k j = none := by
  have b : ∀ c, c ≤ 210 → Nat.blt k c = false := fun c hc => by rw [← Bool.not_eq_true, Nat.blt_eq]; omega
  have e : ∀ c, c < 210 → Nat.beq k c = false := fun c hc => by rw [← Bool.not_eq_true, Nat.beq_eq]; omega
  unfold RF
  simp only [b 1 (by decide), b 3 (by decide), b 5 (by decide), b 6 (by decide), b 8 (by decide), b 11 (by decide), b 12 (by decide), b 13 (by decide), b 14 (by decide), b 19 (by decide), b 21 (by decide), b 23 (by decide), b 25 (by decide), b 27 (by decide), b 29 (by decide), b 31 (by decide), b 33 (by decide), b 35 (by decide), b 37 (by decide), b 39 (by decide), b 41 (by decide), b 43 (by decide), b 44 (by decide), b 45 (by decide), b 48 (by decide), b 50 (by decide), b 52 (by decide), b 54 (by decide), b 56 (by decide), b 60 (by decide), b 62 (by decide), b 64 (by decide), b 66 (by decide), b 68 (by decide), b 70 (by decide), b 71 (by decide), b 72 (by decide), b 77 (by decide), b 79 (by decide), b 81 (by decide), b 83 (by decide), b 85 (by decide), b 87 (by decide), b 89 (by decide), b 91 (by decide), b 93 (by decide), b 95 (by decide), b 97 (by decide), b 99 (by decide), b 101 (by decide), b 102 (by decide), b 103 (by decide), b 106 (by decide), b 108 (by decide), b 110 (by decide), b 112 (by decide), b 114 (by decide), b 118 (by decide), b 120 (by decide), b 122 (by decide), b 124 (by decide), b 126 (by decide), b 128 (by decide), b 129 (by decide), b 132 (by decide), b 133 (by decide), b 135 (by decide), b 136 (by decide), b 139 (by decide), b 142 (by decide), b 145 (by decide), b 148 (by decide), b 151 (by decide), b 154 (by decide), b 156 (by decide), b 158 (by decide), b 160 (by decide), b 162 (by decide), b 164 (by decide), b 166 (by decide), e 0 (by decide), e 1 (by decide), e 3 (by decide), e 5 (by decide), e 6 (by decide), e 8 (by decide), e 11 (by decide), e 12 (by decide), e 13 (by decide), e 14 (by decide), e 19 (by decide), e 21 (by decide), e 23 (by decide), e 25 (by decide), e 27 (by decide), e 29 (by decide), e 31 (by decide), e 33 (by decide), e 35 (by decide), e 37 (by decide), e 39 (by decide), e 41 (by decide), e 43 (by decide), e 44 (by decide), e 45 (by decide), e 48 (by decide), e 50 (by decide), e 52 (by decide), e 54 (by decide), e 56 (by decide), e 60 (by decide), e 62 (by decide), e 64 (by decide), e 66 (by decide), e 68 (by decide), e 70 (by decide), e 71 (by decide), e 72 (by decide), e 77 (by decide), e 79 (by decide), e 81 (by decide), e 83 (by decide), e 85 (by decide), e 87 (by decide), e 89 (by decide), e 91 (by decide), e 93 (by decide), e 95 (by decide), e 97 (by decide), e 99 (by decide), e 101 (by decide), e 102 (by decide), e 103 (by decide), e 106 (by decide), e 108 (by decide), e 110 (by decide), e 112 (by decide), e 114 (by decide), e 118 (by decide), e 120 (by decide), e 122 (by decide), e 124 (by decide), e 126 (by decide), e 128 (by decide), e 129 (by decide), e 132 (by decide), e 133 (by decide), e 135 (by decide), e 136 (by decide), e 139 (by decide), e 142 (by decide), e 145 (by decide), e 148 (by decide), e 151 (by decide), e 154 (by decide), e 156 (by decide), e 158 (by decide), e 160 (by decide), e 162 (by decide), e 164 (by decide), e 166 (by decide), cond_false, cnd_nn]
theorem off_1 (k j : Nat) (h : ¬ (k < 166 ∧ j < (SH k).2)) : cr_165 k j = none := by
  obtain ⟨n, r, e, h1, h2⟩ := CV_74 (L := 0) (xs := fun _ => 0) 0 (Q := fun r h => r = none ∧ h = (166, ci_126, lz0, cr_165)) ⟨rfl, rfl⟩
  have f := exec_fr (by decide) e (by rw [h2]; decide)
  rw [h2] at f
  exact (f k j h).2.2
theorem off_2 (k j : Nat) (h : ¬ (k < 210 ∧ j < (SH k).2)) : cr_208 k j = none := by
  obtain ⟨n, r, e, h1, h2⟩ := CV_75 (L := 0) (xs := fun _ => 0) 0 (Q := fun r h => r = none ∧ h = (210, ci_180, lz0, cr_208)) ⟨rfl, rfl⟩
  have f := exec_fr (by decide) e (by rw [h2]; decide)
  rw [h2] at f
  exact (f k j h).2.2.trans (off_1 k j (fun z => h ⟨by omega, z.2⟩))
theorem tb_0 : ∀ k, k < 60 → ∀ j, j < 77 → j < (SH (0 + k)).2 → cr_208 (0 + k) j = RF (6, 8, 56, 114) (0 + k) j := by decide +kernel
theorem tb_1 : ∀ k, k < 60 → ∀ j, j < 77 → j < (SH (60 + k)).2 → cr_208 (60 + k) j = RF (6, 8, 56, 114) (60 + k) j := by decide +kernel
theorem tb_2 : ∀ k, k < 45 → ∀ j, j < 77 → j < (SH (120 + k)).2 → cr_208 (120 + k) j = RF (6, 8, 56, 114) (120 + k) j := by decide +kernel
theorem tb_3 : ∀ k, k < 45 → ∀ j, j < 77 → j < (SH (165 + k)).2 → cr_208 (165 + k) j = RF (6, 8, 56, 114) (165 + k) j := by decide +kernel
theorem tb_n : ∀ k, k < 210 → ∀ j, j < 77 → ¬ j < (SH k).2 → RF (6, 8, 56, 114) k j = none := by decide +kernel
theorem cr_RF : cr_208 = RF (6, 8, 56, 114) := by
  funext k j
  by_cases h1 : 77 ≤ j
  · rw [cf_208 k j h1, RF_far _ k j h1]
  · by_cases h2 : 210 ≤ k
    · rw [off_2 k j (fun z => by omega), RF_high _ k j h2]
    · by_cases h3 : j < (SH k).2
      · by_cases c0 : k < 60
        · have e := tb_0 (k - 0) (by omega) j (by omega)
          rw [show 0 + (k - 0) = k by omega] at e
          exact e h3
        · by_cases c1 : k < 120
          · have e := tb_1 (k - 60) (by omega) j (by omega)
            rw [show 60 + (k - 60) = k by omega] at e
            exact e h3
          · by_cases c2 : k < 165
            · have e := tb_2 (k - 120) (by omega) j (by omega)
              rw [show 120 + (k - 120) = k by omega] at e
              exact e h3
            · have e := tb_3 (k - 165) (by omega) j (by omega)
              rw [show 165 + (k - 165) = k by omega] at e
              exact e h3
      · rw [off_2 k j (fun z => h3 z.2), tb_n k (by omega) j (by omega) h3]
theorem first_cells : ((210, ci_180, lz0, cr_208) : Hp) = HN g0 lz0 (RF (6, 8, 56, 114)) := by
  unfold HN
  rw [← cr_RF, ← g0_eq]
theorem z_0 : g0 166 0 = 0 := by decide +kernel
theorem z_6 : g0 166 6 = 0 := by decide +kernel
theorem z_15 : g0 166 15 = 0 := by decide +kernel
theorem z_44 : g0 166 44 = 0 := by decide +kernel
theorem z_48 : g0 166 48 = 0 := by decide +kernel
theorem z_50 : g0 166 50 = 0 := by decide +kernel
theorem z_168 : ∀ i, i < 12 → g0 168 i = 0 := by decide +kernel
theorem z_16 : ∀ i, i < 24 → g0 16 i = 0 := by decide +kernel
theorem z_17 : ∀ i, i < 7 → g0 17 i = 0 := by decide +kernel
theorem y_cb : CB g0 := ⟨by decide +kernel, by decide +kernel, fun i k hi hk => by rw [z_168 i hi] at hk; omega, by decide +kernel, fun p l hp hl => by rw [z_16 _ (by omega), z_0]; rfl, fun n hn => by rw [z_17 n hn, z_0]; rfl⟩
theorem y_cp : CPl g0 := ⟨by decide +kernel, fun i k hi hk => (show ∀ i, i < 5 → ∀ k, k < 4 → g0 (60 + 2 * i + 1) k = g0 174 (4 * i + k) by decide +kernel) i hi k hk, fun i hi => by rw [z_6] at hi; omega⟩
theorem y_rx : RX (g0 44) (g0 45) (g0 46) (g0 47) g0 := by
  unfold RX
  decide +kernel
theorem y_ry : RY g0 := Or.inr (by decide +kernel)
theorem y_ln (c n : Nat) (f : Nat → Nat) (h0 : n = 0) (h : g0 c 1 = 0) : LnE g0 c n f := ⟨by rw [h, h0], fun k hk => by rw [h0] at hk; omega⟩
theorem y_gm : GMC g0 := ⟨y_cb, y_cp, by decide +kernel, y_rx, y_ry, y_ln _ _ _ z_44 (by decide +kernel), y_ln _ _ _ z_44 (by decide +kernel), y_ln _ _ _ z_44 (by decide +kernel), fun k hk => by rw [z_44] at hk; omega, y_ln _ _ _ z_48 (by decide +kernel)⟩
theorem y_mi : MI g0 := by
  unfold MI
  decide +kernel
theorem y_tp : TpE g0 lz0 := fun t ht => by
  obtain ⟨a, b, c⟩ := (show ∀ t, t < 6 → g0 (154 + 2 * t) 1 = g0 206 t ∧ g0 (154 + 2 * t) 2 = g0 207 t ∧ (g0 206 t = 4294967295 → g0 207 t = 0) by decide +kernel) t ht
  exact ⟨a, b, c, fun _ _ => rfl⟩
theorem y_ac : AcE g0 := by
  unfold AcE
  decide +kernel
theorem first_inv : Inv g0 lz0 (6, 8, 56, 114) := ⟨y_mi, by unfold HLt; decide +kernel, by decide +kernel, fun f hf => by rw [z_15] at hf; omega, Or.inl ⟨by decide +kernel, rfl⟩, y_ln _ _ _ (by decide +kernel) (by decide +kernel), y_ln _ _ _ (by decide +kernel) (by decide +kernel), y_gm, y_ac, y_tp, ⟨by decide +kernel, by decide +kernel, fun f hf => by rw [z_15] at hf; omega⟩, by decide +kernel, by decide +kernel, fun z => by rw [z_50] at z; omega, by decide +kernel, by decide +kernel⟩
