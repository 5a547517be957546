def N0 : Cond := Jvm.Cond.and given_1 narrow_1
theorem nAr : Cond.arrayOf (.static "EndsWord" "ABOVE" "[I") .int ∈ flatC N0 := List.mem_of_getElem? (i := 5) rfl
theorem nAl : Cond.eq (.length (.static "EndsWord" "ABOVE" "[I")) (.int (Int32.ofNat 7)) ∈ flatC N0 := List.mem_of_getElem? (i := 6) rfl
theorem nA_0 : Cond.eq (.elem (.static "EndsWord" "ABOVE" "[I") (.int (Int32.ofNat 0))) (.int (lABOVE.getD 0 0)) ∈ flatC N0 := List.mem_of_getElem? (i := 7) rfl
theorem nA_1 : Cond.eq (.elem (.static "EndsWord" "ABOVE" "[I") (.int (Int32.ofNat 1))) (.int (lABOVE.getD 1 0)) ∈ flatC N0 := List.mem_of_getElem? (i := 8) rfl
theorem nA_2 : Cond.eq (.elem (.static "EndsWord" "ABOVE" "[I") (.int (Int32.ofNat 2))) (.int (lABOVE.getD 2 0)) ∈ flatC N0 := List.mem_of_getElem? (i := 9) rfl
theorem nA_3 : Cond.eq (.elem (.static "EndsWord" "ABOVE" "[I") (.int (Int32.ofNat 3))) (.int (lABOVE.getD 3 0)) ∈ flatC N0 := List.mem_of_getElem? (i := 10) rfl
theorem nA_4 : Cond.eq (.elem (.static "EndsWord" "ABOVE" "[I") (.int (Int32.ofNat 4))) (.int (lABOVE.getD 4 0)) ∈ flatC N0 := List.mem_of_getElem? (i := 11) rfl
theorem nA_5 : Cond.eq (.elem (.static "EndsWord" "ABOVE" "[I") (.int (Int32.ofNat 5))) (.int (lABOVE.getD 5 0)) ∈ flatC N0 := List.mem_of_getElem? (i := 12) rfl
theorem nA_6 : Cond.eq (.elem (.static "EndsWord" "ABOVE" "[I") (.int (Int32.ofNat 6))) (.int (lABOVE.getD 6 0)) ∈ flatC N0 := List.mem_of_getElem? (i := 13) rfl
theorem nA_all {j : Nat} (h : j < 7) : Cond.eq (.elem (.static "EndsWord" "ABOVE" "[I") (.int (Int32.ofNat j))) (.int (lABOVE.getD j 0)) ∈ flatC N0 := by
  · by_cases h3 : j < 3
    · by_cases h1 : j < 1
      · obtain rfl : j = 0 := by omega
        exact nA_0
      · by_cases h2 : j < 2
        · obtain rfl : j = 1 := by omega
          exact nA_1
        · obtain rfl : j = 2 := by omega
          exact nA_2
    · by_cases h5 : j < 5
      · by_cases h4 : j < 4
        · obtain rfl : j = 3 := by omega
          exact nA_3
        · obtain rfl : j = 4 := by omega
          exact nA_4
      · by_cases h6 : j < 6
        · obtain rfl : j = 5 := by omega
          exact nA_5
        · obtain rfl : j = 6 := by omega
          exact nA_6
theorem nBr : Cond.arrayOf (.static "EndsWord$Acts" "BODIES" "[I") .int ∈ flatC N0 := List.mem_of_getElem? (i := 20) rfl
theorem nBl : Cond.eq (.length (.static "EndsWord$Acts" "BODIES" "[I")) (.int (Int32.ofNat 21)) ∈ flatC N0 := List.mem_of_getElem? (i := 21) rfl
theorem nB_0 : Cond.eq (.elem (.static "EndsWord$Acts" "BODIES" "[I") (.int (Int32.ofNat 0))) (.int (lBODIES.getD 0 0)) ∈ flatC N0 := List.mem_of_getElem? (i := 22) rfl
theorem nB_1 : Cond.eq (.elem (.static "EndsWord$Acts" "BODIES" "[I") (.int (Int32.ofNat 1))) (.int (lBODIES.getD 1 0)) ∈ flatC N0 := List.mem_of_getElem? (i := 23) rfl
theorem nB_2 : Cond.eq (.elem (.static "EndsWord$Acts" "BODIES" "[I") (.int (Int32.ofNat 2))) (.int (lBODIES.getD 2 0)) ∈ flatC N0 := List.mem_of_getElem? (i := 24) rfl
theorem nB_3 : Cond.eq (.elem (.static "EndsWord$Acts" "BODIES" "[I") (.int (Int32.ofNat 3))) (.int (lBODIES.getD 3 0)) ∈ flatC N0 := List.mem_of_getElem? (i := 25) rfl
theorem nB_4 : Cond.eq (.elem (.static "EndsWord$Acts" "BODIES" "[I") (.int (Int32.ofNat 4))) (.int (lBODIES.getD 4 0)) ∈ flatC N0 := List.mem_of_getElem? (i := 26) rfl
theorem nB_5 : Cond.eq (.elem (.static "EndsWord$Acts" "BODIES" "[I") (.int (Int32.ofNat 5))) (.int (lBODIES.getD 5 0)) ∈ flatC N0 := List.mem_of_getElem? (i := 27) rfl
theorem nB_6 : Cond.eq (.elem (.static "EndsWord$Acts" "BODIES" "[I") (.int (Int32.ofNat 6))) (.int (lBODIES.getD 6 0)) ∈ flatC N0 := List.mem_of_getElem? (i := 28) rfl
theorem nB_7 : Cond.eq (.elem (.static "EndsWord$Acts" "BODIES" "[I") (.int (Int32.ofNat 7))) (.int (lBODIES.getD 7 0)) ∈ flatC N0 := List.mem_of_getElem? (i := 29) rfl
theorem nB_8 : Cond.eq (.elem (.static "EndsWord$Acts" "BODIES" "[I") (.int (Int32.ofNat 8))) (.int (lBODIES.getD 8 0)) ∈ flatC N0 := List.mem_of_getElem? (i := 30) rfl
theorem nB_9 : Cond.eq (.elem (.static "EndsWord$Acts" "BODIES" "[I") (.int (Int32.ofNat 9))) (.int (lBODIES.getD 9 0)) ∈ flatC N0 := List.mem_of_getElem? (i := 31) rfl
theorem nB_10 : Cond.eq (.elem (.static "EndsWord$Acts" "BODIES" "[I") (.int (Int32.ofNat 10))) (.int (lBODIES.getD 10 0)) ∈ flatC N0 := List.mem_of_getElem? (i := 32) rfl
theorem nB_11 : Cond.eq (.elem (.static "EndsWord$Acts" "BODIES" "[I") (.int (Int32.ofNat 11))) (.int (lBODIES.getD 11 0)) ∈ flatC N0 := List.mem_of_getElem? (i := 33) rfl
theorem nB_12 : Cond.eq (.elem (.static "EndsWord$Acts" "BODIES" "[I") (.int (Int32.ofNat 12))) (.int (lBODIES.getD 12 0)) ∈ flatC N0 := List.mem_of_getElem? (i := 34) rfl
theorem nB_13 : Cond.eq (.elem (.static "EndsWord$Acts" "BODIES" "[I") (.int (Int32.ofNat 13))) (.int (lBODIES.getD 13 0)) ∈ flatC N0 := List.mem_of_getElem? (i := 35) rfl
theorem nB_14 : Cond.eq (.elem (.static "EndsWord$Acts" "BODIES" "[I") (.int (Int32.ofNat 14))) (.int (lBODIES.getD 14 0)) ∈ flatC N0 := List.mem_of_getElem? (i := 36) rfl
theorem nB_15 : Cond.eq (.elem (.static "EndsWord$Acts" "BODIES" "[I") (.int (Int32.ofNat 15))) (.int (lBODIES.getD 15 0)) ∈ flatC N0 := List.mem_of_getElem? (i := 37) rfl
theorem nB_16 : Cond.eq (.elem (.static "EndsWord$Acts" "BODIES" "[I") (.int (Int32.ofNat 16))) (.int (lBODIES.getD 16 0)) ∈ flatC N0 := List.mem_of_getElem? (i := 38) rfl
theorem nB_17 : Cond.eq (.elem (.static "EndsWord$Acts" "BODIES" "[I") (.int (Int32.ofNat 17))) (.int (lBODIES.getD 17 0)) ∈ flatC N0 := List.mem_of_getElem? (i := 39) rfl
theorem nB_18 : Cond.eq (.elem (.static "EndsWord$Acts" "BODIES" "[I") (.int (Int32.ofNat 18))) (.int (lBODIES.getD 18 0)) ∈ flatC N0 := List.mem_of_getElem? (i := 40) rfl
theorem nB_19 : Cond.eq (.elem (.static "EndsWord$Acts" "BODIES" "[I") (.int (Int32.ofNat 19))) (.int (lBODIES.getD 19 0)) ∈ flatC N0 := List.mem_of_getElem? (i := 41) rfl
theorem nB_20 : Cond.eq (.elem (.static "EndsWord$Acts" "BODIES" "[I") (.int (Int32.ofNat 20))) (.int (lBODIES.getD 20 0)) ∈ flatC N0 := List.mem_of_getElem? (i := 42) rfl
theorem nB_all {j : Nat} (h : j < 21) : Cond.eq (.elem (.static "EndsWord$Acts" "BODIES" "[I") (.int (Int32.ofNat j))) (.int (lBODIES.getD j 0)) ∈ flatC N0 := by
  · by_cases h10 : j < 10
    · by_cases h5 : j < 5
      · by_cases h2 : j < 2
        · by_cases h1 : j < 1
          · obtain rfl : j = 0 := by omega
            exact nB_0
          · obtain rfl : j = 1 := by omega
            exact nB_1
        · by_cases h3 : j < 3
          · obtain rfl : j = 2 := by omega
            exact nB_2
          · by_cases h4 : j < 4
            · obtain rfl : j = 3 := by omega
              exact nB_3
            · obtain rfl : j = 4 := by omega
              exact nB_4
      · by_cases h7 : j < 7
        · by_cases h6 : j < 6
          · obtain rfl : j = 5 := by omega
            exact nB_5
          · obtain rfl : j = 6 := by omega
            exact nB_6
        · by_cases h8 : j < 8
          · obtain rfl : j = 7 := by omega
            exact nB_7
          · by_cases h9 : j < 9
            · obtain rfl : j = 8 := by omega
              exact nB_8
            · obtain rfl : j = 9 := by omega
              exact nB_9
    · by_cases h15 : j < 15
      · by_cases h12 : j < 12
        · by_cases h11 : j < 11
          · obtain rfl : j = 10 := by omega
            exact nB_10
          · obtain rfl : j = 11 := by omega
            exact nB_11
        · by_cases h13 : j < 13
          · obtain rfl : j = 12 := by omega
            exact nB_12
          · by_cases h14 : j < 14
            · obtain rfl : j = 13 := by omega
              exact nB_13
            · obtain rfl : j = 14 := by omega
              exact nB_14
      · by_cases h18 : j < 18
        · by_cases h16 : j < 16
          · obtain rfl : j = 15 := by omega
            exact nB_15
          · by_cases h17 : j < 17
            · obtain rfl : j = 16 := by omega
              exact nB_16
            · obtain rfl : j = 17 := by omega
              exact nB_17
        · by_cases h19 : j < 19
          · obtain rfl : j = 18 := by omega
            exact nB_18
          · by_cases h20 : j < 20
            · obtain rfl : j = 19 := by omega
              exact nB_19
            · obtain rfl : j = 20 := by omega
              exact nB_20
theorem nCS : Cond.eq (.static "java/lang/String" "COMPACT_STRINGS" "Z") (.int 1) ∈ flatC N0 := List.mem_of_getElem? (i := 14) rfl
theorem nSI : Cond.isRef (.static "jdk/internal/util/Preconditions" "SIOOBE_FORMATTER" "Ljava/util/function/BiFunction;") ∈ flatC N0 := List.mem_of_getElem? (i := 15) rfl
noncomputable def tmS (i : Nat) : Term := .string xStrOwn (sIx (3 + i))
theorem nX_0 : Cond.exactly (tmS 0) "java/lang/String" ∈ flatC N0 := List.mem_of_getElem? (i := 87) rfl
theorem nO_0 : Cond.eq (.field (tmS 0) "java/lang/String" "coder" "B") (.int 0) ∈ flatC N0 := List.mem_of_getElem? (i := 88) rfl
theorem nY_0 : Cond.arrayOf (.field (tmS 0) "java/lang/String" "value" "[B") .byte ∈ flatC N0 := List.mem_of_getElem? (i := 89) rfl
theorem nL_0 : Cond.eq (.length (.field (tmS 0) "java/lang/String" "value" "[B")) (.int (Int32.ofNat (lens6.getD 0 0))) ∈ flatC N0 := List.mem_of_getElem? (i := 90) rfl
theorem nE_0_0 : Cond.eq (.elem (.field (tmS 0) "java/lang/String" "value" "[B") (.int (Int32.ofNat 0))) (.int ((byts6.getD 0 []).getD 0 0)) ∈ flatC N0 := List.mem_of_getElem? (i := 91) rfl
theorem nE_0_1 : Cond.eq (.elem (.field (tmS 0) "java/lang/String" "value" "[B") (.int (Int32.ofNat 1))) (.int ((byts6.getD 0 []).getD 1 0)) ∈ flatC N0 := List.mem_of_getElem? (i := 92) rfl
theorem nE_0_2 : Cond.eq (.elem (.field (tmS 0) "java/lang/String" "value" "[B") (.int (Int32.ofNat 2))) (.int ((byts6.getD 0 []).getD 2 0)) ∈ flatC N0 := List.mem_of_getElem? (i := 93) rfl
theorem nE_0_3 : Cond.eq (.elem (.field (tmS 0) "java/lang/String" "value" "[B") (.int (Int32.ofNat 3))) (.int ((byts6.getD 0 []).getD 3 0)) ∈ flatC N0 := List.mem_of_getElem? (i := 94) rfl
theorem nE_0_4 : Cond.eq (.elem (.field (tmS 0) "java/lang/String" "value" "[B") (.int (Int32.ofNat 4))) (.int ((byts6.getD 0 []).getD 4 0)) ∈ flatC N0 := List.mem_of_getElem? (i := 95) rfl
theorem nEa_0 {j : Nat} (h : j < lens6.getD 0 0) : Cond.eq (.elem (.field (tmS 0) "java/lang/String" "value" "[B") (.int (Int32.ofNat j))) (.int ((byts6.getD 0 []).getD j 0)) ∈ flatC N0 := by
  have h : j < 5 := h
  · by_cases h2 : j < 2
    · by_cases h1 : j < 1
      · obtain rfl : j = 0 := by omega
        exact nE_0_0
      · obtain rfl : j = 1 := by omega
        exact nE_0_1
    · by_cases h3 : j < 3
      · obtain rfl : j = 2 := by omega
        exact nE_0_2
      · by_cases h4 : j < 4
        · obtain rfl : j = 3 := by omega
          exact nE_0_3
        · obtain rfl : j = 4 := by omega
          exact nE_0_4
theorem nX_1 : Cond.exactly (tmS 1) "java/lang/String" ∈ flatC N0 := List.mem_of_getElem? (i := 96) rfl
theorem nO_1 : Cond.eq (.field (tmS 1) "java/lang/String" "coder" "B") (.int 0) ∈ flatC N0 := List.mem_of_getElem? (i := 97) rfl
theorem nY_1 : Cond.arrayOf (.field (tmS 1) "java/lang/String" "value" "[B") .byte ∈ flatC N0 := List.mem_of_getElem? (i := 98) rfl
theorem nL_1 : Cond.eq (.length (.field (tmS 1) "java/lang/String" "value" "[B")) (.int (Int32.ofNat (lens6.getD 1 0))) ∈ flatC N0 := List.mem_of_getElem? (i := 99) rfl
theorem nE_1_0 : Cond.eq (.elem (.field (tmS 1) "java/lang/String" "value" "[B") (.int (Int32.ofNat 0))) (.int ((byts6.getD 1 []).getD 0 0)) ∈ flatC N0 := List.mem_of_getElem? (i := 100) rfl
theorem nE_1_1 : Cond.eq (.elem (.field (tmS 1) "java/lang/String" "value" "[B") (.int (Int32.ofNat 1))) (.int ((byts6.getD 1 []).getD 1 0)) ∈ flatC N0 := List.mem_of_getElem? (i := 101) rfl
theorem nE_1_2 : Cond.eq (.elem (.field (tmS 1) "java/lang/String" "value" "[B") (.int (Int32.ofNat 2))) (.int ((byts6.getD 1 []).getD 2 0)) ∈ flatC N0 := List.mem_of_getElem? (i := 102) rfl
theorem nE_1_3 : Cond.eq (.elem (.field (tmS 1) "java/lang/String" "value" "[B") (.int (Int32.ofNat 3))) (.int ((byts6.getD 1 []).getD 3 0)) ∈ flatC N0 := List.mem_of_getElem? (i := 103) rfl
theorem nE_1_4 : Cond.eq (.elem (.field (tmS 1) "java/lang/String" "value" "[B") (.int (Int32.ofNat 4))) (.int ((byts6.getD 1 []).getD 4 0)) ∈ flatC N0 := List.mem_of_getElem? (i := 104) rfl
theorem nE_1_5 : Cond.eq (.elem (.field (tmS 1) "java/lang/String" "value" "[B") (.int (Int32.ofNat 5))) (.int ((byts6.getD 1 []).getD 5 0)) ∈ flatC N0 := List.mem_of_getElem? (i := 105) rfl
theorem nEa_1 {j : Nat} (h : j < lens6.getD 1 0) : Cond.eq (.elem (.field (tmS 1) "java/lang/String" "value" "[B") (.int (Int32.ofNat j))) (.int ((byts6.getD 1 []).getD j 0)) ∈ flatC N0 := by
  have h : j < 6 := h
  · by_cases h3 : j < 3
    · by_cases h1 : j < 1
      · obtain rfl : j = 0 := by omega
        exact nE_1_0
      · by_cases h2 : j < 2
        · obtain rfl : j = 1 := by omega
          exact nE_1_1
        · obtain rfl : j = 2 := by omega
          exact nE_1_2
    · by_cases h4 : j < 4
      · obtain rfl : j = 3 := by omega
        exact nE_1_3
      · by_cases h5 : j < 5
        · obtain rfl : j = 4 := by omega
          exact nE_1_4
        · obtain rfl : j = 5 := by omega
          exact nE_1_5
theorem nX_2 : Cond.exactly (tmS 2) "java/lang/String" ∈ flatC N0 := List.mem_of_getElem? (i := 107) rfl
theorem nO_2 : Cond.eq (.field (tmS 2) "java/lang/String" "coder" "B") (.int 0) ∈ flatC N0 := List.mem_of_getElem? (i := 108) rfl
theorem nY_2 : Cond.arrayOf (.field (tmS 2) "java/lang/String" "value" "[B") .byte ∈ flatC N0 := List.mem_of_getElem? (i := 109) rfl
theorem nL_2 : Cond.eq (.length (.field (tmS 2) "java/lang/String" "value" "[B")) (.int (Int32.ofNat (lens6.getD 2 0))) ∈ flatC N0 := List.mem_of_getElem? (i := 110) rfl
theorem nE_2_0 : Cond.eq (.elem (.field (tmS 2) "java/lang/String" "value" "[B") (.int (Int32.ofNat 0))) (.int ((byts6.getD 2 []).getD 0 0)) ∈ flatC N0 := List.mem_of_getElem? (i := 111) rfl
theorem nE_2_1 : Cond.eq (.elem (.field (tmS 2) "java/lang/String" "value" "[B") (.int (Int32.ofNat 1))) (.int ((byts6.getD 2 []).getD 1 0)) ∈ flatC N0 := List.mem_of_getElem? (i := 112) rfl
theorem nE_2_2 : Cond.eq (.elem (.field (tmS 2) "java/lang/String" "value" "[B") (.int (Int32.ofNat 2))) (.int ((byts6.getD 2 []).getD 2 0)) ∈ flatC N0 := List.mem_of_getElem? (i := 113) rfl
theorem nEa_2 {j : Nat} (h : j < lens6.getD 2 0) : Cond.eq (.elem (.field (tmS 2) "java/lang/String" "value" "[B") (.int (Int32.ofNat j))) (.int ((byts6.getD 2 []).getD j 0)) ∈ flatC N0 := by
  have h : j < 3 := h
  · by_cases h1 : j < 1
    · obtain rfl : j = 0 := by omega
      exact nE_2_0
    · by_cases h2 : j < 2
      · obtain rfl : j = 1 := by omega
        exact nE_2_1
      · obtain rfl : j = 2 := by omega
        exact nE_2_2
theorem nX_3 : Cond.exactly (tmS 3) "java/lang/String" ∈ flatC N0 := List.mem_of_getElem? (i := 116) rfl
theorem nO_3 : Cond.eq (.field (tmS 3) "java/lang/String" "coder" "B") (.int 0) ∈ flatC N0 := List.mem_of_getElem? (i := 117) rfl
theorem nY_3 : Cond.arrayOf (.field (tmS 3) "java/lang/String" "value" "[B") .byte ∈ flatC N0 := List.mem_of_getElem? (i := 118) rfl
theorem nL_3 : Cond.eq (.length (.field (tmS 3) "java/lang/String" "value" "[B")) (.int (Int32.ofNat (lens6.getD 3 0))) ∈ flatC N0 := List.mem_of_getElem? (i := 119) rfl
theorem nE_3_0 : Cond.eq (.elem (.field (tmS 3) "java/lang/String" "value" "[B") (.int (Int32.ofNat 0))) (.int ((byts6.getD 3 []).getD 0 0)) ∈ flatC N0 := List.mem_of_getElem? (i := 120) rfl
theorem nE_3_1 : Cond.eq (.elem (.field (tmS 3) "java/lang/String" "value" "[B") (.int (Int32.ofNat 1))) (.int ((byts6.getD 3 []).getD 1 0)) ∈ flatC N0 := List.mem_of_getElem? (i := 121) rfl
theorem nE_3_2 : Cond.eq (.elem (.field (tmS 3) "java/lang/String" "value" "[B") (.int (Int32.ofNat 2))) (.int ((byts6.getD 3 []).getD 2 0)) ∈ flatC N0 := List.mem_of_getElem? (i := 122) rfl
theorem nE_3_3 : Cond.eq (.elem (.field (tmS 3) "java/lang/String" "value" "[B") (.int (Int32.ofNat 3))) (.int ((byts6.getD 3 []).getD 3 0)) ∈ flatC N0 := List.mem_of_getElem? (i := 123) rfl
theorem nE_3_4 : Cond.eq (.elem (.field (tmS 3) "java/lang/String" "value" "[B") (.int (Int32.ofNat 4))) (.int ((byts6.getD 3 []).getD 4 0)) ∈ flatC N0 := List.mem_of_getElem? (i := 124) rfl
theorem nE_3_5 : Cond.eq (.elem (.field (tmS 3) "java/lang/String" "value" "[B") (.int (Int32.ofNat 5))) (.int ((byts6.getD 3 []).getD 5 0)) ∈ flatC N0 := List.mem_of_getElem? (i := 125) rfl
theorem nE_3_6 : Cond.eq (.elem (.field (tmS 3) "java/lang/String" "value" "[B") (.int (Int32.ofNat 6))) (.int ((byts6.getD 3 []).getD 6 0)) ∈ flatC N0 := List.mem_of_getElem? (i := 126) rfl
theorem nE_3_7 : Cond.eq (.elem (.field (tmS 3) "java/lang/String" "value" "[B") (.int (Int32.ofNat 7))) (.int ((byts6.getD 3 []).getD 7 0)) ∈ flatC N0 := List.mem_of_getElem? (i := 127) rfl
theorem nE_3_8 : Cond.eq (.elem (.field (tmS 3) "java/lang/String" "value" "[B") (.int (Int32.ofNat 8))) (.int ((byts6.getD 3 []).getD 8 0)) ∈ flatC N0 := List.mem_of_getElem? (i := 128) rfl
theorem nE_3_9 : Cond.eq (.elem (.field (tmS 3) "java/lang/String" "value" "[B") (.int (Int32.ofNat 9))) (.int ((byts6.getD 3 []).getD 9 0)) ∈ flatC N0 := List.mem_of_getElem? (i := 129) rfl
theorem nEa_3 {j : Nat} (h : j < lens6.getD 3 0) : Cond.eq (.elem (.field (tmS 3) "java/lang/String" "value" "[B") (.int (Int32.ofNat j))) (.int ((byts6.getD 3 []).getD j 0)) ∈ flatC N0 := by
  have h : j < 10 := h
  · by_cases h5 : j < 5
    · by_cases h2 : j < 2
      · by_cases h1 : j < 1
        · obtain rfl : j = 0 := by omega
          exact nE_3_0
        · obtain rfl : j = 1 := by omega
          exact nE_3_1
      · by_cases h3 : j < 3
        · obtain rfl : j = 2 := by omega
          exact nE_3_2
        · by_cases h4 : j < 4
          · obtain rfl : j = 3 := by omega
            exact nE_3_3
          · obtain rfl : j = 4 := by omega
            exact nE_3_4
    · by_cases h7 : j < 7
      · by_cases h6 : j < 6
        · obtain rfl : j = 5 := by omega
          exact nE_3_5
        · obtain rfl : j = 6 := by omega
          exact nE_3_6
      · by_cases h8 : j < 8
        · obtain rfl : j = 7 := by omega
          exact nE_3_7
        · by_cases h9 : j < 9
          · obtain rfl : j = 8 := by omega
            exact nE_3_8
          · obtain rfl : j = 9 := by omega
            exact nE_3_9
theorem nX_4 : Cond.exactly (tmS 4) "java/lang/String" ∈ flatC N0 := List.mem_of_getElem? (i := 133) rfl
theorem nO_4 : Cond.eq (.field (tmS 4) "java/lang/String" "coder" "B") (.int 0) ∈ flatC N0 := List.mem_of_getElem? (i := 134) rfl
theorem nY_4 : Cond.arrayOf (.field (tmS 4) "java/lang/String" "value" "[B") .byte ∈ flatC N0 := List.mem_of_getElem? (i := 135) rfl
theorem nL_4 : Cond.eq (.length (.field (tmS 4) "java/lang/String" "value" "[B")) (.int (Int32.ofNat (lens6.getD 4 0))) ∈ flatC N0 := List.mem_of_getElem? (i := 136) rfl
theorem nE_4_0 : Cond.eq (.elem (.field (tmS 4) "java/lang/String" "value" "[B") (.int (Int32.ofNat 0))) (.int ((byts6.getD 4 []).getD 0 0)) ∈ flatC N0 := List.mem_of_getElem? (i := 137) rfl
theorem nE_4_1 : Cond.eq (.elem (.field (tmS 4) "java/lang/String" "value" "[B") (.int (Int32.ofNat 1))) (.int ((byts6.getD 4 []).getD 1 0)) ∈ flatC N0 := List.mem_of_getElem? (i := 138) rfl
theorem nE_4_2 : Cond.eq (.elem (.field (tmS 4) "java/lang/String" "value" "[B") (.int (Int32.ofNat 2))) (.int ((byts6.getD 4 []).getD 2 0)) ∈ flatC N0 := List.mem_of_getElem? (i := 139) rfl
theorem nE_4_3 : Cond.eq (.elem (.field (tmS 4) "java/lang/String" "value" "[B") (.int (Int32.ofNat 3))) (.int ((byts6.getD 4 []).getD 3 0)) ∈ flatC N0 := List.mem_of_getElem? (i := 140) rfl
theorem nE_4_4 : Cond.eq (.elem (.field (tmS 4) "java/lang/String" "value" "[B") (.int (Int32.ofNat 4))) (.int ((byts6.getD 4 []).getD 4 0)) ∈ flatC N0 := List.mem_of_getElem? (i := 141) rfl
theorem nEa_4 {j : Nat} (h : j < lens6.getD 4 0) : Cond.eq (.elem (.field (tmS 4) "java/lang/String" "value" "[B") (.int (Int32.ofNat j))) (.int ((byts6.getD 4 []).getD j 0)) ∈ flatC N0 := by
  have h : j < 5 := h
  · by_cases h2 : j < 2
    · by_cases h1 : j < 1
      · obtain rfl : j = 0 := by omega
        exact nE_4_0
      · obtain rfl : j = 1 := by omega
        exact nE_4_1
    · by_cases h3 : j < 3
      · obtain rfl : j = 2 := by omega
        exact nE_4_2
      · by_cases h4 : j < 4
        · obtain rfl : j = 3 := by omega
          exact nE_4_3
        · obtain rfl : j = 4 := by omega
          exact nE_4_4
theorem nX_5 : Cond.exactly (tmS 5) "java/lang/String" ∈ flatC N0 := List.mem_of_getElem? (i := 146) rfl
theorem nO_5 : Cond.eq (.field (tmS 5) "java/lang/String" "coder" "B") (.int 0) ∈ flatC N0 := List.mem_of_getElem? (i := 147) rfl
theorem nY_5 : Cond.arrayOf (.field (tmS 5) "java/lang/String" "value" "[B") .byte ∈ flatC N0 := List.mem_of_getElem? (i := 148) rfl
theorem nL_5 : Cond.eq (.length (.field (tmS 5) "java/lang/String" "value" "[B")) (.int (Int32.ofNat (lens6.getD 5 0))) ∈ flatC N0 := List.mem_of_getElem? (i := 149) rfl
theorem nE_5_0 : Cond.eq (.elem (.field (tmS 5) "java/lang/String" "value" "[B") (.int (Int32.ofNat 0))) (.int ((byts6.getD 5 []).getD 0 0)) ∈ flatC N0 := List.mem_of_getElem? (i := 150) rfl
theorem nE_5_1 : Cond.eq (.elem (.field (tmS 5) "java/lang/String" "value" "[B") (.int (Int32.ofNat 1))) (.int ((byts6.getD 5 []).getD 1 0)) ∈ flatC N0 := List.mem_of_getElem? (i := 151) rfl
theorem nE_5_2 : Cond.eq (.elem (.field (tmS 5) "java/lang/String" "value" "[B") (.int (Int32.ofNat 2))) (.int ((byts6.getD 5 []).getD 2 0)) ∈ flatC N0 := List.mem_of_getElem? (i := 152) rfl
theorem nE_5_3 : Cond.eq (.elem (.field (tmS 5) "java/lang/String" "value" "[B") (.int (Int32.ofNat 3))) (.int ((byts6.getD 5 []).getD 3 0)) ∈ flatC N0 := List.mem_of_getElem? (i := 153) rfl
theorem nE_5_4 : Cond.eq (.elem (.field (tmS 5) "java/lang/String" "value" "[B") (.int (Int32.ofNat 4))) (.int ((byts6.getD 5 []).getD 4 0)) ∈ flatC N0 := List.mem_of_getElem? (i := 154) rfl
theorem nEa_5 {j : Nat} (h : j < lens6.getD 5 0) : Cond.eq (.elem (.field (tmS 5) "java/lang/String" "value" "[B") (.int (Int32.ofNat j))) (.int ((byts6.getD 5 []).getD j 0)) ∈ flatC N0 := by
  have h : j < 5 := h
  · by_cases h2 : j < 2
    · by_cases h1 : j < 1
      · obtain rfl : j = 0 := by omega
        exact nE_5_0
      · obtain rfl : j = 1 := by omega
        exact nE_5_1
    · by_cases h3 : j < 3
      · obtain rfl : j = 2 := by omega
        exact nE_5_2
      · by_cases h4 : j < 4
        · obtain rfl : j = 3 := by omega
          exact nE_5_3
        · obtain rfl : j = 4 := by omega
          exact nE_5_4
theorem nX_all {i : Nat} (h : i < 6) : Cond.exactly (tmS i) "java/lang/String" ∈ flatC N0 := by
  · by_cases h3 : i < 3
    · by_cases h1 : i < 1
      · obtain rfl : i = 0 := by omega
        exact nX_0
      · by_cases h2 : i < 2
        · obtain rfl : i = 1 := by omega
          exact nX_1
        · obtain rfl : i = 2 := by omega
          exact nX_2
    · by_cases h4 : i < 4
      · obtain rfl : i = 3 := by omega
        exact nX_3
      · by_cases h5 : i < 5
        · obtain rfl : i = 4 := by omega
          exact nX_4
        · obtain rfl : i = 5 := by omega
          exact nX_5
theorem nO_all {i : Nat} (h : i < 6) : Cond.eq (.field (tmS i) "java/lang/String" "coder" "B") (.int 0) ∈ flatC N0 := by
  · by_cases h3 : i < 3
    · by_cases h1 : i < 1
      · obtain rfl : i = 0 := by omega
        exact nO_0
      · by_cases h2 : i < 2
        · obtain rfl : i = 1 := by omega
          exact nO_1
        · obtain rfl : i = 2 := by omega
          exact nO_2
    · by_cases h4 : i < 4
      · obtain rfl : i = 3 := by omega
        exact nO_3
      · by_cases h5 : i < 5
        · obtain rfl : i = 4 := by omega
          exact nO_4
        · obtain rfl : i = 5 := by omega
          exact nO_5
theorem nY_all {i : Nat} (h : i < 6) : Cond.arrayOf (.field (tmS i) "java/lang/String" "value" "[B") .byte ∈ flatC N0 := by
  · by_cases h3 : i < 3
    · by_cases h1 : i < 1
      · obtain rfl : i = 0 := by omega
        exact nY_0
      · by_cases h2 : i < 2
        · obtain rfl : i = 1 := by omega
          exact nY_1
        · obtain rfl : i = 2 := by omega
          exact nY_2
    · by_cases h4 : i < 4
      · obtain rfl : i = 3 := by omega
        exact nY_3
      · by_cases h5 : i < 5
        · obtain rfl : i = 4 := by omega
          exact nY_4
        · obtain rfl : i = 5 := by omega
          exact nY_5
theorem nL_all {i : Nat} (h : i < 6) : Cond.eq (.length (.field (tmS i) "java/lang/String" "value" "[B")) (.int (Int32.ofNat (lens6.getD i 0))) ∈ flatC N0 := by
  · by_cases h3 : i < 3
    · by_cases h1 : i < 1
      · obtain rfl : i = 0 := by omega
        exact nL_0
      · by_cases h2 : i < 2
        · obtain rfl : i = 1 := by omega
          exact nL_1
        · obtain rfl : i = 2 := by omega
          exact nL_2
    · by_cases h4 : i < 4
      · obtain rfl : i = 3 := by omega
        exact nL_3
      · by_cases h5 : i < 5
        · obtain rfl : i = 4 := by omega
          exact nL_4
        · obtain rfl : i = 5 := by omega
          exact nL_5
theorem nE_all {i : Nat} (h : i < 6) {j : Nat} (hj : j < lens6.getD i 0) : Cond.eq (.elem (.field (tmS i) "java/lang/String" "value" "[B") (.int (Int32.ofNat j))) (.int ((byts6.getD i []).getD j 0)) ∈ flatC N0 := by
  · by_cases h3 : i < 3
    · by_cases h1 : i < 1
      · obtain rfl : i = 0 := by omega
        exact nEa_0 hj
      · by_cases h2 : i < 2
        · obtain rfl : i = 1 := by omega
          exact nEa_1 hj
        · obtain rfl : i = 2 := by omega
          exact nEa_2 hj
    · by_cases h4 : i < 4
      · obtain rfl : i = 3 := by omega
        exact nEa_3 hj
      · by_cases h5 : i < 5
        · obtain rfl : i = 4 := by omega
          exact nEa_4 hj
        · obtain rfl : i = 5 := by omega
          exact nEa_5 hj
theorem nN_0 {j : Nat} (h : j < 6) (hn : 0 ≠ j) : (Cond.not (Cond.eq (tmS 0) (tmS j))) ∈ flatC N0 ∨ (Cond.not (Cond.eq (tmS j) (tmS 0))) ∈ flatC N0 := by
  · by_cases h3 : j < 3
    · by_cases h1 : j < 1
      · obtain rfl : j = 0 := by omega
        exact absurd rfl hn
      · by_cases h2 : j < 2
        · obtain rfl : j = 1 := by omega
          exact Or.inl (List.mem_of_getElem? (i := 106) rfl)
        · obtain rfl : j = 2 := by omega
          exact Or.inl (List.mem_of_getElem? (i := 114) rfl)
    · by_cases h4 : j < 4
      · obtain rfl : j = 3 := by omega
        exact Or.inl (List.mem_of_getElem? (i := 130) rfl)
      · by_cases h5 : j < 5
        · obtain rfl : j = 4 := by omega
          exact Or.inl (List.mem_of_getElem? (i := 142) rfl)
        · obtain rfl : j = 5 := by omega
          exact Or.inl (List.mem_of_getElem? (i := 155) rfl)
theorem nN_1 {j : Nat} (h : j < 6) (hn : 1 ≠ j) : (Cond.not (Cond.eq (tmS 1) (tmS j))) ∈ flatC N0 ∨ (Cond.not (Cond.eq (tmS j) (tmS 1))) ∈ flatC N0 := by
  · by_cases h3 : j < 3
    · by_cases h1 : j < 1
      · obtain rfl : j = 0 := by omega
        exact Or.inr (List.mem_of_getElem? (i := 106) rfl)
      · by_cases h2 : j < 2
        · obtain rfl : j = 1 := by omega
          exact absurd rfl hn
        · obtain rfl : j = 2 := by omega
          exact Or.inl (List.mem_of_getElem? (i := 115) rfl)
    · by_cases h4 : j < 4
      · obtain rfl : j = 3 := by omega
        exact Or.inl (List.mem_of_getElem? (i := 131) rfl)
      · by_cases h5 : j < 5
        · obtain rfl : j = 4 := by omega
          exact Or.inl (List.mem_of_getElem? (i := 143) rfl)
        · obtain rfl : j = 5 := by omega
          exact Or.inl (List.mem_of_getElem? (i := 156) rfl)
theorem nN_2 {j : Nat} (h : j < 6) (hn : 2 ≠ j) : (Cond.not (Cond.eq (tmS 2) (tmS j))) ∈ flatC N0 ∨ (Cond.not (Cond.eq (tmS j) (tmS 2))) ∈ flatC N0 := by
  · by_cases h3 : j < 3
    · by_cases h1 : j < 1
      · obtain rfl : j = 0 := by omega
        exact Or.inr (List.mem_of_getElem? (i := 114) rfl)
      · by_cases h2 : j < 2
        · obtain rfl : j = 1 := by omega
          exact Or.inr (List.mem_of_getElem? (i := 115) rfl)
        · obtain rfl : j = 2 := by omega
          exact absurd rfl hn
    · by_cases h4 : j < 4
      · obtain rfl : j = 3 := by omega
        exact Or.inl (List.mem_of_getElem? (i := 132) rfl)
      · by_cases h5 : j < 5
        · obtain rfl : j = 4 := by omega
          exact Or.inl (List.mem_of_getElem? (i := 144) rfl)
        · obtain rfl : j = 5 := by omega
          exact Or.inl (List.mem_of_getElem? (i := 157) rfl)
theorem nN_3 {j : Nat} (h : j < 6) (hn : 3 ≠ j) : (Cond.not (Cond.eq (tmS 3) (tmS j))) ∈ flatC N0 ∨ (Cond.not (Cond.eq (tmS j) (tmS 3))) ∈ flatC N0 := by
  · by_cases h3 : j < 3
    · by_cases h1 : j < 1
      · obtain rfl : j = 0 := by omega
        exact Or.inr (List.mem_of_getElem? (i := 130) rfl)
      · by_cases h2 : j < 2
        · obtain rfl : j = 1 := by omega
          exact Or.inr (List.mem_of_getElem? (i := 131) rfl)
        · obtain rfl : j = 2 := by omega
          exact Or.inr (List.mem_of_getElem? (i := 132) rfl)
    · by_cases h4 : j < 4
      · obtain rfl : j = 3 := by omega
        exact absurd rfl hn
      · by_cases h5 : j < 5
        · obtain rfl : j = 4 := by omega
          exact Or.inl (List.mem_of_getElem? (i := 145) rfl)
        · obtain rfl : j = 5 := by omega
          exact Or.inl (List.mem_of_getElem? (i := 158) rfl)
theorem nN_4 {j : Nat} (h : j < 6) (hn : 4 ≠ j) : (Cond.not (Cond.eq (tmS 4) (tmS j))) ∈ flatC N0 ∨ (Cond.not (Cond.eq (tmS j) (tmS 4))) ∈ flatC N0 := by
  · by_cases h3 : j < 3
    · by_cases h1 : j < 1
      · obtain rfl : j = 0 := by omega
        exact Or.inr (List.mem_of_getElem? (i := 142) rfl)
      · by_cases h2 : j < 2
        · obtain rfl : j = 1 := by omega
          exact Or.inr (List.mem_of_getElem? (i := 143) rfl)
        · obtain rfl : j = 2 := by omega
          exact Or.inr (List.mem_of_getElem? (i := 144) rfl)
    · by_cases h4 : j < 4
      · obtain rfl : j = 3 := by omega
        exact Or.inr (List.mem_of_getElem? (i := 145) rfl)
      · by_cases h5 : j < 5
        · obtain rfl : j = 4 := by omega
          exact absurd rfl hn
        · obtain rfl : j = 5 := by omega
          exact Or.inl (List.mem_of_getElem? (i := 159) rfl)
theorem nN_5 {j : Nat} (h : j < 6) (hn : 5 ≠ j) : (Cond.not (Cond.eq (tmS 5) (tmS j))) ∈ flatC N0 ∨ (Cond.not (Cond.eq (tmS j) (tmS 5))) ∈ flatC N0 := by
  · by_cases h3 : j < 3
    · by_cases h1 : j < 1
      · obtain rfl : j = 0 := by omega
        exact Or.inr (List.mem_of_getElem? (i := 155) rfl)
      · by_cases h2 : j < 2
        · obtain rfl : j = 1 := by omega
          exact Or.inr (List.mem_of_getElem? (i := 156) rfl)
        · obtain rfl : j = 2 := by omega
          exact Or.inr (List.mem_of_getElem? (i := 157) rfl)
    · by_cases h4 : j < 4
      · obtain rfl : j = 3 := by omega
        exact Or.inr (List.mem_of_getElem? (i := 158) rfl)
      · by_cases h5 : j < 5
        · obtain rfl : j = 4 := by omega
          exact Or.inr (List.mem_of_getElem? (i := 159) rfl)
        · obtain rfl : j = 5 := by omega
          exact absurd rfl hn
theorem nN_all {i : Nat} (hi : i < 6) {j : Nat} (h : j < 6) (hn : i ≠ j) : (Cond.not (Cond.eq (tmS i) (tmS j))) ∈ flatC N0 ∨ (Cond.not (Cond.eq (tmS j) (tmS i))) ∈ flatC N0 := by
  · by_cases h3 : i < 3
    · by_cases h1 : i < 1
      · obtain rfl : i = 0 := by omega
        exact nN_0 h hn
      · by_cases h2 : i < 2
        · obtain rfl : i = 1 := by omega
          exact nN_1 h hn
        · obtain rfl : i = 2 := by omega
          exact nN_2 h hn
    · by_cases h4 : i < 4
      · obtain rfl : i = 3 := by omega
        exact nN_3 h hn
      · by_cases h5 : i < 5
        · obtain rfl : i = 4 := by omega
          exact nN_4 h hn
        · obtain rfl : i = 5 := by omega
          exact nN_5 h hn
theorem zl_1 : Cond.laysStatic (gC 1) (gN 1) (gD 1) ∈ lw_tbl := tm_2 _ (List.mem_of_getElem? (i := 170) rfl)
theorem zi_1 : Cond.initialized (gC 1) ∈ lw_tbl := tm_1 _ (List.mem_of_getElem? (i := 1) rfl)
theorem zl_20 : Cond.laysStatic (gC 20) (gN 20) (gD 20) ∈ lw_tbl := tm_3 _ (List.mem_of_getElem? (i := 31) rfl)
theorem zi_20 : Cond.initialized (gC 20) ∈ lw_tbl := tm_1 _ (List.mem_of_getElem? (i := 15) rfl)
theorem zl_15 : Cond.laysStatic (gC 15) (gN 15) (gD 15) ∈ lw_tbl := tm_3 _ (List.mem_of_getElem? (i := 47) rfl)
theorem zi_15 : Cond.initialized (gC 15) ∈ lw_tbl := tm_1 _ (List.mem_of_getElem? (i := 17) rfl)
theorem zl_2 : Cond.laysStatic (gC 2) (gN 2) (gD 2) ∈ lw_tbl := tm_4 _ (List.mem_of_getElem? (i := 192) rfl)
theorem zi_2 : Cond.initialized (gC 2) ∈ lw_tbl := tm_1 _ (List.mem_of_getElem? (i := 10) rfl)
theorem zs_0 : Cond.stringRef xStrOwn (sIx (3 + 0)) (sTx (3 + 0)) ∈ lw_tbl := tm_3 _ (List.mem_of_getElem? (i := 17) rfl)
theorem zs_1 : Cond.stringRef xStrOwn (sIx (3 + 1)) (sTx (3 + 1)) ∈ lw_tbl := tm_3 _ (List.mem_of_getElem? (i := 86) rfl)
theorem zs_2 : Cond.stringRef xStrOwn (sIx (3 + 2)) (sTx (3 + 2)) ∈ lw_tbl := tm_3 _ (List.mem_of_getElem? (i := 146) rfl)
theorem zs_3 : Cond.stringRef xStrOwn (sIx (3 + 3)) (sTx (3 + 3)) ∈ lw_tbl := tm_3 _ (List.mem_of_getElem? (i := 151) rfl)
theorem zs_4 : Cond.stringRef xStrOwn (sIx (3 + 4)) (sTx (3 + 4)) ∈ lw_tbl := tm_3 _ (List.mem_of_getElem? (i := 157) rfl)
theorem zs_5 : Cond.stringRef xStrOwn (sIx (3 + 5)) (sTx (3 + 5)) ∈ lw_tbl := tm_3 _ (List.mem_of_getElem? (i := 158) rfl)
theorem zs_all {i : Nat} (h : i < 6) : Cond.stringRef xStrOwn (sIx (3 + i)) (sTx (3 + i)) ∈ lw_tbl := by
  · by_cases h3 : i < 3
    · by_cases h1 : i < 1
      · obtain rfl : i = 0 := by omega
        exact zs_0
      · by_cases h2 : i < 2
        · obtain rfl : i = 1 := by omega
          exact zs_1
        · obtain rfl : i = 2 := by omega
          exact zs_2
    · by_cases h4 : i < 4
      · obtain rfl : i = 3 := by omega
        exact zs_3
      · by_cases h5 : i < 5
        · obtain rfl : i = 4 := by omega
          exact zs_4
        · obtain rfl : i = 5 := by omega
          exact zs_5
