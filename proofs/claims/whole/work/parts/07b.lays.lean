/-! the fields of the classes, by their numbers -/
theorem la_0_0 : u_lay (cNm 0) (fT 0) 0 ∈ lw_tbl ∧ (fT 0 0).1 = cNm 0 := ⟨tm_2 _ (List.mem_of_getElem? (i := 29) rfl), rfl⟩
theorem la_0_1 : u_lay (cNm 0) (fT 0) 1 ∈ lw_tbl ∧ (fT 0 1).1 = cNm 0 := ⟨tm_2 _ (List.mem_of_getElem? (i := 31) rfl), rfl⟩
theorem lb_0 {j : Nat} (h : j < 2) : u_lay (cNm 0) (fT 0) j ∈ lw_tbl ∧ (fT 0 j).1 = cNm 0 := by
  · by_cases h1 : j < 1
    · obtain rfl : j = 0 := by omega
      exact la_0_0
    · obtain rfl : j = 1 := by omega
      exact la_0_1
theorem la_1_0 : u_lay (cNm 1) (fT 1) 0 ∈ lw_tbl ∧ (fT 1 0).1 = cNm 1 := ⟨tm_1 _ (List.mem_of_getElem? (i := 133) rfl), rfl⟩
theorem la_1_1 : u_lay (cNm 1) (fT 1) 1 ∈ lw_tbl ∧ (fT 1 1).1 = cNm 1 := ⟨tm_1 _ (List.mem_of_getElem? (i := 135) rfl), rfl⟩
theorem la_1_2 : u_lay (cNm 1) (fT 1) 2 ∈ lw_tbl ∧ (fT 1 2).1 = cNm 1 := ⟨tm_1 _ (List.mem_of_getElem? (i := 137) rfl), rfl⟩
theorem la_1_3 : u_lay (cNm 1) (fT 1) 3 ∈ lw_tbl ∧ (fT 1 3).1 = cNm 1 := ⟨tm_1 _ (List.mem_of_getElem? (i := 139) rfl), rfl⟩
theorem la_1_4 : u_lay (cNm 1) (fT 1) 4 ∈ lw_tbl ∧ (fT 1 4).1 = cNm 1 := ⟨tm_1 _ (List.mem_of_getElem? (i := 141) rfl), rfl⟩
theorem la_1_5 : u_lay (cNm 1) (fT 1) 5 ∈ lw_tbl ∧ (fT 1 5).1 = cNm 1 := ⟨tm_1 _ (List.mem_of_getElem? (i := 143) rfl), rfl⟩
theorem lb_1 {j : Nat} (h : j < 6) : u_lay (cNm 1) (fT 1) j ∈ lw_tbl ∧ (fT 1 j).1 = cNm 1 := by
  · by_cases h3 : j < 3
    · by_cases h1 : j < 1
      · obtain rfl : j = 0 := by omega
        exact la_1_0
      · by_cases h2 : j < 2
        · obtain rfl : j = 1 := by omega
          exact la_1_1
        · obtain rfl : j = 2 := by omega
          exact la_1_2
    · by_cases h4 : j < 4
      · obtain rfl : j = 3 := by omega
        exact la_1_3
      · by_cases h5 : j < 5
        · obtain rfl : j = 4 := by omega
          exact la_1_4
        · obtain rfl : j = 5 := by omega
          exact la_1_5
theorem la_2_0 : u_lay (cNm 2) (fT 2) 0 ∈ lw_tbl ∧ (fT 2 0).1 = cNm 2 := ⟨tm_1 _ (List.mem_of_getElem? (i := 234) rfl), rfl⟩
theorem la_2_1 : u_lay (cNm 2) (fT 2) 1 ∈ lw_tbl ∧ (fT 2 1).1 = cNm 2 := ⟨tm_1 _ (List.mem_of_getElem? (i := 236) rfl), rfl⟩
theorem la_2_2 : u_lay (cNm 2) (fT 2) 2 ∈ lw_tbl ∧ (fT 2 2).1 = cNm 2 := ⟨tm_1 _ (List.mem_of_getElem? (i := 238) rfl), rfl⟩
theorem la_2_3 : u_lay (cNm 2) (fT 2) 3 ∈ lw_tbl ∧ (fT 2 3).1 = cNm 2 := ⟨tm_2 _ (List.mem_of_getElem? (i := 0) rfl), rfl⟩
theorem la_2_4 : u_lay (cNm 2) (fT 2) 4 ∈ lw_tbl ∧ (fT 2 4).1 = cNm 2 := ⟨tm_2 _ (List.mem_of_getElem? (i := 2) rfl), rfl⟩
theorem la_2_5 : u_lay (cNm 2) (fT 2) 5 ∈ lw_tbl ∧ (fT 2 5).1 = cNm 2 := ⟨tm_2 _ (List.mem_of_getElem? (i := 4) rfl), rfl⟩
theorem la_2_6 : u_lay (cNm 2) (fT 2) 6 ∈ lw_tbl ∧ (fT 2 6).1 = cNm 2 := ⟨tm_2 _ (List.mem_of_getElem? (i := 6) rfl), rfl⟩
theorem la_2_7 : u_lay (cNm 2) (fT 2) 7 ∈ lw_tbl ∧ (fT 2 7).1 = cNm 2 := ⟨tm_2 _ (List.mem_of_getElem? (i := 8) rfl), rfl⟩
theorem la_2_8 : u_lay (cNm 2) (fT 2) 8 ∈ lw_tbl ∧ (fT 2 8).1 = cNm 2 := ⟨tm_2 _ (List.mem_of_getElem? (i := 10) rfl), rfl⟩
theorem la_2_9 : u_lay (cNm 2) (fT 2) 9 ∈ lw_tbl ∧ (fT 2 9).1 = cNm 2 := ⟨tm_2 _ (List.mem_of_getElem? (i := 12) rfl), rfl⟩
theorem lb_2 {j : Nat} (h : j < 10) : u_lay (cNm 2) (fT 2) j ∈ lw_tbl ∧ (fT 2 j).1 = cNm 2 := by
  · by_cases h5 : j < 5
    · by_cases h2 : j < 2
      · by_cases h1 : j < 1
        · obtain rfl : j = 0 := by omega
          exact la_2_0
        · obtain rfl : j = 1 := by omega
          exact la_2_1
      · by_cases h3 : j < 3
        · obtain rfl : j = 2 := by omega
          exact la_2_2
        · by_cases h4 : j < 4
          · obtain rfl : j = 3 := by omega
            exact la_2_3
          · obtain rfl : j = 4 := by omega
            exact la_2_4
    · by_cases h7 : j < 7
      · by_cases h6 : j < 6
        · obtain rfl : j = 5 := by omega
          exact la_2_5
        · obtain rfl : j = 6 := by omega
          exact la_2_6
      · by_cases h8 : j < 8
        · obtain rfl : j = 7 := by omega
          exact la_2_7
        · by_cases h9 : j < 9
          · obtain rfl : j = 8 := by omega
            exact la_2_8
          · obtain rfl : j = 9 := by omega
            exact la_2_9
theorem la_3_0 : u_lay (cNm 3) (fT 3) 0 ∈ lw_tbl ∧ (fT 3 0).1 = cNm 3 := ⟨tm_1 _ (List.mem_of_getElem? (i := 46) rfl), rfl⟩
theorem la_3_1 : u_lay (cNm 3) (fT 3) 1 ∈ lw_tbl ∧ (fT 3 1).1 = cNm 3 := ⟨tm_1 _ (List.mem_of_getElem? (i := 48) rfl), rfl⟩
theorem lb_3 {j : Nat} (h : j < 2) : u_lay (cNm 3) (fT 3) j ∈ lw_tbl ∧ (fT 3 j).1 = cNm 3 := by
  · by_cases h1 : j < 1
    · obtain rfl : j = 0 := by omega
      exact la_3_0
    · obtain rfl : j = 1 := by omega
      exact la_3_1
theorem la_4_0 : u_lay (cNm 4) (fT 4) 0 ∈ lw_tbl ∧ (fT 4 0).1 = cNm 4 := ⟨tm_1 _ (List.mem_of_getElem? (i := 207) rfl), rfl⟩
theorem la_4_1 : u_lay (cNm 4) (fT 4) 1 ∈ lw_tbl ∧ (fT 4 1).1 = cNm 4 := ⟨tm_1 _ (List.mem_of_getElem? (i := 209) rfl), rfl⟩
theorem la_4_2 : u_lay (cNm 4) (fT 4) 2 ∈ lw_tbl ∧ (fT 4 2).1 = cNm 4 := ⟨tm_1 _ (List.mem_of_getElem? (i := 211) rfl), rfl⟩
theorem la_4_3 : u_lay (cNm 4) (fT 4) 3 ∈ lw_tbl ∧ (fT 4 3).1 = cNm 4 := ⟨tm_1 _ (List.mem_of_getElem? (i := 213) rfl), rfl⟩
theorem lb_4 {j : Nat} (h : j < 4) : u_lay (cNm 4) (fT 4) j ∈ lw_tbl ∧ (fT 4 j).1 = cNm 4 := by
  · by_cases h2 : j < 2
    · by_cases h1 : j < 1
      · obtain rfl : j = 0 := by omega
        exact la_4_0
      · obtain rfl : j = 1 := by omega
        exact la_4_1
    · by_cases h3 : j < 3
      · obtain rfl : j = 2 := by omega
        exact la_4_2
      · obtain rfl : j = 3 := by omega
        exact la_4_3
theorem la_5_0 : u_lay (cNm 5) (fT 5) 0 ∈ lw_tbl ∧ (fT 5 0).1 = cNm 5 := ⟨tm_1 _ (List.mem_of_getElem? (i := 93) rfl), rfl⟩
theorem la_5_1 : u_lay (cNm 5) (fT 5) 1 ∈ lw_tbl ∧ (fT 5 1).1 = cNm 5 := ⟨tm_1 _ (List.mem_of_getElem? (i := 95) rfl), rfl⟩
theorem la_5_2 : u_lay (cNm 5) (fT 5) 2 ∈ lw_tbl ∧ (fT 5 2).1 = cNm 5 := ⟨tm_1 _ (List.mem_of_getElem? (i := 97) rfl), rfl⟩
theorem la_5_3 : u_lay (cNm 5) (fT 5) 3 ∈ lw_tbl ∧ (fT 5 3).1 = cNm 5 := ⟨tm_1 _ (List.mem_of_getElem? (i := 99) rfl), rfl⟩
theorem lb_5 {j : Nat} (h : j < 4) : u_lay (cNm 5) (fT 5) j ∈ lw_tbl ∧ (fT 5 j).1 = cNm 5 := by
  · by_cases h2 : j < 2
    · by_cases h1 : j < 1
      · obtain rfl : j = 0 := by omega
        exact la_5_0
      · obtain rfl : j = 1 := by omega
        exact la_5_1
    · by_cases h3 : j < 3
      · obtain rfl : j = 2 := by omega
        exact la_5_2
      · obtain rfl : j = 3 := by omega
        exact la_5_3
theorem la_6_0 : u_lay (cNm 6) (fT 6) 0 ∈ lw_tbl ∧ (fT 6 0).1 = cNm 6 := ⟨tm_1 _ (List.mem_of_getElem? (i := 171) rfl), rfl⟩
theorem la_6_1 : u_lay (cNm 6) (fT 6) 1 ∈ lw_tbl ∧ (fT 6 1).1 = cNm 6 := ⟨tm_1 _ (List.mem_of_getElem? (i := 173) rfl), rfl⟩
theorem la_6_2 : u_lay (cNm 6) (fT 6) 2 ∈ lw_tbl ∧ (fT 6 2).1 = cNm 6 := ⟨tm_1 _ (List.mem_of_getElem? (i := 175) rfl), rfl⟩
theorem la_6_3 : u_lay (cNm 6) (fT 6) 3 ∈ lw_tbl ∧ (fT 6 3).1 = cNm 6 := ⟨tm_1 _ (List.mem_of_getElem? (i := 177) rfl), rfl⟩
theorem la_6_4 : u_lay (cNm 6) (fT 6) 4 ∈ lw_tbl ∧ (fT 6 4).1 = cNm 6 := ⟨tm_1 _ (List.mem_of_getElem? (i := 179) rfl), rfl⟩
theorem lb_6 {j : Nat} (h : j < 5) : u_lay (cNm 6) (fT 6) j ∈ lw_tbl ∧ (fT 6 j).1 = cNm 6 := by
  · by_cases h2 : j < 2
    · by_cases h1 : j < 1
      · obtain rfl : j = 0 := by omega
        exact la_6_0
      · obtain rfl : j = 1 := by omega
        exact la_6_1
    · by_cases h3 : j < 3
      · obtain rfl : j = 2 := by omega
        exact la_6_2
      · by_cases h4 : j < 4
        · obtain rfl : j = 3 := by omega
          exact la_6_3
        · obtain rfl : j = 4 := by omega
          exact la_6_4
theorem la_7_0 : u_lay (cNm 7) (fT 7) 0 ∈ lw_tbl ∧ (fT 7 0).1 = cNm 7 := ⟨tm_1 _ (List.mem_of_getElem? (i := 78) rfl), rfl⟩
theorem la_7_1 : u_lay (cNm 7) (fT 7) 1 ∈ lw_tbl ∧ (fT 7 1).1 = cNm 7 := ⟨tm_1 _ (List.mem_of_getElem? (i := 80) rfl), rfl⟩
theorem la_7_2 : u_lay (cNm 7) (fT 7) 2 ∈ lw_tbl ∧ (fT 7 2).1 = cNm 7 := ⟨tm_1 _ (List.mem_of_getElem? (i := 82) rfl), rfl⟩
theorem la_7_3 : u_lay (cNm 7) (fT 7) 3 ∈ lw_tbl ∧ (fT 7 3).1 = cNm 7 := ⟨tm_1 _ (List.mem_of_getElem? (i := 84) rfl), rfl⟩
theorem la_7_4 : u_lay (cNm 7) (fT 7) 4 ∈ lw_tbl ∧ (fT 7 4).1 = cNm 7 := ⟨tm_1 _ (List.mem_of_getElem? (i := 86) rfl), rfl⟩
theorem lb_7 {j : Nat} (h : j < 5) : u_lay (cNm 7) (fT 7) j ∈ lw_tbl ∧ (fT 7 j).1 = cNm 7 := by
  · by_cases h2 : j < 2
    · by_cases h1 : j < 1
      · obtain rfl : j = 0 := by omega
        exact la_7_0
      · obtain rfl : j = 1 := by omega
        exact la_7_1
    · by_cases h3 : j < 3
      · obtain rfl : j = 2 := by omega
        exact la_7_2
      · by_cases h4 : j < 4
        · obtain rfl : j = 3 := by omega
          exact la_7_3
        · obtain rfl : j = 4 := by omega
          exact la_7_4
theorem la_8_0 : u_lay (cNm 8) (fT 8) 0 ∈ lw_tbl ∧ (fT 8 0).1 = cNm 8 := ⟨tm_2 _ (List.mem_of_getElem? (i := 48) rfl), rfl⟩
theorem la_8_1 : u_lay (cNm 8) (fT 8) 1 ∈ lw_tbl ∧ (fT 8 1).1 = cNm 8 := ⟨tm_2 _ (List.mem_of_getElem? (i := 50) rfl), rfl⟩
theorem la_8_2 : u_lay (cNm 8) (fT 8) 2 ∈ lw_tbl ∧ (fT 8 2).1 = cNm 8 := ⟨tm_2 _ (List.mem_of_getElem? (i := 52) rfl), rfl⟩
theorem lb_8 {j : Nat} (h : j < 3) : u_lay (cNm 8) (fT 8) j ∈ lw_tbl ∧ (fT 8 j).1 = cNm 8 := by
  · by_cases h1 : j < 1
    · obtain rfl : j = 0 := by omega
      exact la_8_0
    · by_cases h2 : j < 2
      · obtain rfl : j = 1 := by omega
        exact la_8_1
      · obtain rfl : j = 2 := by omega
        exact la_8_2
theorem la_9_0 : u_lay (cNm 9) (fT 9) 0 ∈ lw_tbl ∧ (fT 9 0).1 = cNm 9 := ⟨tm_2 _ (List.mem_of_getElem? (i := 67) rfl), rfl⟩
theorem la_9_1 : u_lay (cNm 9) (fT 9) 1 ∈ lw_tbl ∧ (fT 9 1).1 = cNm 9 := ⟨tm_2 _ (List.mem_of_getElem? (i := 69) rfl), rfl⟩
theorem la_9_2 : u_lay (cNm 9) (fT 9) 2 ∈ lw_tbl ∧ (fT 9 2).1 = cNm 9 := ⟨tm_2 _ (List.mem_of_getElem? (i := 71) rfl), rfl⟩
theorem la_9_3 : u_lay (cNm 9) (fT 9) 3 ∈ lw_tbl ∧ (fT 9 3).1 = cNm 9 := ⟨tm_2 _ (List.mem_of_getElem? (i := 73) rfl), rfl⟩
theorem la_9_4 : u_lay (cNm 9) (fT 9) 4 ∈ lw_tbl ∧ (fT 9 4).1 = cNm 9 := ⟨tm_2 _ (List.mem_of_getElem? (i := 75) rfl), rfl⟩
theorem la_9_5 : u_lay (cNm 9) (fT 9) 5 ∈ lw_tbl ∧ (fT 9 5).1 = cNm 9 := ⟨tm_2 _ (List.mem_of_getElem? (i := 77) rfl), rfl⟩
theorem la_9_6 : u_lay (cNm 9) (fT 9) 6 ∈ lw_tbl ∧ (fT 9 6).1 = cNm 9 := ⟨tm_2 _ (List.mem_of_getElem? (i := 79) rfl), rfl⟩
theorem la_9_7 : u_lay (cNm 9) (fT 9) 7 ∈ lw_tbl ∧ (fT 9 7).1 = cNm 9 := ⟨tm_2 _ (List.mem_of_getElem? (i := 81) rfl), rfl⟩
theorem la_9_8 : u_lay (cNm 9) (fT 9) 8 ∈ lw_tbl ∧ (fT 9 8).1 = cNm 9 := ⟨tm_2 _ (List.mem_of_getElem? (i := 83) rfl), rfl⟩
theorem la_9_9 : u_lay (cNm 9) (fT 9) 9 ∈ lw_tbl ∧ (fT 9 9).1 = cNm 9 := ⟨tm_2 _ (List.mem_of_getElem? (i := 85) rfl), rfl⟩
theorem la_9_10 : u_lay (cNm 9) (fT 9) 10 ∈ lw_tbl ∧ (fT 9 10).1 = cNm 9 := ⟨tm_2 _ (List.mem_of_getElem? (i := 87) rfl), rfl⟩
theorem lb_9 {j : Nat} (h : j < 11) : u_lay (cNm 9) (fT 9) j ∈ lw_tbl ∧ (fT 9 j).1 = cNm 9 := by
  · by_cases h5 : j < 5
    · by_cases h2 : j < 2
      · by_cases h1 : j < 1
        · obtain rfl : j = 0 := by omega
          exact la_9_0
        · obtain rfl : j = 1 := by omega
          exact la_9_1
      · by_cases h3 : j < 3
        · obtain rfl : j = 2 := by omega
          exact la_9_2
        · by_cases h4 : j < 4
          · obtain rfl : j = 3 := by omega
            exact la_9_3
          · obtain rfl : j = 4 := by omega
            exact la_9_4
    · by_cases h8 : j < 8
      · by_cases h6 : j < 6
        · obtain rfl : j = 5 := by omega
          exact la_9_5
        · by_cases h7 : j < 7
          · obtain rfl : j = 6 := by omega
            exact la_9_6
          · obtain rfl : j = 7 := by omega
            exact la_9_7
      · by_cases h9 : j < 9
        · obtain rfl : j = 8 := by omega
          exact la_9_8
        · by_cases h10 : j < 10
          · obtain rfl : j = 9 := by omega
            exact la_9_9
          · obtain rfl : j = 10 := by omega
            exact la_9_10
theorem la_10_0 : u_lay (cNm 10) (fT 10) 0 ∈ lw_tbl ∧ (fT 10 0).1 = cNm 10 := ⟨tm_5 _ (List.mem_of_getElem? (i := 82) rfl), rfl⟩
theorem la_10_1 : u_lay (cNm 10) (fT 10) 1 ∈ lw_tbl ∧ (fT 10 1).1 = cNm 10 := ⟨tm_5 _ (List.mem_of_getElem? (i := 84) rfl), rfl⟩
theorem la_10_2 : u_lay (cNm 10) (fT 10) 2 ∈ lw_tbl ∧ (fT 10 2).1 = cNm 10 := ⟨tm_5 _ (List.mem_of_getElem? (i := 86) rfl), rfl⟩
theorem la_10_3 : u_lay (cNm 10) (fT 10) 3 ∈ lw_tbl ∧ (fT 10 3).1 = cNm 10 := ⟨tm_5 _ (List.mem_of_getElem? (i := 88) rfl), rfl⟩
theorem la_10_4 : u_lay (cNm 10) (fT 10) 4 ∈ lw_tbl ∧ (fT 10 4).1 = cNm 10 := ⟨tm_5 _ (List.mem_of_getElem? (i := 90) rfl), rfl⟩
theorem la_10_5 : u_lay (cNm 10) (fT 10) 5 ∈ lw_tbl ∧ (fT 10 5).1 = cNm 10 := ⟨tm_5 _ (List.mem_of_getElem? (i := 92) rfl), rfl⟩
theorem la_10_6 : u_lay (cNm 10) (fT 10) 6 ∈ lw_tbl ∧ (fT 10 6).1 = cNm 10 := ⟨tm_5 _ (List.mem_of_getElem? (i := 94) rfl), rfl⟩
theorem la_10_7 : u_lay (cNm 10) (fT 10) 7 ∈ lw_tbl ∧ (fT 10 7).1 = cNm 10 := ⟨tm_5 _ (List.mem_of_getElem? (i := 96) rfl), rfl⟩
theorem la_10_8 : u_lay (cNm 10) (fT 10) 8 ∈ lw_tbl ∧ (fT 10 8).1 = cNm 10 := ⟨tm_5 _ (List.mem_of_getElem? (i := 98) rfl), rfl⟩
theorem la_10_9 : u_lay (cNm 10) (fT 10) 9 ∈ lw_tbl ∧ (fT 10 9).1 = cNm 10 := ⟨tm_5 _ (List.mem_of_getElem? (i := 100) rfl), rfl⟩
theorem la_10_10 : u_lay (cNm 10) (fT 10) 10 ∈ lw_tbl ∧ (fT 10 10).1 = cNm 10 := ⟨tm_5 _ (List.mem_of_getElem? (i := 102) rfl), rfl⟩
theorem la_10_11 : u_lay (cNm 10) (fT 10) 11 ∈ lw_tbl ∧ (fT 10 11).1 = cNm 10 := ⟨tm_5 _ (List.mem_of_getElem? (i := 104) rfl), rfl⟩
theorem la_10_12 : u_lay (cNm 10) (fT 10) 12 ∈ lw_tbl ∧ (fT 10 12).1 = cNm 10 := ⟨tm_5 _ (List.mem_of_getElem? (i := 106) rfl), rfl⟩
theorem la_10_13 : u_lay (cNm 10) (fT 10) 13 ∈ lw_tbl ∧ (fT 10 13).1 = cNm 10 := ⟨tm_5 _ (List.mem_of_getElem? (i := 108) rfl), rfl⟩
theorem la_10_14 : u_lay (cNm 10) (fT 10) 14 ∈ lw_tbl ∧ (fT 10 14).1 = cNm 10 := ⟨tm_5 _ (List.mem_of_getElem? (i := 110) rfl), rfl⟩
theorem la_10_15 : u_lay (cNm 10) (fT 10) 15 ∈ lw_tbl ∧ (fT 10 15).1 = cNm 10 := ⟨tm_5 _ (List.mem_of_getElem? (i := 112) rfl), rfl⟩
theorem la_10_16 : u_lay (cNm 10) (fT 10) 16 ∈ lw_tbl ∧ (fT 10 16).1 = cNm 10 := ⟨tm_5 _ (List.mem_of_getElem? (i := 114) rfl), rfl⟩
theorem la_10_17 : u_lay (cNm 10) (fT 10) 17 ∈ lw_tbl ∧ (fT 10 17).1 = cNm 10 := ⟨tm_5 _ (List.mem_of_getElem? (i := 116) rfl), rfl⟩
theorem la_10_18 : u_lay (cNm 10) (fT 10) 18 ∈ lw_tbl ∧ (fT 10 18).1 = cNm 10 := ⟨tm_5 _ (List.mem_of_getElem? (i := 118) rfl), rfl⟩
theorem la_10_19 : u_lay (cNm 10) (fT 10) 19 ∈ lw_tbl ∧ (fT 10 19).1 = cNm 10 := ⟨tm_5 _ (List.mem_of_getElem? (i := 120) rfl), rfl⟩
theorem la_10_20 : u_lay (cNm 10) (fT 10) 20 ∈ lw_tbl ∧ (fT 10 20).1 = cNm 10 := ⟨tm_5 _ (List.mem_of_getElem? (i := 122) rfl), rfl⟩
theorem la_10_21 : u_lay (cNm 10) (fT 10) 21 ∈ lw_tbl ∧ (fT 10 21).1 = cNm 10 := ⟨tm_5 _ (List.mem_of_getElem? (i := 124) rfl), rfl⟩
theorem la_10_22 : u_lay (cNm 10) (fT 10) 22 ∈ lw_tbl ∧ (fT 10 22).1 = cNm 10 := ⟨tm_5 _ (List.mem_of_getElem? (i := 126) rfl), rfl⟩
theorem la_10_23 : u_lay (cNm 10) (fT 10) 23 ∈ lw_tbl ∧ (fT 10 23).1 = cNm 10 := ⟨tm_5 _ (List.mem_of_getElem? (i := 128) rfl), rfl⟩
theorem la_10_24 : u_lay (cNm 10) (fT 10) 24 ∈ lw_tbl ∧ (fT 10 24).1 = cNm 10 := ⟨tm_5 _ (List.mem_of_getElem? (i := 130) rfl), rfl⟩
theorem la_10_25 : u_lay (cNm 10) (fT 10) 25 ∈ lw_tbl ∧ (fT 10 25).1 = cNm 10 := ⟨tm_5 _ (List.mem_of_getElem? (i := 132) rfl), rfl⟩
theorem la_10_26 : u_lay (cNm 10) (fT 10) 26 ∈ lw_tbl ∧ (fT 10 26).1 = cNm 10 := ⟨tm_5 _ (List.mem_of_getElem? (i := 134) rfl), rfl⟩
theorem la_10_27 : u_lay (cNm 10) (fT 10) 27 ∈ lw_tbl ∧ (fT 10 27).1 = cNm 10 := ⟨tm_5 _ (List.mem_of_getElem? (i := 136) rfl), rfl⟩
theorem la_10_28 : u_lay (cNm 10) (fT 10) 28 ∈ lw_tbl ∧ (fT 10 28).1 = cNm 10 := ⟨tm_5 _ (List.mem_of_getElem? (i := 138) rfl), rfl⟩
theorem la_10_29 : u_lay (cNm 10) (fT 10) 29 ∈ lw_tbl ∧ (fT 10 29).1 = cNm 10 := ⟨tm_5 _ (List.mem_of_getElem? (i := 140) rfl), rfl⟩
theorem la_10_30 : u_lay (cNm 10) (fT 10) 30 ∈ lw_tbl ∧ (fT 10 30).1 = cNm 10 := ⟨tm_5 _ (List.mem_of_getElem? (i := 142) rfl), rfl⟩
theorem la_10_31 : u_lay (cNm 10) (fT 10) 31 ∈ lw_tbl ∧ (fT 10 31).1 = cNm 10 := ⟨tm_5 _ (List.mem_of_getElem? (i := 144) rfl), rfl⟩
theorem la_10_32 : u_lay (cNm 10) (fT 10) 32 ∈ lw_tbl ∧ (fT 10 32).1 = cNm 10 := ⟨tm_5 _ (List.mem_of_getElem? (i := 146) rfl), rfl⟩
theorem la_10_33 : u_lay (cNm 10) (fT 10) 33 ∈ lw_tbl ∧ (fT 10 33).1 = cNm 10 := ⟨tm_5 _ (List.mem_of_getElem? (i := 148) rfl), rfl⟩
theorem la_10_34 : u_lay (cNm 10) (fT 10) 34 ∈ lw_tbl ∧ (fT 10 34).1 = cNm 10 := ⟨tm_5 _ (List.mem_of_getElem? (i := 150) rfl), rfl⟩
theorem la_10_35 : u_lay (cNm 10) (fT 10) 35 ∈ lw_tbl ∧ (fT 10 35).1 = cNm 10 := ⟨tm_5 _ (List.mem_of_getElem? (i := 152) rfl), rfl⟩
theorem la_10_36 : u_lay (cNm 10) (fT 10) 36 ∈ lw_tbl ∧ (fT 10 36).1 = cNm 10 := ⟨tm_5 _ (List.mem_of_getElem? (i := 154) rfl), rfl⟩
theorem la_10_37 : u_lay (cNm 10) (fT 10) 37 ∈ lw_tbl ∧ (fT 10 37).1 = cNm 10 := ⟨tm_5 _ (List.mem_of_getElem? (i := 156) rfl), rfl⟩
theorem la_10_38 : u_lay (cNm 10) (fT 10) 38 ∈ lw_tbl ∧ (fT 10 38).1 = cNm 10 := ⟨tm_5 _ (List.mem_of_getElem? (i := 158) rfl), rfl⟩
theorem la_10_39 : u_lay (cNm 10) (fT 10) 39 ∈ lw_tbl ∧ (fT 10 39).1 = cNm 10 := ⟨tm_5 _ (List.mem_of_getElem? (i := 160) rfl), rfl⟩
theorem la_10_40 : u_lay (cNm 10) (fT 10) 40 ∈ lw_tbl ∧ (fT 10 40).1 = cNm 10 := ⟨tm_5 _ (List.mem_of_getElem? (i := 162) rfl), rfl⟩
theorem la_10_41 : u_lay (cNm 10) (fT 10) 41 ∈ lw_tbl ∧ (fT 10 41).1 = cNm 10 := ⟨tm_5 _ (List.mem_of_getElem? (i := 164) rfl), rfl⟩
theorem la_10_42 : u_lay (cNm 10) (fT 10) 42 ∈ lw_tbl ∧ (fT 10 42).1 = cNm 10 := ⟨tm_5 _ (List.mem_of_getElem? (i := 166) rfl), rfl⟩
theorem la_10_43 : u_lay (cNm 10) (fT 10) 43 ∈ lw_tbl ∧ (fT 10 43).1 = cNm 10 := ⟨tm_5 _ (List.mem_of_getElem? (i := 168) rfl), rfl⟩
theorem la_10_44 : u_lay (cNm 10) (fT 10) 44 ∈ lw_tbl ∧ (fT 10 44).1 = cNm 10 := ⟨tm_5 _ (List.mem_of_getElem? (i := 170) rfl), rfl⟩
theorem la_10_45 : u_lay (cNm 10) (fT 10) 45 ∈ lw_tbl ∧ (fT 10 45).1 = cNm 10 := ⟨tm_5 _ (List.mem_of_getElem? (i := 172) rfl), rfl⟩
theorem la_10_46 : u_lay (cNm 10) (fT 10) 46 ∈ lw_tbl ∧ (fT 10 46).1 = cNm 10 := ⟨tm_5 _ (List.mem_of_getElem? (i := 174) rfl), rfl⟩
theorem la_10_47 : u_lay (cNm 10) (fT 10) 47 ∈ lw_tbl ∧ (fT 10 47).1 = cNm 10 := ⟨tm_5 _ (List.mem_of_getElem? (i := 176) rfl), rfl⟩
theorem la_10_48 : u_lay (cNm 10) (fT 10) 48 ∈ lw_tbl ∧ (fT 10 48).1 = cNm 10 := ⟨tm_5 _ (List.mem_of_getElem? (i := 178) rfl), rfl⟩
theorem la_10_49 : u_lay (cNm 10) (fT 10) 49 ∈ lw_tbl ∧ (fT 10 49).1 = cNm 10 := ⟨tm_5 _ (List.mem_of_getElem? (i := 180) rfl), rfl⟩
theorem la_10_50 : u_lay (cNm 10) (fT 10) 50 ∈ lw_tbl ∧ (fT 10 50).1 = cNm 10 := ⟨tm_5 _ (List.mem_of_getElem? (i := 182) rfl), rfl⟩
theorem la_10_51 : u_lay (cNm 10) (fT 10) 51 ∈ lw_tbl ∧ (fT 10 51).1 = cNm 10 := ⟨tm_5 _ (List.mem_of_getElem? (i := 184) rfl), rfl⟩
theorem la_10_52 : u_lay (cNm 10) (fT 10) 52 ∈ lw_tbl ∧ (fT 10 52).1 = cNm 10 := ⟨tm_5 _ (List.mem_of_getElem? (i := 186) rfl), rfl⟩
theorem la_10_53 : u_lay (cNm 10) (fT 10) 53 ∈ lw_tbl ∧ (fT 10 53).1 = cNm 10 := ⟨tm_5 _ (List.mem_of_getElem? (i := 188) rfl), rfl⟩
theorem la_10_54 : u_lay (cNm 10) (fT 10) 54 ∈ lw_tbl ∧ (fT 10 54).1 = cNm 10 := ⟨tm_5 _ (List.mem_of_getElem? (i := 190) rfl), rfl⟩
theorem la_10_55 : u_lay (cNm 10) (fT 10) 55 ∈ lw_tbl ∧ (fT 10 55).1 = cNm 10 := ⟨tm_5 _ (List.mem_of_getElem? (i := 192) rfl), rfl⟩
theorem la_10_56 : u_lay (cNm 10) (fT 10) 56 ∈ lw_tbl ∧ (fT 10 56).1 = cNm 10 := ⟨tm_5 _ (List.mem_of_getElem? (i := 194) rfl), rfl⟩
theorem la_10_57 : u_lay (cNm 10) (fT 10) 57 ∈ lw_tbl ∧ (fT 10 57).1 = cNm 10 := ⟨tm_5 _ (List.mem_of_getElem? (i := 196) rfl), rfl⟩
theorem la_10_58 : u_lay (cNm 10) (fT 10) 58 ∈ lw_tbl ∧ (fT 10 58).1 = cNm 10 := ⟨tm_5 _ (List.mem_of_getElem? (i := 198) rfl), rfl⟩
theorem la_10_59 : u_lay (cNm 10) (fT 10) 59 ∈ lw_tbl ∧ (fT 10 59).1 = cNm 10 := ⟨tm_5 _ (List.mem_of_getElem? (i := 200) rfl), rfl⟩
theorem la_10_60 : u_lay (cNm 10) (fT 10) 60 ∈ lw_tbl ∧ (fT 10 60).1 = cNm 10 := ⟨tm_5 _ (List.mem_of_getElem? (i := 202) rfl), rfl⟩
theorem la_10_61 : u_lay (cNm 10) (fT 10) 61 ∈ lw_tbl ∧ (fT 10 61).1 = cNm 10 := ⟨tm_5 _ (List.mem_of_getElem? (i := 204) rfl), rfl⟩
theorem la_10_62 : u_lay (cNm 10) (fT 10) 62 ∈ lw_tbl ∧ (fT 10 62).1 = cNm 10 := ⟨tm_5 _ (List.mem_of_getElem? (i := 206) rfl), rfl⟩
theorem la_10_63 : u_lay (cNm 10) (fT 10) 63 ∈ lw_tbl ∧ (fT 10 63).1 = cNm 10 := ⟨tm_5 _ (List.mem_of_getElem? (i := 208) rfl), rfl⟩
theorem la_10_64 : u_lay (cNm 10) (fT 10) 64 ∈ lw_tbl ∧ (fT 10 64).1 = cNm 10 := ⟨tm_5 _ (List.mem_of_getElem? (i := 210) rfl), rfl⟩
theorem la_10_65 : u_lay (cNm 10) (fT 10) 65 ∈ lw_tbl ∧ (fT 10 65).1 = cNm 10 := ⟨tm_5 _ (List.mem_of_getElem? (i := 212) rfl), rfl⟩
theorem la_10_66 : u_lay (cNm 10) (fT 10) 66 ∈ lw_tbl ∧ (fT 10 66).1 = cNm 10 := ⟨tm_5 _ (List.mem_of_getElem? (i := 214) rfl), rfl⟩
theorem la_10_67 : u_lay (cNm 10) (fT 10) 67 ∈ lw_tbl ∧ (fT 10 67).1 = cNm 10 := ⟨tm_5 _ (List.mem_of_getElem? (i := 216) rfl), rfl⟩
theorem la_10_68 : u_lay (cNm 10) (fT 10) 68 ∈ lw_tbl ∧ (fT 10 68).1 = cNm 10 := ⟨tm_5 _ (List.mem_of_getElem? (i := 218) rfl), rfl⟩
theorem la_10_69 : u_lay (cNm 10) (fT 10) 69 ∈ lw_tbl ∧ (fT 10 69).1 = cNm 10 := ⟨tm_5 _ (List.mem_of_getElem? (i := 220) rfl), rfl⟩
theorem la_10_70 : u_lay (cNm 10) (fT 10) 70 ∈ lw_tbl ∧ (fT 10 70).1 = cNm 10 := ⟨tm_5 _ (List.mem_of_getElem? (i := 222) rfl), rfl⟩
theorem la_10_71 : u_lay (cNm 10) (fT 10) 71 ∈ lw_tbl ∧ (fT 10 71).1 = cNm 10 := ⟨tm_5 _ (List.mem_of_getElem? (i := 224) rfl), rfl⟩
theorem la_10_72 : u_lay (cNm 10) (fT 10) 72 ∈ lw_tbl ∧ (fT 10 72).1 = cNm 10 := ⟨tm_5 _ (List.mem_of_getElem? (i := 226) rfl), rfl⟩
theorem la_10_73 : u_lay (cNm 10) (fT 10) 73 ∈ lw_tbl ∧ (fT 10 73).1 = cNm 10 := ⟨tm_5 _ (List.mem_of_getElem? (i := 228) rfl), rfl⟩
theorem la_10_74 : u_lay (cNm 10) (fT 10) 74 ∈ lw_tbl ∧ (fT 10 74).1 = cNm 10 := ⟨tm_5 _ (List.mem_of_getElem? (i := 230) rfl), rfl⟩
theorem la_10_75 : u_lay (cNm 10) (fT 10) 75 ∈ lw_tbl ∧ (fT 10 75).1 = cNm 10 := ⟨tm_5 _ (List.mem_of_getElem? (i := 232) rfl), rfl⟩
theorem la_10_76 : u_lay (cNm 10) (fT 10) 76 ∈ lw_tbl ∧ (fT 10 76).1 = cNm 10 := ⟨tm_5 _ (List.mem_of_getElem? (i := 234) rfl), rfl⟩
theorem lb_10 {j : Nat} (h : j < 77) : u_lay (cNm 10) (fT 10) j ∈ lw_tbl ∧ (fT 10 j).1 = cNm 10 := by
  · by_cases h38 : j < 38
    · by_cases h19 : j < 19
      · by_cases h9 : j < 9
        · by_cases h4 : j < 4
          · by_cases h2 : j < 2
            · by_cases h1 : j < 1
              · obtain rfl : j = 0 := by omega
                exact la_10_0
              · obtain rfl : j = 1 := by omega
                exact la_10_1
            · by_cases h3 : j < 3
              · obtain rfl : j = 2 := by omega
                exact la_10_2
              · obtain rfl : j = 3 := by omega
                exact la_10_3
          · by_cases h6 : j < 6
            · by_cases h5 : j < 5
              · obtain rfl : j = 4 := by omega
                exact la_10_4
              · obtain rfl : j = 5 := by omega
                exact la_10_5
            · by_cases h7 : j < 7
              · obtain rfl : j = 6 := by omega
                exact la_10_6
              · by_cases h8 : j < 8
                · obtain rfl : j = 7 := by omega
                  exact la_10_7
                · obtain rfl : j = 8 := by omega
                  exact la_10_8
        · by_cases h14 : j < 14
          · by_cases h11 : j < 11
            · by_cases h10 : j < 10
              · obtain rfl : j = 9 := by omega
                exact la_10_9
              · obtain rfl : j = 10 := by omega
                exact la_10_10
            · by_cases h12 : j < 12
              · obtain rfl : j = 11 := by omega
                exact la_10_11
              · by_cases h13 : j < 13
                · obtain rfl : j = 12 := by omega
                  exact la_10_12
                · obtain rfl : j = 13 := by omega
                  exact la_10_13
          · by_cases h16 : j < 16
            · by_cases h15 : j < 15
              · obtain rfl : j = 14 := by omega
                exact la_10_14
              · obtain rfl : j = 15 := by omega
                exact la_10_15
            · by_cases h17 : j < 17
              · obtain rfl : j = 16 := by omega
                exact la_10_16
              · by_cases h18 : j < 18
                · obtain rfl : j = 17 := by omega
                  exact la_10_17
                · obtain rfl : j = 18 := by omega
                  exact la_10_18
      · by_cases h28 : j < 28
        · by_cases h23 : j < 23
          · by_cases h21 : j < 21
            · by_cases h20 : j < 20
              · obtain rfl : j = 19 := by omega
                exact la_10_19
              · obtain rfl : j = 20 := by omega
                exact la_10_20
            · by_cases h22 : j < 22
              · obtain rfl : j = 21 := by omega
                exact la_10_21
              · obtain rfl : j = 22 := by omega
                exact la_10_22
          · by_cases h25 : j < 25
            · by_cases h24 : j < 24
              · obtain rfl : j = 23 := by omega
                exact la_10_23
              · obtain rfl : j = 24 := by omega
                exact la_10_24
            · by_cases h26 : j < 26
              · obtain rfl : j = 25 := by omega
                exact la_10_25
              · by_cases h27 : j < 27
                · obtain rfl : j = 26 := by omega
                  exact la_10_26
                · obtain rfl : j = 27 := by omega
                  exact la_10_27
        · by_cases h33 : j < 33
          · by_cases h30 : j < 30
            · by_cases h29 : j < 29
              · obtain rfl : j = 28 := by omega
                exact la_10_28
              · obtain rfl : j = 29 := by omega
                exact la_10_29
            · by_cases h31 : j < 31
              · obtain rfl : j = 30 := by omega
                exact la_10_30
              · by_cases h32 : j < 32
                · obtain rfl : j = 31 := by omega
                  exact la_10_31
                · obtain rfl : j = 32 := by omega
                  exact la_10_32
          · by_cases h35 : j < 35
            · by_cases h34 : j < 34
              · obtain rfl : j = 33 := by omega
                exact la_10_33
              · obtain rfl : j = 34 := by omega
                exact la_10_34
            · by_cases h36 : j < 36
              · obtain rfl : j = 35 := by omega
                exact la_10_35
              · by_cases h37 : j < 37
                · obtain rfl : j = 36 := by omega
                  exact la_10_36
                · obtain rfl : j = 37 := by omega
                  exact la_10_37
    · by_cases h57 : j < 57
      · by_cases h47 : j < 47
        · by_cases h42 : j < 42
          · by_cases h40 : j < 40
            · by_cases h39 : j < 39
              · obtain rfl : j = 38 := by omega
                exact la_10_38
              · obtain rfl : j = 39 := by omega
                exact la_10_39
            · by_cases h41 : j < 41
              · obtain rfl : j = 40 := by omega
                exact la_10_40
              · obtain rfl : j = 41 := by omega
                exact la_10_41
          · by_cases h44 : j < 44
            · by_cases h43 : j < 43
              · obtain rfl : j = 42 := by omega
                exact la_10_42
              · obtain rfl : j = 43 := by omega
                exact la_10_43
            · by_cases h45 : j < 45
              · obtain rfl : j = 44 := by omega
                exact la_10_44
              · by_cases h46 : j < 46
                · obtain rfl : j = 45 := by omega
                  exact la_10_45
                · obtain rfl : j = 46 := by omega
                  exact la_10_46
        · by_cases h52 : j < 52
          · by_cases h49 : j < 49
            · by_cases h48 : j < 48
              · obtain rfl : j = 47 := by omega
                exact la_10_47
              · obtain rfl : j = 48 := by omega
                exact la_10_48
            · by_cases h50 : j < 50
              · obtain rfl : j = 49 := by omega
                exact la_10_49
              · by_cases h51 : j < 51
                · obtain rfl : j = 50 := by omega
                  exact la_10_50
                · obtain rfl : j = 51 := by omega
                  exact la_10_51
          · by_cases h54 : j < 54
            · by_cases h53 : j < 53
              · obtain rfl : j = 52 := by omega
                exact la_10_52
              · obtain rfl : j = 53 := by omega
                exact la_10_53
            · by_cases h55 : j < 55
              · obtain rfl : j = 54 := by omega
                exact la_10_54
              · by_cases h56 : j < 56
                · obtain rfl : j = 55 := by omega
                  exact la_10_55
                · obtain rfl : j = 56 := by omega
                  exact la_10_56
      · by_cases h67 : j < 67
        · by_cases h62 : j < 62
          · by_cases h59 : j < 59
            · by_cases h58 : j < 58
              · obtain rfl : j = 57 := by omega
                exact la_10_57
              · obtain rfl : j = 58 := by omega
                exact la_10_58
            · by_cases h60 : j < 60
              · obtain rfl : j = 59 := by omega
                exact la_10_59
              · by_cases h61 : j < 61
                · obtain rfl : j = 60 := by omega
                  exact la_10_60
                · obtain rfl : j = 61 := by omega
                  exact la_10_61
          · by_cases h64 : j < 64
            · by_cases h63 : j < 63
              · obtain rfl : j = 62 := by omega
                exact la_10_62
              · obtain rfl : j = 63 := by omega
                exact la_10_63
            · by_cases h65 : j < 65
              · obtain rfl : j = 64 := by omega
                exact la_10_64
              · by_cases h66 : j < 66
                · obtain rfl : j = 65 := by omega
                  exact la_10_65
                · obtain rfl : j = 66 := by omega
                  exact la_10_66
        · by_cases h72 : j < 72
          · by_cases h69 : j < 69
            · by_cases h68 : j < 68
              · obtain rfl : j = 67 := by omega
                exact la_10_67
              · obtain rfl : j = 68 := by omega
                exact la_10_68
            · by_cases h70 : j < 70
              · obtain rfl : j = 69 := by omega
                exact la_10_69
              · by_cases h71 : j < 71
                · obtain rfl : j = 70 := by omega
                  exact la_10_70
                · obtain rfl : j = 71 := by omega
                  exact la_10_71
          · by_cases h74 : j < 74
            · by_cases h73 : j < 73
              · obtain rfl : j = 72 := by omega
                exact la_10_72
              · obtain rfl : j = 73 := by omega
                exact la_10_73
            · by_cases h75 : j < 75
              · obtain rfl : j = 74 := by omega
                exact la_10_74
              · by_cases h76 : j < 76
                · obtain rfl : j = 75 := by omega
                  exact la_10_75
                · obtain rfl : j = 76 := by omega
                  exact la_10_76
theorem lay_all {a : Nat} (h : a < 11) {j : Nat} (hj : j < cNn a) : u_lay (cNm a) (fT a) j ∈ lw_tbl ∧ (fT a j).1 = cNm a := by
  · by_cases h5 : a < 5
    · by_cases h2 : a < 2
      · by_cases h1 : a < 1
        · obtain rfl : a = 0 := by omega
          exact lb_0 hj
        · obtain rfl : a = 1 := by omega
          exact lb_1 hj
      · by_cases h3 : a < 3
        · obtain rfl : a = 2 := by omega
          exact lb_2 hj
        · by_cases h4 : a < 4
          · obtain rfl : a = 3 := by omega
            exact lb_3 hj
          · obtain rfl : a = 4 := by omega
            exact lb_4 hj
    · by_cases h8 : a < 8
      · by_cases h6 : a < 6
        · obtain rfl : a = 5 := by omega
          exact lb_5 hj
        · by_cases h7 : a < 7
          · obtain rfl : a = 6 := by omega
            exact lb_6 hj
          · obtain rfl : a = 7 := by omega
            exact lb_7 hj
      · by_cases h9 : a < 9
        · obtain rfl : a = 8 := by omega
          exact lb_8 hj
        · by_cases h10 : a < 10
          · obtain rfl : a = 9 := by omega
            exact lb_9 hj
          · obtain rfl : a = 10 := by omega
            exact lb_10 hj
theorem vw_at {a : Nat} (h : a < 11) : vwCl[a]? = some (cNm a, fT a, cNn a) := by
  · by_cases h5 : a < 5
    · by_cases h2 : a < 2
      · by_cases h1 : a < 1
        · obtain rfl : a = 0 := by omega
          exact rfl
        · obtain rfl : a = 1 := by omega
          exact rfl
      · by_cases h3 : a < 3
        · obtain rfl : a = 2 := by omega
          exact rfl
        · by_cases h4 : a < 4
          · obtain rfl : a = 3 := by omega
            exact rfl
          · obtain rfl : a = 4 := by omega
            exact rfl
    · by_cases h8 : a < 8
      · by_cases h6 : a < 6
        · obtain rfl : a = 5 := by omega
          exact rfl
        · by_cases h7 : a < 7
          · obtain rfl : a = 6 := by omega
            exact rfl
          · obtain rfl : a = 7 := by omega
            exact rfl
      · by_cases h9 : a < 9
        · obtain rfl : a = 8 := by omega
          exact rfl
        · by_cases h10 : a < 10
          · obtain rfl : a = 9 := by omega
            exact rfl
          · obtain rfl : a = 10 := by omega
            exact rfl
theorem fy_ok {a : Nat} (h : a < 11) : ∀ k, k < cNn a → parseFieldDescriptor (fT a k).2.2.1 = some (fy a k) := by
  · by_cases h5 : a < 5
    · by_cases h2 : a < 2
      · by_cases h1 : a < 1
        · obtain rfl : a = 0 := by omega
          exact tyX0_ok
        · obtain rfl : a = 1 := by omega
          exact tyX1_ok
      · by_cases h3 : a < 3
        · obtain rfl : a = 2 := by omega
          exact tyX2_ok
        · by_cases h4 : a < 4
          · obtain rfl : a = 3 := by omega
            exact tyX3_ok
          · obtain rfl : a = 4 := by omega
            exact tyX4_ok
    · by_cases h8 : a < 8
      · by_cases h6 : a < 6
        · obtain rfl : a = 5 := by omega
          exact tyX5_ok
        · by_cases h7 : a < 7
          · obtain rfl : a = 6 := by omega
            exact tyX6_ok
          · obtain rfl : a = 7 := by omega
            exact tyX7_ok
      · by_cases h9 : a < 9
        · obtain rfl : a = 8 := by omega
          exact tyX8_ok
        · by_cases h10 : a < 10
          · obtain rfl : a = 9 := by omega
            exact tyX9_ok
          · obtain rfl : a = 10 := by omega
            exact tyX10_ok
theorem fN_ok {a : Nat} (h : a < 11) : ∀ x, x < cNn a → ∀ y, y < cNn a → x ≠ y → (fT a x).2.1 ≠ (fT a y).2.1 := by
  · by_cases h5 : a < 5
    · by_cases h2 : a < 2
      · by_cases h1 : a < 1
        · obtain rfl : a = 0 := by omega
          exact nmX0
        · obtain rfl : a = 1 := by omega
          exact nmX1
      · by_cases h3 : a < 3
        · obtain rfl : a = 2 := by omega
          exact nmX2
        · by_cases h4 : a < 4
          · obtain rfl : a = 3 := by omega
            exact nmX3
          · obtain rfl : a = 4 := by omega
            exact nmX4
    · by_cases h8 : a < 8
      · by_cases h6 : a < 6
        · obtain rfl : a = 5 := by omega
          exact nmX5
        · by_cases h7 : a < 7
          · obtain rfl : a = 6 := by omega
            exact nmX6
          · obtain rfl : a = 7 := by omega
            exact nmX7
      · by_cases h9 : a < 9
        · obtain rfl : a = 8 := by omega
          exact nmX8
        · by_cases h10 : a < 10
          · obtain rfl : a = 9 := by omega
            exact nmX9
          · obtain rfl : a = 10 := by omega
            exact nmX10
theorem inst_ok {a : Nat} (h : a < 11) : Cond.instantiable (cNm a) (cNn a) ∈ lw_tbl ∧ Cond.initialized (cNm a) ∈ lw_tbl := by
  · by_cases h5 : a < 5
    · by_cases h2 : a < 2
      · by_cases h1 : a < 1
        · obtain rfl : a = 0 := by omega
          exact ⟨w_in0, w_it0⟩
        · obtain rfl : a = 1 := by omega
          exact ⟨w_in1, w_it1⟩
      · by_cases h3 : a < 3
        · obtain rfl : a = 2 := by omega
          exact ⟨w_in2, w_it2⟩
        · by_cases h4 : a < 4
          · obtain rfl : a = 3 := by omega
            exact ⟨w_in3, w_it3⟩
          · obtain rfl : a = 4 := by omega
            exact ⟨w_in4, w_it4⟩
    · by_cases h8 : a < 8
      · by_cases h6 : a < 6
        · obtain rfl : a = 5 := by omega
          exact ⟨w_in5, w_it5⟩
        · by_cases h7 : a < 7
          · obtain rfl : a = 6 := by omega
            exact ⟨w_in6, w_it6⟩
          · obtain rfl : a = 7 := by omega
            exact ⟨w_in7, w_it7⟩
      · by_cases h9 : a < 9
        · obtain rfl : a = 8 := by omega
          exact ⟨w_in8, w_it8⟩
        · by_cases h10 : a < 10
          · obtain rfl : a = 9 := by omega
            exact ⟨w_in9, w_it9⟩
          · obtain rfl : a = 10 := by omega
            exact ⟨w_in10, w_it10⟩
def okT (t : FieldType) : Bool := match t with | .int => true | .boolean => true | .object _ => true | .array _ => true | _ => false
set_option maxRecDepth 100000 in
theorem okT_all : (List.range 11).all (fun a => (List.range 77).all (fun b => okT (fy a b))) = true := by decide +kernel
theorem cNn_le {a : Nat} (h : a < 11) : cNn a ≤ 77 := by
  · by_cases h5 : a < 5
    · by_cases h2 : a < 2
      · by_cases h1 : a < 1
        · obtain rfl : a = 0 := by omega
          exact (by decide)
        · obtain rfl : a = 1 := by omega
          exact (by decide)
      · by_cases h3 : a < 3
        · obtain rfl : a = 2 := by omega
          exact (by decide)
        · by_cases h4 : a < 4
          · obtain rfl : a = 3 := by omega
            exact (by decide)
          · obtain rfl : a = 4 := by omega
            exact (by decide)
    · by_cases h8 : a < 8
      · by_cases h6 : a < 6
        · obtain rfl : a = 5 := by omega
          exact (by decide)
        · by_cases h7 : a < 7
          · obtain rfl : a = 6 := by omega
            exact (by decide)
          · obtain rfl : a = 7 := by omega
            exact (by decide)
      · by_cases h9 : a < 9
        · obtain rfl : a = 8 := by omega
          exact (by decide)
        · by_cases h10 : a < 10
          · obtain rfl : a = 9 := by omega
            exact (by decide)
          · obtain rfl : a = 10 := by omega
            exact (by decide)
