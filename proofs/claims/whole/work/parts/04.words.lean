theorem tm_0 : ∀ w ∈ k2_sels lw_privs, w ∈ lw_tbl := fun w h => List.mem_append_left _ h
theorem tm_1 : ∀ w ∈ tables_1_1, w ∈ lw_tbl := fun w h => List.mem_append_right _ (List.mem_append_left _ h)
theorem tm_2 : ∀ w ∈ tables_1_2, w ∈ lw_tbl := fun w h => List.mem_append_right _ (List.mem_append_right _ (List.mem_append_left _ h))
theorem tm_3 : ∀ w ∈ tables_1_3, w ∈ lw_tbl := fun w h => List.mem_append_right _ (List.mem_append_right _ (List.mem_append_right _ (List.mem_append_left _ h)))
theorem tm_4 : ∀ w ∈ tables_1_4, w ∈ lw_tbl := fun w h => List.mem_append_right _ (List.mem_append_right _ (List.mem_append_right _ (List.mem_append_right _ (List.mem_append_left _ h))))
theorem tm_5 : ∀ w ∈ tables_1_5, w ∈ lw_tbl := fun w h => List.mem_append_right _ (List.mem_append_right _ (List.mem_append_right _ (List.mem_append_right _ (List.mem_append_right _ (List.mem_append_left _ h)))))
theorem tm_6 : ∀ w ∈ tables_1_6, w ∈ lw_tbl := fun w h => List.mem_append_right _ (List.mem_append_right _ (List.mem_append_right _ (List.mem_append_right _ (List.mem_append_right _ (List.mem_append_right _ (List.mem_append_left _ h))))))
theorem tm_7 : ∀ w ∈ tables_1_7, w ∈ lw_tbl := fun w h => List.mem_append_right _ (List.mem_append_right _ (List.mem_append_right _ (List.mem_append_right _ (List.mem_append_right _ (List.mem_append_right _ (List.mem_append_right _ (h)))))))
noncomputable def FT (k : Nat) : Nat × Nat × Nat × Nat := (bif Nat.blt k 92 then (bif Nat.blt k 46 then (bif Nat.blt k 23 then (bif Nat.blt k 11 then (bif Nat.blt k 5 then (bif Nat.blt k 2 then (bif Nat.blt k 1 then (bif Nat.beq k 0 then (0, 16, 0, 0) else (0, 0, 0, 0)) else (bif Nat.beq k 1 then (0, 20, 0, 1) else (0, 0, 0, 0))) else (bif Nat.blt k 3 then (bif Nat.beq k 2 then (0, 27, 4, 2) else (0, 0, 0, 0)) else (bif Nat.blt k 4 then (bif Nat.beq k 3 then (0, 50, 4, 1) else (0, 0, 0, 0)) else (bif Nat.beq k 4 then (0, 53, 4, 3) else (0, 0, 0, 0))))) else (bif Nat.blt k 8 then (bif Nat.blt k 6 then (bif Nat.beq k 5 then (1, 11, 1, 0) else (0, 0, 0, 0)) else (bif Nat.blt k 7 then (bif Nat.beq k 6 then (1, 17, 1, 1) else (0, 0, 0, 0)) else (bif Nat.beq k 7 then (1, 21, 1, 2) else (0, 0, 0, 0)))) else (bif Nat.blt k 9 then (bif Nat.beq k 8 then (1, 24, 1, 3) else (0, 0, 0, 0)) else (bif Nat.blt k 10 then (bif Nat.beq k 9 then (1, 27, 1, 4) else (0, 0, 0, 0)) else (bif Nat.beq k 10 then (1, 30, 1, 5) else (0, 0, 0, 0)))))) else (bif Nat.blt k 17 then (bif Nat.blt k 14 then (bif Nat.blt k 12 then (bif Nat.beq k 11 then (1, 41, 3, 1) else (0, 0, 0, 0)) else (bif Nat.blt k 13 then (bif Nat.beq k 12 then (2, 12, 2, 0) else (0, 0, 0, 0)) else (bif Nat.beq k 13 then (2, 20, 2, 1) else (0, 0, 0, 0)))) else (bif Nat.blt k 15 then (bif Nat.beq k 14 then (2, 24, 2, 2) else (0, 0, 0, 0)) else (bif Nat.blt k 16 then (bif Nat.beq k 15 then (2, 31, 2, 3) else (0, 0, 0, 0)) else (bif Nat.beq k 16 then (2, 40, 2, 4) else (0, 0, 0, 0))))) else (bif Nat.blt k 20 then (bif Nat.blt k 18 then (bif Nat.beq k 17 then (2, 44, 2, 5) else (0, 0, 0, 0)) else (bif Nat.blt k 19 then (bif Nat.beq k 18 then (2, 47, 2, 6) else (0, 0, 0, 0)) else (bif Nat.beq k 19 then (2, 50, 2, 7) else (0, 0, 0, 0)))) else (bif Nat.blt k 21 then (bif Nat.beq k 20 then (2, 56, 2, 8) else (0, 0, 0, 0)) else (bif Nat.blt k 22 then (bif Nat.beq k 21 then (2, 60, 2, 9) else (0, 0, 0, 0)) else (bif Nat.beq k 22 then (2, 73, 6, 1) else (0, 0, 0, 0))))))) else (bif Nat.blt k 34 then (bif Nat.blt k 28 then (bif Nat.blt k 25 then (bif Nat.blt k 24 then (bif Nat.beq k 23 then (2, 76, 7, 4) else (0, 0, 0, 0)) else (bif Nat.beq k 24 then (2, 107, 7, 3) else (0, 0, 0, 0))) else (bif Nat.blt k 26 then (bif Nat.beq k 25 then (2, 114, 3, 1) else (0, 0, 0, 0)) else (bif Nat.blt k 27 then (bif Nat.beq k 26 then (2, 119, 1, 5) else (0, 0, 0, 0)) else (bif Nat.beq k 27 then (2, 120, 1, 0) else (0, 0, 0, 0))))) else (bif Nat.blt k 31 then (bif Nat.blt k 29 then (bif Nat.beq k 28 then (2, 128, 6, 0) else (0, 0, 0, 0)) else (bif Nat.blt k 30 then (bif Nat.beq k 29 then (2, 147, 6, 2) else (0, 0, 0, 0)) else (bif Nat.beq k 30 then (2, 162, 6, 4) else (0, 0, 0, 0)))) else (bif Nat.blt k 32 then (bif Nat.beq k 31 then (2, 174, 6, 3) else (0, 0, 0, 0)) else (bif Nat.blt k 33 then (bif Nat.beq k 32 then (2, 190, 4, 0) else (0, 0, 0, 0)) else (bif Nat.beq k 33 then (2, 193, 4, 2) else (0, 0, 0, 0)))))) else (bif Nat.blt k 40 then (bif Nat.blt k 37 then (bif Nat.blt k 35 then (bif Nat.beq k 34 then (2, 218, 4, 3) else (0, 0, 0, 0)) else (bif Nat.blt k 36 then (bif Nat.beq k 35 then (3, 9, 3, 1) else (0, 0, 0, 0)) else (bif Nat.beq k 36 then (3, 21, 3, 0) else (0, 0, 0, 0)))) else (bif Nat.blt k 38 then (bif Nat.beq k 37 then (4, 9, 4, 0) else (0, 0, 0, 0)) else (bif Nat.blt k 39 then (bif Nat.beq k 38 then (4, 15, 4, 1) else (0, 0, 0, 0)) else (bif Nat.beq k 39 then (4, 19, 4, 2) else (0, 0, 0, 0))))) else (bif Nat.blt k 43 then (bif Nat.blt k 41 then (bif Nat.beq k 40 then (4, 22, 4, 3) else (0, 0, 0, 0)) else (bif Nat.blt k 42 then (bif Nat.beq k 41 then (5, 14, 5, 0) else (0, 0, 0, 0)) else (bif Nat.beq k 42 then (5, 23, 5, 1) else (0, 0, 0, 0)))) else (bif Nat.blt k 44 then (bif Nat.beq k 43 then (5, 27, 5, 2) else (0, 0, 0, 0)) else (bif Nat.blt k 45 then (bif Nat.beq k 44 then (5, 31, 5, 3) else (0, 0, 0, 0)) else (bif Nat.beq k 45 then (5, 41, 3, 1) else (0, 0, 0, 0)))))))) else (bif Nat.blt k 69 then (bif Nat.blt k 57 then (bif Nat.blt k 51 then (bif Nat.blt k 48 then (bif Nat.blt k 47 then (bif Nat.beq k 46 then (5, 52, 7, 2) else (0, 0, 0, 0)) else (bif Nat.beq k 47 then (5, 71, 7, 3) else (0, 0, 0, 0))) else (bif Nat.blt k 49 then (bif Nat.beq k 48 then (5, 76, 7, 4) else (0, 0, 0, 0)) else (bif Nat.blt k 50 then (bif Nat.beq k 49 then (5, 109, 3, 0) else (0, 0, 0, 0)) else (bif Nat.beq k 50 then (6, 14, 6, 0) else (0, 0, 0, 0))))) else (bif Nat.blt k 54 then (bif Nat.blt k 52 then (bif Nat.beq k 51 then (6, 20, 6, 1) else (0, 0, 0, 0)) else (bif Nat.blt k 53 then (bif Nat.beq k 52 then (6, 24, 6, 2) else (0, 0, 0, 0)) else (bif Nat.beq k 53 then (6, 28, 6, 3) else (0, 0, 0, 0)))) else (bif Nat.blt k 55 then (bif Nat.beq k 54 then (6, 31, 6, 4) else (0, 0, 0, 0)) else (bif Nat.blt k 56 then (bif Nat.beq k 55 then (7, 9, 7, 0) else (0, 0, 0, 0)) else (bif Nat.beq k 56 then (7, 15, 7, 1) else (0, 0, 0, 0)))))) else (bif Nat.blt k 63 then (bif Nat.blt k 60 then (bif Nat.blt k 58 then (bif Nat.beq k 57 then (7, 18, 7, 2) else (0, 0, 0, 0)) else (bif Nat.blt k 59 then (bif Nat.beq k 58 then (7, 22, 7, 3) else (0, 0, 0, 0)) else (bif Nat.beq k 59 then (7, 25, 7, 4) else (0, 0, 0, 0)))) else (bif Nat.blt k 61 then (bif Nat.beq k 60 then (7, 32, 4, 2) else (0, 0, 0, 0)) else (bif Nat.blt k 62 then (bif Nat.beq k 61 then (7, 47, 1, 5) else (0, 0, 0, 0)) else (bif Nat.beq k 62 then (7, 52, 4, 1) else (0, 0, 0, 0))))) else (bif Nat.blt k 66 then (bif Nat.blt k 64 then (bif Nat.beq k 63 then (7, 55, 4, 3) else (0, 0, 0, 0)) else (bif Nat.blt k 65 then (bif Nat.beq k 64 then (7, 58, 1, 1) else (0, 0, 0, 0)) else (bif Nat.beq k 65 then (7, 61, 1, 0) else (0, 0, 0, 0)))) else (bif Nat.blt k 67 then (bif Nat.beq k 66 then (7, 65, 3, 1) else (0, 0, 0, 0)) else (bif Nat.blt k 68 then (bif Nat.beq k 67 then (8, 9, 8, 0) else (0, 0, 0, 0)) else (bif Nat.beq k 68 then (8, 13, 8, 1) else (0, 0, 0, 0))))))) else (bif Nat.blt k 80 then (bif Nat.blt k 74 then (bif Nat.blt k 71 then (bif Nat.blt k 70 then (bif Nat.beq k 69 then (8, 17, 8, 2) else (0, 0, 0, 0)) else (bif Nat.beq k 70 then (9, 16, 9, 0) else (0, 0, 0, 0))) else (bif Nat.blt k 72 then (bif Nat.beq k 71 then (9, 20, 9, 1) else (0, 0, 0, 0)) else (bif Nat.blt k 73 then (bif Nat.beq k 72 then (9, 26, 9, 2) else (0, 0, 0, 0)) else (bif Nat.beq k 73 then (9, 32, 9, 3) else (0, 0, 0, 0))))) else (bif Nat.blt k 77 then (bif Nat.blt k 75 then (bif Nat.beq k 74 then (9, 36, 9, 4) else (0, 0, 0, 0)) else (bif Nat.blt k 76 then (bif Nat.beq k 75 then (9, 43, 9, 5) else (0, 0, 0, 0)) else (bif Nat.beq k 76 then (9, 47, 9, 6) else (0, 0, 0, 0)))) else (bif Nat.blt k 78 then (bif Nat.beq k 77 then (9, 50, 9, 7) else (0, 0, 0, 0)) else (bif Nat.blt k 79 then (bif Nat.beq k 78 then (9, 57, 9, 8) else (0, 0, 0, 0)) else (bif Nat.beq k 79 then (9, 64, 9, 9) else (0, 0, 0, 0)))))) else (bif Nat.blt k 86 then (bif Nat.blt k 83 then (bif Nat.blt k 81 then (bif Nat.beq k 80 then (9, 70, 9, 10) else (0, 0, 0, 0)) else (bif Nat.blt k 82 then (bif Nat.beq k 81 then (9, 90, 3, 1) else (0, 0, 0, 0)) else (bif Nat.beq k 82 then (9, 93, 2, 0) else (0, 0, 0, 0)))) else (bif Nat.blt k 84 then (bif Nat.beq k 83 then (9, 107, 1, 5) else (0, 0, 0, 0)) else (bif Nat.blt k 85 then (bif Nat.beq k 84 then (9, 108, 1, 1) else (0, 0, 0, 0)) else (bif Nat.beq k 85 then (9, 112, 1, 0) else (0, 0, 0, 0))))) else (bif Nat.blt k 89 then (bif Nat.blt k 87 then (bif Nat.beq k 86 then (9, 134, 2, 1) else (0, 0, 0, 0)) else (bif Nat.blt k 88 then (bif Nat.beq k 87 then (9, 138, 4, 2) else (0, 0, 0, 0)) else (bif Nat.beq k 88 then (9, 143, 4, 3) else (0, 0, 0, 0)))) else (bif Nat.blt k 90 then (bif Nat.beq k 89 then (9, 146, 2, 3) else (0, 0, 0, 0)) else (bif Nat.blt k 91 then (bif Nat.beq k 90 then (9, 149, 6, 1) else (0, 0, 0, 0)) else (bif Nat.beq k 91 then (9, 158, 2, 9) else (0, 0, 0, 0))))))))) else (bif Nat.blt k 138 then (bif Nat.blt k 115 then (bif Nat.blt k 103 then (bif Nat.blt k 97 then (bif Nat.blt k 94 then (bif Nat.blt k 93 then (bif Nat.beq k 92 then (9, 161, 4, 0) else (0, 0, 0, 0)) else (bif Nat.beq k 93 then (9, 168, 2, 8) else (0, 0, 0, 0))) else (bif Nat.blt k 95 then (bif Nat.beq k 94 then (9, 172, 2, 2) else (0, 0, 0, 0)) else (bif Nat.blt k 96 then (bif Nat.beq k 95 then (9, 173, 6, 2) else (0, 0, 0, 0)) else (bif Nat.beq k 96 then (9, 176, 6, 3) else (0, 0, 0, 0))))) else (bif Nat.blt k 100 then (bif Nat.blt k 98 then (bif Nat.beq k 97 then (9, 179, 6, 0) else (0, 0, 0, 0)) else (bif Nat.blt k 99 then (bif Nat.beq k 98 then (9, 182, 7, 3) else (0, 0, 0, 0)) else (bif Nat.beq k 99 then (9, 185, 7, 4) else (0, 0, 0, 0)))) else (bif Nat.blt k 101 then (bif Nat.beq k 100 then (9, 205, 6, 4) else (0, 0, 0, 0)) else (bif Nat.blt k 102 then (bif Nat.beq k 101 then (9, 252, 2, 4) else (0, 0, 0, 0)) else (bif Nat.beq k 102 then (9, 271, 2, 7) else (0, 0, 0, 0)))))) else (bif Nat.blt k 109 then (bif Nat.blt k 106 then (bif Nat.blt k 104 then (bif Nat.beq k 103 then (9, 280, 8, 1) else (0, 0, 0, 0)) else (bif Nat.blt k 105 then (bif Nat.beq k 104 then (9, 283, 8, 2) else (0, 0, 0, 0)) else (bif Nat.beq k 105 then (9, 284, 8, 0) else (0, 0, 0, 0)))) else (bif Nat.blt k 107 then (bif Nat.beq k 106 then (9, 296, 0, 0) else (0, 0, 0, 0)) else (bif Nat.blt k 108 then (bif Nat.beq k 107 then (9, 302, 0, 1) else (0, 0, 0, 0)) else (bif Nat.beq k 108 then (10, 7, 10, 0) else (0, 0, 0, 0))))) else (bif Nat.blt k 112 then (bif Nat.blt k 110 then (bif Nat.beq k 109 then (10, 13, 10, 1) else (0, 0, 0, 0)) else (bif Nat.blt k 111 then (bif Nat.beq k 110 then (10, 16, 10, 2) else (0, 0, 0, 0)) else (bif Nat.beq k 111 then (10, 20, 10, 3) else (0, 0, 0, 0)))) else (bif Nat.blt k 113 then (bif Nat.beq k 112 then (10, 23, 10, 4) else (0, 0, 0, 0)) else (bif Nat.blt k 114 then (bif Nat.beq k 113 then (10, 26, 10, 5) else (0, 0, 0, 0)) else (bif Nat.beq k 114 then (10, 29, 10, 6) else (0, 0, 0, 0))))))) else (bif Nat.blt k 126 then (bif Nat.blt k 120 then (bif Nat.blt k 117 then (bif Nat.blt k 116 then (bif Nat.beq k 115 then (10, 32, 10, 7) else (0, 0, 0, 0)) else (bif Nat.beq k 116 then (10, 35, 10, 8) else (0, 0, 0, 0))) else (bif Nat.blt k 118 then (bif Nat.beq k 117 then (10, 38, 10, 9) else (0, 0, 0, 0)) else (bif Nat.blt k 119 then (bif Nat.beq k 118 then (10, 41, 10, 10) else (0, 0, 0, 0)) else (bif Nat.beq k 119 then (10, 44, 10, 11) else (0, 0, 0, 0))))) else (bif Nat.blt k 123 then (bif Nat.blt k 121 then (bif Nat.beq k 120 then (10, 47, 10, 12) else (0, 0, 0, 0)) else (bif Nat.blt k 122 then (bif Nat.beq k 121 then (10, 50, 10, 13) else (0, 0, 0, 0)) else (bif Nat.beq k 122 then (10, 53, 10, 14) else (0, 0, 0, 0)))) else (bif Nat.blt k 124 then (bif Nat.beq k 123 then (10, 56, 10, 15) else (0, 0, 0, 0)) else (bif Nat.blt k 125 then (bif Nat.beq k 124 then (10, 59, 10, 16) else (0, 0, 0, 0)) else (bif Nat.beq k 125 then (10, 62, 10, 17) else (0, 0, 0, 0)))))) else (bif Nat.blt k 132 then (bif Nat.blt k 129 then (bif Nat.blt k 127 then (bif Nat.beq k 126 then (10, 65, 10, 18) else (0, 0, 0, 0)) else (bif Nat.blt k 128 then (bif Nat.beq k 127 then (10, 68, 10, 19) else (0, 0, 0, 0)) else (bif Nat.beq k 128 then (10, 71, 10, 20) else (0, 0, 0, 0)))) else (bif Nat.blt k 130 then (bif Nat.beq k 129 then (10, 74, 10, 21) else (0, 0, 0, 0)) else (bif Nat.blt k 131 then (bif Nat.beq k 130 then (10, 77, 10, 22) else (0, 0, 0, 0)) else (bif Nat.beq k 131 then (10, 80, 10, 23) else (0, 0, 0, 0))))) else (bif Nat.blt k 135 then (bif Nat.blt k 133 then (bif Nat.beq k 132 then (10, 83, 10, 24) else (0, 0, 0, 0)) else (bif Nat.blt k 134 then (bif Nat.beq k 133 then (10, 86, 10, 25) else (0, 0, 0, 0)) else (bif Nat.beq k 134 then (10, 89, 10, 26) else (0, 0, 0, 0)))) else (bif Nat.blt k 136 then (bif Nat.beq k 135 then (10, 92, 10, 27) else (0, 0, 0, 0)) else (bif Nat.blt k 137 then (bif Nat.beq k 136 then (10, 95, 10, 28) else (0, 0, 0, 0)) else (bif Nat.beq k 137 then (10, 98, 10, 29) else (0, 0, 0, 0)))))))) else (bif Nat.blt k 161 then (bif Nat.blt k 149 then (bif Nat.blt k 143 then (bif Nat.blt k 140 then (bif Nat.blt k 139 then (bif Nat.beq k 138 then (10, 101, 10, 30) else (0, 0, 0, 0)) else (bif Nat.beq k 139 then (10, 104, 10, 31) else (0, 0, 0, 0))) else (bif Nat.blt k 141 then (bif Nat.beq k 140 then (10, 107, 10, 32) else (0, 0, 0, 0)) else (bif Nat.blt k 142 then (bif Nat.beq k 141 then (10, 111, 10, 33) else (0, 0, 0, 0)) else (bif Nat.beq k 142 then (10, 114, 10, 34) else (0, 0, 0, 0))))) else (bif Nat.blt k 146 then (bif Nat.blt k 144 then (bif Nat.beq k 143 then (10, 117, 10, 35) else (0, 0, 0, 0)) else (bif Nat.blt k 145 then (bif Nat.beq k 144 then (10, 120, 10, 36) else (0, 0, 0, 0)) else (bif Nat.beq k 145 then (10, 123, 10, 37) else (0, 0, 0, 0)))) else (bif Nat.blt k 147 then (bif Nat.beq k 146 then (10, 126, 10, 38) else (0, 0, 0, 0)) else (bif Nat.blt k 148 then (bif Nat.beq k 147 then (10, 129, 10, 39) else (0, 0, 0, 0)) else (bif Nat.beq k 148 then (10, 132, 10, 40) else (0, 0, 0, 0)))))) else (bif Nat.blt k 155 then (bif Nat.blt k 152 then (bif Nat.blt k 150 then (bif Nat.beq k 149 then (10, 135, 10, 41) else (0, 0, 0, 0)) else (bif Nat.blt k 151 then (bif Nat.beq k 150 then (10, 138, 10, 42) else (0, 0, 0, 0)) else (bif Nat.beq k 151 then (10, 141, 10, 43) else (0, 0, 0, 0)))) else (bif Nat.blt k 153 then (bif Nat.beq k 152 then (10, 144, 10, 44) else (0, 0, 0, 0)) else (bif Nat.blt k 154 then (bif Nat.beq k 153 then (10, 147, 10, 45) else (0, 0, 0, 0)) else (bif Nat.beq k 154 then (10, 150, 10, 46) else (0, 0, 0, 0))))) else (bif Nat.blt k 158 then (bif Nat.blt k 156 then (bif Nat.beq k 155 then (10, 153, 10, 47) else (0, 0, 0, 0)) else (bif Nat.blt k 157 then (bif Nat.beq k 156 then (10, 156, 10, 48) else (0, 0, 0, 0)) else (bif Nat.beq k 157 then (10, 159, 10, 49) else (0, 0, 0, 0)))) else (bif Nat.blt k 159 then (bif Nat.beq k 158 then (10, 162, 10, 50) else (0, 0, 0, 0)) else (bif Nat.blt k 160 then (bif Nat.beq k 159 then (10, 166, 10, 51) else (0, 0, 0, 0)) else (bif Nat.beq k 160 then (10, 169, 10, 52) else (0, 0, 0, 0))))))) else (bif Nat.blt k 173 then (bif Nat.blt k 167 then (bif Nat.blt k 164 then (bif Nat.blt k 162 then (bif Nat.beq k 161 then (10, 172, 10, 53) else (0, 0, 0, 0)) else (bif Nat.blt k 163 then (bif Nat.beq k 162 then (10, 175, 10, 54) else (0, 0, 0, 0)) else (bif Nat.beq k 163 then (10, 178, 10, 55) else (0, 0, 0, 0)))) else (bif Nat.blt k 165 then (bif Nat.beq k 164 then (10, 181, 10, 56) else (0, 0, 0, 0)) else (bif Nat.blt k 166 then (bif Nat.beq k 165 then (10, 184, 10, 57) else (0, 0, 0, 0)) else (bif Nat.beq k 166 then (10, 187, 10, 58) else (0, 0, 0, 0))))) else (bif Nat.blt k 170 then (bif Nat.blt k 168 then (bif Nat.beq k 167 then (10, 190, 10, 59) else (0, 0, 0, 0)) else (bif Nat.blt k 169 then (bif Nat.beq k 168 then (10, 193, 10, 60) else (0, 0, 0, 0)) else (bif Nat.beq k 169 then (10, 196, 10, 61) else (0, 0, 0, 0)))) else (bif Nat.blt k 171 then (bif Nat.beq k 170 then (10, 199, 10, 62) else (0, 0, 0, 0)) else (bif Nat.blt k 172 then (bif Nat.beq k 171 then (10, 202, 10, 63) else (0, 0, 0, 0)) else (bif Nat.beq k 172 then (10, 205, 10, 64) else (0, 0, 0, 0)))))) else (bif Nat.blt k 179 then (bif Nat.blt k 176 then (bif Nat.blt k 174 then (bif Nat.beq k 173 then (10, 208, 10, 65) else (0, 0, 0, 0)) else (bif Nat.blt k 175 then (bif Nat.beq k 174 then (10, 211, 10, 66) else (0, 0, 0, 0)) else (bif Nat.beq k 175 then (10, 214, 10, 67) else (0, 0, 0, 0)))) else (bif Nat.blt k 177 then (bif Nat.beq k 176 then (10, 217, 10, 68) else (0, 0, 0, 0)) else (bif Nat.blt k 178 then (bif Nat.beq k 177 then (10, 220, 10, 69) else (0, 0, 0, 0)) else (bif Nat.beq k 178 then (10, 223, 10, 70) else (0, 0, 0, 0))))) else (bif Nat.blt k 182 then (bif Nat.blt k 180 then (bif Nat.beq k 179 then (10, 226, 10, 71) else (0, 0, 0, 0)) else (bif Nat.blt k 181 then (bif Nat.beq k 180 then (10, 229, 10, 72) else (0, 0, 0, 0)) else (bif Nat.beq k 181 then (10, 232, 10, 73) else (0, 0, 0, 0)))) else (bif Nat.blt k 183 then (bif Nat.beq k 182 then (10, 235, 10, 74) else (0, 0, 0, 0)) else (bif Nat.blt k 184 then (bif Nat.beq k 183 then (10, 238, 10, 75) else (0, 0, 0, 0)) else (bif Nat.beq k 184 then (10, 242, 10, 76) else (0, 0, 0, 0))))))))))
def FTn : Nat := 185
theorem FT_0 : Cond.fieldLink (cNm (FT 0).1) (FT 0).2.1 (fT (FT 0).2.2.1 (FT 0).2.2.2).1 (fT (FT 0).2.2.1 (FT 0).2.2.2).2.1 (fT (FT 0).2.2.1 (FT 0).2.2.2).2.2.1 ∈ lw_tbl := tm_2 _ (List.mem_of_getElem? (i := 25) rfl)
theorem FT_1 : Cond.fieldLink (cNm (FT 1).1) (FT 1).2.1 (fT (FT 1).2.2.1 (FT 1).2.2.2).1 (fT (FT 1).2.2.1 (FT 1).2.2.2).2.1 (fT (FT 1).2.2.1 (FT 1).2.2.2).2.2.1 ∈ lw_tbl := tm_2 _ (List.mem_of_getElem? (i := 27) rfl)
theorem FT_2 : Cond.fieldLink (cNm (FT 2).1) (FT 2).2.1 (fT (FT 2).2.2.1 (FT 2).2.2.2).1 (fT (FT 2).2.2.1 (FT 2).2.2.2).2.1 (fT (FT 2).2.2.1 (FT 2).2.2.2).2.2.1 ∈ lw_tbl := tm_1 _ (List.mem_of_getElem? (i := 198) rfl)
theorem FT_3 : Cond.fieldLink (cNm (FT 3).1) (FT 3).2.1 (fT (FT 3).2.2.1 (FT 3).2.2.2).1 (fT (FT 3).2.2.1 (FT 3).2.2.2).2.1 (fT (FT 3).2.2.1 (FT 3).2.2.2).2.2.1 ∈ lw_tbl := tm_1 _ (List.mem_of_getElem? (i := 195) rfl)
theorem FT_4 : Cond.fieldLink (cNm (FT 4).1) (FT 4).2.1 (fT (FT 4).2.2.1 (FT 4).2.2.2).1 (fT (FT 4).2.2.1 (FT 4).2.2.2).2.1 (fT (FT 4).2.2.1 (FT 4).2.2.2).2.2.1 ∈ lw_tbl := tm_1 _ (List.mem_of_getElem? (i := 203) rfl)
theorem FT_5 : Cond.fieldLink (cNm (FT 5).1) (FT 5).2.1 (fT (FT 5).2.2.1 (FT 5).2.2.2).1 (fT (FT 5).2.2.1 (FT 5).2.2.2).2.1 (fT (FT 5).2.2.1 (FT 5).2.2.2).2.2.1 ∈ lw_tbl := tm_1 _ (List.mem_of_getElem? (i := 119) rfl)
theorem FT_6 : Cond.fieldLink (cNm (FT 6).1) (FT 6).2.1 (fT (FT 6).2.2.1 (FT 6).2.2.2).1 (fT (FT 6).2.2.1 (FT 6).2.2.2).2.1 (fT (FT 6).2.2.1 (FT 6).2.2.2).2.2.1 ∈ lw_tbl := tm_1 _ (List.mem_of_getElem? (i := 123) rfl)
theorem FT_7 : Cond.fieldLink (cNm (FT 7).1) (FT 7).2.1 (fT (FT 7).2.2.1 (FT 7).2.2.2).1 (fT (FT 7).2.2.1 (FT 7).2.2.2).2.1 (fT (FT 7).2.2.1 (FT 7).2.2.2).2.2.1 ∈ lw_tbl := tm_1 _ (List.mem_of_getElem? (i := 126) rfl)
theorem FT_8 : Cond.fieldLink (cNm (FT 8).1) (FT 8).2.1 (fT (FT 8).2.2.1 (FT 8).2.2.2).1 (fT (FT 8).2.2.1 (FT 8).2.2.2).2.1 (fT (FT 8).2.2.1 (FT 8).2.2.2).2.2.1 ∈ lw_tbl := tm_1 _ (List.mem_of_getElem? (i := 127) rfl)
theorem FT_9 : Cond.fieldLink (cNm (FT 9).1) (FT 9).2.1 (fT (FT 9).2.2.1 (FT 9).2.2.2).1 (fT (FT 9).2.2.1 (FT 9).2.2.2).2.1 (fT (FT 9).2.2.1 (FT 9).2.2.2).2.2.1 ∈ lw_tbl := tm_1 _ (List.mem_of_getElem? (i := 128) rfl)
theorem FT_10 : Cond.fieldLink (cNm (FT 10).1) (FT 10).2.1 (fT (FT 10).2.2.1 (FT 10).2.2.2).1 (fT (FT 10).2.2.1 (FT 10).2.2.2).2.1 (fT (FT 10).2.2.1 (FT 10).2.2.2).2.2.1 ∈ lw_tbl := tm_1 _ (List.mem_of_getElem? (i := 129) rfl)
theorem FT_11 : Cond.fieldLink (cNm (FT 11).1) (FT 11).2.1 (fT (FT 11).2.2.1 (FT 11).2.2.2).1 (fT (FT 11).2.2.1 (FT 11).2.2.2).2.1 (fT (FT 11).2.2.1 (FT 11).2.2.2).2.2.1 ∈ lw_tbl := tm_1 _ (List.mem_of_getElem? (i := 43) rfl)
theorem FT_12 : Cond.fieldLink (cNm (FT 12).1) (FT 12).2.1 (fT (FT 12).2.2.1 (FT 12).2.2.2).1 (fT (FT 12).2.2.1 (FT 12).2.2.2).2.1 (fT (FT 12).2.2.1 (FT 12).2.2.2).2.2.1 ∈ lw_tbl := tm_1 _ (List.mem_of_getElem? (i := 216) rfl)
theorem FT_13 : Cond.fieldLink (cNm (FT 13).1) (FT 13).2.1 (fT (FT 13).2.2.1 (FT 13).2.2.2).1 (fT (FT 13).2.2.1 (FT 13).2.2.2).2.1 (fT (FT 13).2.2.1 (FT 13).2.2.2).2.2.1 ∈ lw_tbl := tm_1 _ (List.mem_of_getElem? (i := 218) rfl)
theorem FT_14 : Cond.fieldLink (cNm (FT 14).1) (FT 14).2.1 (fT (FT 14).2.2.1 (FT 14).2.2.2).1 (fT (FT 14).2.2.1 (FT 14).2.2.2).2.1 (fT (FT 14).2.2.1 (FT 14).2.2.2).2.2.1 ∈ lw_tbl := tm_1 _ (List.mem_of_getElem? (i := 220) rfl)
theorem FT_15 : Cond.fieldLink (cNm (FT 15).1) (FT 15).2.1 (fT (FT 15).2.2.1 (FT 15).2.2.2).1 (fT (FT 15).2.2.1 (FT 15).2.2.2).2.1 (fT (FT 15).2.2.1 (FT 15).2.2.2).2.2.1 ∈ lw_tbl := tm_1 _ (List.mem_of_getElem? (i := 222) rfl)
theorem FT_16 : Cond.fieldLink (cNm (FT 16).1) (FT 16).2.1 (fT (FT 16).2.2.1 (FT 16).2.2.2).1 (fT (FT 16).2.2.1 (FT 16).2.2.2).2.1 (fT (FT 16).2.2.1 (FT 16).2.2.2).2.2.1 ∈ lw_tbl := tm_1 _ (List.mem_of_getElem? (i := 224) rfl)
theorem FT_17 : Cond.fieldLink (cNm (FT 17).1) (FT 17).2.1 (fT (FT 17).2.2.1 (FT 17).2.2.2).1 (fT (FT 17).2.2.1 (FT 17).2.2.2).2.1 (fT (FT 17).2.2.1 (FT 17).2.2.2).2.2.1 ∈ lw_tbl := tm_1 _ (List.mem_of_getElem? (i := 226) rfl)
theorem FT_18 : Cond.fieldLink (cNm (FT 18).1) (FT 18).2.1 (fT (FT 18).2.2.1 (FT 18).2.2.2).1 (fT (FT 18).2.2.1 (FT 18).2.2.2).2.1 (fT (FT 18).2.2.1 (FT 18).2.2.2).2.2.1 ∈ lw_tbl := tm_1 _ (List.mem_of_getElem? (i := 227) rfl)
theorem FT_19 : Cond.fieldLink (cNm (FT 19).1) (FT 19).2.1 (fT (FT 19).2.2.1 (FT 19).2.2.2).1 (fT (FT 19).2.2.1 (FT 19).2.2.2).2.1 (fT (FT 19).2.2.1 (FT 19).2.2.2).2.2.1 ∈ lw_tbl := tm_1 _ (List.mem_of_getElem? (i := 228) rfl)
theorem FT_20 : Cond.fieldLink (cNm (FT 20).1) (FT 20).2.1 (fT (FT 20).2.2.1 (FT 20).2.2.2).1 (fT (FT 20).2.2.1 (FT 20).2.2.2).2.1 (fT (FT 20).2.2.1 (FT 20).2.2.2).2.2.1 ∈ lw_tbl := tm_1 _ (List.mem_of_getElem? (i := 230) rfl)
theorem FT_21 : Cond.fieldLink (cNm (FT 21).1) (FT 21).2.1 (fT (FT 21).2.2.1 (FT 21).2.2.2).1 (fT (FT 21).2.2.1 (FT 21).2.2.2).2.1 (fT (FT 21).2.2.1 (FT 21).2.2.2).2.2.1 ∈ lw_tbl := tm_1 _ (List.mem_of_getElem? (i := 232) rfl)
theorem FT_22 : Cond.fieldLink (cNm (FT 22).1) (FT 22).2.1 (fT (FT 22).2.2.1 (FT 22).2.2.2).1 (fT (FT 22).2.2.1 (FT 22).2.2.2).2.1 (fT (FT 22).2.2.1 (FT 22).2.2.2).2.2.1 ∈ lw_tbl := tm_1 _ (List.mem_of_getElem? (i := 160) rfl)
theorem FT_23 : Cond.fieldLink (cNm (FT 23).1) (FT 23).2.1 (fT (FT 23).2.2.1 (FT 23).2.2.2).1 (fT (FT 23).2.2.1 (FT 23).2.2.2).2.1 (fT (FT 23).2.2.1 (FT 23).2.2.2).2.2.1 ∈ lw_tbl := tm_1 _ (List.mem_of_getElem? (i := 75) rfl)
theorem FT_24 : Cond.fieldLink (cNm (FT 24).1) (FT 24).2.1 (fT (FT 24).2.2.1 (FT 24).2.2.2).1 (fT (FT 24).2.2.1 (FT 24).2.2.2).2.1 (fT (FT 24).2.2.1 (FT 24).2.2.2).2.2.1 ∈ lw_tbl := tm_1 _ (List.mem_of_getElem? (i := 72) rfl)
theorem FT_25 : Cond.fieldLink (cNm (FT 25).1) (FT 25).2.1 (fT (FT 25).2.2.1 (FT 25).2.2.2).1 (fT (FT 25).2.2.1 (FT 25).2.2.2).2.1 (fT (FT 25).2.2.1 (FT 25).2.2.2).2.2.1 ∈ lw_tbl := tm_1 _ (List.mem_of_getElem? (i := 45) rfl)
theorem FT_26 : Cond.fieldLink (cNm (FT 26).1) (FT 26).2.1 (fT (FT 26).2.2.1 (FT 26).2.2.2).1 (fT (FT 26).2.2.1 (FT 26).2.2.2).2.1 (fT (FT 26).2.2.1 (FT 26).2.2.2).2.2.1 ∈ lw_tbl := tm_1 _ (List.mem_of_getElem? (i := 132) rfl)
theorem FT_27 : Cond.fieldLink (cNm (FT 27).1) (FT 27).2.1 (fT (FT 27).2.2.1 (FT 27).2.2.2).1 (fT (FT 27).2.2.1 (FT 27).2.2.2).2.1 (fT (FT 27).2.2.1 (FT 27).2.2.2).2.2.1 ∈ lw_tbl := tm_1 _ (List.mem_of_getElem? (i := 122) rfl)
theorem FT_28 : Cond.fieldLink (cNm (FT 28).1) (FT 28).2.1 (fT (FT 28).2.2.1 (FT 28).2.2.2).1 (fT (FT 28).2.2.1 (FT 28).2.2.2).2.1 (fT (FT 28).2.2.1 (FT 28).2.2.2).2.2.1 ∈ lw_tbl := tm_1 _ (List.mem_of_getElem? (i := 157) rfl)
theorem FT_29 : Cond.fieldLink (cNm (FT 29).1) (FT 29).2.1 (fT (FT 29).2.2.1 (FT 29).2.2.2).1 (fT (FT 29).2.2.1 (FT 29).2.2.2).2.1 (fT (FT 29).2.2.1 (FT 29).2.2.2).2.2.1 ∈ lw_tbl := tm_1 _ (List.mem_of_getElem? (i := 164) rfl)
theorem FT_30 : Cond.fieldLink (cNm (FT 30).1) (FT 30).2.1 (fT (FT 30).2.2.1 (FT 30).2.2.2).1 (fT (FT 30).2.2.1 (FT 30).2.2.2).2.1 (fT (FT 30).2.2.1 (FT 30).2.2.2).2.2.1 ∈ lw_tbl := tm_1 _ (List.mem_of_getElem? (i := 170) rfl)
theorem FT_31 : Cond.fieldLink (cNm (FT 31).1) (FT 31).2.1 (fT (FT 31).2.2.1 (FT 31).2.2.2).1 (fT (FT 31).2.2.1 (FT 31).2.2.2).2.1 (fT (FT 31).2.2.1 (FT 31).2.2.2).2.2.1 ∈ lw_tbl := tm_1 _ (List.mem_of_getElem? (i := 167) rfl)
theorem FT_32 : Cond.fieldLink (cNm (FT 32).1) (FT 32).2.1 (fT (FT 32).2.2.1 (FT 32).2.2.2).1 (fT (FT 32).2.2.1 (FT 32).2.2.2).2.1 (fT (FT 32).2.2.1 (FT 32).2.2.2).2.2.1 ∈ lw_tbl := tm_1 _ (List.mem_of_getElem? (i := 193) rfl)
theorem FT_33 : Cond.fieldLink (cNm (FT 33).1) (FT 33).2.1 (fT (FT 33).2.2.1 (FT 33).2.2.2).1 (fT (FT 33).2.2.1 (FT 33).2.2.2).2.1 (fT (FT 33).2.2.1 (FT 33).2.2.2).2.2.1 ∈ lw_tbl := tm_1 _ (List.mem_of_getElem? (i := 201) rfl)
theorem FT_34 : Cond.fieldLink (cNm (FT 34).1) (FT 34).2.1 (fT (FT 34).2.2.1 (FT 34).2.2.2).1 (fT (FT 34).2.2.1 (FT 34).2.2.2).2.1 (fT (FT 34).2.2.1 (FT 34).2.2.2).2.2.1 ∈ lw_tbl := tm_1 _ (List.mem_of_getElem? (i := 206) rfl)
theorem FT_35 : Cond.fieldLink (cNm (FT 35).1) (FT 35).2.1 (fT (FT 35).2.2.1 (FT 35).2.2.2).1 (fT (FT 35).2.2.1 (FT 35).2.2.2).2.1 (fT (FT 35).2.2.1 (FT 35).2.2.2).2.2.1 ∈ lw_tbl := tm_1 _ (List.mem_of_getElem? (i := 40) rfl)
theorem FT_36 : Cond.fieldLink (cNm (FT 36).1) (FT 36).2.1 (fT (FT 36).2.2.1 (FT 36).2.2.2).1 (fT (FT 36).2.2.1 (FT 36).2.2.2).2.1 (fT (FT 36).2.2.1 (FT 36).2.2.2).2.2.1 ∈ lw_tbl := tm_1 _ (List.mem_of_getElem? (i := 38) rfl)
theorem FT_37 : Cond.fieldLink (cNm (FT 37).1) (FT 37).2.1 (fT (FT 37).2.2.1 (FT 37).2.2.2).1 (fT (FT 37).2.2.1 (FT 37).2.2.2).2.1 (fT (FT 37).2.2.1 (FT 37).2.2.2).2.2.1 ∈ lw_tbl := tm_1 _ (List.mem_of_getElem? (i := 191) rfl)
theorem FT_38 : Cond.fieldLink (cNm (FT 38).1) (FT 38).2.1 (fT (FT 38).2.2.1 (FT 38).2.2.2).1 (fT (FT 38).2.2.1 (FT 38).2.2.2).2.1 (fT (FT 38).2.2.1 (FT 38).2.2.2).2.2.1 ∈ lw_tbl := tm_1 _ (List.mem_of_getElem? (i := 194) rfl)
theorem FT_39 : Cond.fieldLink (cNm (FT 39).1) (FT 39).2.1 (fT (FT 39).2.2.1 (FT 39).2.2.2).1 (fT (FT 39).2.2.1 (FT 39).2.2.2).2.1 (fT (FT 39).2.2.1 (FT 39).2.2.2).2.2.1 ∈ lw_tbl := tm_1 _ (List.mem_of_getElem? (i := 197) rfl)
theorem FT_40 : Cond.fieldLink (cNm (FT 40).1) (FT 40).2.1 (fT (FT 40).2.2.1 (FT 40).2.2.2).1 (fT (FT 40).2.2.1 (FT 40).2.2.2).2.1 (fT (FT 40).2.2.1 (FT 40).2.2.2).2.2.1 ∈ lw_tbl := tm_1 _ (List.mem_of_getElem? (i := 202) rfl)
theorem FT_41 : Cond.fieldLink (cNm (FT 41).1) (FT 41).2.1 (fT (FT 41).2.2.1 (FT 41).2.2.2).1 (fT (FT 41).2.2.1 (FT 41).2.2.2).2.1 (fT (FT 41).2.2.1 (FT 41).2.2.2).2.2.1 ∈ lw_tbl := tm_1 _ (List.mem_of_getElem? (i := 89) rfl)
theorem FT_42 : Cond.fieldLink (cNm (FT 42).1) (FT 42).2.1 (fT (FT 42).2.2.1 (FT 42).2.2.2).1 (fT (FT 42).2.2.1 (FT 42).2.2.2).2.1 (fT (FT 42).2.2.1 (FT 42).2.2.2).2.2.1 ∈ lw_tbl := tm_1 _ (List.mem_of_getElem? (i := 90) rfl)
theorem FT_43 : Cond.fieldLink (cNm (FT 43).1) (FT 43).2.1 (fT (FT 43).2.2.1 (FT 43).2.2.2).1 (fT (FT 43).2.2.1 (FT 43).2.2.2).2.1 (fT (FT 43).2.2.1 (FT 43).2.2.2).2.2.1 ∈ lw_tbl := tm_1 _ (List.mem_of_getElem? (i := 91) rfl)
theorem FT_44 : Cond.fieldLink (cNm (FT 44).1) (FT 44).2.1 (fT (FT 44).2.2.1 (FT 44).2.2.2).1 (fT (FT 44).2.2.1 (FT 44).2.2.2).2.1 (fT (FT 44).2.2.1 (FT 44).2.2.2).2.2.1 ∈ lw_tbl := tm_1 _ (List.mem_of_getElem? (i := 92) rfl)
theorem FT_45 : Cond.fieldLink (cNm (FT 45).1) (FT 45).2.1 (fT (FT 45).2.2.1 (FT 45).2.2.2).1 (fT (FT 45).2.2.1 (FT 45).2.2.2).2.1 (fT (FT 45).2.2.1 (FT 45).2.2.2).2.2.1 ∈ lw_tbl := tm_1 _ (List.mem_of_getElem? (i := 42) rfl)
theorem FT_46 : Cond.fieldLink (cNm (FT 46).1) (FT 46).2.1 (fT (FT 46).2.2.1 (FT 46).2.2.2).1 (fT (FT 46).2.2.1 (FT 46).2.2.2).2.1 (fT (FT 46).2.2.1 (FT 46).2.2.2).2.2.1 ∈ lw_tbl := tm_1 _ (List.mem_of_getElem? (i := 69) rfl)
theorem FT_47 : Cond.fieldLink (cNm (FT 47).1) (FT 47).2.1 (fT (FT 47).2.2.1 (FT 47).2.2.2).1 (fT (FT 47).2.2.1 (FT 47).2.2.2).2.1 (fT (FT 47).2.2.1 (FT 47).2.2.2).2.2.1 ∈ lw_tbl := tm_1 _ (List.mem_of_getElem? (i := 71) rfl)
theorem FT_48 : Cond.fieldLink (cNm (FT 48).1) (FT 48).2.1 (fT (FT 48).2.2.1 (FT 48).2.2.2).1 (fT (FT 48).2.2.1 (FT 48).2.2.2).2.1 (fT (FT 48).2.2.1 (FT 48).2.2.2).2.2.1 ∈ lw_tbl := tm_1 _ (List.mem_of_getElem? (i := 76) rfl)
theorem FT_49 : Cond.fieldLink (cNm (FT 49).1) (FT 49).2.1 (fT (FT 49).2.2.1 (FT 49).2.2.2).1 (fT (FT 49).2.2.1 (FT 49).2.2.2).2.1 (fT (FT 49).2.2.1 (FT 49).2.2.2).2.2.1 ∈ lw_tbl := tm_1 _ (List.mem_of_getElem? (i := 39) rfl)
theorem FT_50 : Cond.fieldLink (cNm (FT 50).1) (FT 50).2.1 (fT (FT 50).2.2.1 (FT 50).2.2.2).1 (fT (FT 50).2.2.1 (FT 50).2.2.2).2.1 (fT (FT 50).2.2.1 (FT 50).2.2.2).2.2.1 ∈ lw_tbl := tm_1 _ (List.mem_of_getElem? (i := 156) rfl)
theorem FT_51 : Cond.fieldLink (cNm (FT 51).1) (FT 51).2.1 (fT (FT 51).2.2.1 (FT 51).2.2.2).1 (fT (FT 51).2.2.1 (FT 51).2.2.2).2.1 (fT (FT 51).2.2.1 (FT 51).2.2.2).2.2.1 ∈ lw_tbl := tm_1 _ (List.mem_of_getElem? (i := 159) rfl)
theorem FT_52 : Cond.fieldLink (cNm (FT 52).1) (FT 52).2.1 (fT (FT 52).2.2.1 (FT 52).2.2.2).1 (fT (FT 52).2.2.1 (FT 52).2.2.2).2.1 (fT (FT 52).2.2.1 (FT 52).2.2.2).2.2.1 ∈ lw_tbl := tm_1 _ (List.mem_of_getElem? (i := 162) rfl)
theorem FT_53 : Cond.fieldLink (cNm (FT 53).1) (FT 53).2.1 (fT (FT 53).2.2.1 (FT 53).2.2.2).1 (fT (FT 53).2.2.1 (FT 53).2.2.2).2.1 (fT (FT 53).2.2.1 (FT 53).2.2.2).2.2.1 ∈ lw_tbl := tm_1 _ (List.mem_of_getElem? (i := 165) rfl)
theorem FT_54 : Cond.fieldLink (cNm (FT 54).1) (FT 54).2.1 (fT (FT 54).2.2.1 (FT 54).2.2.2).1 (fT (FT 54).2.2.1 (FT 54).2.2.2).2.1 (fT (FT 54).2.2.1 (FT 54).2.2.2).2.2.1 ∈ lw_tbl := tm_1 _ (List.mem_of_getElem? (i := 168) rfl)
theorem FT_55 : Cond.fieldLink (cNm (FT 55).1) (FT 55).2.1 (fT (FT 55).2.2.1 (FT 55).2.2.2).1 (fT (FT 55).2.2.1 (FT 55).2.2.2).2.1 (fT (FT 55).2.2.1 (FT 55).2.2.2).2.2.1 ∈ lw_tbl := tm_1 _ (List.mem_of_getElem? (i := 66) rfl)
theorem FT_56 : Cond.fieldLink (cNm (FT 56).1) (FT 56).2.1 (fT (FT 56).2.2.1 (FT 56).2.2.2).1 (fT (FT 56).2.2.1 (FT 56).2.2.2).2.1 (fT (FT 56).2.2.1 (FT 56).2.2.2).2.2.1 ∈ lw_tbl := tm_1 _ (List.mem_of_getElem? (i := 67) rfl)
theorem FT_57 : Cond.fieldLink (cNm (FT 57).1) (FT 57).2.1 (fT (FT 57).2.2.1 (FT 57).2.2.2).1 (fT (FT 57).2.2.1 (FT 57).2.2.2).2.1 (fT (FT 57).2.2.1 (FT 57).2.2.2).2.2.1 ∈ lw_tbl := tm_1 _ (List.mem_of_getElem? (i := 68) rfl)
theorem FT_58 : Cond.fieldLink (cNm (FT 58).1) (FT 58).2.1 (fT (FT 58).2.2.1 (FT 58).2.2.2).1 (fT (FT 58).2.2.1 (FT 58).2.2.2).2.1 (fT (FT 58).2.2.1 (FT 58).2.2.2).2.2.1 ∈ lw_tbl := tm_1 _ (List.mem_of_getElem? (i := 70) rfl)
theorem FT_59 : Cond.fieldLink (cNm (FT 59).1) (FT 59).2.1 (fT (FT 59).2.2.1 (FT 59).2.2.2).1 (fT (FT 59).2.2.1 (FT 59).2.2.2).2.1 (fT (FT 59).2.2.1 (FT 59).2.2.2).2.2.1 ∈ lw_tbl := tm_1 _ (List.mem_of_getElem? (i := 74) rfl)
theorem FT_60 : Cond.fieldLink (cNm (FT 60).1) (FT 60).2.1 (fT (FT 60).2.2.1 (FT 60).2.2.2).1 (fT (FT 60).2.2.1 (FT 60).2.2.2).2.1 (fT (FT 60).2.2.1 (FT 60).2.2.2).2.2.1 ∈ lw_tbl := tm_1 _ (List.mem_of_getElem? (i := 199) rfl)
theorem FT_61 : Cond.fieldLink (cNm (FT 61).1) (FT 61).2.1 (fT (FT 61).2.2.1 (FT 61).2.2.2).1 (fT (FT 61).2.2.1 (FT 61).2.2.2).2.1 (fT (FT 61).2.2.1 (FT 61).2.2.2).2.2.1 ∈ lw_tbl := tm_1 _ (List.mem_of_getElem? (i := 131) rfl)
theorem FT_62 : Cond.fieldLink (cNm (FT 62).1) (FT 62).2.1 (fT (FT 62).2.2.1 (FT 62).2.2.2).1 (fT (FT 62).2.2.1 (FT 62).2.2.2).2.1 (fT (FT 62).2.2.1 (FT 62).2.2.2).2.2.1 ∈ lw_tbl := tm_1 _ (List.mem_of_getElem? (i := 196) rfl)
theorem FT_63 : Cond.fieldLink (cNm (FT 63).1) (FT 63).2.1 (fT (FT 63).2.2.1 (FT 63).2.2.2).1 (fT (FT 63).2.2.1 (FT 63).2.2.2).2.1 (fT (FT 63).2.2.1 (FT 63).2.2.2).2.2.1 ∈ lw_tbl := tm_1 _ (List.mem_of_getElem? (i := 205) rfl)
theorem FT_64 : Cond.fieldLink (cNm (FT 64).1) (FT 64).2.1 (fT (FT 64).2.2.1 (FT 64).2.2.2).1 (fT (FT 64).2.2.1 (FT 64).2.2.2).2.1 (fT (FT 64).2.2.1 (FT 64).2.2.2).2.2.1 ∈ lw_tbl := tm_1 _ (List.mem_of_getElem? (i := 125) rfl)
theorem FT_65 : Cond.fieldLink (cNm (FT 65).1) (FT 65).2.1 (fT (FT 65).2.2.1 (FT 65).2.2.2).1 (fT (FT 65).2.2.1 (FT 65).2.2.2).2.1 (fT (FT 65).2.2.1 (FT 65).2.2.2).2.2.1 ∈ lw_tbl := tm_1 _ (List.mem_of_getElem? (i := 121) rfl)
theorem FT_66 : Cond.fieldLink (cNm (FT 66).1) (FT 66).2.1 (fT (FT 66).2.2.1 (FT 66).2.2.2).1 (fT (FT 66).2.2.1 (FT 66).2.2.2).2.1 (fT (FT 66).2.2.1 (FT 66).2.2.2).2.2.1 ∈ lw_tbl := tm_1 _ (List.mem_of_getElem? (i := 44) rfl)
theorem FT_67 : Cond.fieldLink (cNm (FT 67).1) (FT 67).2.1 (fT (FT 67).2.2.1 (FT 67).2.2.2).1 (fT (FT 67).2.2.1 (FT 67).2.2.2).2.1 (fT (FT 67).2.2.1 (FT 67).2.2.2).2.2.1 ∈ lw_tbl := tm_2 _ (List.mem_of_getElem? (i := 42) rfl)
theorem FT_68 : Cond.fieldLink (cNm (FT 68).1) (FT 68).2.1 (fT (FT 68).2.2.1 (FT 68).2.2.2).1 (fT (FT 68).2.2.1 (FT 68).2.2.2).2.1 (fT (FT 68).2.2.1 (FT 68).2.2.2).2.2.1 ∈ lw_tbl := tm_2 _ (List.mem_of_getElem? (i := 44) rfl)
theorem FT_69 : Cond.fieldLink (cNm (FT 69).1) (FT 69).2.1 (fT (FT 69).2.2.1 (FT 69).2.2.2).1 (fT (FT 69).2.2.1 (FT 69).2.2.2).2.1 (fT (FT 69).2.2.1 (FT 69).2.2.2).2.2.1 ∈ lw_tbl := tm_2 _ (List.mem_of_getElem? (i := 46) rfl)
theorem FT_70 : Cond.fieldLink (cNm (FT 70).1) (FT 70).2.1 (fT (FT 70).2.2.1 (FT 70).2.2.2).1 (fT (FT 70).2.2.1 (FT 70).2.2.2).2.1 (fT (FT 70).2.2.1 (FT 70).2.2.2).2.2.1 ∈ lw_tbl := tm_2 _ (List.mem_of_getElem? (i := 56) rfl)
theorem FT_71 : Cond.fieldLink (cNm (FT 71).1) (FT 71).2.1 (fT (FT 71).2.2.1 (FT 71).2.2.2).1 (fT (FT 71).2.2.1 (FT 71).2.2.2).2.1 (fT (FT 71).2.2.1 (FT 71).2.2.2).2.2.1 ∈ lw_tbl := tm_2 _ (List.mem_of_getElem? (i := 57) rfl)
theorem FT_72 : Cond.fieldLink (cNm (FT 72).1) (FT 72).2.1 (fT (FT 72).2.2.1 (FT 72).2.2.2).1 (fT (FT 72).2.2.1 (FT 72).2.2.2).2.1 (fT (FT 72).2.2.1 (FT 72).2.2.2).2.2.1 ∈ lw_tbl := tm_2 _ (List.mem_of_getElem? (i := 58) rfl)
theorem FT_73 : Cond.fieldLink (cNm (FT 73).1) (FT 73).2.1 (fT (FT 73).2.2.1 (FT 73).2.2.2).1 (fT (FT 73).2.2.1 (FT 73).2.2.2).2.1 (fT (FT 73).2.2.1 (FT 73).2.2.2).2.2.1 ∈ lw_tbl := tm_2 _ (List.mem_of_getElem? (i := 59) rfl)
theorem FT_74 : Cond.fieldLink (cNm (FT 74).1) (FT 74).2.1 (fT (FT 74).2.2.1 (FT 74).2.2.2).1 (fT (FT 74).2.2.1 (FT 74).2.2.2).2.1 (fT (FT 74).2.2.1 (FT 74).2.2.2).2.2.1 ∈ lw_tbl := tm_2 _ (List.mem_of_getElem? (i := 60) rfl)
theorem FT_75 : Cond.fieldLink (cNm (FT 75).1) (FT 75).2.1 (fT (FT 75).2.2.1 (FT 75).2.2.2).1 (fT (FT 75).2.2.1 (FT 75).2.2.2).2.1 (fT (FT 75).2.2.1 (FT 75).2.2.2).2.2.1 ∈ lw_tbl := tm_2 _ (List.mem_of_getElem? (i := 61) rfl)
theorem FT_76 : Cond.fieldLink (cNm (FT 76).1) (FT 76).2.1 (fT (FT 76).2.2.1 (FT 76).2.2.2).1 (fT (FT 76).2.2.1 (FT 76).2.2.2).2.1 (fT (FT 76).2.2.1 (FT 76).2.2.2).2.2.1 ∈ lw_tbl := tm_2 _ (List.mem_of_getElem? (i := 62) rfl)
theorem FT_77 : Cond.fieldLink (cNm (FT 77).1) (FT 77).2.1 (fT (FT 77).2.2.1 (FT 77).2.2.2).1 (fT (FT 77).2.2.1 (FT 77).2.2.2).2.1 (fT (FT 77).2.2.1 (FT 77).2.2.2).2.2.1 ∈ lw_tbl := tm_2 _ (List.mem_of_getElem? (i := 63) rfl)
theorem FT_78 : Cond.fieldLink (cNm (FT 78).1) (FT 78).2.1 (fT (FT 78).2.2.1 (FT 78).2.2.2).1 (fT (FT 78).2.2.1 (FT 78).2.2.2).2.1 (fT (FT 78).2.2.1 (FT 78).2.2.2).2.2.1 ∈ lw_tbl := tm_2 _ (List.mem_of_getElem? (i := 64) rfl)
theorem FT_79 : Cond.fieldLink (cNm (FT 79).1) (FT 79).2.1 (fT (FT 79).2.2.1 (FT 79).2.2.2).1 (fT (FT 79).2.2.1 (FT 79).2.2.2).2.1 (fT (FT 79).2.2.1 (FT 79).2.2.2).2.2.1 ∈ lw_tbl := tm_2 _ (List.mem_of_getElem? (i := 65) rfl)
theorem FT_80 : Cond.fieldLink (cNm (FT 80).1) (FT 80).2.1 (fT (FT 80).2.2.1 (FT 80).2.2.2).1 (fT (FT 80).2.2.1 (FT 80).2.2.2).2.1 (fT (FT 80).2.2.1 (FT 80).2.2.2).2.2.1 ∈ lw_tbl := tm_2 _ (List.mem_of_getElem? (i := 66) rfl)
theorem FT_81 : Cond.fieldLink (cNm (FT 81).1) (FT 81).2.1 (fT (FT 81).2.2.1 (FT 81).2.2.2).1 (fT (FT 81).2.2.1 (FT 81).2.2.2).2.1 (fT (FT 81).2.2.1 (FT 81).2.2.2).2.2.1 ∈ lw_tbl := tm_1 _ (List.mem_of_getElem? (i := 41) rfl)
theorem FT_82 : Cond.fieldLink (cNm (FT 82).1) (FT 82).2.1 (fT (FT 82).2.2.1 (FT 82).2.2.2).1 (fT (FT 82).2.2.1 (FT 82).2.2.2).2.1 (fT (FT 82).2.2.1 (FT 82).2.2.2).2.2.1 ∈ lw_tbl := tm_1 _ (List.mem_of_getElem? (i := 217) rfl)
theorem FT_83 : Cond.fieldLink (cNm (FT 83).1) (FT 83).2.1 (fT (FT 83).2.2.1 (FT 83).2.2.2).1 (fT (FT 83).2.2.1 (FT 83).2.2.2).2.1 (fT (FT 83).2.2.1 (FT 83).2.2.2).2.2.1 ∈ lw_tbl := tm_1 _ (List.mem_of_getElem? (i := 130) rfl)
theorem FT_84 : Cond.fieldLink (cNm (FT 84).1) (FT 84).2.1 (fT (FT 84).2.2.1 (FT 84).2.2.2).1 (fT (FT 84).2.2.1 (FT 84).2.2.2).2.1 (fT (FT 84).2.2.1 (FT 84).2.2.2).2.2.1 ∈ lw_tbl := tm_1 _ (List.mem_of_getElem? (i := 124) rfl)
theorem FT_85 : Cond.fieldLink (cNm (FT 85).1) (FT 85).2.1 (fT (FT 85).2.2.1 (FT 85).2.2.2).1 (fT (FT 85).2.2.1 (FT 85).2.2.2).2.1 (fT (FT 85).2.2.1 (FT 85).2.2.2).2.2.1 ∈ lw_tbl := tm_1 _ (List.mem_of_getElem? (i := 120) rfl)
theorem FT_86 : Cond.fieldLink (cNm (FT 86).1) (FT 86).2.1 (fT (FT 86).2.2.1 (FT 86).2.2.2).1 (fT (FT 86).2.2.1 (FT 86).2.2.2).2.1 (fT (FT 86).2.2.1 (FT 86).2.2.2).2.2.1 ∈ lw_tbl := tm_1 _ (List.mem_of_getElem? (i := 219) rfl)
theorem FT_87 : Cond.fieldLink (cNm (FT 87).1) (FT 87).2.1 (fT (FT 87).2.2.1 (FT 87).2.2.2).1 (fT (FT 87).2.2.1 (FT 87).2.2.2).2.1 (fT (FT 87).2.2.1 (FT 87).2.2.2).2.2.1 ∈ lw_tbl := tm_1 _ (List.mem_of_getElem? (i := 200) rfl)
theorem FT_88 : Cond.fieldLink (cNm (FT 88).1) (FT 88).2.1 (fT (FT 88).2.2.1 (FT 88).2.2.2).1 (fT (FT 88).2.2.1 (FT 88).2.2.2).2.1 (fT (FT 88).2.2.1 (FT 88).2.2.2).2.2.1 ∈ lw_tbl := tm_1 _ (List.mem_of_getElem? (i := 204) rfl)
theorem FT_89 : Cond.fieldLink (cNm (FT 89).1) (FT 89).2.1 (fT (FT 89).2.2.1 (FT 89).2.2.2).1 (fT (FT 89).2.2.1 (FT 89).2.2.2).2.1 (fT (FT 89).2.2.1 (FT 89).2.2.2).2.2.1 ∈ lw_tbl := tm_1 _ (List.mem_of_getElem? (i := 223) rfl)
theorem FT_90 : Cond.fieldLink (cNm (FT 90).1) (FT 90).2.1 (fT (FT 90).2.2.1 (FT 90).2.2.2).1 (fT (FT 90).2.2.1 (FT 90).2.2.2).2.1 (fT (FT 90).2.2.1 (FT 90).2.2.2).2.2.1 ∈ lw_tbl := tm_1 _ (List.mem_of_getElem? (i := 161) rfl)
theorem FT_91 : Cond.fieldLink (cNm (FT 91).1) (FT 91).2.1 (fT (FT 91).2.2.1 (FT 91).2.2.2).1 (fT (FT 91).2.2.1 (FT 91).2.2.2).2.1 (fT (FT 91).2.2.1 (FT 91).2.2.2).2.2.1 ∈ lw_tbl := tm_1 _ (List.mem_of_getElem? (i := 233) rfl)
theorem FT_92 : Cond.fieldLink (cNm (FT 92).1) (FT 92).2.1 (fT (FT 92).2.2.1 (FT 92).2.2.2).1 (fT (FT 92).2.2.1 (FT 92).2.2.2).2.1 (fT (FT 92).2.2.1 (FT 92).2.2.2).2.2.1 ∈ lw_tbl := tm_1 _ (List.mem_of_getElem? (i := 192) rfl)
theorem FT_93 : Cond.fieldLink (cNm (FT 93).1) (FT 93).2.1 (fT (FT 93).2.2.1 (FT 93).2.2.2).1 (fT (FT 93).2.2.1 (FT 93).2.2.2).2.1 (fT (FT 93).2.2.1 (FT 93).2.2.2).2.2.1 ∈ lw_tbl := tm_1 _ (List.mem_of_getElem? (i := 231) rfl)
theorem FT_94 : Cond.fieldLink (cNm (FT 94).1) (FT 94).2.1 (fT (FT 94).2.2.1 (FT 94).2.2.2).1 (fT (FT 94).2.2.1 (FT 94).2.2.2).2.1 (fT (FT 94).2.2.1 (FT 94).2.2.2).2.2.1 ∈ lw_tbl := tm_1 _ (List.mem_of_getElem? (i := 221) rfl)
theorem FT_95 : Cond.fieldLink (cNm (FT 95).1) (FT 95).2.1 (fT (FT 95).2.2.1 (FT 95).2.2.2).1 (fT (FT 95).2.2.1 (FT 95).2.2.2).2.1 (fT (FT 95).2.2.1 (FT 95).2.2.2).2.2.1 ∈ lw_tbl := tm_1 _ (List.mem_of_getElem? (i := 163) rfl)
theorem FT_96 : Cond.fieldLink (cNm (FT 96).1) (FT 96).2.1 (fT (FT 96).2.2.1 (FT 96).2.2.2).1 (fT (FT 96).2.2.1 (FT 96).2.2.2).2.1 (fT (FT 96).2.2.1 (FT 96).2.2.2).2.2.1 ∈ lw_tbl := tm_1 _ (List.mem_of_getElem? (i := 166) rfl)
theorem FT_97 : Cond.fieldLink (cNm (FT 97).1) (FT 97).2.1 (fT (FT 97).2.2.1 (FT 97).2.2.2).1 (fT (FT 97).2.2.1 (FT 97).2.2.2).2.1 (fT (FT 97).2.2.1 (FT 97).2.2.2).2.2.1 ∈ lw_tbl := tm_1 _ (List.mem_of_getElem? (i := 158) rfl)
theorem FT_98 : Cond.fieldLink (cNm (FT 98).1) (FT 98).2.1 (fT (FT 98).2.2.1 (FT 98).2.2.2).1 (fT (FT 98).2.2.1 (FT 98).2.2.2).2.1 (fT (FT 98).2.2.1 (FT 98).2.2.2).2.2.1 ∈ lw_tbl := tm_1 _ (List.mem_of_getElem? (i := 73) rfl)
theorem FT_99 : Cond.fieldLink (cNm (FT 99).1) (FT 99).2.1 (fT (FT 99).2.2.1 (FT 99).2.2.2).1 (fT (FT 99).2.2.1 (FT 99).2.2.2).2.1 (fT (FT 99).2.2.1 (FT 99).2.2.2).2.2.1 ∈ lw_tbl := tm_1 _ (List.mem_of_getElem? (i := 77) rfl)
theorem FT_100 : Cond.fieldLink (cNm (FT 100).1) (FT 100).2.1 (fT (FT 100).2.2.1 (FT 100).2.2.2).1 (fT (FT 100).2.2.1 (FT 100).2.2.2).2.1 (fT (FT 100).2.2.1 (FT 100).2.2.2).2.2.1 ∈ lw_tbl := tm_1 _ (List.mem_of_getElem? (i := 169) rfl)
theorem FT_101 : Cond.fieldLink (cNm (FT 101).1) (FT 101).2.1 (fT (FT 101).2.2.1 (FT 101).2.2.2).1 (fT (FT 101).2.2.1 (FT 101).2.2.2).2.1 (fT (FT 101).2.2.1 (FT 101).2.2.2).2.2.1 ∈ lw_tbl := tm_1 _ (List.mem_of_getElem? (i := 225) rfl)
theorem FT_102 : Cond.fieldLink (cNm (FT 102).1) (FT 102).2.1 (fT (FT 102).2.2.1 (FT 102).2.2.2).1 (fT (FT 102).2.2.1 (FT 102).2.2.2).2.1 (fT (FT 102).2.2.1 (FT 102).2.2.2).2.2.1 ∈ lw_tbl := tm_1 _ (List.mem_of_getElem? (i := 229) rfl)
theorem FT_103 : Cond.fieldLink (cNm (FT 103).1) (FT 103).2.1 (fT (FT 103).2.2.1 (FT 103).2.2.2).1 (fT (FT 103).2.2.1 (FT 103).2.2.2).2.1 (fT (FT 103).2.2.1 (FT 103).2.2.2).2.2.1 ∈ lw_tbl := tm_2 _ (List.mem_of_getElem? (i := 45) rfl)
theorem FT_104 : Cond.fieldLink (cNm (FT 104).1) (FT 104).2.1 (fT (FT 104).2.2.1 (FT 104).2.2.2).1 (fT (FT 104).2.2.1 (FT 104).2.2.2).2.1 (fT (FT 104).2.2.1 (FT 104).2.2.2).2.2.1 ∈ lw_tbl := tm_2 _ (List.mem_of_getElem? (i := 47) rfl)
theorem FT_105 : Cond.fieldLink (cNm (FT 105).1) (FT 105).2.1 (fT (FT 105).2.2.1 (FT 105).2.2.2).1 (fT (FT 105).2.2.1 (FT 105).2.2.2).2.1 (fT (FT 105).2.2.1 (FT 105).2.2.2).2.2.1 ∈ lw_tbl := tm_2 _ (List.mem_of_getElem? (i := 43) rfl)
theorem FT_106 : Cond.fieldLink (cNm (FT 106).1) (FT 106).2.1 (fT (FT 106).2.2.1 (FT 106).2.2.2).1 (fT (FT 106).2.2.1 (FT 106).2.2.2).2.1 (fT (FT 106).2.2.1 (FT 106).2.2.2).2.2.1 ∈ lw_tbl := tm_2 _ (List.mem_of_getElem? (i := 26) rfl)
theorem FT_107 : Cond.fieldLink (cNm (FT 107).1) (FT 107).2.1 (fT (FT 107).2.2.1 (FT 107).2.2.2).1 (fT (FT 107).2.2.1 (FT 107).2.2.2).2.1 (fT (FT 107).2.2.1 (FT 107).2.2.2).2.2.1 ∈ lw_tbl := tm_2 _ (List.mem_of_getElem? (i := 28) rfl)
theorem FT_108 : Cond.fieldLink (cNm (FT 108).1) (FT 108).2.1 (fT (FT 108).2.2.1 (FT 108).2.2.2).1 (fT (FT 108).2.2.1 (FT 108).2.2.2).2.1 (fT (FT 108).2.2.1 (FT 108).2.2.2).2.2.1 ∈ lw_tbl := tm_5 _ (List.mem_of_getElem? (i := 5) rfl)
theorem FT_109 : Cond.fieldLink (cNm (FT 109).1) (FT 109).2.1 (fT (FT 109).2.2.1 (FT 109).2.2.2).1 (fT (FT 109).2.2.1 (FT 109).2.2.2).2.1 (fT (FT 109).2.2.1 (FT 109).2.2.2).2.2.1 ∈ lw_tbl := tm_5 _ (List.mem_of_getElem? (i := 6) rfl)
theorem FT_110 : Cond.fieldLink (cNm (FT 110).1) (FT 110).2.1 (fT (FT 110).2.2.1 (FT 110).2.2.2).1 (fT (FT 110).2.2.1 (FT 110).2.2.2).2.1 (fT (FT 110).2.2.1 (FT 110).2.2.2).2.2.1 ∈ lw_tbl := tm_5 _ (List.mem_of_getElem? (i := 7) rfl)
theorem FT_111 : Cond.fieldLink (cNm (FT 111).1) (FT 111).2.1 (fT (FT 111).2.2.1 (FT 111).2.2.2).1 (fT (FT 111).2.2.1 (FT 111).2.2.2).2.1 (fT (FT 111).2.2.1 (FT 111).2.2.2).2.2.1 ∈ lw_tbl := tm_5 _ (List.mem_of_getElem? (i := 8) rfl)
theorem FT_112 : Cond.fieldLink (cNm (FT 112).1) (FT 112).2.1 (fT (FT 112).2.2.1 (FT 112).2.2.2).1 (fT (FT 112).2.2.1 (FT 112).2.2.2).2.1 (fT (FT 112).2.2.1 (FT 112).2.2.2).2.2.1 ∈ lw_tbl := tm_5 _ (List.mem_of_getElem? (i := 9) rfl)
theorem FT_113 : Cond.fieldLink (cNm (FT 113).1) (FT 113).2.1 (fT (FT 113).2.2.1 (FT 113).2.2.2).1 (fT (FT 113).2.2.1 (FT 113).2.2.2).2.1 (fT (FT 113).2.2.1 (FT 113).2.2.2).2.2.1 ∈ lw_tbl := tm_5 _ (List.mem_of_getElem? (i := 10) rfl)
theorem FT_114 : Cond.fieldLink (cNm (FT 114).1) (FT 114).2.1 (fT (FT 114).2.2.1 (FT 114).2.2.2).1 (fT (FT 114).2.2.1 (FT 114).2.2.2).2.1 (fT (FT 114).2.2.1 (FT 114).2.2.2).2.2.1 ∈ lw_tbl := tm_5 _ (List.mem_of_getElem? (i := 11) rfl)
theorem FT_115 : Cond.fieldLink (cNm (FT 115).1) (FT 115).2.1 (fT (FT 115).2.2.1 (FT 115).2.2.2).1 (fT (FT 115).2.2.1 (FT 115).2.2.2).2.1 (fT (FT 115).2.2.1 (FT 115).2.2.2).2.2.1 ∈ lw_tbl := tm_5 _ (List.mem_of_getElem? (i := 12) rfl)
theorem FT_116 : Cond.fieldLink (cNm (FT 116).1) (FT 116).2.1 (fT (FT 116).2.2.1 (FT 116).2.2.2).1 (fT (FT 116).2.2.1 (FT 116).2.2.2).2.1 (fT (FT 116).2.2.1 (FT 116).2.2.2).2.2.1 ∈ lw_tbl := tm_5 _ (List.mem_of_getElem? (i := 13) rfl)
theorem FT_117 : Cond.fieldLink (cNm (FT 117).1) (FT 117).2.1 (fT (FT 117).2.2.1 (FT 117).2.2.2).1 (fT (FT 117).2.2.1 (FT 117).2.2.2).2.1 (fT (FT 117).2.2.1 (FT 117).2.2.2).2.2.1 ∈ lw_tbl := tm_5 _ (List.mem_of_getElem? (i := 14) rfl)
theorem FT_118 : Cond.fieldLink (cNm (FT 118).1) (FT 118).2.1 (fT (FT 118).2.2.1 (FT 118).2.2.2).1 (fT (FT 118).2.2.1 (FT 118).2.2.2).2.1 (fT (FT 118).2.2.1 (FT 118).2.2.2).2.2.1 ∈ lw_tbl := tm_5 _ (List.mem_of_getElem? (i := 15) rfl)
theorem FT_119 : Cond.fieldLink (cNm (FT 119).1) (FT 119).2.1 (fT (FT 119).2.2.1 (FT 119).2.2.2).1 (fT (FT 119).2.2.1 (FT 119).2.2.2).2.1 (fT (FT 119).2.2.1 (FT 119).2.2.2).2.2.1 ∈ lw_tbl := tm_5 _ (List.mem_of_getElem? (i := 16) rfl)
theorem FT_120 : Cond.fieldLink (cNm (FT 120).1) (FT 120).2.1 (fT (FT 120).2.2.1 (FT 120).2.2.2).1 (fT (FT 120).2.2.1 (FT 120).2.2.2).2.1 (fT (FT 120).2.2.1 (FT 120).2.2.2).2.2.1 ∈ lw_tbl := tm_5 _ (List.mem_of_getElem? (i := 17) rfl)
theorem FT_121 : Cond.fieldLink (cNm (FT 121).1) (FT 121).2.1 (fT (FT 121).2.2.1 (FT 121).2.2.2).1 (fT (FT 121).2.2.1 (FT 121).2.2.2).2.1 (fT (FT 121).2.2.1 (FT 121).2.2.2).2.2.1 ∈ lw_tbl := tm_5 _ (List.mem_of_getElem? (i := 18) rfl)
theorem FT_122 : Cond.fieldLink (cNm (FT 122).1) (FT 122).2.1 (fT (FT 122).2.2.1 (FT 122).2.2.2).1 (fT (FT 122).2.2.1 (FT 122).2.2.2).2.1 (fT (FT 122).2.2.1 (FT 122).2.2.2).2.2.1 ∈ lw_tbl := tm_5 _ (List.mem_of_getElem? (i := 19) rfl)
theorem FT_123 : Cond.fieldLink (cNm (FT 123).1) (FT 123).2.1 (fT (FT 123).2.2.1 (FT 123).2.2.2).1 (fT (FT 123).2.2.1 (FT 123).2.2.2).2.1 (fT (FT 123).2.2.1 (FT 123).2.2.2).2.2.1 ∈ lw_tbl := tm_5 _ (List.mem_of_getElem? (i := 20) rfl)
theorem FT_124 : Cond.fieldLink (cNm (FT 124).1) (FT 124).2.1 (fT (FT 124).2.2.1 (FT 124).2.2.2).1 (fT (FT 124).2.2.1 (FT 124).2.2.2).2.1 (fT (FT 124).2.2.1 (FT 124).2.2.2).2.2.1 ∈ lw_tbl := tm_5 _ (List.mem_of_getElem? (i := 21) rfl)
theorem FT_125 : Cond.fieldLink (cNm (FT 125).1) (FT 125).2.1 (fT (FT 125).2.2.1 (FT 125).2.2.2).1 (fT (FT 125).2.2.1 (FT 125).2.2.2).2.1 (fT (FT 125).2.2.1 (FT 125).2.2.2).2.2.1 ∈ lw_tbl := tm_5 _ (List.mem_of_getElem? (i := 22) rfl)
theorem FT_126 : Cond.fieldLink (cNm (FT 126).1) (FT 126).2.1 (fT (FT 126).2.2.1 (FT 126).2.2.2).1 (fT (FT 126).2.2.1 (FT 126).2.2.2).2.1 (fT (FT 126).2.2.1 (FT 126).2.2.2).2.2.1 ∈ lw_tbl := tm_5 _ (List.mem_of_getElem? (i := 23) rfl)
theorem FT_127 : Cond.fieldLink (cNm (FT 127).1) (FT 127).2.1 (fT (FT 127).2.2.1 (FT 127).2.2.2).1 (fT (FT 127).2.2.1 (FT 127).2.2.2).2.1 (fT (FT 127).2.2.1 (FT 127).2.2.2).2.2.1 ∈ lw_tbl := tm_5 _ (List.mem_of_getElem? (i := 24) rfl)
theorem FT_128 : Cond.fieldLink (cNm (FT 128).1) (FT 128).2.1 (fT (FT 128).2.2.1 (FT 128).2.2.2).1 (fT (FT 128).2.2.1 (FT 128).2.2.2).2.1 (fT (FT 128).2.2.1 (FT 128).2.2.2).2.2.1 ∈ lw_tbl := tm_5 _ (List.mem_of_getElem? (i := 25) rfl)
theorem FT_129 : Cond.fieldLink (cNm (FT 129).1) (FT 129).2.1 (fT (FT 129).2.2.1 (FT 129).2.2.2).1 (fT (FT 129).2.2.1 (FT 129).2.2.2).2.1 (fT (FT 129).2.2.1 (FT 129).2.2.2).2.2.1 ∈ lw_tbl := tm_5 _ (List.mem_of_getElem? (i := 26) rfl)
theorem FT_130 : Cond.fieldLink (cNm (FT 130).1) (FT 130).2.1 (fT (FT 130).2.2.1 (FT 130).2.2.2).1 (fT (FT 130).2.2.1 (FT 130).2.2.2).2.1 (fT (FT 130).2.2.1 (FT 130).2.2.2).2.2.1 ∈ lw_tbl := tm_5 _ (List.mem_of_getElem? (i := 27) rfl)
theorem FT_131 : Cond.fieldLink (cNm (FT 131).1) (FT 131).2.1 (fT (FT 131).2.2.1 (FT 131).2.2.2).1 (fT (FT 131).2.2.1 (FT 131).2.2.2).2.1 (fT (FT 131).2.2.1 (FT 131).2.2.2).2.2.1 ∈ lw_tbl := tm_5 _ (List.mem_of_getElem? (i := 28) rfl)
theorem FT_132 : Cond.fieldLink (cNm (FT 132).1) (FT 132).2.1 (fT (FT 132).2.2.1 (FT 132).2.2.2).1 (fT (FT 132).2.2.1 (FT 132).2.2.2).2.1 (fT (FT 132).2.2.1 (FT 132).2.2.2).2.2.1 ∈ lw_tbl := tm_5 _ (List.mem_of_getElem? (i := 29) rfl)
theorem FT_133 : Cond.fieldLink (cNm (FT 133).1) (FT 133).2.1 (fT (FT 133).2.2.1 (FT 133).2.2.2).1 (fT (FT 133).2.2.1 (FT 133).2.2.2).2.1 (fT (FT 133).2.2.1 (FT 133).2.2.2).2.2.1 ∈ lw_tbl := tm_5 _ (List.mem_of_getElem? (i := 30) rfl)
theorem FT_134 : Cond.fieldLink (cNm (FT 134).1) (FT 134).2.1 (fT (FT 134).2.2.1 (FT 134).2.2.2).1 (fT (FT 134).2.2.1 (FT 134).2.2.2).2.1 (fT (FT 134).2.2.1 (FT 134).2.2.2).2.2.1 ∈ lw_tbl := tm_5 _ (List.mem_of_getElem? (i := 31) rfl)
theorem FT_135 : Cond.fieldLink (cNm (FT 135).1) (FT 135).2.1 (fT (FT 135).2.2.1 (FT 135).2.2.2).1 (fT (FT 135).2.2.1 (FT 135).2.2.2).2.1 (fT (FT 135).2.2.1 (FT 135).2.2.2).2.2.1 ∈ lw_tbl := tm_5 _ (List.mem_of_getElem? (i := 32) rfl)
theorem FT_136 : Cond.fieldLink (cNm (FT 136).1) (FT 136).2.1 (fT (FT 136).2.2.1 (FT 136).2.2.2).1 (fT (FT 136).2.2.1 (FT 136).2.2.2).2.1 (fT (FT 136).2.2.1 (FT 136).2.2.2).2.2.1 ∈ lw_tbl := tm_5 _ (List.mem_of_getElem? (i := 33) rfl)
theorem FT_137 : Cond.fieldLink (cNm (FT 137).1) (FT 137).2.1 (fT (FT 137).2.2.1 (FT 137).2.2.2).1 (fT (FT 137).2.2.1 (FT 137).2.2.2).2.1 (fT (FT 137).2.2.1 (FT 137).2.2.2).2.2.1 ∈ lw_tbl := tm_5 _ (List.mem_of_getElem? (i := 34) rfl)
theorem FT_138 : Cond.fieldLink (cNm (FT 138).1) (FT 138).2.1 (fT (FT 138).2.2.1 (FT 138).2.2.2).1 (fT (FT 138).2.2.1 (FT 138).2.2.2).2.1 (fT (FT 138).2.2.1 (FT 138).2.2.2).2.2.1 ∈ lw_tbl := tm_5 _ (List.mem_of_getElem? (i := 35) rfl)
theorem FT_139 : Cond.fieldLink (cNm (FT 139).1) (FT 139).2.1 (fT (FT 139).2.2.1 (FT 139).2.2.2).1 (fT (FT 139).2.2.1 (FT 139).2.2.2).2.1 (fT (FT 139).2.2.1 (FT 139).2.2.2).2.2.1 ∈ lw_tbl := tm_5 _ (List.mem_of_getElem? (i := 36) rfl)
theorem FT_140 : Cond.fieldLink (cNm (FT 140).1) (FT 140).2.1 (fT (FT 140).2.2.1 (FT 140).2.2.2).1 (fT (FT 140).2.2.1 (FT 140).2.2.2).2.1 (fT (FT 140).2.2.1 (FT 140).2.2.2).2.2.1 ∈ lw_tbl := tm_5 _ (List.mem_of_getElem? (i := 37) rfl)
theorem FT_141 : Cond.fieldLink (cNm (FT 141).1) (FT 141).2.1 (fT (FT 141).2.2.1 (FT 141).2.2.2).1 (fT (FT 141).2.2.1 (FT 141).2.2.2).2.1 (fT (FT 141).2.2.1 (FT 141).2.2.2).2.2.1 ∈ lw_tbl := tm_5 _ (List.mem_of_getElem? (i := 38) rfl)
theorem FT_142 : Cond.fieldLink (cNm (FT 142).1) (FT 142).2.1 (fT (FT 142).2.2.1 (FT 142).2.2.2).1 (fT (FT 142).2.2.1 (FT 142).2.2.2).2.1 (fT (FT 142).2.2.1 (FT 142).2.2.2).2.2.1 ∈ lw_tbl := tm_5 _ (List.mem_of_getElem? (i := 39) rfl)
theorem FT_143 : Cond.fieldLink (cNm (FT 143).1) (FT 143).2.1 (fT (FT 143).2.2.1 (FT 143).2.2.2).1 (fT (FT 143).2.2.1 (FT 143).2.2.2).2.1 (fT (FT 143).2.2.1 (FT 143).2.2.2).2.2.1 ∈ lw_tbl := tm_5 _ (List.mem_of_getElem? (i := 40) rfl)
theorem FT_144 : Cond.fieldLink (cNm (FT 144).1) (FT 144).2.1 (fT (FT 144).2.2.1 (FT 144).2.2.2).1 (fT (FT 144).2.2.1 (FT 144).2.2.2).2.1 (fT (FT 144).2.2.1 (FT 144).2.2.2).2.2.1 ∈ lw_tbl := tm_5 _ (List.mem_of_getElem? (i := 41) rfl)
theorem FT_145 : Cond.fieldLink (cNm (FT 145).1) (FT 145).2.1 (fT (FT 145).2.2.1 (FT 145).2.2.2).1 (fT (FT 145).2.2.1 (FT 145).2.2.2).2.1 (fT (FT 145).2.2.1 (FT 145).2.2.2).2.2.1 ∈ lw_tbl := tm_5 _ (List.mem_of_getElem? (i := 42) rfl)
theorem FT_146 : Cond.fieldLink (cNm (FT 146).1) (FT 146).2.1 (fT (FT 146).2.2.1 (FT 146).2.2.2).1 (fT (FT 146).2.2.1 (FT 146).2.2.2).2.1 (fT (FT 146).2.2.1 (FT 146).2.2.2).2.2.1 ∈ lw_tbl := tm_5 _ (List.mem_of_getElem? (i := 43) rfl)
theorem FT_147 : Cond.fieldLink (cNm (FT 147).1) (FT 147).2.1 (fT (FT 147).2.2.1 (FT 147).2.2.2).1 (fT (FT 147).2.2.1 (FT 147).2.2.2).2.1 (fT (FT 147).2.2.1 (FT 147).2.2.2).2.2.1 ∈ lw_tbl := tm_5 _ (List.mem_of_getElem? (i := 44) rfl)
theorem FT_148 : Cond.fieldLink (cNm (FT 148).1) (FT 148).2.1 (fT (FT 148).2.2.1 (FT 148).2.2.2).1 (fT (FT 148).2.2.1 (FT 148).2.2.2).2.1 (fT (FT 148).2.2.1 (FT 148).2.2.2).2.2.1 ∈ lw_tbl := tm_5 _ (List.mem_of_getElem? (i := 45) rfl)
theorem FT_149 : Cond.fieldLink (cNm (FT 149).1) (FT 149).2.1 (fT (FT 149).2.2.1 (FT 149).2.2.2).1 (fT (FT 149).2.2.1 (FT 149).2.2.2).2.1 (fT (FT 149).2.2.1 (FT 149).2.2.2).2.2.1 ∈ lw_tbl := tm_5 _ (List.mem_of_getElem? (i := 46) rfl)
theorem FT_150 : Cond.fieldLink (cNm (FT 150).1) (FT 150).2.1 (fT (FT 150).2.2.1 (FT 150).2.2.2).1 (fT (FT 150).2.2.1 (FT 150).2.2.2).2.1 (fT (FT 150).2.2.1 (FT 150).2.2.2).2.2.1 ∈ lw_tbl := tm_5 _ (List.mem_of_getElem? (i := 47) rfl)
theorem FT_151 : Cond.fieldLink (cNm (FT 151).1) (FT 151).2.1 (fT (FT 151).2.2.1 (FT 151).2.2.2).1 (fT (FT 151).2.2.1 (FT 151).2.2.2).2.1 (fT (FT 151).2.2.1 (FT 151).2.2.2).2.2.1 ∈ lw_tbl := tm_5 _ (List.mem_of_getElem? (i := 48) rfl)
theorem FT_152 : Cond.fieldLink (cNm (FT 152).1) (FT 152).2.1 (fT (FT 152).2.2.1 (FT 152).2.2.2).1 (fT (FT 152).2.2.1 (FT 152).2.2.2).2.1 (fT (FT 152).2.2.1 (FT 152).2.2.2).2.2.1 ∈ lw_tbl := tm_5 _ (List.mem_of_getElem? (i := 49) rfl)
theorem FT_153 : Cond.fieldLink (cNm (FT 153).1) (FT 153).2.1 (fT (FT 153).2.2.1 (FT 153).2.2.2).1 (fT (FT 153).2.2.1 (FT 153).2.2.2).2.1 (fT (FT 153).2.2.1 (FT 153).2.2.2).2.2.1 ∈ lw_tbl := tm_5 _ (List.mem_of_getElem? (i := 50) rfl)
theorem FT_154 : Cond.fieldLink (cNm (FT 154).1) (FT 154).2.1 (fT (FT 154).2.2.1 (FT 154).2.2.2).1 (fT (FT 154).2.2.1 (FT 154).2.2.2).2.1 (fT (FT 154).2.2.1 (FT 154).2.2.2).2.2.1 ∈ lw_tbl := tm_5 _ (List.mem_of_getElem? (i := 51) rfl)
theorem FT_155 : Cond.fieldLink (cNm (FT 155).1) (FT 155).2.1 (fT (FT 155).2.2.1 (FT 155).2.2.2).1 (fT (FT 155).2.2.1 (FT 155).2.2.2).2.1 (fT (FT 155).2.2.1 (FT 155).2.2.2).2.2.1 ∈ lw_tbl := tm_5 _ (List.mem_of_getElem? (i := 52) rfl)
theorem FT_156 : Cond.fieldLink (cNm (FT 156).1) (FT 156).2.1 (fT (FT 156).2.2.1 (FT 156).2.2.2).1 (fT (FT 156).2.2.1 (FT 156).2.2.2).2.1 (fT (FT 156).2.2.1 (FT 156).2.2.2).2.2.1 ∈ lw_tbl := tm_5 _ (List.mem_of_getElem? (i := 53) rfl)
theorem FT_157 : Cond.fieldLink (cNm (FT 157).1) (FT 157).2.1 (fT (FT 157).2.2.1 (FT 157).2.2.2).1 (fT (FT 157).2.2.1 (FT 157).2.2.2).2.1 (fT (FT 157).2.2.1 (FT 157).2.2.2).2.2.1 ∈ lw_tbl := tm_5 _ (List.mem_of_getElem? (i := 54) rfl)
theorem FT_158 : Cond.fieldLink (cNm (FT 158).1) (FT 158).2.1 (fT (FT 158).2.2.1 (FT 158).2.2.2).1 (fT (FT 158).2.2.1 (FT 158).2.2.2).2.1 (fT (FT 158).2.2.1 (FT 158).2.2.2).2.2.1 ∈ lw_tbl := tm_5 _ (List.mem_of_getElem? (i := 55) rfl)
theorem FT_159 : Cond.fieldLink (cNm (FT 159).1) (FT 159).2.1 (fT (FT 159).2.2.1 (FT 159).2.2.2).1 (fT (FT 159).2.2.1 (FT 159).2.2.2).2.1 (fT (FT 159).2.2.1 (FT 159).2.2.2).2.2.1 ∈ lw_tbl := tm_5 _ (List.mem_of_getElem? (i := 56) rfl)
theorem FT_160 : Cond.fieldLink (cNm (FT 160).1) (FT 160).2.1 (fT (FT 160).2.2.1 (FT 160).2.2.2).1 (fT (FT 160).2.2.1 (FT 160).2.2.2).2.1 (fT (FT 160).2.2.1 (FT 160).2.2.2).2.2.1 ∈ lw_tbl := tm_5 _ (List.mem_of_getElem? (i := 57) rfl)
theorem FT_161 : Cond.fieldLink (cNm (FT 161).1) (FT 161).2.1 (fT (FT 161).2.2.1 (FT 161).2.2.2).1 (fT (FT 161).2.2.1 (FT 161).2.2.2).2.1 (fT (FT 161).2.2.1 (FT 161).2.2.2).2.2.1 ∈ lw_tbl := tm_5 _ (List.mem_of_getElem? (i := 58) rfl)
theorem FT_162 : Cond.fieldLink (cNm (FT 162).1) (FT 162).2.1 (fT (FT 162).2.2.1 (FT 162).2.2.2).1 (fT (FT 162).2.2.1 (FT 162).2.2.2).2.1 (fT (FT 162).2.2.1 (FT 162).2.2.2).2.2.1 ∈ lw_tbl := tm_5 _ (List.mem_of_getElem? (i := 59) rfl)
theorem FT_163 : Cond.fieldLink (cNm (FT 163).1) (FT 163).2.1 (fT (FT 163).2.2.1 (FT 163).2.2.2).1 (fT (FT 163).2.2.1 (FT 163).2.2.2).2.1 (fT (FT 163).2.2.1 (FT 163).2.2.2).2.2.1 ∈ lw_tbl := tm_5 _ (List.mem_of_getElem? (i := 60) rfl)
theorem FT_164 : Cond.fieldLink (cNm (FT 164).1) (FT 164).2.1 (fT (FT 164).2.2.1 (FT 164).2.2.2).1 (fT (FT 164).2.2.1 (FT 164).2.2.2).2.1 (fT (FT 164).2.2.1 (FT 164).2.2.2).2.2.1 ∈ lw_tbl := tm_5 _ (List.mem_of_getElem? (i := 61) rfl)
theorem FT_165 : Cond.fieldLink (cNm (FT 165).1) (FT 165).2.1 (fT (FT 165).2.2.1 (FT 165).2.2.2).1 (fT (FT 165).2.2.1 (FT 165).2.2.2).2.1 (fT (FT 165).2.2.1 (FT 165).2.2.2).2.2.1 ∈ lw_tbl := tm_5 _ (List.mem_of_getElem? (i := 62) rfl)
theorem FT_166 : Cond.fieldLink (cNm (FT 166).1) (FT 166).2.1 (fT (FT 166).2.2.1 (FT 166).2.2.2).1 (fT (FT 166).2.2.1 (FT 166).2.2.2).2.1 (fT (FT 166).2.2.1 (FT 166).2.2.2).2.2.1 ∈ lw_tbl := tm_5 _ (List.mem_of_getElem? (i := 63) rfl)
theorem FT_167 : Cond.fieldLink (cNm (FT 167).1) (FT 167).2.1 (fT (FT 167).2.2.1 (FT 167).2.2.2).1 (fT (FT 167).2.2.1 (FT 167).2.2.2).2.1 (fT (FT 167).2.2.1 (FT 167).2.2.2).2.2.1 ∈ lw_tbl := tm_5 _ (List.mem_of_getElem? (i := 64) rfl)
theorem FT_168 : Cond.fieldLink (cNm (FT 168).1) (FT 168).2.1 (fT (FT 168).2.2.1 (FT 168).2.2.2).1 (fT (FT 168).2.2.1 (FT 168).2.2.2).2.1 (fT (FT 168).2.2.1 (FT 168).2.2.2).2.2.1 ∈ lw_tbl := tm_5 _ (List.mem_of_getElem? (i := 65) rfl)
theorem FT_169 : Cond.fieldLink (cNm (FT 169).1) (FT 169).2.1 (fT (FT 169).2.2.1 (FT 169).2.2.2).1 (fT (FT 169).2.2.1 (FT 169).2.2.2).2.1 (fT (FT 169).2.2.1 (FT 169).2.2.2).2.2.1 ∈ lw_tbl := tm_5 _ (List.mem_of_getElem? (i := 66) rfl)
theorem FT_170 : Cond.fieldLink (cNm (FT 170).1) (FT 170).2.1 (fT (FT 170).2.2.1 (FT 170).2.2.2).1 (fT (FT 170).2.2.1 (FT 170).2.2.2).2.1 (fT (FT 170).2.2.1 (FT 170).2.2.2).2.2.1 ∈ lw_tbl := tm_5 _ (List.mem_of_getElem? (i := 67) rfl)
theorem FT_171 : Cond.fieldLink (cNm (FT 171).1) (FT 171).2.1 (fT (FT 171).2.2.1 (FT 171).2.2.2).1 (fT (FT 171).2.2.1 (FT 171).2.2.2).2.1 (fT (FT 171).2.2.1 (FT 171).2.2.2).2.2.1 ∈ lw_tbl := tm_5 _ (List.mem_of_getElem? (i := 68) rfl)
theorem FT_172 : Cond.fieldLink (cNm (FT 172).1) (FT 172).2.1 (fT (FT 172).2.2.1 (FT 172).2.2.2).1 (fT (FT 172).2.2.1 (FT 172).2.2.2).2.1 (fT (FT 172).2.2.1 (FT 172).2.2.2).2.2.1 ∈ lw_tbl := tm_5 _ (List.mem_of_getElem? (i := 69) rfl)
theorem FT_173 : Cond.fieldLink (cNm (FT 173).1) (FT 173).2.1 (fT (FT 173).2.2.1 (FT 173).2.2.2).1 (fT (FT 173).2.2.1 (FT 173).2.2.2).2.1 (fT (FT 173).2.2.1 (FT 173).2.2.2).2.2.1 ∈ lw_tbl := tm_5 _ (List.mem_of_getElem? (i := 70) rfl)
theorem FT_174 : Cond.fieldLink (cNm (FT 174).1) (FT 174).2.1 (fT (FT 174).2.2.1 (FT 174).2.2.2).1 (fT (FT 174).2.2.1 (FT 174).2.2.2).2.1 (fT (FT 174).2.2.1 (FT 174).2.2.2).2.2.1 ∈ lw_tbl := tm_5 _ (List.mem_of_getElem? (i := 71) rfl)
theorem FT_175 : Cond.fieldLink (cNm (FT 175).1) (FT 175).2.1 (fT (FT 175).2.2.1 (FT 175).2.2.2).1 (fT (FT 175).2.2.1 (FT 175).2.2.2).2.1 (fT (FT 175).2.2.1 (FT 175).2.2.2).2.2.1 ∈ lw_tbl := tm_5 _ (List.mem_of_getElem? (i := 72) rfl)
theorem FT_176 : Cond.fieldLink (cNm (FT 176).1) (FT 176).2.1 (fT (FT 176).2.2.1 (FT 176).2.2.2).1 (fT (FT 176).2.2.1 (FT 176).2.2.2).2.1 (fT (FT 176).2.2.1 (FT 176).2.2.2).2.2.1 ∈ lw_tbl := tm_5 _ (List.mem_of_getElem? (i := 73) rfl)
theorem FT_177 : Cond.fieldLink (cNm (FT 177).1) (FT 177).2.1 (fT (FT 177).2.2.1 (FT 177).2.2.2).1 (fT (FT 177).2.2.1 (FT 177).2.2.2).2.1 (fT (FT 177).2.2.1 (FT 177).2.2.2).2.2.1 ∈ lw_tbl := tm_5 _ (List.mem_of_getElem? (i := 74) rfl)
theorem FT_178 : Cond.fieldLink (cNm (FT 178).1) (FT 178).2.1 (fT (FT 178).2.2.1 (FT 178).2.2.2).1 (fT (FT 178).2.2.1 (FT 178).2.2.2).2.1 (fT (FT 178).2.2.1 (FT 178).2.2.2).2.2.1 ∈ lw_tbl := tm_5 _ (List.mem_of_getElem? (i := 75) rfl)
theorem FT_179 : Cond.fieldLink (cNm (FT 179).1) (FT 179).2.1 (fT (FT 179).2.2.1 (FT 179).2.2.2).1 (fT (FT 179).2.2.1 (FT 179).2.2.2).2.1 (fT (FT 179).2.2.1 (FT 179).2.2.2).2.2.1 ∈ lw_tbl := tm_5 _ (List.mem_of_getElem? (i := 76) rfl)
theorem FT_180 : Cond.fieldLink (cNm (FT 180).1) (FT 180).2.1 (fT (FT 180).2.2.1 (FT 180).2.2.2).1 (fT (FT 180).2.2.1 (FT 180).2.2.2).2.1 (fT (FT 180).2.2.1 (FT 180).2.2.2).2.2.1 ∈ lw_tbl := tm_5 _ (List.mem_of_getElem? (i := 77) rfl)
theorem FT_181 : Cond.fieldLink (cNm (FT 181).1) (FT 181).2.1 (fT (FT 181).2.2.1 (FT 181).2.2.2).1 (fT (FT 181).2.2.1 (FT 181).2.2.2).2.1 (fT (FT 181).2.2.1 (FT 181).2.2.2).2.2.1 ∈ lw_tbl := tm_5 _ (List.mem_of_getElem? (i := 78) rfl)
theorem FT_182 : Cond.fieldLink (cNm (FT 182).1) (FT 182).2.1 (fT (FT 182).2.2.1 (FT 182).2.2.2).1 (fT (FT 182).2.2.1 (FT 182).2.2.2).2.1 (fT (FT 182).2.2.1 (FT 182).2.2.2).2.2.1 ∈ lw_tbl := tm_5 _ (List.mem_of_getElem? (i := 79) rfl)
theorem FT_183 : Cond.fieldLink (cNm (FT 183).1) (FT 183).2.1 (fT (FT 183).2.2.1 (FT 183).2.2.2).1 (fT (FT 183).2.2.1 (FT 183).2.2.2).2.1 (fT (FT 183).2.2.1 (FT 183).2.2.2).2.2.1 ∈ lw_tbl := tm_5 _ (List.mem_of_getElem? (i := 80) rfl)
theorem FT_184 : Cond.fieldLink (cNm (FT 184).1) (FT 184).2.1 (fT (FT 184).2.2.1 (FT 184).2.2.2).1 (fT (FT 184).2.2.1 (FT 184).2.2.2).2.1 (fT (FT 184).2.2.1 (FT 184).2.2.2).2.2.1 ∈ lw_tbl := tm_5 _ (List.mem_of_getElem? (i := 81) rfl)
theorem FT_ok {p : Nat} (h : p < FTn) : Cond.fieldLink (cNm (FT p).1) (FT p).2.1 (fT (FT p).2.2.1 (FT p).2.2.2).1 (fT (FT p).2.2.1 (FT p).2.2.2).2.1 (fT (FT p).2.2.1 (FT p).2.2.2).2.2.1 ∈ lw_tbl := by
  have h : p < 185 := h
  · by_cases h92 : p < 92
    · by_cases h46 : p < 46
      · by_cases h23 : p < 23
        · by_cases h11 : p < 11
          · by_cases h5 : p < 5
            · by_cases h2 : p < 2
              · by_cases h1 : p < 1
                · obtain rfl : p = 0 := by omega
                  exact FT_0
                · obtain rfl : p = 1 := by omega
                  exact FT_1
              · by_cases h3 : p < 3
                · obtain rfl : p = 2 := by omega
                  exact FT_2
                · by_cases h4 : p < 4
                  · obtain rfl : p = 3 := by omega
                    exact FT_3
                  · obtain rfl : p = 4 := by omega
                    exact FT_4
            · by_cases h8 : p < 8
              · by_cases h6 : p < 6
                · obtain rfl : p = 5 := by omega
                  exact FT_5
                · by_cases h7 : p < 7
                  · obtain rfl : p = 6 := by omega
                    exact FT_6
                  · obtain rfl : p = 7 := by omega
                    exact FT_7
              · by_cases h9 : p < 9
                · obtain rfl : p = 8 := by omega
                  exact FT_8
                · by_cases h10 : p < 10
                  · obtain rfl : p = 9 := by omega
                    exact FT_9
                  · obtain rfl : p = 10 := by omega
                    exact FT_10
          · by_cases h17 : p < 17
            · by_cases h14 : p < 14
              · by_cases h12 : p < 12
                · obtain rfl : p = 11 := by omega
                  exact FT_11
                · by_cases h13 : p < 13
                  · obtain rfl : p = 12 := by omega
                    exact FT_12
                  · obtain rfl : p = 13 := by omega
                    exact FT_13
              · by_cases h15 : p < 15
                · obtain rfl : p = 14 := by omega
                  exact FT_14
                · by_cases h16 : p < 16
                  · obtain rfl : p = 15 := by omega
                    exact FT_15
                  · obtain rfl : p = 16 := by omega
                    exact FT_16
            · by_cases h20 : p < 20
              · by_cases h18 : p < 18
                · obtain rfl : p = 17 := by omega
                  exact FT_17
                · by_cases h19 : p < 19
                  · obtain rfl : p = 18 := by omega
                    exact FT_18
                  · obtain rfl : p = 19 := by omega
                    exact FT_19
              · by_cases h21 : p < 21
                · obtain rfl : p = 20 := by omega
                  exact FT_20
                · by_cases h22 : p < 22
                  · obtain rfl : p = 21 := by omega
                    exact FT_21
                  · obtain rfl : p = 22 := by omega
                    exact FT_22
        · by_cases h34 : p < 34
          · by_cases h28 : p < 28
            · by_cases h25 : p < 25
              · by_cases h24 : p < 24
                · obtain rfl : p = 23 := by omega
                  exact FT_23
                · obtain rfl : p = 24 := by omega
                  exact FT_24
              · by_cases h26 : p < 26
                · obtain rfl : p = 25 := by omega
                  exact FT_25
                · by_cases h27 : p < 27
                  · obtain rfl : p = 26 := by omega
                    exact FT_26
                  · obtain rfl : p = 27 := by omega
                    exact FT_27
            · by_cases h31 : p < 31
              · by_cases h29 : p < 29
                · obtain rfl : p = 28 := by omega
                  exact FT_28
                · by_cases h30 : p < 30
                  · obtain rfl : p = 29 := by omega
                    exact FT_29
                  · obtain rfl : p = 30 := by omega
                    exact FT_30
              · by_cases h32 : p < 32
                · obtain rfl : p = 31 := by omega
                  exact FT_31
                · by_cases h33 : p < 33
                  · obtain rfl : p = 32 := by omega
                    exact FT_32
                  · obtain rfl : p = 33 := by omega
                    exact FT_33
          · by_cases h40 : p < 40
            · by_cases h37 : p < 37
              · by_cases h35 : p < 35
                · obtain rfl : p = 34 := by omega
                  exact FT_34
                · by_cases h36 : p < 36
                  · obtain rfl : p = 35 := by omega
                    exact FT_35
                  · obtain rfl : p = 36 := by omega
                    exact FT_36
              · by_cases h38 : p < 38
                · obtain rfl : p = 37 := by omega
                  exact FT_37
                · by_cases h39 : p < 39
                  · obtain rfl : p = 38 := by omega
                    exact FT_38
                  · obtain rfl : p = 39 := by omega
                    exact FT_39
            · by_cases h43 : p < 43
              · by_cases h41 : p < 41
                · obtain rfl : p = 40 := by omega
                  exact FT_40
                · by_cases h42 : p < 42
                  · obtain rfl : p = 41 := by omega
                    exact FT_41
                  · obtain rfl : p = 42 := by omega
                    exact FT_42
              · by_cases h44 : p < 44
                · obtain rfl : p = 43 := by omega
                  exact FT_43
                · by_cases h45 : p < 45
                  · obtain rfl : p = 44 := by omega
                    exact FT_44
                  · obtain rfl : p = 45 := by omega
                    exact FT_45
      · by_cases h69 : p < 69
        · by_cases h57 : p < 57
          · by_cases h51 : p < 51
            · by_cases h48 : p < 48
              · by_cases h47 : p < 47
                · obtain rfl : p = 46 := by omega
                  exact FT_46
                · obtain rfl : p = 47 := by omega
                  exact FT_47
              · by_cases h49 : p < 49
                · obtain rfl : p = 48 := by omega
                  exact FT_48
                · by_cases h50 : p < 50
                  · obtain rfl : p = 49 := by omega
                    exact FT_49
                  · obtain rfl : p = 50 := by omega
                    exact FT_50
            · by_cases h54 : p < 54
              · by_cases h52 : p < 52
                · obtain rfl : p = 51 := by omega
                  exact FT_51
                · by_cases h53 : p < 53
                  · obtain rfl : p = 52 := by omega
                    exact FT_52
                  · obtain rfl : p = 53 := by omega
                    exact FT_53
              · by_cases h55 : p < 55
                · obtain rfl : p = 54 := by omega
                  exact FT_54
                · by_cases h56 : p < 56
                  · obtain rfl : p = 55 := by omega
                    exact FT_55
                  · obtain rfl : p = 56 := by omega
                    exact FT_56
          · by_cases h63 : p < 63
            · by_cases h60 : p < 60
              · by_cases h58 : p < 58
                · obtain rfl : p = 57 := by omega
                  exact FT_57
                · by_cases h59 : p < 59
                  · obtain rfl : p = 58 := by omega
                    exact FT_58
                  · obtain rfl : p = 59 := by omega
                    exact FT_59
              · by_cases h61 : p < 61
                · obtain rfl : p = 60 := by omega
                  exact FT_60
                · by_cases h62 : p < 62
                  · obtain rfl : p = 61 := by omega
                    exact FT_61
                  · obtain rfl : p = 62 := by omega
                    exact FT_62
            · by_cases h66 : p < 66
              · by_cases h64 : p < 64
                · obtain rfl : p = 63 := by omega
                  exact FT_63
                · by_cases h65 : p < 65
                  · obtain rfl : p = 64 := by omega
                    exact FT_64
                  · obtain rfl : p = 65 := by omega
                    exact FT_65
              · by_cases h67 : p < 67
                · obtain rfl : p = 66 := by omega
                  exact FT_66
                · by_cases h68 : p < 68
                  · obtain rfl : p = 67 := by omega
                    exact FT_67
                  · obtain rfl : p = 68 := by omega
                    exact FT_68
        · by_cases h80 : p < 80
          · by_cases h74 : p < 74
            · by_cases h71 : p < 71
              · by_cases h70 : p < 70
                · obtain rfl : p = 69 := by omega
                  exact FT_69
                · obtain rfl : p = 70 := by omega
                  exact FT_70
              · by_cases h72 : p < 72
                · obtain rfl : p = 71 := by omega
                  exact FT_71
                · by_cases h73 : p < 73
                  · obtain rfl : p = 72 := by omega
                    exact FT_72
                  · obtain rfl : p = 73 := by omega
                    exact FT_73
            · by_cases h77 : p < 77
              · by_cases h75 : p < 75
                · obtain rfl : p = 74 := by omega
                  exact FT_74
                · by_cases h76 : p < 76
                  · obtain rfl : p = 75 := by omega
                    exact FT_75
                  · obtain rfl : p = 76 := by omega
                    exact FT_76
              · by_cases h78 : p < 78
                · obtain rfl : p = 77 := by omega
                  exact FT_77
                · by_cases h79 : p < 79
                  · obtain rfl : p = 78 := by omega
                    exact FT_78
                  · obtain rfl : p = 79 := by omega
                    exact FT_79
          · by_cases h86 : p < 86
            · by_cases h83 : p < 83
              · by_cases h81 : p < 81
                · obtain rfl : p = 80 := by omega
                  exact FT_80
                · by_cases h82 : p < 82
                  · obtain rfl : p = 81 := by omega
                    exact FT_81
                  · obtain rfl : p = 82 := by omega
                    exact FT_82
              · by_cases h84 : p < 84
                · obtain rfl : p = 83 := by omega
                  exact FT_83
                · by_cases h85 : p < 85
                  · obtain rfl : p = 84 := by omega
                    exact FT_84
                  · obtain rfl : p = 85 := by omega
                    exact FT_85
            · by_cases h89 : p < 89
              · by_cases h87 : p < 87
                · obtain rfl : p = 86 := by omega
                  exact FT_86
                · by_cases h88 : p < 88
                  · obtain rfl : p = 87 := by omega
                    exact FT_87
                  · obtain rfl : p = 88 := by omega
                    exact FT_88
              · by_cases h90 : p < 90
                · obtain rfl : p = 89 := by omega
                  exact FT_89
                · by_cases h91 : p < 91
                  · obtain rfl : p = 90 := by omega
                    exact FT_90
                  · obtain rfl : p = 91 := by omega
                    exact FT_91
    · by_cases h138 : p < 138
      · by_cases h115 : p < 115
        · by_cases h103 : p < 103
          · by_cases h97 : p < 97
            · by_cases h94 : p < 94
              · by_cases h93 : p < 93
                · obtain rfl : p = 92 := by omega
                  exact FT_92
                · obtain rfl : p = 93 := by omega
                  exact FT_93
              · by_cases h95 : p < 95
                · obtain rfl : p = 94 := by omega
                  exact FT_94
                · by_cases h96 : p < 96
                  · obtain rfl : p = 95 := by omega
                    exact FT_95
                  · obtain rfl : p = 96 := by omega
                    exact FT_96
            · by_cases h100 : p < 100
              · by_cases h98 : p < 98
                · obtain rfl : p = 97 := by omega
                  exact FT_97
                · by_cases h99 : p < 99
                  · obtain rfl : p = 98 := by omega
                    exact FT_98
                  · obtain rfl : p = 99 := by omega
                    exact FT_99
              · by_cases h101 : p < 101
                · obtain rfl : p = 100 := by omega
                  exact FT_100
                · by_cases h102 : p < 102
                  · obtain rfl : p = 101 := by omega
                    exact FT_101
                  · obtain rfl : p = 102 := by omega
                    exact FT_102
          · by_cases h109 : p < 109
            · by_cases h106 : p < 106
              · by_cases h104 : p < 104
                · obtain rfl : p = 103 := by omega
                  exact FT_103
                · by_cases h105 : p < 105
                  · obtain rfl : p = 104 := by omega
                    exact FT_104
                  · obtain rfl : p = 105 := by omega
                    exact FT_105
              · by_cases h107 : p < 107
                · obtain rfl : p = 106 := by omega
                  exact FT_106
                · by_cases h108 : p < 108
                  · obtain rfl : p = 107 := by omega
                    exact FT_107
                  · obtain rfl : p = 108 := by omega
                    exact FT_108
            · by_cases h112 : p < 112
              · by_cases h110 : p < 110
                · obtain rfl : p = 109 := by omega
                  exact FT_109
                · by_cases h111 : p < 111
                  · obtain rfl : p = 110 := by omega
                    exact FT_110
                  · obtain rfl : p = 111 := by omega
                    exact FT_111
              · by_cases h113 : p < 113
                · obtain rfl : p = 112 := by omega
                  exact FT_112
                · by_cases h114 : p < 114
                  · obtain rfl : p = 113 := by omega
                    exact FT_113
                  · obtain rfl : p = 114 := by omega
                    exact FT_114
        · by_cases h126 : p < 126
          · by_cases h120 : p < 120
            · by_cases h117 : p < 117
              · by_cases h116 : p < 116
                · obtain rfl : p = 115 := by omega
                  exact FT_115
                · obtain rfl : p = 116 := by omega
                  exact FT_116
              · by_cases h118 : p < 118
                · obtain rfl : p = 117 := by omega
                  exact FT_117
                · by_cases h119 : p < 119
                  · obtain rfl : p = 118 := by omega
                    exact FT_118
                  · obtain rfl : p = 119 := by omega
                    exact FT_119
            · by_cases h123 : p < 123
              · by_cases h121 : p < 121
                · obtain rfl : p = 120 := by omega
                  exact FT_120
                · by_cases h122 : p < 122
                  · obtain rfl : p = 121 := by omega
                    exact FT_121
                  · obtain rfl : p = 122 := by omega
                    exact FT_122
              · by_cases h124 : p < 124
                · obtain rfl : p = 123 := by omega
                  exact FT_123
                · by_cases h125 : p < 125
                  · obtain rfl : p = 124 := by omega
                    exact FT_124
                  · obtain rfl : p = 125 := by omega
                    exact FT_125
          · by_cases h132 : p < 132
            · by_cases h129 : p < 129
              · by_cases h127 : p < 127
                · obtain rfl : p = 126 := by omega
                  exact FT_126
                · by_cases h128 : p < 128
                  · obtain rfl : p = 127 := by omega
                    exact FT_127
                  · obtain rfl : p = 128 := by omega
                    exact FT_128
              · by_cases h130 : p < 130
                · obtain rfl : p = 129 := by omega
                  exact FT_129
                · by_cases h131 : p < 131
                  · obtain rfl : p = 130 := by omega
                    exact FT_130
                  · obtain rfl : p = 131 := by omega
                    exact FT_131
            · by_cases h135 : p < 135
              · by_cases h133 : p < 133
                · obtain rfl : p = 132 := by omega
                  exact FT_132
                · by_cases h134 : p < 134
                  · obtain rfl : p = 133 := by omega
                    exact FT_133
                  · obtain rfl : p = 134 := by omega
                    exact FT_134
              · by_cases h136 : p < 136
                · obtain rfl : p = 135 := by omega
                  exact FT_135
                · by_cases h137 : p < 137
                  · obtain rfl : p = 136 := by omega
                    exact FT_136
                  · obtain rfl : p = 137 := by omega
                    exact FT_137
      · by_cases h161 : p < 161
        · by_cases h149 : p < 149
          · by_cases h143 : p < 143
            · by_cases h140 : p < 140
              · by_cases h139 : p < 139
                · obtain rfl : p = 138 := by omega
                  exact FT_138
                · obtain rfl : p = 139 := by omega
                  exact FT_139
              · by_cases h141 : p < 141
                · obtain rfl : p = 140 := by omega
                  exact FT_140
                · by_cases h142 : p < 142
                  · obtain rfl : p = 141 := by omega
                    exact FT_141
                  · obtain rfl : p = 142 := by omega
                    exact FT_142
            · by_cases h146 : p < 146
              · by_cases h144 : p < 144
                · obtain rfl : p = 143 := by omega
                  exact FT_143
                · by_cases h145 : p < 145
                  · obtain rfl : p = 144 := by omega
                    exact FT_144
                  · obtain rfl : p = 145 := by omega
                    exact FT_145
              · by_cases h147 : p < 147
                · obtain rfl : p = 146 := by omega
                  exact FT_146
                · by_cases h148 : p < 148
                  · obtain rfl : p = 147 := by omega
                    exact FT_147
                  · obtain rfl : p = 148 := by omega
                    exact FT_148
          · by_cases h155 : p < 155
            · by_cases h152 : p < 152
              · by_cases h150 : p < 150
                · obtain rfl : p = 149 := by omega
                  exact FT_149
                · by_cases h151 : p < 151
                  · obtain rfl : p = 150 := by omega
                    exact FT_150
                  · obtain rfl : p = 151 := by omega
                    exact FT_151
              · by_cases h153 : p < 153
                · obtain rfl : p = 152 := by omega
                  exact FT_152
                · by_cases h154 : p < 154
                  · obtain rfl : p = 153 := by omega
                    exact FT_153
                  · obtain rfl : p = 154 := by omega
                    exact FT_154
            · by_cases h158 : p < 158
              · by_cases h156 : p < 156
                · obtain rfl : p = 155 := by omega
                  exact FT_155
                · by_cases h157 : p < 157
                  · obtain rfl : p = 156 := by omega
                    exact FT_156
                  · obtain rfl : p = 157 := by omega
                    exact FT_157
              · by_cases h159 : p < 159
                · obtain rfl : p = 158 := by omega
                  exact FT_158
                · by_cases h160 : p < 160
                  · obtain rfl : p = 159 := by omega
                    exact FT_159
                  · obtain rfl : p = 160 := by omega
                    exact FT_160
        · by_cases h173 : p < 173
          · by_cases h167 : p < 167
            · by_cases h164 : p < 164
              · by_cases h162 : p < 162
                · obtain rfl : p = 161 := by omega
                  exact FT_161
                · by_cases h163 : p < 163
                  · obtain rfl : p = 162 := by omega
                    exact FT_162
                  · obtain rfl : p = 163 := by omega
                    exact FT_163
              · by_cases h165 : p < 165
                · obtain rfl : p = 164 := by omega
                  exact FT_164
                · by_cases h166 : p < 166
                  · obtain rfl : p = 165 := by omega
                    exact FT_165
                  · obtain rfl : p = 166 := by omega
                    exact FT_166
            · by_cases h170 : p < 170
              · by_cases h168 : p < 168
                · obtain rfl : p = 167 := by omega
                  exact FT_167
                · by_cases h169 : p < 169
                  · obtain rfl : p = 168 := by omega
                    exact FT_168
                  · obtain rfl : p = 169 := by omega
                    exact FT_169
              · by_cases h171 : p < 171
                · obtain rfl : p = 170 := by omega
                  exact FT_170
                · by_cases h172 : p < 172
                  · obtain rfl : p = 171 := by omega
                    exact FT_171
                  · obtain rfl : p = 172 := by omega
                    exact FT_172
          · by_cases h179 : p < 179
            · by_cases h176 : p < 176
              · by_cases h174 : p < 174
                · obtain rfl : p = 173 := by omega
                  exact FT_173
                · by_cases h175 : p < 175
                  · obtain rfl : p = 174 := by omega
                    exact FT_174
                  · obtain rfl : p = 175 := by omega
                    exact FT_175
              · by_cases h177 : p < 177
                · obtain rfl : p = 176 := by omega
                  exact FT_176
                · by_cases h178 : p < 178
                  · obtain rfl : p = 177 := by omega
                    exact FT_177
                  · obtain rfl : p = 178 := by omega
                    exact FT_178
            · by_cases h182 : p < 182
              · by_cases h180 : p < 180
                · obtain rfl : p = 179 := by omega
                  exact FT_179
                · by_cases h181 : p < 181
                  · obtain rfl : p = 180 := by omega
                    exact FT_180
                  · obtain rfl : p = 181 := by omega
                    exact FT_181
              · by_cases h183 : p < 183
                · obtain rfl : p = 182 := by omega
                  exact FT_182
                · by_cases h184 : p < 184
                  · obtain rfl : p = 183 := by omega
                    exact FT_183
                  · obtain rfl : p = 184 := by omega
                    exact FT_184
noncomputable def sFN (b : Nat) : String := bif Nat.beq b 0 then "value" else "coder"
noncomputable def sFD (b : Nat) : String := bif Nat.beq b 0 then "[B" else "B"
noncomputable def ST (k : Nat) : Nat × Nat × Nat := (bif Nat.blt k 1 then (bif Nat.beq k 0 then (12, 9, 0) else (0, 0, 0)) else (bif Nat.beq k 1 then (12, 15, 1) else (0, 0, 0)))
def STn : Nat := 2
theorem ST_0 : Cond.fieldLink (cNm (ST 0).1) (ST 0).2.1 "java/lang/String" (sFN (ST 0).2.2) (sFD (ST 0).2.2) ∈ lw_tbl := tm_7 _ (List.mem_of_getElem? (i := 220) rfl)
theorem ST_1 : Cond.fieldLink (cNm (ST 1).1) (ST 1).2.1 "java/lang/String" (sFN (ST 1).2.2) (sFD (ST 1).2.2) ∈ lw_tbl := tm_7 _ (List.mem_of_getElem? (i := 221) rfl)
theorem ST_ok {p : Nat} (h : p < STn) : Cond.fieldLink (cNm (ST p).1) (ST p).2.1 "java/lang/String" (sFN (ST p).2.2) (sFD (ST p).2.2) ∈ lw_tbl := by
  have h : p < 2 := h
  · by_cases h1 : p < 1
    · obtain rfl : p = 0 := by omega
      exact ST_0
    · obtain rfl : p = 1 := by omega
      exact ST_1
noncomputable def gC (k : Nat) : String := (bif Nat.blt k 15 then (bif Nat.blt k 2 then (bif Nat.beq k 1 then "EndsWord" else "") else (bif Nat.beq k 2 then "EndsWord$Acts" else "")) else (bif Nat.blt k 20 then (bif Nat.beq k 15 then "jdk/internal/util/Preconditions" else "") else (bif Nat.beq k 20 then "java/lang/String" else "")))
noncomputable def gN (k : Nat) : String := (bif Nat.blt k 15 then (bif Nat.blt k 2 then (bif Nat.beq k 1 then "ABOVE" else "") else (bif Nat.beq k 2 then "BODIES" else "")) else (bif Nat.blt k 20 then (bif Nat.beq k 15 then "SIOOBE_FORMATTER" else "") else (bif Nat.beq k 20 then "COMPACT_STRINGS" else "")))
noncomputable def gD (k : Nat) : String := (bif Nat.blt k 15 then (bif Nat.blt k 2 then (bif Nat.beq k 1 then "[I" else "") else (bif Nat.beq k 2 then "[I" else "")) else (bif Nat.blt k 20 then (bif Nat.beq k 15 then "Ljava/util/function/BiFunction;" else "") else (bif Nat.beq k 20 then "Z" else "")))
noncomputable def gW (o k a b : Nat) : Cond := bif Nat.beq b 0 then .fieldLink (cNm o) k (gC a) (gN a) (gD a) else .fieldLinkNest (cNm o) k (gC a) (gN a) (gD a) "EndsWord"
noncomputable def GT (k : Nat) : Nat × Nat × Nat × Nat := (bif Nat.blt k 2 then (bif Nat.blt k 1 then (bif Nat.beq k 0 then (0, 40, 2, 0) else (0, 0, 0, 0)) else (bif Nat.beq k 1 then (0, 47, 1, 1) else (0, 0, 0, 0))) else (bif Nat.blt k 3 then (bif Nat.beq k 2 then (9, 328, 1, 0) else (0, 0, 0, 0)) else (bif Nat.blt k 4 then (bif Nat.beq k 3 then (12, 38, 20, 0) else (0, 0, 0, 0)) else (bif Nat.beq k 4 then (12, 1053, 15, 0) else (0, 0, 0, 0)))))
def GTn : Nat := 5
theorem GT_0 : gW (GT 0).1 (GT 0).2.1 (GT 0).2.2.1 (GT 0).2.2.2 ∈ lw_tbl := tm_4 _ (List.mem_of_getElem? (i := 191) rfl)
theorem GT_1 : gW (GT 1).1 (GT 1).2.1 (GT 1).2.2.1 (GT 1).2.2.2 ∈ lw_tbl := tm_4 _ (List.mem_of_getElem? (i := 189) rfl)
theorem GT_2 : gW (GT 2).1 (GT 2).2.1 (GT 2).2.2.1 (GT 2).2.2.2 ∈ lw_tbl := tm_2 _ (List.mem_of_getElem? (i := 169) rfl)
theorem GT_3 : gW (GT 3).1 (GT 3).2.1 (GT 3).2.2.1 (GT 3).2.2.2 ∈ lw_tbl := tm_3 _ (List.mem_of_getElem? (i := 30) rfl)
theorem GT_4 : gW (GT 4).1 (GT 4).2.1 (GT 4).2.2.1 (GT 4).2.2.2 ∈ lw_tbl := tm_3 _ (List.mem_of_getElem? (i := 46) rfl)
theorem GT_ok {p : Nat} (h : p < GTn) : gW (GT p).1 (GT p).2.1 (GT p).2.2.1 (GT p).2.2.2 ∈ lw_tbl := by
  have h : p < 5 := h
  · by_cases h2 : p < 2
    · by_cases h1 : p < 1
      · obtain rfl : p = 0 := by omega
        exact GT_0
      · obtain rfl : p = 1 := by omega
        exact GT_1
    · by_cases h3 : p < 3
      · obtain rfl : p = 2 := by omega
        exact GT_2
      · by_cases h4 : p < 4
        · obtain rfl : p = 3 := by omega
          exact GT_3
        · obtain rfl : p = 4 := by omega
          exact GT_4
noncomputable def mYs (a : Nat) : MethodName := bif Nat.blt a 1000 then mY a else bif Nat.beq a 1000 then arraycopyName else bif Nat.beq a 1001 then objectInit else bif Nat.beq a 1002 then Lib.Math.max.name else Lib.Math.min.name
noncomputable def mW (o k a b : Nat) : Cond := bif Nat.beq b 0 then .methodLink (cNm o) k (mYs a) else .methodLinkNest (cNm o) k (mYs a) "EndsWord"
noncomputable def MT (k : Nat) : Nat × Nat × Nat × Nat := (bif Nat.blt k 164 then (bif Nat.blt k 82 then (bif Nat.blt k 41 then (bif Nat.blt k 20 then (bif Nat.blt k 10 then (bif Nat.blt k 5 then (bif Nat.blt k 2 then (bif Nat.blt k 1 then (bif Nat.beq k 0 then (11, 9, 75, 0) else (0, 0, 0, 0)) else (bif Nat.beq k 1 then (11, 12, 125, 0) else (0, 0, 0, 0))) else (bif Nat.blt k 3 then (bif Nat.beq k 2 then (11, 13, 76, 0) else (0, 0, 0, 0)) else (bif Nat.blt k 4 then (bif Nat.beq k 3 then (11, 17, 131, 0) else (0, 0, 0, 0)) else (bif Nat.beq k 4 then (11, 18, 77, 0) else (0, 0, 0, 0))))) else (bif Nat.blt k 7 then (bif Nat.blt k 6 then (bif Nat.beq k 5 then (11, 21, 133, 0) else (0, 0, 0, 0)) else (bif Nat.beq k 6 then (11, 22, 78, 0) else (0, 0, 0, 0))) else (bif Nat.blt k 8 then (bif Nat.beq k 7 then (11, 26, 134, 0) else (0, 0, 0, 0)) else (bif Nat.blt k 9 then (bif Nat.beq k 8 then (11, 27, 79, 0) else (0, 0, 0, 0)) else (bif Nat.beq k 9 then (11, 30, 136, 0) else (0, 0, 0, 0)))))) else (bif Nat.blt k 15 then (bif Nat.blt k 12 then (bif Nat.blt k 11 then (bif Nat.beq k 10 then (11, 31, 80, 0) else (0, 0, 0, 0)) else (bif Nat.beq k 11 then (11, 34, 195, 0) else (0, 0, 0, 0))) else (bif Nat.blt k 13 then (bif Nat.beq k 12 then (11, 35, 81, 0) else (0, 0, 0, 0)) else (bif Nat.blt k 14 then (bif Nat.beq k 13 then (11, 38, 137, 0) else (0, 0, 0, 0)) else (bif Nat.beq k 14 then (11, 39, 82, 0) else (0, 0, 0, 0))))) else (bif Nat.blt k 17 then (bif Nat.blt k 16 then (bif Nat.beq k 15 then (11, 43, 138, 0) else (0, 0, 0, 0)) else (bif Nat.beq k 16 then (11, 44, 83, 0) else (0, 0, 0, 0))) else (bif Nat.blt k 18 then (bif Nat.beq k 17 then (11, 47, 139, 0) else (0, 0, 0, 0)) else (bif Nat.blt k 19 then (bif Nat.beq k 18 then (11, 48, 84, 0) else (0, 0, 0, 0)) else (bif Nat.beq k 19 then (11, 52, 155, 0) else (0, 0, 0, 0))))))) else (bif Nat.blt k 30 then (bif Nat.blt k 25 then (bif Nat.blt k 22 then (bif Nat.blt k 21 then (bif Nat.beq k 20 then (11, 53, 85, 0) else (0, 0, 0, 0)) else (bif Nat.beq k 21 then (11, 56, 196, 0) else (0, 0, 0, 0))) else (bif Nat.blt k 23 then (bif Nat.beq k 22 then (11, 57, 86, 0) else (0, 0, 0, 0)) else (bif Nat.blt k 24 then (bif Nat.beq k 23 then (11, 60, 193, 0) else (0, 0, 0, 0)) else (bif Nat.beq k 24 then (11, 61, 87, 0) else (0, 0, 0, 0))))) else (bif Nat.blt k 27 then (bif Nat.blt k 26 then (bif Nat.beq k 25 then (11, 64, 194, 0) else (0, 0, 0, 0)) else (bif Nat.beq k 26 then (11, 65, 88, 0) else (0, 0, 0, 0))) else (bif Nat.blt k 28 then (bif Nat.beq k 27 then (11, 68, 200, 0) else (0, 0, 0, 0)) else (bif Nat.blt k 29 then (bif Nat.beq k 28 then (11, 69, 89, 0) else (0, 0, 0, 0)) else (bif Nat.beq k 29 then (11, 72, 202, 0) else (0, 0, 0, 0)))))) else (bif Nat.blt k 35 then (bif Nat.blt k 32 then (bif Nat.blt k 31 then (bif Nat.beq k 30 then (11, 73, 90, 0) else (0, 0, 0, 0)) else (bif Nat.beq k 31 then (11, 76, 176, 0) else (0, 0, 0, 0))) else (bif Nat.blt k 33 then (bif Nat.beq k 32 then (11, 77, 91, 0) else (0, 0, 0, 0)) else (bif Nat.blt k 34 then (bif Nat.beq k 33 then (11, 80, 203, 0) else (0, 0, 0, 0)) else (bif Nat.beq k 34 then (11, 81, 92, 0) else (0, 0, 0, 0))))) else (bif Nat.blt k 38 then (bif Nat.blt k 36 then (bif Nat.beq k 35 then (11, 84, 204, 0) else (0, 0, 0, 0)) else (bif Nat.blt k 37 then (bif Nat.beq k 36 then (11, 85, 93, 0) else (0, 0, 0, 0)) else (bif Nat.beq k 37 then (11, 88, 206, 0) else (0, 0, 0, 0)))) else (bif Nat.blt k 39 then (bif Nat.beq k 38 then (11, 89, 94, 0) else (0, 0, 0, 0)) else (bif Nat.blt k 40 then (bif Nat.beq k 39 then (11, 92, 208, 0) else (0, 0, 0, 0)) else (bif Nat.beq k 40 then (11, 93, 95, 0) else (0, 0, 0, 0)))))))) else (bif Nat.blt k 61 then (bif Nat.blt k 51 then (bif Nat.blt k 46 then (bif Nat.blt k 43 then (bif Nat.blt k 42 then (bif Nat.beq k 41 then (11, 96, 209, 0) else (0, 0, 0, 0)) else (bif Nat.beq k 42 then (11, 97, 96, 0) else (0, 0, 0, 0))) else (bif Nat.blt k 44 then (bif Nat.beq k 43 then (11, 100, 210, 0) else (0, 0, 0, 0)) else (bif Nat.blt k 45 then (bif Nat.beq k 44 then (11, 101, 97, 0) else (0, 0, 0, 0)) else (bif Nat.beq k 45 then (11, 104, 212, 0) else (0, 0, 0, 0))))) else (bif Nat.blt k 48 then (bif Nat.blt k 47 then (bif Nat.beq k 46 then (11, 105, 98, 0) else (0, 0, 0, 0)) else (bif Nat.beq k 47 then (11, 108, 213, 0) else (0, 0, 0, 0))) else (bif Nat.blt k 49 then (bif Nat.beq k 48 then (11, 109, 99, 0) else (0, 0, 0, 0)) else (bif Nat.blt k 50 then (bif Nat.beq k 49 then (11, 112, 177, 0) else (0, 0, 0, 0)) else (bif Nat.beq k 50 then (11, 113, 100, 0) else (0, 0, 0, 0)))))) else (bif Nat.blt k 56 then (bif Nat.blt k 53 then (bif Nat.blt k 52 then (bif Nat.beq k 51 then (11, 117, 216, 0) else (0, 0, 0, 0)) else (bif Nat.beq k 52 then (11, 118, 101, 0) else (0, 0, 0, 0))) else (bif Nat.blt k 54 then (bif Nat.beq k 53 then (11, 121, 217, 0) else (0, 0, 0, 0)) else (bif Nat.blt k 55 then (bif Nat.beq k 54 then (11, 122, 102, 0) else (0, 0, 0, 0)) else (bif Nat.beq k 55 then (11, 125, 218, 0) else (0, 0, 0, 0))))) else (bif Nat.blt k 58 then (bif Nat.blt k 57 then (bif Nat.beq k 56 then (11, 126, 103, 0) else (0, 0, 0, 0)) else (bif Nat.beq k 57 then (11, 129, 219, 0) else (0, 0, 0, 0))) else (bif Nat.blt k 59 then (bif Nat.beq k 58 then (11, 130, 104, 0) else (0, 0, 0, 0)) else (bif Nat.blt k 60 then (bif Nat.beq k 59 then (11, 133, 220, 0) else (0, 0, 0, 0)) else (bif Nat.beq k 60 then (11, 134, 105, 0) else (0, 0, 0, 0))))))) else (bif Nat.blt k 71 then (bif Nat.blt k 66 then (bif Nat.blt k 63 then (bif Nat.blt k 62 then (bif Nat.beq k 61 then (11, 137, 221, 0) else (0, 0, 0, 0)) else (bif Nat.beq k 62 then (11, 138, 106, 0) else (0, 0, 0, 0))) else (bif Nat.blt k 64 then (bif Nat.beq k 63 then (11, 141, 222, 0) else (0, 0, 0, 0)) else (bif Nat.blt k 65 then (bif Nat.beq k 64 then (11, 142, 107, 0) else (0, 0, 0, 0)) else (bif Nat.beq k 65 then (11, 145, 231, 0) else (0, 0, 0, 0))))) else (bif Nat.blt k 68 then (bif Nat.blt k 67 then (bif Nat.beq k 66 then (11, 146, 108, 0) else (0, 0, 0, 0)) else (bif Nat.beq k 67 then (11, 149, 232, 0) else (0, 0, 0, 0))) else (bif Nat.blt k 69 then (bif Nat.beq k 68 then (11, 150, 109, 0) else (0, 0, 0, 0)) else (bif Nat.blt k 70 then (bif Nat.beq k 69 then (11, 153, 233, 0) else (0, 0, 0, 0)) else (bif Nat.beq k 70 then (11, 154, 110, 0) else (0, 0, 0, 0)))))) else (bif Nat.blt k 76 then (bif Nat.blt k 73 then (bif Nat.blt k 72 then (bif Nat.beq k 71 then (11, 157, 234, 0) else (0, 0, 0, 0)) else (bif Nat.beq k 72 then (11, 158, 111, 0) else (0, 0, 0, 0))) else (bif Nat.blt k 74 then (bif Nat.beq k 73 then (11, 161, 236, 0) else (0, 0, 0, 0)) else (bif Nat.blt k 75 then (bif Nat.beq k 74 then (11, 164, 112, 0) else (0, 0, 0, 0)) else (bif Nat.beq k 75 then (11, 168, 238, 0) else (0, 0, 0, 0))))) else (bif Nat.blt k 79 then (bif Nat.blt k 77 then (bif Nat.beq k 76 then (11, 169, 113, 0) else (0, 0, 0, 0)) else (bif Nat.blt k 78 then (bif Nat.beq k 77 then (11, 172, 239, 0) else (0, 0, 0, 0)) else (bif Nat.beq k 78 then (11, 173, 114, 0) else (0, 0, 0, 0)))) else (bif Nat.blt k 80 then (bif Nat.beq k 79 then (11, 177, 240, 0) else (0, 0, 0, 0)) else (bif Nat.blt k 81 then (bif Nat.beq k 80 then (0, 3, 1001, 0) else (0, 0, 0, 0)) else (bif Nat.beq k 81 then (0, 13, 41, 0) else (0, 0, 0, 0))))))))) else (bif Nat.blt k 123 then (bif Nat.blt k 102 then (bif Nat.blt k 92 then (bif Nat.blt k 87 then (bif Nat.blt k 84 then (bif Nat.blt k 83 then (bif Nat.beq k 82 then (0, 24, 45, 0) else (0, 0, 0, 0)) else (bif Nat.beq k 83 then (0, 32, 4, 0) else (0, 0, 0, 0))) else (bif Nat.blt k 85 then (bif Nat.beq k 84 then (0, 36, 5, 0) else (0, 0, 0, 0)) else (bif Nat.blt k 86 then (bif Nat.beq k 85 then (0, 44, 43, 0) else (0, 0, 0, 0)) else (bif Nat.beq k 86 then (0, 56, 120, 1) else (0, 0, 0, 0))))) else (bif Nat.blt k 89 then (bif Nat.blt k 88 then (bif Nat.beq k 87 then (1, 3, 1001, 0) else (0, 0, 0, 0)) else (bif Nat.beq k 88 then (1, 34, 41, 0) else (0, 0, 0, 0))) else (bif Nat.blt k 90 then (bif Nat.beq k 89 then (1, 37, 7, 0) else (0, 0, 0, 0)) else (bif Nat.blt k 91 then (bif Nat.beq k 90 then (1, 42, 46, 0) else (0, 0, 0, 0)) else (bif Nat.beq k 91 then (1, 46, 44, 0) else (0, 0, 0, 0)))))) else (bif Nat.blt k 97 then (bif Nat.blt k 94 then (bif Nat.blt k 93 then (bif Nat.beq k 92 then (1, 50, 1000, 0) else (0, 0, 0, 0)) else (bif Nat.beq k 93 then (1, 56, 118, 1) else (0, 0, 0, 0))) else (bif Nat.blt k 95 then (bif Nat.beq k 94 then (1, 60, 10, 0) else (0, 0, 0, 0)) else (bif Nat.blt k 96 then (bif Nat.beq k 95 then (1, 64, 12, 0) else (0, 0, 0, 0)) else (bif Nat.beq k 96 then (1, 68, 13, 0) else (0, 0, 0, 0))))) else (bif Nat.blt k 99 then (bif Nat.blt k 98 then (bif Nat.beq k 97 then (1, 72, 15, 0) else (0, 0, 0, 0)) else (bif Nat.beq k 98 then (1, 75, 122, 1) else (0, 0, 0, 0))) else (bif Nat.blt k 100 then (bif Nat.beq k 99 then (1, 79, 19, 0) else (0, 0, 0, 0)) else (bif Nat.blt k 101 then (bif Nat.beq k 100 then (1, 83, 16, 0) else (0, 0, 0, 0)) else (bif Nat.beq k 101 then (1, 86, 17, 0) else (0, 0, 0, 0))))))) else (bif Nat.blt k 112 then (bif Nat.blt k 107 then (bif Nat.blt k 104 then (bif Nat.blt k 103 then (bif Nat.beq k 102 then (1, 90, 20, 0) else (0, 0, 0, 0)) else (bif Nat.beq k 103 then (2, 3, 1001, 0) else (0, 0, 0, 0))) else (bif Nat.blt k 105 then (bif Nat.beq k 104 then (2, 11, 6, 0) else (0, 0, 0, 0)) else (bif Nat.blt k 106 then (bif Nat.beq k 105 then (2, 30, 60, 1) else (0, 0, 0, 0)) else (bif Nat.beq k 106 then (2, 37, 41, 0) else (0, 0, 0, 0))))) else (bif Nat.blt k 109 then (bif Nat.blt k 108 then (bif Nat.beq k 107 then (2, 55, 63, 1) else (0, 0, 0, 0)) else (bif Nat.beq k 108 then (2, 64, 47, 1) else (0, 0, 0, 0))) else (bif Nat.blt k 110 then (bif Nat.beq k 109 then (2, 65, 118, 1) else (0, 0, 0, 0)) else (bif Nat.blt k 111 then (bif Nat.beq k 110 then (2, 69, 48, 0) else (0, 0, 0, 0)) else (bif Nat.beq k 111 then (2, 78, 45, 0) else (0, 0, 0, 0)))))) else (bif Nat.blt k 117 then (bif Nat.blt k 114 then (bif Nat.blt k 113 then (bif Nat.beq k 112 then (2, 81, 43, 0) else (0, 0, 0, 0)) else (bif Nat.beq k 113 then (2, 84, 9, 0) else (0, 0, 0, 0))) else (bif Nat.blt k 115 then (bif Nat.beq k 114 then (2, 88, 49, 0) else (0, 0, 0, 0)) else (bif Nat.blt k 116 then (bif Nat.beq k 115 then (2, 91, 62, 0) else (0, 0, 0, 0)) else (bif Nat.beq k 116 then (2, 94, 46, 0) else (0, 0, 0, 0))))) else (bif Nat.blt k 120 then (bif Nat.blt k 118 then (bif Nat.beq k 117 then (2, 97, 67, 0) else (0, 0, 0, 0)) else (bif Nat.blt k 119 then (bif Nat.beq k 118 then (2, 100, 27, 0) else (0, 0, 0, 0)) else (bif Nat.beq k 119 then (2, 103, 10, 0) else (0, 0, 0, 0)))) else (bif Nat.blt k 121 then (bif Nat.beq k 120 then (2, 110, 18, 0) else (0, 0, 0, 0)) else (bif Nat.blt k 122 then (bif Nat.beq k 121 then (2, 115, 44, 0) else (0, 0, 0, 0)) else (bif Nat.beq k 122 then (2, 124, 13, 0) else (0, 0, 0, 0)))))))) else (bif Nat.blt k 143 then (bif Nat.blt k 133 then (bif Nat.blt k 128 then (bif Nat.blt k 125 then (bif Nat.blt k 124 then (bif Nat.beq k 123 then (2, 131, 16, 0) else (0, 0, 0, 0)) else (bif Nat.beq k 124 then (2, 135, 30, 0) else (0, 0, 0, 0))) else (bif Nat.blt k 126 then (bif Nat.beq k 125 then (2, 138, 17, 0) else (0, 0, 0, 0)) else (bif Nat.blt k 127 then (bif Nat.beq k 126 then (2, 142, 256, 0) else (0, 0, 0, 0)) else (bif Nat.beq k 127 then (2, 150, 22, 0) else (0, 0, 0, 0))))) else (bif Nat.blt k 130 then (bif Nat.blt k 129 then (bif Nat.beq k 128 then (2, 154, 33, 0) else (0, 0, 0, 0)) else (bif Nat.beq k 129 then (2, 158, 36, 0) else (0, 0, 0, 0))) else (bif Nat.blt k 131 then (bif Nat.beq k 130 then (2, 165, 34, 0) else (0, 0, 0, 0)) else (bif Nat.blt k 132 then (bif Nat.beq k 131 then (2, 168, 39, 0) else (0, 0, 0, 0)) else (bif Nat.beq k 132 then (2, 171, 37, 0) else (0, 0, 0, 0)))))) else (bif Nat.blt k 138 then (bif Nat.blt k 135 then (bif Nat.blt k 134 then (bif Nat.beq k 133 then (2, 177, 38, 0) else (0, 0, 0, 0)) else (bif Nat.beq k 134 then (2, 181, 15, 0) else (0, 0, 0, 0))) else (bif Nat.blt k 136 then (bif Nat.beq k 135 then (2, 184, 1002, 0) else (0, 0, 0, 0)) else (bif Nat.blt k 137 then (bif Nat.beq k 136 then (2, 187, 61, 0) else (0, 0, 0, 0)) else (bif Nat.beq k 137 then (2, 196, 122, 1) else (0, 0, 0, 0))))) else (bif Nat.blt k 140 then (bif Nat.blt k 139 then (bif Nat.beq k 138 then (2, 200, 19, 0) else (0, 0, 0, 0)) else (bif Nat.beq k 139 then (2, 204, 123, 1) else (0, 0, 0, 0))) else (bif Nat.blt k 141 then (bif Nat.beq k 140 then (2, 207, 121, 1) else (0, 0, 0, 0)) else (bif Nat.blt k 142 then (bif Nat.beq k 141 then (2, 210, 40, 0) else (0, 0, 0, 0)) else (bif Nat.beq k 142 then (2, 214, 42, 0) else (0, 0, 0, 0))))))) else (bif Nat.blt k 153 then (bif Nat.blt k 148 then (bif Nat.blt k 145 then (bif Nat.blt k 144 then (bif Nat.beq k 143 then (2, 221, 12, 0) else (0, 0, 0, 0)) else (bif Nat.beq k 144 then (2, 224, 253, 0) else (0, 0, 0, 0))) else (bif Nat.blt k 146 then (bif Nat.beq k 145 then (3, 3, 1001, 0) else (0, 0, 0, 0)) else (bif Nat.blt k 147 then (bif Nat.beq k 146 then (3, 15, 1002, 0) else (0, 0, 0, 0)) else (bif Nat.beq k 147 then (3, 25, 1003, 0) else (0, 0, 0, 0))))) else (bif Nat.blt k 150 then (bif Nat.blt k 149 then (bif Nat.beq k 148 then (3, 28, 1000, 0) else (0, 0, 0, 0)) else (bif Nat.beq k 149 then (4, 3, 1001, 0) else (0, 0, 0, 0))) else (bif Nat.blt k 151 then (bif Nat.beq k 150 then (4, 25, 255, 0) else (0, 0, 0, 0)) else (bif Nat.blt k 152 then (bif Nat.beq k 151 then (4, 31, 48, 0) else (0, 0, 0, 0)) else (bif Nat.beq k 152 then (4, 35, 1000, 0) else (0, 0, 0, 0)))))) else (bif Nat.blt k 158 then (bif Nat.blt k 155 then (bif Nat.blt k 154 then (bif Nat.beq k 153 then (5, 3, 1001, 0) else (0, 0, 0, 0)) else (bif Nat.beq k 154 then (5, 11, 41, 0) else (0, 0, 0, 0))) else (bif Nat.blt k 156 then (bif Nat.beq k 155 then (5, 22, 63, 1) else (0, 0, 0, 0)) else (bif Nat.blt k 157 then (bif Nat.beq k 156 then (5, 35, 64, 0) else (0, 0, 0, 0)) else (bif Nat.beq k 157 then (5, 38, 52, 0) else (0, 0, 0, 0))))) else (bif Nat.blt k 161 then (bif Nat.blt k 159 then (bif Nat.beq k 158 then (5, 44, 58, 0) else (0, 0, 0, 0)) else (bif Nat.blt k 160 then (bif Nat.beq k 159 then (5, 48, 59, 0) else (0, 0, 0, 0)) else (bif Nat.beq k 160 then (5, 55, 57, 0) else (0, 0, 0, 0)))) else (bif Nat.blt k 162 then (bif Nat.beq k 161 then (5, 59, 53, 0) else (0, 0, 0, 0)) else (bif Nat.blt k 163 then (bif Nat.beq k 162 then (5, 62, 65, 0) else (0, 0, 0, 0)) else (bif Nat.beq k 163 then (5, 67, 55, 0) else (0, 0, 0, 0)))))))))) else (bif Nat.blt k 246 then (bif Nat.blt k 205 then (bif Nat.blt k 184 then (bif Nat.blt k 174 then (bif Nat.blt k 169 then (bif Nat.blt k 166 then (bif Nat.blt k 165 then (bif Nat.beq k 164 then (5, 79, 54, 0) else (0, 0, 0, 0)) else (bif Nat.beq k 165 then (5, 84, 56, 0) else (0, 0, 0, 0))) else (bif Nat.blt k 167 then (bif Nat.beq k 166 then (5, 90, 66, 0) else (0, 0, 0, 0)) else (bif Nat.blt k 168 then (bif Nat.beq k 167 then (5, 96, 243, 0) else (0, 0, 0, 0)) else (bif Nat.beq k 168 then (5, 102, 241, 0) else (0, 0, 0, 0))))) else (bif Nat.blt k 171 then (bif Nat.blt k 170 then (bif Nat.beq k 169 then (5, 105, 242, 0) else (0, 0, 0, 0)) else (bif Nat.beq k 170 then (6, 3, 1001, 0) else (0, 0, 0, 0))) else (bif Nat.blt k 172 then (bif Nat.beq k 171 then (6, 11, 41, 0) else (0, 0, 0, 0)) else (bif Nat.blt k 173 then (bif Nat.beq k 172 then (6, 34, 45, 0) else (0, 0, 0, 0)) else (bif Nat.beq k 173 then (6, 37, 46, 0) else (0, 0, 0, 0)))))) else (bif Nat.blt k 179 then (bif Nat.blt k 176 then (bif Nat.blt k 175 then (bif Nat.beq k 174 then (6, 41, 1000, 0) else (0, 0, 0, 0)) else (bif Nat.beq k 175 then (7, 3, 1001, 0) else (0, 0, 0, 0))) else (bif Nat.blt k 177 then (bif Nat.beq k 176 then (7, 28, 65, 0) else (0, 0, 0, 0)) else (bif Nat.blt k 178 then (bif Nat.beq k 177 then (7, 37, 10, 0) else (0, 0, 0, 0)) else (bif Nat.beq k 178 then (7, 43, 68, 0) else (0, 0, 0, 0))))) else (bif Nat.blt k 181 then (bif Nat.blt k 180 then (bif Nat.beq k 179 then (7, 48, 69, 0) else (0, 0, 0, 0)) else (bif Nat.beq k 180 then (7, 68, 44, 0) else (0, 0, 0, 0))) else (bif Nat.blt k 182 then (bif Nat.beq k 181 then (8, 1, 1001, 0) else (0, 0, 0, 0)) else (bif Nat.blt k 183 then (bif Nat.beq k 182 then (8, 20, 254, 0) else (0, 0, 0, 0)) else (bif Nat.beq k 183 then (9, 3, 1001, 0) else (0, 0, 0, 0))))))) else (bif Nat.blt k 194 then (bif Nat.blt k 189 then (bif Nat.blt k 186 then (bif Nat.blt k 185 then (bif Nat.beq k 184 then (9, 13, 41, 0) else (0, 0, 0, 0)) else (bif Nat.beq k 185 then (9, 25, 50, 1) else (0, 0, 0, 0))) else (bif Nat.blt k 187 then (bif Nat.beq k 186 then (9, 42, 21, 0) else (0, 0, 0, 0)) else (bif Nat.blt k 188 then (bif Nat.beq k 187 then (9, 56, 60, 1) else (0, 0, 0, 0)) else (bif Nat.beq k 188 then (9, 63, 1, 1) else (0, 0, 0, 0))))) else (bif Nat.blt k 191 then (bif Nat.blt k 190 then (bif Nat.beq k 189 then (9, 74, 63, 1) else (0, 0, 0, 0)) else (bif Nat.beq k 190 then (9, 75, 70, 1) else (0, 0, 0, 0))) else (bif Nat.blt k 192 then (bif Nat.beq k 191 then (9, 76, 45, 0) else (0, 0, 0, 0)) else (bif Nat.blt k 193 then (bif Nat.beq k 192 then (9, 79, 118, 0) else (0, 0, 0, 0)) else (bif Nat.beq k 193 then (9, 83, 42, 0) else (0, 0, 0, 0)))))) else (bif Nat.blt k 199 then (bif Nat.blt k 196 then (bif Nat.blt k 195 then (bif Nat.beq k 194 then (9, 87, 43, 0) else (0, 0, 0, 0)) else (bif Nat.beq k 195 then (9, 97, 14, 0) else (0, 0, 0, 0))) else (bif Nat.blt k 197 then (bif Nat.beq k 196 then (9, 103, 7, 0) else (0, 0, 0, 0)) else (bif Nat.blt k 198 then (bif Nat.beq k 197 then (9, 104, 8, 0) else (0, 0, 0, 0)) else (bif Nat.beq k 198 then (9, 116, 44, 0) else (0, 0, 0, 0))))) else (bif Nat.blt k 202 then (bif Nat.blt k 200 then (bif Nat.beq k 199 then (9, 120, 120, 0) else (0, 0, 0, 0)) else (bif Nat.blt k 201 then (bif Nat.beq k 200 then (9, 124, 23, 0) else (0, 0, 0, 0)) else (bif Nat.beq k 201 then (9, 128, 22, 0) else (0, 0, 0, 0)))) else (bif Nat.blt k 203 then (bif Nat.beq k 202 then (9, 131, 27, 0) else (0, 0, 0, 0)) else (bif Nat.blt k 204 then (bif Nat.beq k 203 then (9, 152, 30, 0) else (0, 0, 0, 0)) else (bif Nat.beq k 204 then (9, 155, 31, 0) else (0, 0, 0, 0)))))))) else (bif Nat.blt k 225 then (bif Nat.blt k 215 then (bif Nat.blt k 210 then (bif Nat.blt k 207 then (bif Nat.blt k 206 then (bif Nat.beq k 205 then (9, 164, 51, 0) else (0, 0, 0, 0)) else (bif Nat.beq k 206 then (9, 187, 28, 0) else (0, 0, 0, 0))) else (bif Nat.blt k 208 then (bif Nat.beq k 207 then (9, 190, 36, 0) else (0, 0, 0, 0)) else (bif Nat.blt k 209 then (bif Nat.beq k 208 then (9, 194, 61, 0) else (0, 0, 0, 0)) else (bif Nat.beq k 209 then (9, 197, 115, 0) else (0, 0, 0, 0))))) else (bif Nat.blt k 212 then (bif Nat.blt k 211 then (bif Nat.beq k 210 then (9, 201, 35, 0) else (0, 0, 0, 0)) else (bif Nat.beq k 211 then (9, 208, 10, 0) else (0, 0, 0, 0))) else (bif Nat.blt k 213 then (bif Nat.beq k 212 then (9, 212, 18, 0) else (0, 0, 0, 0)) else (bif Nat.blt k 214 then (bif Nat.beq k 213 then (9, 216, 13, 0) else (0, 0, 0, 0)) else (bif Nat.beq k 214 then (9, 220, 19, 0) else (0, 0, 0, 0)))))) else (bif Nat.blt k 220 then (bif Nat.blt k 217 then (bif Nat.blt k 216 then (bif Nat.beq k 215 then (9, 224, 116, 0) else (0, 0, 0, 0)) else (bif Nat.beq k 216 then (9, 227, 117, 0) else (0, 0, 0, 0))) else (bif Nat.blt k 218 then (bif Nat.beq k 217 then (9, 230, 253, 0) else (0, 0, 0, 0)) else (bif Nat.blt k 219 then (bif Nat.beq k 218 then (9, 235, 123, 0) else (0, 0, 0, 0)) else (bif Nat.beq k 219 then (9, 238, 122, 0) else (0, 0, 0, 0))))) else (bif Nat.blt k 222 then (bif Nat.blt k 221 then (bif Nat.beq k 220 then (9, 242, 62, 0) else (0, 0, 0, 0)) else (bif Nat.beq k 221 then (9, 246, 32, 0) else (0, 0, 0, 0))) else (bif Nat.blt k 223 then (bif Nat.beq k 222 then (9, 249, 24, 0) else (0, 0, 0, 0)) else (bif Nat.blt k 224 then (bif Nat.beq k 223 then (9, 255, 25, 0) else (0, 0, 0, 0)) else (bif Nat.beq k 224 then (9, 259, 29, 0) else (0, 0, 0, 0))))))) else (bif Nat.blt k 235 then (bif Nat.blt k 230 then (bif Nat.blt k 227 then (bif Nat.blt k 226 then (bif Nat.beq k 225 then (9, 262, 11, 0) else (0, 0, 0, 0)) else (bif Nat.beq k 226 then (9, 267, 124, 0) else (0, 0, 0, 0))) else (bif Nat.blt k 228 then (bif Nat.beq k 227 then (9, 274, 119, 0) else (0, 0, 0, 0)) else (bif Nat.blt k 229 then (bif Nat.beq k 228 then (9, 277, 71, 0) else (0, 0, 0, 0)) else (bif Nat.beq k 229 then (9, 288, 26, 0) else (0, 0, 0, 0))))) else (bif Nat.blt k 232 then (bif Nat.blt k 231 then (bif Nat.beq k 230 then (9, 291, 2, 0) else (0, 0, 0, 0)) else (bif Nat.beq k 231 then (9, 292, 3, 0) else (0, 0, 0, 0))) else (bif Nat.blt k 233 then (bif Nat.beq k 232 then (9, 299, 121, 0) else (0, 0, 0, 0)) else (bif Nat.blt k 234 then (bif Nat.beq k 233 then (9, 305, 72, 0) else (0, 0, 0, 0)) else (bif Nat.beq k 234 then (9, 308, 74, 0) else (0, 0, 0, 0)))))) else (bif Nat.blt k 240 then (bif Nat.blt k 237 then (bif Nat.blt k 236 then (bif Nat.beq k 235 then (9, 312, 73, 0) else (0, 0, 0, 0)) else (bif Nat.beq k 236 then (9, 315, 1000, 0) else (0, 0, 0, 0))) else (bif Nat.blt k 238 then (bif Nat.beq k 237 then (9, 321, 34, 0) else (0, 0, 0, 0)) else (bif Nat.blt k 239 then (bif Nat.beq k 238 then (9, 324, 37, 0) else (0, 0, 0, 0)) else (bif Nat.beq k 239 then (10, 1, 1001, 0) else (0, 0, 0, 0))))) else (bif Nat.blt k 243 then (bif Nat.blt k 241 then (bif Nat.beq k 240 then (10, 245, 127, 0) else (0, 0, 0, 0)) else (bif Nat.blt k 242 then (bif Nat.beq k 241 then (10, 249, 126, 0) else (0, 0, 0, 0)) else (bif Nat.beq k 242 then (10, 253, 132, 0) else (0, 0, 0, 0)))) else (bif Nat.blt k 244 then (bif Nat.beq k 243 then (10, 257, 130, 0) else (0, 0, 0, 0)) else (bif Nat.blt k 245 then (bif Nat.beq k 244 then (10, 260, 158, 0) else (0, 0, 0, 0)) else (bif Nat.beq k 245 then (10, 264, 135, 0) else (0, 0, 0, 0))))))))) else (bif Nat.blt k 287 then (bif Nat.blt k 266 then (bif Nat.blt k 256 then (bif Nat.blt k 251 then (bif Nat.blt k 248 then (bif Nat.blt k 247 then (bif Nat.beq k 246 then (10, 267, 140, 0) else (0, 0, 0, 0)) else (bif Nat.beq k 247 then (10, 271, 142, 0) else (0, 0, 0, 0))) else (bif Nat.blt k 249 then (bif Nat.beq k 248 then (10, 274, 144, 0) else (0, 0, 0, 0)) else (bif Nat.blt k 250 then (bif Nat.beq k 249 then (10, 278, 146, 0) else (0, 0, 0, 0)) else (bif Nat.beq k 250 then (10, 282, 149, 0) else (0, 0, 0, 0))))) else (bif Nat.blt k 253 then (bif Nat.blt k 252 then (bif Nat.beq k 251 then (10, 285, 145, 0) else (0, 0, 0, 0)) else (bif Nat.beq k 252 then (10, 288, 147, 0) else (0, 0, 0, 0))) else (bif Nat.blt k 254 then (bif Nat.beq k 253 then (10, 291, 150, 0) else (0, 0, 0, 0)) else (bif Nat.blt k 255 then (bif Nat.beq k 254 then (10, 294, 148, 0) else (0, 0, 0, 0)) else (bif Nat.beq k 255 then (10, 297, 143, 0) else (0, 0, 0, 0)))))) else (bif Nat.blt k 261 then (bif Nat.blt k 258 then (bif Nat.blt k 257 then (bif Nat.beq k 256 then (10, 300, 141, 0) else (0, 0, 0, 0)) else (bif Nat.beq k 257 then (10, 303, 152, 0) else (0, 0, 0, 0))) else (bif Nat.blt k 259 then (bif Nat.beq k 258 then (10, 306, 151, 0) else (0, 0, 0, 0)) else (bif Nat.blt k 260 then (bif Nat.beq k 259 then (10, 309, 153, 0) else (0, 0, 0, 0)) else (bif Nat.beq k 260 then (10, 312, 154, 0) else (0, 0, 0, 0))))) else (bif Nat.blt k 263 then (bif Nat.blt k 262 then (bif Nat.beq k 261 then (10, 315, 156, 0) else (0, 0, 0, 0)) else (bif Nat.beq k 262 then (10, 318, 157, 0) else (0, 0, 0, 0))) else (bif Nat.blt k 264 then (bif Nat.beq k 263 then (10, 321, 159, 0) else (0, 0, 0, 0)) else (bif Nat.blt k 265 then (bif Nat.beq k 264 then (10, 325, 160, 0) else (0, 0, 0, 0)) else (bif Nat.beq k 265 then (10, 328, 161, 0) else (0, 0, 0, 0))))))) else (bif Nat.blt k 276 then (bif Nat.blt k 271 then (bif Nat.blt k 268 then (bif Nat.blt k 267 then (bif Nat.beq k 266 then (10, 331, 163, 0) else (0, 0, 0, 0)) else (bif Nat.beq k 267 then (10, 334, 166, 0) else (0, 0, 0, 0))) else (bif Nat.blt k 269 then (bif Nat.beq k 268 then (10, 337, 167, 0) else (0, 0, 0, 0)) else (bif Nat.blt k 270 then (bif Nat.beq k 269 then (10, 340, 170, 0) else (0, 0, 0, 0)) else (bif Nat.beq k 270 then (10, 343, 171, 0) else (0, 0, 0, 0))))) else (bif Nat.blt k 273 then (bif Nat.blt k 272 then (bif Nat.beq k 271 then (10, 346, 172, 0) else (0, 0, 0, 0)) else (bif Nat.beq k 272 then (10, 349, 164, 0) else (0, 0, 0, 0))) else (bif Nat.blt k 274 then (bif Nat.beq k 273 then (10, 352, 173, 0) else (0, 0, 0, 0)) else (bif Nat.blt k 275 then (bif Nat.beq k 274 then (10, 355, 129, 0) else (0, 0, 0, 0)) else (bif Nat.beq k 275 then (10, 358, 165, 0) else (0, 0, 0, 0)))))) else (bif Nat.blt k 281 then (bif Nat.blt k 278 then (bif Nat.blt k 277 then (bif Nat.beq k 276 then (10, 361, 174, 0) else (0, 0, 0, 0)) else (bif Nat.beq k 277 then (10, 364, 162, 0) else (0, 0, 0, 0))) else (bif Nat.blt k 279 then (bif Nat.beq k 278 then (10, 367, 168, 0) else (0, 0, 0, 0)) else (bif Nat.blt k 280 then (bif Nat.beq k 279 then (10, 370, 180, 0) else (0, 0, 0, 0)) else (bif Nat.beq k 280 then (10, 373, 128, 0) else (0, 0, 0, 0))))) else (bif Nat.blt k 284 then (bif Nat.blt k 282 then (bif Nat.beq k 281 then (10, 376, 182, 0) else (0, 0, 0, 0)) else (bif Nat.blt k 283 then (bif Nat.beq k 282 then (10, 380, 179, 0) else (0, 0, 0, 0)) else (bif Nat.beq k 283 then (10, 383, 181, 0) else (0, 0, 0, 0)))) else (bif Nat.blt k 285 then (bif Nat.beq k 284 then (10, 386, 175, 0) else (0, 0, 0, 0)) else (bif Nat.blt k 286 then (bif Nat.beq k 285 then (10, 389, 183, 0) else (0, 0, 0, 0)) else (bif Nat.beq k 286 then (10, 392, 169, 0) else (0, 0, 0, 0)))))))) else (bif Nat.blt k 307 then (bif Nat.blt k 297 then (bif Nat.blt k 292 then (bif Nat.blt k 289 then (bif Nat.blt k 288 then (bif Nat.beq k 287 then (10, 395, 185, 0) else (0, 0, 0, 0)) else (bif Nat.beq k 288 then (10, 398, 186, 0) else (0, 0, 0, 0))) else (bif Nat.blt k 290 then (bif Nat.beq k 289 then (10, 401, 184, 0) else (0, 0, 0, 0)) else (bif Nat.blt k 291 then (bif Nat.beq k 290 then (10, 404, 188, 0) else (0, 0, 0, 0)) else (bif Nat.beq k 291 then (10, 407, 191, 0) else (0, 0, 0, 0))))) else (bif Nat.blt k 294 then (bif Nat.blt k 293 then (bif Nat.beq k 292 then (10, 410, 187, 0) else (0, 0, 0, 0)) else (bif Nat.beq k 293 then (10, 413, 190, 0) else (0, 0, 0, 0))) else (bif Nat.blt k 295 then (bif Nat.beq k 294 then (10, 416, 189, 0) else (0, 0, 0, 0)) else (bif Nat.blt k 296 then (bif Nat.beq k 295 then (10, 419, 178, 0) else (0, 0, 0, 0)) else (bif Nat.beq k 296 then (10, 422, 192, 0) else (0, 0, 0, 0)))))) else (bif Nat.blt k 302 then (bif Nat.blt k 299 then (bif Nat.blt k 298 then (bif Nat.beq k 297 then (10, 425, 197, 0) else (0, 0, 0, 0)) else (bif Nat.beq k 298 then (10, 428, 199, 0) else (0, 0, 0, 0))) else (bif Nat.blt k 300 then (bif Nat.beq k 299 then (10, 431, 198, 0) else (0, 0, 0, 0)) else (bif Nat.blt k 301 then (bif Nat.beq k 300 then (10, 434, 201, 0) else (0, 0, 0, 0)) else (bif Nat.beq k 301 then (10, 437, 205, 0) else (0, 0, 0, 0))))) else (bif Nat.blt k 304 then (bif Nat.blt k 303 then (bif Nat.beq k 302 then (10, 440, 207, 0) else (0, 0, 0, 0)) else (bif Nat.beq k 303 then (10, 443, 211, 0) else (0, 0, 0, 0))) else (bif Nat.blt k 305 then (bif Nat.beq k 304 then (10, 446, 214, 0) else (0, 0, 0, 0)) else (bif Nat.blt k 306 then (bif Nat.beq k 305 then (10, 451, 215, 0) else (0, 0, 0, 0)) else (bif Nat.beq k 306 then (10, 455, 235, 0) else (0, 0, 0, 0))))))) else (bif Nat.blt k 317 then (bif Nat.blt k 312 then (bif Nat.blt k 309 then (bif Nat.blt k 308 then (bif Nat.beq k 307 then (10, 458, 223, 0) else (0, 0, 0, 0)) else (bif Nat.beq k 308 then (10, 461, 224, 0) else (0, 0, 0, 0))) else (bif Nat.blt k 310 then (bif Nat.beq k 309 then (10, 464, 225, 0) else (0, 0, 0, 0)) else (bif Nat.blt k 311 then (bif Nat.beq k 310 then (10, 467, 226, 0) else (0, 0, 0, 0)) else (bif Nat.beq k 311 then (10, 470, 227, 0) else (0, 0, 0, 0))))) else (bif Nat.blt k 314 then (bif Nat.blt k 313 then (bif Nat.beq k 312 then (10, 473, 228, 0) else (0, 0, 0, 0)) else (bif Nat.beq k 313 then (10, 476, 229, 0) else (0, 0, 0, 0))) else (bif Nat.blt k 315 then (bif Nat.beq k 314 then (10, 479, 230, 0) else (0, 0, 0, 0)) else (bif Nat.blt k 316 then (bif Nat.beq k 315 then (10, 482, 237, 0) else (0, 0, 0, 0)) else (bif Nat.beq k 316 then (12, 335, 245, 0) else (0, 0, 0, 0)))))) else (bif Nat.blt k 322 then (bif Nat.blt k 319 then (bif Nat.blt k 318 then (bif Nat.beq k 317 then (12, 492, 246, 0) else (0, 0, 0, 0)) else (bif Nat.beq k 318 then (12, 495, 248, 0) else (0, 0, 0, 0))) else (bif Nat.blt k 320 then (bif Nat.beq k 319 then (12, 633, 244, 0) else (0, 0, 0, 0)) else (bif Nat.blt k 321 then (bif Nat.beq k 320 then (12, 505, 241, 0) else (0, 0, 0, 0)) else (bif Nat.beq k 321 then (12, 637, 250, 0) else (0, 0, 0, 0))))) else (bif Nat.blt k 325 then (bif Nat.blt k 323 then (bif Nat.beq k 322 then (12, 1059, 252, 0) else (0, 0, 0, 0)) else (bif Nat.blt k 324 then (bif Nat.beq k 323 then (13, 9, 247, 0) else (0, 0, 0, 0)) else (bif Nat.beq k 324 then (13, 88, 249, 0) else (0, 0, 0, 0)))) else (bif Nat.blt k 326 then (bif Nat.beq k 325 then (13, 92, 1002, 0) else (0, 0, 0, 0)) else (bif Nat.blt k 327 then (bif Nat.beq k 326 then (13, 38, 1003, 0) else (0, 0, 0, 0)) else (bif Nat.beq k 327 then (13, 95, 251, 0) else (0, 0, 0, 0)))))))))))
def MTn : Nat := 328
theorem MT_0 : mW (MT 0).1 (MT 0).2.1 (MT 0).2.2.1 (MT 0).2.2.2 ∈ lw_tbl := tm_1 _ (List.mem_of_getElem? (i := 23) rfl)
theorem MT_1 : mW (MT 1).1 (MT 1).2.1 (MT 1).2.2.1 (MT 1).2.2.2 ∈ lw_tbl := tm_5 _ (List.mem_of_getElem? (i := 1) rfl)
theorem MT_2 : mW (MT 2).1 (MT 2).2.1 (MT 2).2.2.1 (MT 2).2.2.2 ∈ lw_tbl := tm_2 _ (List.mem_of_getElem? (i := 90) rfl)
theorem MT_3 : mW (MT 3).1 (MT 3).2.1 (MT 3).2.2.1 (MT 3).2.2.2 ∈ lw_tbl := tm_5 _ (List.mem_of_getElem? (i := 238) rfl)
theorem MT_4 : mW (MT 4).1 (MT 4).2.1 (MT 4).2.2.1 (MT 4).2.2.2 ∈ lw_tbl := tm_2 _ (List.mem_of_getElem? (i := 109) rfl)
theorem MT_5 : mW (MT 5).1 (MT 5).2.1 (MT 5).2.2.1 (MT 5).2.2.2 ∈ lw_tbl := tm_6 _ (List.mem_of_getElem? (i := 6) rfl)
theorem MT_6 : mW (MT 6).1 (MT 6).2.1 (MT 6).2.2.1 (MT 6).2.2.2 ∈ lw_tbl := tm_2 _ (List.mem_of_getElem? (i := 157) rfl)
theorem MT_7 : mW (MT 7).1 (MT 7).2.1 (MT 7).2.2.1 (MT 7).2.2.2 ∈ lw_tbl := tm_6 _ (List.mem_of_getElem? (i := 14) rfl)
theorem MT_8 : mW (MT 8).1 (MT 8).2.1 (MT 8).2.2.1 (MT 8).2.2.2 ∈ lw_tbl := tm_2 _ (List.mem_of_getElem? (i := 162) rfl)
theorem MT_9 : mW (MT 9).1 (MT 9).2.1 (MT 9).2.2.1 (MT 9).2.2.2 ∈ lw_tbl := tm_6 _ (List.mem_of_getElem? (i := 22) rfl)
theorem MT_10 : mW (MT 10).1 (MT 10).2.1 (MT 10).2.2.1 (MT 10).2.2.2 ∈ lw_tbl := tm_2 _ (List.mem_of_getElem? (i := 182) rfl)
theorem MT_11 : mW (MT 11).1 (MT 11).2.1 (MT 11).2.2.1 (MT 11).2.2.2 ∈ lw_tbl := tm_7 _ (List.mem_of_getElem? (i := 34) rfl)
theorem MT_12 : mW (MT 12).1 (MT 12).2.1 (MT 12).2.2.1 (MT 12).2.2.2 ∈ lw_tbl := tm_2 _ (List.mem_of_getElem? (i := 225) rfl)
theorem MT_13 : mW (MT 13).1 (MT 13).2.1 (MT 13).2.2.1 (MT 13).2.2.2 ∈ lw_tbl := tm_6 _ (List.mem_of_getElem? (i := 38) rfl)
theorem MT_14 : mW (MT 14).1 (MT 14).2.1 (MT 14).2.2.1 (MT 14).2.2.2 ∈ lw_tbl := tm_2 _ (List.mem_of_getElem? (i := 229) rfl)
theorem MT_15 : mW (MT 15).1 (MT 15).2.1 (MT 15).2.2.1 (MT 15).2.2.2 ∈ lw_tbl := tm_6 _ (List.mem_of_getElem? (i := 46) rfl)
theorem MT_16 : mW (MT 16).1 (MT 16).2.1 (MT 16).2.2.1 (MT 16).2.2.2 ∈ lw_tbl := tm_2 _ (List.mem_of_getElem? (i := 233) rfl)
theorem MT_17 : mW (MT 17).1 (MT 17).2.1 (MT 17).2.2.1 (MT 17).2.2.2 ∈ lw_tbl := tm_6 _ (List.mem_of_getElem? (i := 50) rfl)
theorem MT_18 : mW (MT 18).1 (MT 18).2.1 (MT 18).2.2.1 (MT 18).2.2.2 ∈ lw_tbl := tm_2 _ (List.mem_of_getElem? (i := 237) rfl)
theorem MT_19 : mW (MT 19).1 (MT 19).2.1 (MT 19).2.2.1 (MT 19).2.2.2 ∈ lw_tbl := tm_6 _ (List.mem_of_getElem? (i := 54) rfl)
theorem MT_20 : mW (MT 20).1 (MT 20).2.1 (MT 20).2.2.1 (MT 20).2.2.2 ∈ lw_tbl := tm_3 _ (List.mem_of_getElem? (i := 160) rfl)
theorem MT_21 : mW (MT 21).1 (MT 21).2.1 (MT 21).2.2.1 (MT 21).2.2.2 ∈ lw_tbl := tm_7 _ (List.mem_of_getElem? (i := 38) rfl)
theorem MT_22 : mW (MT 22).1 (MT 22).2.1 (MT 22).2.2.1 (MT 22).2.2.2 ∈ lw_tbl := tm_3 _ (List.mem_of_getElem? (i := 164) rfl)
theorem MT_23 : mW (MT 23).1 (MT 23).2.1 (MT 23).2.2.1 (MT 23).2.2.2 ∈ lw_tbl := tm_6 _ (List.mem_of_getElem? (i := 166) rfl)
theorem MT_24 : mW (MT 24).1 (MT 24).2.1 (MT 24).2.2.1 (MT 24).2.2.2 ∈ lw_tbl := tm_4 _ (List.mem_of_getElem? (i := 8) rfl)
theorem MT_25 : mW (MT 25).1 (MT 25).2.1 (MT 25).2.2.1 (MT 25).2.2.2 ∈ lw_tbl := tm_7 _ (List.mem_of_getElem? (i := 30) rfl)
theorem MT_26 : mW (MT 26).1 (MT 26).2.1 (MT 26).2.2.1 (MT 26).2.2.2 ∈ lw_tbl := tm_4 _ (List.mem_of_getElem? (i := 13) rfl)
theorem MT_27 : mW (MT 27).1 (MT 27).2.1 (MT 27).2.2.1 (MT 27).2.2.2 ∈ lw_tbl := tm_7 _ (List.mem_of_getElem? (i := 42) rfl)
theorem MT_28 : mW (MT 28).1 (MT 28).2.1 (MT 28).2.2.1 (MT 28).2.2.2 ∈ lw_tbl := tm_4 _ (List.mem_of_getElem? (i := 32) rfl)
theorem MT_29 : mW (MT 29).1 (MT 29).2.1 (MT 29).2.2.1 (MT 29).2.2.2 ∈ lw_tbl := tm_7 _ (List.mem_of_getElem? (i := 58) rfl)
theorem MT_30 : mW (MT 30).1 (MT 30).2.1 (MT 30).2.2.1 (MT 30).2.2.2 ∈ lw_tbl := tm_4 _ (List.mem_of_getElem? (i := 36) rfl)
theorem MT_31 : mW (MT 31).1 (MT 31).2.1 (MT 31).2.2.1 (MT 31).2.2.2 ∈ lw_tbl := tm_6 _ (List.mem_of_getElem? (i := 118) rfl)
theorem MT_32 : mW (MT 32).1 (MT 32).2.1 (MT 32).2.2.1 (MT 32).2.2.2 ∈ lw_tbl := tm_4 _ (List.mem_of_getElem? (i := 44) rfl)
theorem MT_33 : mW (MT 33).1 (MT 33).2.1 (MT 33).2.2.1 (MT 33).2.2.2 ∈ lw_tbl := tm_7 _ (List.mem_of_getElem? (i := 66) rfl)
theorem MT_34 : mW (MT 34).1 (MT 34).2.1 (MT 34).2.2.1 (MT 34).2.2.2 ∈ lw_tbl := tm_4 _ (List.mem_of_getElem? (i := 58) rfl)
theorem MT_35 : mW (MT 35).1 (MT 35).2.1 (MT 35).2.2.1 (MT 35).2.2.2 ∈ lw_tbl := tm_7 _ (List.mem_of_getElem? (i := 70) rfl)
theorem MT_36 : mW (MT 36).1 (MT 36).2.1 (MT 36).2.2.1 (MT 36).2.2.2 ∈ lw_tbl := tm_4 _ (List.mem_of_getElem? (i := 64) rfl)
theorem MT_37 : mW (MT 37).1 (MT 37).2.1 (MT 37).2.2.1 (MT 37).2.2.2 ∈ lw_tbl := tm_7 _ (List.mem_of_getElem? (i := 74) rfl)
theorem MT_38 : mW (MT 38).1 (MT 38).2.1 (MT 38).2.2.1 (MT 38).2.2.2 ∈ lw_tbl := tm_4 _ (List.mem_of_getElem? (i := 68) rfl)
theorem MT_39 : mW (MT 39).1 (MT 39).2.1 (MT 39).2.2.1 (MT 39).2.2.2 ∈ lw_tbl := tm_7 _ (List.mem_of_getElem? (i := 82) rfl)
theorem MT_40 : mW (MT 40).1 (MT 40).2.1 (MT 40).2.2.1 (MT 40).2.2.2 ∈ lw_tbl := tm_4 _ (List.mem_of_getElem? (i := 76) rfl)
theorem MT_41 : mW (MT 41).1 (MT 41).2.1 (MT 41).2.2.1 (MT 41).2.2.2 ∈ lw_tbl := tm_7 _ (List.mem_of_getElem? (i := 90) rfl)
theorem MT_42 : mW (MT 42).1 (MT 42).2.1 (MT 42).2.2.1 (MT 42).2.2.2 ∈ lw_tbl := tm_4 _ (List.mem_of_getElem? (i := 80) rfl)
theorem MT_43 : mW (MT 43).1 (MT 43).2.1 (MT 43).2.2.1 (MT 43).2.2.2 ∈ lw_tbl := tm_7 _ (List.mem_of_getElem? (i := 94) rfl)
theorem MT_44 : mW (MT 44).1 (MT 44).2.1 (MT 44).2.2.1 (MT 44).2.2.2 ∈ lw_tbl := tm_4 _ (List.mem_of_getElem? (i := 93) rfl)
theorem MT_45 : mW (MT 45).1 (MT 45).2.1 (MT 45).2.2.1 (MT 45).2.2.2 ∈ lw_tbl := tm_7 _ (List.mem_of_getElem? (i := 98) rfl)
theorem MT_46 : mW (MT 46).1 (MT 46).2.1 (MT 46).2.2.1 (MT 46).2.2.2 ∈ lw_tbl := tm_4 _ (List.mem_of_getElem? (i := 102) rfl)
theorem MT_47 : mW (MT 47).1 (MT 47).2.1 (MT 47).2.2.1 (MT 47).2.2.2 ∈ lw_tbl := tm_7 _ (List.mem_of_getElem? (i := 106) rfl)
theorem MT_48 : mW (MT 48).1 (MT 48).2.1 (MT 48).2.2.1 (MT 48).2.2.2 ∈ lw_tbl := tm_4 _ (List.mem_of_getElem? (i := 106) rfl)
theorem MT_49 : mW (MT 49).1 (MT 49).2.1 (MT 49).2.2.1 (MT 49).2.2.2 ∈ lw_tbl := tm_6 _ (List.mem_of_getElem? (i := 162) rfl)
theorem MT_50 : mW (MT 50).1 (MT 50).2.1 (MT 50).2.2.1 (MT 50).2.2.2 ∈ lw_tbl := tm_4 _ (List.mem_of_getElem? (i := 114) rfl)
theorem MT_51 : mW (MT 51).1 (MT 51).2.1 (MT 51).2.2.1 (MT 51).2.2.2 ∈ lw_tbl := tm_7 _ (List.mem_of_getElem? (i := 110) rfl)
theorem MT_52 : mW (MT 52).1 (MT 52).2.1 (MT 52).2.2.1 (MT 52).2.2.2 ∈ lw_tbl := tm_4 _ (List.mem_of_getElem? (i := 122) rfl)
theorem MT_53 : mW (MT 53).1 (MT 53).2.1 (MT 53).2.2.1 (MT 53).2.2.2 ∈ lw_tbl := tm_7 _ (List.mem_of_getElem? (i := 123) rfl)
theorem MT_54 : mW (MT 54).1 (MT 54).2.1 (MT 54).2.2.1 (MT 54).2.2.2 ∈ lw_tbl := tm_4 _ (List.mem_of_getElem? (i := 126) rfl)
theorem MT_55 : mW (MT 55).1 (MT 55).2.1 (MT 55).2.2.1 (MT 55).2.2.2 ∈ lw_tbl := tm_7 _ (List.mem_of_getElem? (i := 127) rfl)
theorem MT_56 : mW (MT 56).1 (MT 56).2.1 (MT 56).2.2.1 (MT 56).2.2.2 ∈ lw_tbl := tm_4 _ (List.mem_of_getElem? (i := 130) rfl)
theorem MT_57 : mW (MT 57).1 (MT 57).2.1 (MT 57).2.2.1 (MT 57).2.2.2 ∈ lw_tbl := tm_7 _ (List.mem_of_getElem? (i := 131) rfl)
theorem MT_58 : mW (MT 58).1 (MT 58).2.1 (MT 58).2.2.1 (MT 58).2.2.2 ∈ lw_tbl := tm_4 _ (List.mem_of_getElem? (i := 134) rfl)
theorem MT_59 : mW (MT 59).1 (MT 59).2.1 (MT 59).2.2.1 (MT 59).2.2.2 ∈ lw_tbl := tm_7 _ (List.mem_of_getElem? (i := 135) rfl)
theorem MT_60 : mW (MT 60).1 (MT 60).2.1 (MT 60).2.2.1 (MT 60).2.2.2 ∈ lw_tbl := tm_4 _ (List.mem_of_getElem? (i := 145) rfl)
theorem MT_61 : mW (MT 61).1 (MT 61).2.1 (MT 61).2.2.1 (MT 61).2.2.2 ∈ lw_tbl := tm_7 _ (List.mem_of_getElem? (i := 143) rfl)
theorem MT_62 : mW (MT 62).1 (MT 62).2.1 (MT 62).2.2.1 (MT 62).2.2.2 ∈ lw_tbl := tm_4 _ (List.mem_of_getElem? (i := 166) rfl)
theorem MT_63 : mW (MT 63).1 (MT 63).2.1 (MT 63).2.2.1 (MT 63).2.2.2 ∈ lw_tbl := tm_7 _ (List.mem_of_getElem? (i := 147) rfl)
theorem MT_64 : mW (MT 64).1 (MT 64).2.1 (MT 64).2.2.1 (MT 64).2.2.2 ∈ lw_tbl := tm_4 _ (List.mem_of_getElem? (i := 170) rfl)
theorem MT_65 : mW (MT 65).1 (MT 65).2.1 (MT 65).2.2.1 (MT 65).2.2.2 ∈ lw_tbl := tm_7 _ (List.mem_of_getElem? (i := 151) rfl)
theorem MT_66 : mW (MT 66).1 (MT 66).2.1 (MT 66).2.2.1 (MT 66).2.2.2 ∈ lw_tbl := tm_4 _ (List.mem_of_getElem? (i := 194) rfl)
theorem MT_67 : mW (MT 67).1 (MT 67).2.1 (MT 67).2.2.1 (MT 67).2.2.2 ∈ lw_tbl := tm_7 _ (List.mem_of_getElem? (i := 187) rfl)
theorem MT_68 : mW (MT 68).1 (MT 68).2.1 (MT 68).2.2.1 (MT 68).2.2.2 ∈ lw_tbl := tm_4 _ (List.mem_of_getElem? (i := 198) rfl)
theorem MT_69 : mW (MT 69).1 (MT 69).2.1 (MT 69).2.2.1 (MT 69).2.2.2 ∈ lw_tbl := tm_7 _ (List.mem_of_getElem? (i := 191) rfl)
theorem MT_70 : mW (MT 70).1 (MT 70).2.1 (MT 70).2.2.1 (MT 70).2.2.2 ∈ lw_tbl := tm_4 _ (List.mem_of_getElem? (i := 203) rfl)
theorem MT_71 : mW (MT 71).1 (MT 71).2.1 (MT 71).2.2.1 (MT 71).2.2.2 ∈ lw_tbl := tm_7 _ (List.mem_of_getElem? (i := 195) rfl)
theorem MT_72 : mW (MT 72).1 (MT 72).2.1 (MT 72).2.2.1 (MT 72).2.2.2 ∈ lw_tbl := tm_4 _ (List.mem_of_getElem? (i := 207) rfl)
theorem MT_73 : mW (MT 73).1 (MT 73).2.1 (MT 73).2.2.1 (MT 73).2.2.2 ∈ lw_tbl := tm_7 _ (List.mem_of_getElem? (i := 199) rfl)
theorem MT_74 : mW (MT 74).1 (MT 74).2.1 (MT 74).2.2.1 (MT 74).2.2.2 ∈ lw_tbl := tm_4 _ (List.mem_of_getElem? (i := 218) rfl)
theorem MT_75 : mW (MT 75).1 (MT 75).2.1 (MT 75).2.2.1 (MT 75).2.2.2 ∈ lw_tbl := tm_7 _ (List.mem_of_getElem? (i := 203) rfl)
theorem MT_76 : mW (MT 76).1 (MT 76).2.1 (MT 76).2.2.1 (MT 76).2.2.2 ∈ lw_tbl := tm_4 _ (List.mem_of_getElem? (i := 226) rfl)
theorem MT_77 : mW (MT 77).1 (MT 77).2.1 (MT 77).2.2.1 (MT 77).2.2.2 ∈ lw_tbl := tm_7 _ (List.mem_of_getElem? (i := 211) rfl)
theorem MT_78 : mW (MT 78).1 (MT 78).2.1 (MT 78).2.2.1 (MT 78).2.2.2 ∈ lw_tbl := tm_4 _ (List.mem_of_getElem? (i := 230) rfl)
theorem MT_79 : mW (MT 79).1 (MT 79).2.1 (MT 79).2.2.1 (MT 79).2.2.2 ∈ lw_tbl := tm_7 _ (List.mem_of_getElem? (i := 215) rfl)
theorem MT_80 : mW (MT 80).1 (MT 80).2.1 (MT 80).2.2.1 (MT 80).2.2.2 ∈ lw_tbl := tm_2 _ (List.mem_of_getElem? (i := 22) rfl)
theorem MT_81 : mW (MT 81).1 (MT 81).2.1 (MT 81).2.2.1 (MT 81).2.2.2 ∈ lw_tbl := tm_2 _ (List.mem_of_getElem? (i := 24) rfl)
theorem MT_82 : mW (MT 82).1 (MT 82).2.1 (MT 82).2.2.1 (MT 82).2.2.2 ∈ lw_tbl := tm_4 _ (List.mem_of_getElem? (i := 178) rfl)
theorem MT_83 : mW (MT 83).1 (MT 83).2.1 (MT 83).2.2.1 (MT 83).2.2.2 ∈ lw_tbl := tm_4 _ (List.mem_of_getElem? (i := 183) rfl)
theorem MT_84 : mW (MT 84).1 (MT 84).2.1 (MT 84).2.2.1 (MT 84).2.2.2 ∈ lw_tbl := tm_4 _ (List.mem_of_getElem? (i := 186) rfl)
theorem MT_85 : mW (MT 85).1 (MT 85).2.1 (MT 85).2.2.1 (MT 85).2.2.2 ∈ lw_tbl := tm_4 _ (List.mem_of_getElem? (i := 193) rfl)
theorem MT_86 : mW (MT 86).1 (MT 86).2.1 (MT 86).2.2.1 (MT 86).2.2.2 ∈ lw_tbl := tm_4 _ (List.mem_of_getElem? (i := 190) rfl)
theorem MT_87 : mW (MT 87).1 (MT 87).2.1 (MT 87).2.2.1 (MT 87).2.2.2 ∈ lw_tbl := tm_1 _ (List.mem_of_getElem? (i := 115) rfl)
theorem MT_88 : mW (MT 88).1 (MT 88).2.1 (MT 88).2.2.1 (MT 88).2.2.2 ∈ lw_tbl := tm_1 _ (List.mem_of_getElem? (i := 118) rfl)
theorem MT_89 : mW (MT 89).1 (MT 89).2.1 (MT 89).2.2.1 (MT 89).2.2.2 ∈ lw_tbl := tm_2 _ (List.mem_of_getElem? (i := 146) rfl)
theorem MT_90 : mW (MT 90).1 (MT 90).2.1 (MT 90).2.2.1 (MT 90).2.2.2 ∈ lw_tbl := tm_2 _ (List.mem_of_getElem? (i := 147) rfl)
theorem MT_91 : mW (MT 91).1 (MT 91).2.1 (MT 91).2.2.1 (MT 91).2.2.2 ∈ lw_tbl := tm_2 _ (List.mem_of_getElem? (i := 125) rfl)
theorem MT_92 : mW (MT 92).1 (MT 92).2.1 (MT 92).2.2.1 (MT 92).2.2.2 ∈ lw_tbl := tm_4 _ (List.mem_of_getElem? (i := 157) rfl)
theorem MT_93 : mW (MT 93).1 (MT 93).2.1 (MT 93).2.2.1 (MT 93).2.2.2 ∈ lw_tbl := tm_2 _ (List.mem_of_getElem? (i := 133) rfl)
theorem MT_94 : mW (MT 94).1 (MT 94).2.1 (MT 94).2.2.1 (MT 94).2.2.2 ∈ lw_tbl := tm_2 _ (List.mem_of_getElem? (i := 121) rfl)
theorem MT_95 : mW (MT 95).1 (MT 95).2.1 (MT 95).2.2.1 (MT 95).2.2.2 ∈ lw_tbl := tm_2 _ (List.mem_of_getElem? (i := 129) rfl)
theorem MT_96 : mW (MT 96).1 (MT 96).2.1 (MT 96).2.2.1 (MT 96).2.2.2 ∈ lw_tbl := tm_2 _ (List.mem_of_getElem? (i := 117) rfl)
theorem MT_97 : mW (MT 97).1 (MT 97).2.1 (MT 97).2.2.1 (MT 97).2.2.2 ∈ lw_tbl := tm_2 _ (List.mem_of_getElem? (i := 134) rfl)
theorem MT_98 : mW (MT 98).1 (MT 98).2.1 (MT 98).2.2.1 (MT 98).2.2.2 ∈ lw_tbl := tm_3 _ (List.mem_of_getElem? (i := 178) rfl)
theorem MT_99 : mW (MT 99).1 (MT 99).2.1 (MT 99).2.2.1 (MT 99).2.2.2 ∈ lw_tbl := tm_3 _ (List.mem_of_getElem? (i := 181) rfl)
theorem MT_100 : mW (MT 100).1 (MT 100).2.1 (MT 100).2.2.1 (MT 100).2.2.2 ∈ lw_tbl := tm_3 _ (List.mem_of_getElem? (i := 185) rfl)
theorem MT_101 : mW (MT 101).1 (MT 101).2.1 (MT 101).2.2.1 (MT 101).2.2.2 ∈ lw_tbl := tm_3 _ (List.mem_of_getElem? (i := 186) rfl)
theorem MT_102 : mW (MT 102).1 (MT 102).2.1 (MT 102).2.2.1 (MT 102).2.2.2 ∈ lw_tbl := tm_3 _ (List.mem_of_getElem? (i := 187) rfl)
theorem MT_103 : mW (MT 103).1 (MT 103).2.1 (MT 103).2.2.1 (MT 103).2.2.2 ∈ lw_tbl := tm_1 _ (List.mem_of_getElem? (i := 109) rfl)
theorem MT_104 : mW (MT 104).1 (MT 104).2.1 (MT 104).2.2.1 (MT 104).2.2.2 ∈ lw_tbl := tm_1 _ (List.mem_of_getElem? (i := 112) rfl)
theorem MT_105 : mW (MT 105).1 (MT 105).2.1 (MT 105).2.2.1 (MT 105).2.2.2 ∈ lw_tbl := tm_1 _ (List.mem_of_getElem? (i := 150) rfl)
theorem MT_106 : mW (MT 106).1 (MT 106).2.1 (MT 106).2.2.1 (MT 106).2.2.2 ∈ lw_tbl := tm_1 _ (List.mem_of_getElem? (i := 183) rfl)
theorem MT_107 : mW (MT 107).1 (MT 107).2.1 (MT 107).2.2.1 (MT 107).2.2.2 ∈ lw_tbl := tm_1 _ (List.mem_of_getElem? (i := 185) rfl)
theorem MT_108 : mW (MT 108).1 (MT 108).2.1 (MT 108).2.2.1 (MT 108).2.2.2 ∈ lw_tbl := tm_1 _ (List.mem_of_getElem? (i := 187) rfl)
theorem MT_109 : mW (MT 109).1 (MT 109).2.1 (MT 109).2.2.1 (MT 109).2.2.2 ∈ lw_tbl := tm_2 _ (List.mem_of_getElem? (i := 190) rfl)
theorem MT_110 : mW (MT 110).1 (MT 110).2.1 (MT 110).2.2.1 (MT 110).2.2.2 ∈ lw_tbl := tm_2 _ (List.mem_of_getElem? (i := 175) rfl)
theorem MT_111 : mW (MT 111).1 (MT 111).2.1 (MT 111).2.2.1 (MT 111).2.2.2 ∈ lw_tbl := tm_4 _ (List.mem_of_getElem? (i := 88) rfl)
theorem MT_112 : mW (MT 112).1 (MT 112).2.1 (MT 112).2.2.1 (MT 112).2.2.2 ∈ lw_tbl := tm_3 _ (List.mem_of_getElem? (i := 236) rfl)
theorem MT_113 : mW (MT 113).1 (MT 113).2.1 (MT 113).2.2.1 (MT 113).2.2.2 ∈ lw_tbl := tm_4 _ (List.mem_of_getElem? (i := 153) rfl)
theorem MT_114 : mW (MT 114).1 (MT 114).2.1 (MT 114).2.2.1 (MT 114).2.2.2 ∈ lw_tbl := tm_4 _ (List.mem_of_getElem? (i := 158) rfl)
theorem MT_115 : mW (MT 115).1 (MT 115).2.1 (MT 115).2.2.1 (MT 115).2.2.2 ∈ lw_tbl := tm_4 _ (List.mem_of_getElem? (i := 164) rfl)
theorem MT_116 : mW (MT 116).1 (MT 116).2.1 (MT 116).2.2.1 (MT 116).2.2.2 ∈ lw_tbl := tm_4 _ (List.mem_of_getElem? (i := 165) rfl)
theorem MT_117 : mW (MT 117).1 (MT 117).2.1 (MT 117).2.2.1 (MT 117).2.2.2 ∈ lw_tbl := tm_2 _ (List.mem_of_getElem? (i := 195) rfl)
theorem MT_118 : mW (MT 118).1 (MT 118).2.1 (MT 118).2.2.1 (MT 118).2.2.2 ∈ lw_tbl := tm_3 _ (List.mem_of_getElem? (i := 172) rfl)
theorem MT_119 : mW (MT 119).1 (MT 119).2.1 (MT 119).2.2.1 (MT 119).2.2.2 ∈ lw_tbl := tm_3 _ (List.mem_of_getElem? (i := 173) rfl)
theorem MT_120 : mW (MT 120).1 (MT 120).2.1 (MT 120).2.2.1 (MT 120).2.2.2 ∈ lw_tbl := tm_3 _ (List.mem_of_getElem? (i := 174) rfl)
theorem MT_121 : mW (MT 121).1 (MT 121).2.1 (MT 121).2.2.1 (MT 121).2.2.2 ∈ lw_tbl := tm_4 _ (List.mem_of_getElem? (i := 101) rfl)
theorem MT_122 : mW (MT 122).1 (MT 122).2.1 (MT 122).2.2.1 (MT 122).2.2.2 ∈ lw_tbl := tm_2 _ (List.mem_of_getElem? (i := 211) rfl)
theorem MT_123 : mW (MT 123).1 (MT 123).2.1 (MT 123).2.2.1 (MT 123).2.2.2 ∈ lw_tbl := tm_2 _ (List.mem_of_getElem? (i := 212) rfl)
theorem MT_124 : mW (MT 124).1 (MT 124).2.1 (MT 124).2.2.1 (MT 124).2.2.2 ∈ lw_tbl := tm_2 _ (List.mem_of_getElem? (i := 220) rfl)
theorem MT_125 : mW (MT 125).1 (MT 125).2.1 (MT 125).2.2.1 (MT 125).2.2.2 ∈ lw_tbl := tm_2 _ (List.mem_of_getElem? (i := 221) rfl)
theorem MT_126 : mW (MT 126).1 (MT 126).2.1 (MT 126).2.2.1 (MT 126).2.2.2 ∈ lw_tbl := tm_3 _ (List.mem_of_getElem? (i := 204) rfl)
theorem MT_127 : mW (MT 127).1 (MT 127).2.1 (MT 127).2.2.1 (MT 127).2.2.2 ∈ lw_tbl := tm_3 _ (List.mem_of_getElem? (i := 199) rfl)
theorem MT_128 : mW (MT 128).1 (MT 128).2.1 (MT 128).2.2.1 (MT 128).2.2.2 ∈ lw_tbl := tm_3 _ (List.mem_of_getElem? (i := 200) rfl)
theorem MT_129 : mW (MT 129).1 (MT 129).2.1 (MT 129).2.2.1 (MT 129).2.2.2 ∈ lw_tbl := tm_4 _ (List.mem_of_getElem? (i := 31) rfl)
theorem MT_130 : mW (MT 130).1 (MT 130).2.1 (MT 130).2.2.1 (MT 130).2.2.2 ∈ lw_tbl := tm_3 _ (List.mem_of_getElem? (i := 195) rfl)
theorem MT_131 : mW (MT 131).1 (MT 131).2.1 (MT 131).2.2.1 (MT 131).2.2.2 ∈ lw_tbl := tm_3 _ (List.mem_of_getElem? (i := 207) rfl)
theorem MT_132 : mW (MT 132).1 (MT 132).2.1 (MT 132).2.2.1 (MT 132).2.2.2 ∈ lw_tbl := tm_3 _ (List.mem_of_getElem? (i := 232) rfl)
theorem MT_133 : mW (MT 133).1 (MT 133).2.1 (MT 133).2.2.1 (MT 133).2.2.2 ∈ lw_tbl := tm_3 _ (List.mem_of_getElem? (i := 238) rfl)
theorem MT_134 : mW (MT 134).1 (MT 134).2.1 (MT 134).2.2.1 (MT 134).2.2.2 ∈ lw_tbl := tm_3 _ (List.mem_of_getElem? (i := 237) rfl)
theorem MT_135 : mW (MT 135).1 (MT 135).2.1 (MT 135).2.2.1 (MT 135).2.2.2 ∈ lw_tbl := tm_4 _ (List.mem_of_getElem? (i := 2) rfl)
theorem MT_136 : mW (MT 136).1 (MT 136).2.1 (MT 136).2.2.1 (MT 136).2.2.2 ∈ lw_tbl := tm_4 _ (List.mem_of_getElem? (i := 3) rfl)
theorem MT_137 : mW (MT 137).1 (MT 137).2.1 (MT 137).2.2.1 (MT 137).2.2.2 ∈ lw_tbl := tm_3 _ (List.mem_of_getElem? (i := 211) rfl)
theorem MT_138 : mW (MT 138).1 (MT 138).2.1 (MT 138).2.2.1 (MT 138).2.2.2 ∈ lw_tbl := tm_3 _ (List.mem_of_getElem? (i := 212) rfl)
theorem MT_139 : mW (MT 139).1 (MT 139).2.1 (MT 139).2.2.1 (MT 139).2.2.2 ∈ lw_tbl := tm_3 _ (List.mem_of_getElem? (i := 213) rfl)
theorem MT_140 : mW (MT 140).1 (MT 140).2.1 (MT 140).2.2.1 (MT 140).2.2.2 ∈ lw_tbl := tm_3 _ (List.mem_of_getElem? (i := 217) rfl)
theorem MT_141 : mW (MT 141).1 (MT 141).2.1 (MT 141).2.2.1 (MT 141).2.2.2 ∈ lw_tbl := tm_3 _ (List.mem_of_getElem? (i := 220) rfl)
theorem MT_142 : mW (MT 142).1 (MT 142).2.1 (MT 142).2.2.1 (MT 142).2.2.2 ∈ lw_tbl := tm_3 _ (List.mem_of_getElem? (i := 231) rfl)
theorem MT_143 : mW (MT 143).1 (MT 143).2.1 (MT 143).2.2.1 (MT 143).2.2.2 ∈ lw_tbl := tm_3 _ (List.mem_of_getElem? (i := 224) rfl)
theorem MT_144 : mW (MT 144).1 (MT 144).2.1 (MT 144).2.2.1 (MT 144).2.2.2 ∈ lw_tbl := tm_3 _ (List.mem_of_getElem? (i := 225) rfl)
theorem MT_145 : mW (MT 145).1 (MT 145).2.1 (MT 145).2.2.1 (MT 145).2.2.2 ∈ lw_tbl := tm_1 _ (List.mem_of_getElem? (i := 34) rfl)
theorem MT_146 : mW (MT 146).1 (MT 146).2.1 (MT 146).2.2.1 (MT 146).2.2.2 ∈ lw_tbl := tm_1 _ (List.mem_of_getElem? (i := 35) rfl)
theorem MT_147 : mW (MT 147).1 (MT 147).2.1 (MT 147).2.2.1 (MT 147).2.2.2 ∈ lw_tbl := tm_2 _ (List.mem_of_getElem? (i := 151) rfl)
theorem MT_148 : mW (MT 148).1 (MT 148).2.1 (MT 148).2.2.1 (MT 148).2.2.2 ∈ lw_tbl := tm_2 _ (List.mem_of_getElem? (i := 154) rfl)
theorem MT_149 : mW (MT 149).1 (MT 149).2.1 (MT 149).2.2.1 (MT 149).2.2.2 ∈ lw_tbl := tm_1 _ (List.mem_of_getElem? (i := 190) rfl)
theorem MT_150 : mW (MT 150).1 (MT 150).2.1 (MT 150).2.2.1 (MT 150).2.2.2 ∈ lw_tbl := tm_2 _ (List.mem_of_getElem? (i := 179) rfl)
theorem MT_151 : mW (MT 151).1 (MT 151).2.1 (MT 151).2.2.1 (MT 151).2.2.2 ∈ lw_tbl := tm_4 _ (List.mem_of_getElem? (i := 162) rfl)
theorem MT_152 : mW (MT 152).1 (MT 152).2.1 (MT 152).2.2.1 (MT 152).2.2.2 ∈ lw_tbl := tm_4 _ (List.mem_of_getElem? (i := 163) rfl)
theorem MT_153 : mW (MT 153).1 (MT 153).2.1 (MT 153).2.2.1 (MT 153).2.2.2 ∈ lw_tbl := tm_1 _ (List.mem_of_getElem? (i := 57) rfl)
theorem MT_154 : mW (MT 154).1 (MT 154).2.1 (MT 154).2.2.1 (MT 154).2.2.2 ∈ lw_tbl := tm_1 _ (List.mem_of_getElem? (i := 59) rfl)
theorem MT_155 : mW (MT 155).1 (MT 155).2.1 (MT 155).2.2.1 (MT 155).2.2.2 ∈ lw_tbl := tm_1 _ (List.mem_of_getElem? (i := 62) rfl)
theorem MT_156 : mW (MT 156).1 (MT 156).2.1 (MT 156).2.2.1 (MT 156).2.2.2 ∈ lw_tbl := tm_3 _ (List.mem_of_getElem? (i := 5) rfl)
theorem MT_157 : mW (MT 157).1 (MT 157).2.1 (MT 157).2.2.1 (MT 157).2.2.2 ∈ lw_tbl := tm_3 _ (List.mem_of_getElem? (i := 9) rfl)
theorem MT_158 : mW (MT 158).1 (MT 158).2.1 (MT 158).2.2.1 (MT 158).2.2.2 ∈ lw_tbl := tm_3 _ (List.mem_of_getElem? (i := 70) rfl)
theorem MT_159 : mW (MT 159).1 (MT 159).2.1 (MT 159).2.2.1 (MT 159).2.2.2 ∈ lw_tbl := tm_3 _ (List.mem_of_getElem? (i := 13) rfl)
theorem MT_160 : mW (MT 160).1 (MT 160).2.1 (MT 160).2.2.1 (MT 160).2.2.2 ∈ lw_tbl := tm_3 _ (List.mem_of_getElem? (i := 18) rfl)
theorem MT_161 : mW (MT 161).1 (MT 161).2.1 (MT 161).2.2.1 (MT 161).2.2.2 ∈ lw_tbl := tm_3 _ (List.mem_of_getElem? (i := 74) rfl)
theorem MT_162 : mW (MT 162).1 (MT 162).2.1 (MT 162).2.2.1 (MT 162).2.2.2 ∈ lw_tbl := tm_3 _ (List.mem_of_getElem? (i := 82) rfl)
theorem MT_163 : mW (MT 163).1 (MT 163).2.1 (MT 163).2.2.1 (MT 163).2.2.2 ∈ lw_tbl := tm_3 _ (List.mem_of_getElem? (i := 147) rfl)
theorem MT_164 : mW (MT 164).1 (MT 164).2.1 (MT 164).2.2.1 (MT 164).2.2.2 ∈ lw_tbl := tm_3 _ (List.mem_of_getElem? (i := 78) rfl)
theorem MT_165 : mW (MT 165).1 (MT 165).2.1 (MT 165).2.2.1 (MT 165).2.2.2 ∈ lw_tbl := tm_3 _ (List.mem_of_getElem? (i := 87) rfl)
theorem MT_166 : mW (MT 166).1 (MT 166).2.1 (MT 166).2.2.1 (MT 166).2.2.2 ∈ lw_tbl := tm_3 _ (List.mem_of_getElem? (i := 152) rfl)
theorem MT_167 : mW (MT 167).1 (MT 167).2.1 (MT 167).2.2.1 (MT 167).2.2.2 ∈ lw_tbl := tm_3 _ (List.mem_of_getElem? (i := 91) rfl)
theorem MT_168 : mW (MT 168).1 (MT 168).2.1 (MT 168).2.2.1 (MT 168).2.2.2 ∈ lw_tbl := tm_3 _ (List.mem_of_getElem? (i := 22) rfl)
theorem MT_169 : mW (MT 169).1 (MT 169).2.1 (MT 169).2.2.1 (MT 169).2.2.2 ∈ lw_tbl := tm_3 _ (List.mem_of_getElem? (i := 32) rfl)
theorem MT_170 : mW (MT 170).1 (MT 170).2.1 (MT 170).2.2.1 (MT 170).2.2.2 ∈ lw_tbl := tm_1 _ (List.mem_of_getElem? (i := 153) rfl)
theorem MT_171 : mW (MT 171).1 (MT 171).2.1 (MT 171).2.2.1 (MT 171).2.2.2 ∈ lw_tbl := tm_1 _ (List.mem_of_getElem? (i := 155) rfl)
theorem MT_172 : mW (MT 172).1 (MT 172).2.1 (MT 172).2.2.1 (MT 172).2.2.2 ∈ lw_tbl := tm_4 _ (List.mem_of_getElem? (i := 7) rfl)
theorem MT_173 : mW (MT 173).1 (MT 173).2.1 (MT 173).2.2.1 (MT 173).2.2.2 ∈ lw_tbl := tm_4 _ (List.mem_of_getElem? (i := 25) rfl)
theorem MT_174 : mW (MT 174).1 (MT 174).2.1 (MT 174).2.2.1 (MT 174).2.2.2 ∈ lw_tbl := tm_4 _ (List.mem_of_getElem? (i := 26) rfl)
theorem MT_175 : mW (MT 175).1 (MT 175).2.1 (MT 175).2.2.1 (MT 175).2.2.2 ∈ lw_tbl := tm_1 _ (List.mem_of_getElem? (i := 65) rfl)
theorem MT_176 : mW (MT 176).1 (MT 176).2.1 (MT 176).2.2.1 (MT 176).2.2.2 ∈ lw_tbl := tm_3 _ (List.mem_of_getElem? (i := 156) rfl)
theorem MT_177 : mW (MT 177).1 (MT 177).2.1 (MT 177).2.2.1 (MT 177).2.2.2 ∈ lw_tbl := tm_2 _ (List.mem_of_getElem? (i := 199) rfl)
theorem MT_178 : mW (MT 178).1 (MT 178).2.1 (MT 178).2.2.1 (MT 178).2.2.2 ∈ lw_tbl := tm_2 _ (List.mem_of_getElem? (i := 200) rfl)
theorem MT_179 : mW (MT 179).1 (MT 179).2.1 (MT 179).2.2.1 (MT 179).2.2.2 ∈ lw_tbl := tm_2 _ (List.mem_of_getElem? (i := 203) rfl)
theorem MT_180 : mW (MT 180).1 (MT 180).2.1 (MT 180).2.2.1 (MT 180).2.2.2 ∈ lw_tbl := tm_2 _ (List.mem_of_getElem? (i := 206) rfl)
theorem MT_181 : mW (MT 181).1 (MT 181).2.1 (MT 181).2.2.1 (MT 181).2.2.2 ∈ lw_tbl := tm_2 _ (List.mem_of_getElem? (i := 41) rfl)
theorem MT_182 : mW (MT 182).1 (MT 182).2.1 (MT 182).2.2.1 (MT 182).2.2.2 ∈ lw_tbl := tm_4 _ (List.mem_of_getElem? (i := 215) rfl)
theorem MT_183 : mW (MT 183).1 (MT 183).2.1 (MT 183).2.2.1 (MT 183).2.2.2 ∈ lw_tbl := tm_1 _ (List.mem_of_getElem? (i := 26) rfl)
theorem MT_184 : mW (MT 184).1 (MT 184).2.1 (MT 184).2.2.1 (MT 184).2.2.2 ∈ lw_tbl := tm_1 _ (List.mem_of_getElem? (i := 31) rfl)
theorem MT_185 : mW (MT 185).1 (MT 185).2.1 (MT 185).2.2.1 (MT 185).2.2.2 ∈ lw_tbl := tm_1 _ (List.mem_of_getElem? (i := 54) rfl)
theorem MT_186 : mW (MT 186).1 (MT 186).2.1 (MT 186).2.2.1 (MT 186).2.2.2 ∈ lw_tbl := tm_1 _ (List.mem_of_getElem? (i := 106) rfl)
theorem MT_187 : mW (MT 187).1 (MT 187).2.1 (MT 187).2.2.1 (MT 187).2.2.2 ∈ lw_tbl := tm_2 _ (List.mem_of_getElem? (i := 16) rfl)
theorem MT_188 : mW (MT 188).1 (MT 188).2.1 (MT 188).2.2.1 (MT 188).2.2.2 ∈ lw_tbl := tm_2 _ (List.mem_of_getElem? (i := 19) rfl)
theorem MT_189 : mW (MT 189).1 (MT 189).2.1 (MT 189).2.2.1 (MT 189).2.2.2 ∈ lw_tbl := tm_2 _ (List.mem_of_getElem? (i := 36) rfl)
theorem MT_190 : mW (MT 190).1 (MT 190).2.1 (MT 190).2.2.1 (MT 190).2.2.2 ∈ lw_tbl := tm_2 _ (List.mem_of_getElem? (i := 38) rfl)
theorem MT_191 : mW (MT 191).1 (MT 191).2.1 (MT 191).2.2.1 (MT 191).2.2.2 ∈ lw_tbl := tm_2 _ (List.mem_of_getElem? (i := 94) rfl)
theorem MT_192 : mW (MT 192).1 (MT 192).2.1 (MT 192).2.2.1 (MT 192).2.2.2 ∈ lw_tbl := tm_2 _ (List.mem_of_getElem? (i := 98) rfl)
theorem MT_193 : mW (MT 193).1 (MT 193).2.1 (MT 193).2.2.1 (MT 193).2.2.2 ∈ lw_tbl := tm_2 _ (List.mem_of_getElem? (i := 101) rfl)
theorem MT_194 : mW (MT 194).1 (MT 194).2.1 (MT 194).2.2.1 (MT 194).2.2.2 ∈ lw_tbl := tm_2 _ (List.mem_of_getElem? (i := 105) rfl)
theorem MT_195 : mW (MT 195).1 (MT 195).2.1 (MT 195).2.2.1 (MT 195).2.2.2 ∈ lw_tbl := tm_2 _ (List.mem_of_getElem? (i := 113) rfl)
theorem MT_196 : mW (MT 196).1 (MT 196).2.1 (MT 196).2.2.1 (MT 196).2.2.2 ∈ lw_tbl := tm_2 _ (List.mem_of_getElem? (i := 138) rfl)
theorem MT_197 : mW (MT 197).1 (MT 197).2.1 (MT 197).2.2.1 (MT 197).2.2.2 ∈ lw_tbl := tm_2 _ (List.mem_of_getElem? (i := 142) rfl)
theorem MT_198 : mW (MT 198).1 (MT 198).2.1 (MT 198).2.2.1 (MT 198).2.2.2 ∈ lw_tbl := tm_2 _ (List.mem_of_getElem? (i := 161) rfl)
theorem MT_199 : mW (MT 199).1 (MT 199).2.1 (MT 199).2.2.1 (MT 199).2.2.2 ∈ lw_tbl := tm_2 _ (List.mem_of_getElem? (i := 166) rfl)
theorem MT_200 : mW (MT 200).1 (MT 200).2.1 (MT 200).2.2.1 (MT 200).2.2.2 ∈ lw_tbl := tm_2 _ (List.mem_of_getElem? (i := 171) rfl)
theorem MT_201 : mW (MT 201).1 (MT 201).2.1 (MT 201).2.2.1 (MT 201).2.2.2 ∈ lw_tbl := tm_2 _ (List.mem_of_getElem? (i := 186) rfl)
theorem MT_202 : mW (MT 202).1 (MT 202).2.1 (MT 202).2.2.1 (MT 202).2.2.2 ∈ lw_tbl := tm_2 _ (List.mem_of_getElem? (i := 191) rfl)
theorem MT_203 : mW (MT 203).1 (MT 203).2.1 (MT 203).2.2.1 (MT 203).2.2.2 ∈ lw_tbl := tm_2 _ (List.mem_of_getElem? (i := 207) rfl)
theorem MT_204 : mW (MT 204).1 (MT 204).2.1 (MT 204).2.2.1 (MT 204).2.2.2 ∈ lw_tbl := tm_2 _ (List.mem_of_getElem? (i := 216) rfl)
theorem MT_205 : mW (MT 205).1 (MT 205).2.1 (MT 205).2.2.1 (MT 205).2.2.2 ∈ lw_tbl := tm_3 _ (List.mem_of_getElem? (i := 1) rfl)
theorem MT_206 : mW (MT 206).1 (MT 206).2.1 (MT 206).2.2.1 (MT 206).2.2.2 ∈ lw_tbl := tm_3 _ (List.mem_of_getElem? (i := 168) rfl)
theorem MT_207 : mW (MT 207).1 (MT 207).2.1 (MT 207).2.2.1 (MT 207).2.2.2 ∈ lw_tbl := tm_3 _ (List.mem_of_getElem? (i := 191) rfl)
theorem MT_208 : mW (MT 208).1 (MT 208).2.1 (MT 208).2.2.1 (MT 208).2.2.2 ∈ lw_tbl := tm_4 _ (List.mem_of_getElem? (i := 12) rfl)
theorem MT_209 : mW (MT 209).1 (MT 209).2.1 (MT 209).2.2.1 (MT 209).2.2.2 ∈ lw_tbl := tm_4 _ (List.mem_of_getElem? (i := 17) rfl)
theorem MT_210 : mW (MT 210).1 (MT 210).2.1 (MT 210).2.2.1 (MT 210).2.2.2 ∈ lw_tbl := tm_4 _ (List.mem_of_getElem? (i := 27) rfl)
theorem MT_211 : mW (MT 211).1 (MT 211).2.1 (MT 211).2.2.1 (MT 211).2.2.2 ∈ lw_tbl := tm_4 _ (List.mem_of_getElem? (i := 40) rfl)
theorem MT_212 : mW (MT 212).1 (MT 212).2.1 (MT 212).2.2.1 (MT 212).2.2.2 ∈ lw_tbl := tm_4 _ (List.mem_of_getElem? (i := 41) rfl)
theorem MT_213 : mW (MT 213).1 (MT 213).2.1 (MT 213).2.2.1 (MT 213).2.2.2 ∈ lw_tbl := tm_4 _ (List.mem_of_getElem? (i := 42) rfl)
theorem MT_214 : mW (MT 214).1 (MT 214).2.1 (MT 214).2.2.1 (MT 214).2.2.2 ∈ lw_tbl := tm_4 _ (List.mem_of_getElem? (i := 43) rfl)
theorem MT_215 : mW (MT 215).1 (MT 215).2.1 (MT 215).2.2.1 (MT 215).2.2.2 ∈ lw_tbl := tm_4 _ (List.mem_of_getElem? (i := 48) rfl)
theorem MT_216 : mW (MT 216).1 (MT 216).2.1 (MT 216).2.2.1 (MT 216).2.2.2 ∈ lw_tbl := tm_4 _ (List.mem_of_getElem? (i := 53) rfl)
theorem MT_217 : mW (MT 217).1 (MT 217).2.1 (MT 217).2.2.1 (MT 217).2.2.2 ∈ lw_tbl := tm_4 _ (List.mem_of_getElem? (i := 62) rfl)
theorem MT_218 : mW (MT 218).1 (MT 218).2.1 (MT 218).2.2.1 (MT 218).2.2.2 ∈ lw_tbl := tm_4 _ (List.mem_of_getElem? (i := 63) rfl)
theorem MT_219 : mW (MT 219).1 (MT 219).2.1 (MT 219).2.2.1 (MT 219).2.2.2 ∈ lw_tbl := tm_3 _ (List.mem_of_getElem? (i := 216) rfl)
theorem MT_220 : mW (MT 220).1 (MT 220).2.1 (MT 220).2.2.1 (MT 220).2.2.2 ∈ lw_tbl := tm_4 _ (List.mem_of_getElem? (i := 21) rfl)
theorem MT_221 : mW (MT 221).1 (MT 221).2.1 (MT 221).2.2.1 (MT 221).2.2.2 ∈ lw_tbl := tm_4 _ (List.mem_of_getElem? (i := 72) rfl)
theorem MT_222 : mW (MT 222).1 (MT 222).2.1 (MT 222).2.2.1 (MT 222).2.2.2 ∈ lw_tbl := tm_4 _ (List.mem_of_getElem? (i := 84) rfl)
theorem MT_223 : mW (MT 223).1 (MT 223).2.1 (MT 223).2.2.1 (MT 223).2.2.2 ∈ lw_tbl := tm_4 _ (List.mem_of_getElem? (i := 89) rfl)
theorem MT_224 : mW (MT 224).1 (MT 224).2.1 (MT 224).2.2.1 (MT 224).2.2.2 ∈ lw_tbl := tm_4 _ (List.mem_of_getElem? (i := 97) rfl)
theorem MT_225 : mW (MT 225).1 (MT 225).2.1 (MT 225).2.2.1 (MT 225).2.2.2 ∈ lw_tbl := tm_4 _ (List.mem_of_getElem? (i := 110) rfl)
theorem MT_226 : mW (MT 226).1 (MT 226).2.1 (MT 226).2.2.1 (MT 226).2.2.2 ∈ lw_tbl := tm_4 _ (List.mem_of_getElem? (i := 119) rfl)
theorem MT_227 : mW (MT 227).1 (MT 227).2.1 (MT 227).2.2.1 (MT 227).2.2.2 ∈ lw_tbl := tm_4 _ (List.mem_of_getElem? (i := 138) rfl)
theorem MT_228 : mW (MT 228).1 (MT 228).2.1 (MT 228).2.2.1 (MT 228).2.2.2 ∈ lw_tbl := tm_4 _ (List.mem_of_getElem? (i := 141) rfl)
theorem MT_229 : mW (MT 229).1 (MT 229).2.1 (MT 229).2.2.1 (MT 229).2.2.2 ∈ lw_tbl := tm_4 _ (List.mem_of_getElem? (i := 149) rfl)
theorem MT_230 : mW (MT 230).1 (MT 230).2.1 (MT 230).2.2.1 (MT 230).2.2.2 ∈ lw_tbl := tm_4 _ (List.mem_of_getElem? (i := 174) rfl)
theorem MT_231 : mW (MT 231).1 (MT 231).2.1 (MT 231).2.2.1 (MT 231).2.2.2 ∈ lw_tbl := tm_4 _ (List.mem_of_getElem? (i := 179) rfl)
theorem MT_232 : mW (MT 232).1 (MT 232).2.1 (MT 232).2.2.1 (MT 232).2.2.2 ∈ lw_tbl := tm_4 _ (List.mem_of_getElem? (i := 202) rfl)
theorem MT_233 : mW (MT 233).1 (MT 233).2.1 (MT 233).2.2.1 (MT 233).2.2.2 ∈ lw_tbl := tm_4 _ (List.mem_of_getElem? (i := 211) rfl)
theorem MT_234 : mW (MT 234).1 (MT 234).2.1 (MT 234).2.2.1 (MT 234).2.2.2 ∈ lw_tbl := tm_4 _ (List.mem_of_getElem? (i := 222) rfl)
theorem MT_235 : mW (MT 235).1 (MT 235).2.1 (MT 235).2.2.1 (MT 235).2.2.2 ∈ lw_tbl := tm_4 _ (List.mem_of_getElem? (i := 234) rfl)
theorem MT_236 : mW (MT 236).1 (MT 236).2.1 (MT 236).2.2.1 (MT 236).2.2.2 ∈ lw_tbl := tm_4 _ (List.mem_of_getElem? (i := 238) rfl)
theorem MT_237 : mW (MT 237).1 (MT 237).2.1 (MT 237).2.2.1 (MT 237).2.2.2 ∈ lw_tbl := tm_4 _ (List.mem_of_getElem? (i := 52) rfl)
theorem MT_238 : mW (MT 238).1 (MT 238).2.1 (MT 238).2.2.1 (MT 238).2.2.2 ∈ lw_tbl := tm_4 _ (List.mem_of_getElem? (i := 57) rfl)
theorem MT_239 : mW (MT 239).1 (MT 239).2.1 (MT 239).2.2.1 (MT 239).2.2.2 ∈ lw_tbl := tm_5 _ (List.mem_of_getElem? (i := 4) rfl)
theorem MT_240 : mW (MT 240).1 (MT 240).2.1 (MT 240).2.2.1 (MT 240).2.2.2 ∈ lw_tbl := tm_6 _ (List.mem_of_getElem? (i := 134) rfl)
theorem MT_241 : mW (MT 241).1 (MT 241).2.1 (MT 241).2.2.1 (MT 241).2.2.2 ∈ lw_tbl := tm_6 _ (List.mem_of_getElem? (i := 2) rfl)
theorem MT_242 : mW (MT 242).1 (MT 242).2.1 (MT 242).2.2.1 (MT 242).2.2.2 ∈ lw_tbl := tm_6 _ (List.mem_of_getElem? (i := 10) rfl)
theorem MT_243 : mW (MT 243).1 (MT 243).2.1 (MT 243).2.2.1 (MT 243).2.2.2 ∈ lw_tbl := tm_6 _ (List.mem_of_getElem? (i := 18) rfl)
theorem MT_244 : mW (MT 244).1 (MT 244).2.1 (MT 244).2.2.1 (MT 244).2.2.2 ∈ lw_tbl := tm_6 _ (List.mem_of_getElem? (i := 26) rfl)
theorem MT_245 : mW (MT 245).1 (MT 245).2.1 (MT 245).2.2.1 (MT 245).2.2.2 ∈ lw_tbl := tm_6 _ (List.mem_of_getElem? (i := 42) rfl)
theorem MT_246 : mW (MT 246).1 (MT 246).2.1 (MT 246).2.2.1 (MT 246).2.2.2 ∈ lw_tbl := tm_6 _ (List.mem_of_getElem? (i := 70) rfl)
theorem MT_247 : mW (MT 247).1 (MT 247).2.1 (MT 247).2.2.1 (MT 247).2.2.2 ∈ lw_tbl := tm_6 _ (List.mem_of_getElem? (i := 78) rfl)
theorem MT_248 : mW (MT 248).1 (MT 248).2.1 (MT 248).2.2.1 (MT 248).2.2.2 ∈ lw_tbl := tm_6 _ (List.mem_of_getElem? (i := 102) rfl)
theorem MT_249 : mW (MT 249).1 (MT 249).2.1 (MT 249).2.2.1 (MT 249).2.2.2 ∈ lw_tbl := tm_6 _ (List.mem_of_getElem? (i := 106) rfl)
theorem MT_250 : mW (MT 250).1 (MT 250).2.1 (MT 250).2.2.1 (MT 250).2.2.2 ∈ lw_tbl := tm_6 _ (List.mem_of_getElem? (i := 94) rfl)
theorem MT_251 : mW (MT 251).1 (MT 251).2.1 (MT 251).2.2.1 (MT 251).2.2.2 ∈ lw_tbl := tm_6 _ (List.mem_of_getElem? (i := 98) rfl)
theorem MT_252 : mW (MT 252).1 (MT 252).2.1 (MT 252).2.2.1 (MT 252).2.2.2 ∈ lw_tbl := tm_6 _ (List.mem_of_getElem? (i := 110) rfl)
theorem MT_253 : mW (MT 253).1 (MT 253).2.1 (MT 253).2.2.1 (MT 253).2.2.2 ∈ lw_tbl := tm_6 _ (List.mem_of_getElem? (i := 90) rfl)
theorem MT_254 : mW (MT 254).1 (MT 254).2.1 (MT 254).2.2.1 (MT 254).2.2.2 ∈ lw_tbl := tm_6 _ (List.mem_of_getElem? (i := 114) rfl)
theorem MT_255 : mW (MT 255).1 (MT 255).2.1 (MT 255).2.2.1 (MT 255).2.2.2 ∈ lw_tbl := tm_6 _ (List.mem_of_getElem? (i := 74) rfl)
theorem MT_256 : mW (MT 256).1 (MT 256).2.1 (MT 256).2.2.1 (MT 256).2.2.2 ∈ lw_tbl := tm_6 _ (List.mem_of_getElem? (i := 82) rfl)
theorem MT_257 : mW (MT 257).1 (MT 257).2.1 (MT 257).2.2.1 (MT 257).2.2.2 ∈ lw_tbl := tm_6 _ (List.mem_of_getElem? (i := 66) rfl)
theorem MT_258 : mW (MT 258).1 (MT 258).2.1 (MT 258).2.2.1 (MT 258).2.2.2 ∈ lw_tbl := tm_6 _ (List.mem_of_getElem? (i := 86) rfl)
theorem MT_259 : mW (MT 259).1 (MT 259).2.1 (MT 259).2.2.1 (MT 259).2.2.2 ∈ lw_tbl := tm_6 _ (List.mem_of_getElem? (i := 62) rfl)
theorem MT_260 : mW (MT 260).1 (MT 260).2.1 (MT 260).2.2.1 (MT 260).2.2.2 ∈ lw_tbl := tm_6 _ (List.mem_of_getElem? (i := 58) rfl)
theorem MT_261 : mW (MT 261).1 (MT 261).2.1 (MT 261).2.2.1 (MT 261).2.2.2 ∈ lw_tbl := tm_6 _ (List.mem_of_getElem? (i := 30) rfl)
theorem MT_262 : mW (MT 262).1 (MT 262).2.1 (MT 262).2.2.1 (MT 262).2.2.2 ∈ lw_tbl := tm_6 _ (List.mem_of_getElem? (i := 34) rfl)
theorem MT_263 : mW (MT 263).1 (MT 263).2.1 (MT 263).2.2.1 (MT 263).2.2.2 ∈ lw_tbl := tm_6 _ (List.mem_of_getElem? (i := 206) rfl)
theorem MT_264 : mW (MT 264).1 (MT 264).2.1 (MT 264).2.2.1 (MT 264).2.2.2 ∈ lw_tbl := tm_6 _ (List.mem_of_getElem? (i := 202) rfl)
theorem MT_265 : mW (MT 265).1 (MT 265).2.1 (MT 265).2.2.1 (MT 265).2.2.2 ∈ lw_tbl := tm_6 _ (List.mem_of_getElem? (i := 198) rfl)
theorem MT_266 : mW (MT 266).1 (MT 266).2.1 (MT 266).2.2.1 (MT 266).2.2.2 ∈ lw_tbl := tm_6 _ (List.mem_of_getElem? (i := 138) rfl)
theorem MT_267 : mW (MT 267).1 (MT 267).2.1 (MT 267).2.2.1 (MT 267).2.2.2 ∈ lw_tbl := tm_6 _ (List.mem_of_getElem? (i := 222) rfl)
theorem MT_268 : mW (MT 268).1 (MT 268).2.1 (MT 268).2.2.1 (MT 268).2.2.2 ∈ lw_tbl := tm_6 _ (List.mem_of_getElem? (i := 218) rfl)
theorem MT_269 : mW (MT 269).1 (MT 269).2.1 (MT 269).2.2.1 (MT 269).2.2.2 ∈ lw_tbl := tm_6 _ (List.mem_of_getElem? (i := 150) rfl)
theorem MT_270 : mW (MT 270).1 (MT 270).2.1 (MT 270).2.2.1 (MT 270).2.2.2 ∈ lw_tbl := tm_6 _ (List.mem_of_getElem? (i := 154) rfl)
theorem MT_271 : mW (MT 271).1 (MT 271).2.1 (MT 271).2.2.1 (MT 271).2.2.2 ∈ lw_tbl := tm_6 _ (List.mem_of_getElem? (i := 146) rfl)
theorem MT_272 : mW (MT 272).1 (MT 272).2.1 (MT 272).2.2.1 (MT 272).2.2.2 ∈ lw_tbl := tm_6 _ (List.mem_of_getElem? (i := 130) rfl)
theorem MT_273 : mW (MT 273).1 (MT 273).2.1 (MT 273).2.2.1 (MT 273).2.2.2 ∈ lw_tbl := tm_6 _ (List.mem_of_getElem? (i := 142) rfl)
theorem MT_274 : mW (MT 274).1 (MT 274).2.1 (MT 274).2.2.1 (MT 274).2.2.2 ∈ lw_tbl := tm_6 _ (List.mem_of_getElem? (i := 158) rfl)
theorem MT_275 : mW (MT 275).1 (MT 275).2.1 (MT 275).2.2.1 (MT 275).2.2.2 ∈ lw_tbl := tm_6 _ (List.mem_of_getElem? (i := 122) rfl)
theorem MT_276 : mW (MT 276).1 (MT 276).2.1 (MT 276).2.2.1 (MT 276).2.2.2 ∈ lw_tbl := tm_6 _ (List.mem_of_getElem? (i := 126) rfl)
theorem MT_277 : mW (MT 277).1 (MT 277).2.1 (MT 277).2.2.1 (MT 277).2.2.2 ∈ lw_tbl := tm_6 _ (List.mem_of_getElem? (i := 194) rfl)
theorem MT_278 : mW (MT 278).1 (MT 278).2.1 (MT 278).2.2.1 (MT 278).2.2.2 ∈ lw_tbl := tm_6 _ (List.mem_of_getElem? (i := 210) rfl)
theorem MT_279 : mW (MT 279).1 (MT 279).2.1 (MT 279).2.2.1 (MT 279).2.2.2 ∈ lw_tbl := tm_6 _ (List.mem_of_getElem? (i := 190) rfl)
theorem MT_280 : mW (MT 280).1 (MT 280).2.1 (MT 280).2.2.1 (MT 280).2.2.2 ∈ lw_tbl := tm_6 _ (List.mem_of_getElem? (i := 238) rfl)
theorem MT_281 : mW (MT 281).1 (MT 281).2.1 (MT 281).2.2.1 (MT 281).2.2.2 ∈ lw_tbl := tm_6 _ (List.mem_of_getElem? (i := 230) rfl)
theorem MT_282 : mW (MT 282).1 (MT 282).2.1 (MT 282).2.2.1 (MT 282).2.2.2 ∈ lw_tbl := tm_6 _ (List.mem_of_getElem? (i := 182) rfl)
theorem MT_283 : mW (MT 283).1 (MT 283).2.1 (MT 283).2.2.1 (MT 283).2.2.2 ∈ lw_tbl := tm_6 _ (List.mem_of_getElem? (i := 234) rfl)
theorem MT_284 : mW (MT 284).1 (MT 284).2.1 (MT 284).2.2.1 (MT 284).2.2.2 ∈ lw_tbl := tm_7 _ (List.mem_of_getElem? (i := 14) rfl)
theorem MT_285 : mW (MT 285).1 (MT 285).2.1 (MT 285).2.2.1 (MT 285).2.2.2 ∈ lw_tbl := tm_6 _ (List.mem_of_getElem? (i := 226) rfl)
theorem MT_286 : mW (MT 286).1 (MT 286).2.1 (MT 286).2.2.1 (MT 286).2.2.2 ∈ lw_tbl := tm_6 _ (List.mem_of_getElem? (i := 214) rfl)
theorem MT_287 : mW (MT 287).1 (MT 287).2.1 (MT 287).2.2.1 (MT 287).2.2.2 ∈ lw_tbl := tm_7 _ (List.mem_of_getElem? (i := 2) rfl)
theorem MT_288 : mW (MT 288).1 (MT 288).2.1 (MT 288).2.2.1 (MT 288).2.2.2 ∈ lw_tbl := tm_7 _ (List.mem_of_getElem? (i := 6) rfl)
theorem MT_289 : mW (MT 289).1 (MT 289).2.1 (MT 289).2.2.1 (MT 289).2.2.2 ∈ lw_tbl := tm_7 _ (List.mem_of_getElem? (i := 10) rfl)
theorem MT_290 : mW (MT 290).1 (MT 290).2.1 (MT 290).2.2.1 (MT 290).2.2.2 ∈ lw_tbl := tm_7 _ (List.mem_of_getElem? (i := 22) rfl)
theorem MT_291 : mW (MT 291).1 (MT 291).2.1 (MT 291).2.2.1 (MT 291).2.2.2 ∈ lw_tbl := tm_6 _ (List.mem_of_getElem? (i := 178) rfl)
theorem MT_292 : mW (MT 292).1 (MT 292).2.1 (MT 292).2.2.1 (MT 292).2.2.2 ∈ lw_tbl := tm_6 _ (List.mem_of_getElem? (i := 186) rfl)
theorem MT_293 : mW (MT 293).1 (MT 293).2.1 (MT 293).2.2.1 (MT 293).2.2.2 ∈ lw_tbl := tm_7 _ (List.mem_of_getElem? (i := 18) rfl)
theorem MT_294 : mW (MT 294).1 (MT 294).2.1 (MT 294).2.2.1 (MT 294).2.2.2 ∈ lw_tbl := tm_7 _ (List.mem_of_getElem? (i := 26) rfl)
theorem MT_295 : mW (MT 295).1 (MT 295).2.1 (MT 295).2.2.1 (MT 295).2.2.2 ∈ lw_tbl := tm_6 _ (List.mem_of_getElem? (i := 170) rfl)
theorem MT_296 : mW (MT 296).1 (MT 296).2.1 (MT 296).2.2.1 (MT 296).2.2.2 ∈ lw_tbl := tm_6 _ (List.mem_of_getElem? (i := 174) rfl)
theorem MT_297 : mW (MT 297).1 (MT 297).2.1 (MT 297).2.2.1 (MT 297).2.2.2 ∈ lw_tbl := tm_7 _ (List.mem_of_getElem? (i := 46) rfl)
theorem MT_298 : mW (MT 298).1 (MT 298).2.1 (MT 298).2.2.1 (MT 298).2.2.2 ∈ lw_tbl := tm_7 _ (List.mem_of_getElem? (i := 50) rfl)
theorem MT_299 : mW (MT 299).1 (MT 299).2.1 (MT 299).2.2.1 (MT 299).2.2.2 ∈ lw_tbl := tm_7 _ (List.mem_of_getElem? (i := 54) rfl)
theorem MT_300 : mW (MT 300).1 (MT 300).2.1 (MT 300).2.2.1 (MT 300).2.2.2 ∈ lw_tbl := tm_7 _ (List.mem_of_getElem? (i := 62) rfl)
theorem MT_301 : mW (MT 301).1 (MT 301).2.1 (MT 301).2.2.1 (MT 301).2.2.2 ∈ lw_tbl := tm_7 _ (List.mem_of_getElem? (i := 78) rfl)
theorem MT_302 : mW (MT 302).1 (MT 302).2.1 (MT 302).2.2.1 (MT 302).2.2.2 ∈ lw_tbl := tm_7 _ (List.mem_of_getElem? (i := 86) rfl)
theorem MT_303 : mW (MT 303).1 (MT 303).2.1 (MT 303).2.2.1 (MT 303).2.2.2 ∈ lw_tbl := tm_7 _ (List.mem_of_getElem? (i := 102) rfl)
theorem MT_304 : mW (MT 304).1 (MT 304).2.1 (MT 304).2.2.1 (MT 304).2.2.2 ∈ lw_tbl := tm_7 _ (List.mem_of_getElem? (i := 119) rfl)
theorem MT_305 : mW (MT 305).1 (MT 305).2.1 (MT 305).2.2.1 (MT 305).2.2.2 ∈ lw_tbl := tm_7 _ (List.mem_of_getElem? (i := 115) rfl)
theorem MT_306 : mW (MT 306).1 (MT 306).2.1 (MT 306).2.2.1 (MT 306).2.2.2 ∈ lw_tbl := tm_7 _ (List.mem_of_getElem? (i := 139) rfl)
theorem MT_307 : mW (MT 307).1 (MT 307).2.1 (MT 307).2.2.1 (MT 307).2.2.2 ∈ lw_tbl := tm_7 _ (List.mem_of_getElem? (i := 159) rfl)
theorem MT_308 : mW (MT 308).1 (MT 308).2.1 (MT 308).2.2.1 (MT 308).2.2.2 ∈ lw_tbl := tm_7 _ (List.mem_of_getElem? (i := 163) rfl)
theorem MT_309 : mW (MT 309).1 (MT 309).2.1 (MT 309).2.2.1 (MT 309).2.2.2 ∈ lw_tbl := tm_7 _ (List.mem_of_getElem? (i := 155) rfl)
theorem MT_310 : mW (MT 310).1 (MT 310).2.1 (MT 310).2.2.1 (MT 310).2.2.2 ∈ lw_tbl := tm_7 _ (List.mem_of_getElem? (i := 175) rfl)
theorem MT_311 : mW (MT 311).1 (MT 311).2.1 (MT 311).2.2.1 (MT 311).2.2.2 ∈ lw_tbl := tm_7 _ (List.mem_of_getElem? (i := 171) rfl)
theorem MT_312 : mW (MT 312).1 (MT 312).2.1 (MT 312).2.2.1 (MT 312).2.2.2 ∈ lw_tbl := tm_7 _ (List.mem_of_getElem? (i := 167) rfl)
theorem MT_313 : mW (MT 313).1 (MT 313).2.1 (MT 313).2.2.1 (MT 313).2.2.2 ∈ lw_tbl := tm_7 _ (List.mem_of_getElem? (i := 183) rfl)
theorem MT_314 : mW (MT 314).1 (MT 314).2.1 (MT 314).2.2.1 (MT 314).2.2.2 ∈ lw_tbl := tm_7 _ (List.mem_of_getElem? (i := 179) rfl)
theorem MT_315 : mW (MT 315).1 (MT 315).2.1 (MT 315).2.2.1 (MT 315).2.2.2 ∈ lw_tbl := tm_7 _ (List.mem_of_getElem? (i := 207) rfl)
theorem MT_316 : mW (MT 316).1 (MT 316).2.1 (MT 316).2.2.1 (MT 316).2.2.2 ∈ lw_tbl := tm_3 _ (List.mem_of_getElem? (i := 26) rfl)
theorem MT_317 : mW (MT 317).1 (MT 317).2.1 (MT 317).2.2.1 (MT 317).2.2.2 ∈ lw_tbl := tm_3 _ (List.mem_of_getElem? (i := 36) rfl)
theorem MT_318 : mW (MT 318).1 (MT 318).2.1 (MT 318).2.2.1 (MT 318).2.2.2 ∈ lw_tbl := tm_3 _ (List.mem_of_getElem? (i := 40) rfl)
theorem MT_319 : mW (MT 319).1 (MT 319).2.1 (MT 319).2.2.1 (MT 319).2.2.2 ∈ lw_tbl := tm_3 _ (List.mem_of_getElem? (i := 95) rfl)
theorem MT_320 : mW (MT 320).1 (MT 320).2.1 (MT 320).2.2.1 (MT 320).2.2.2 ∈ lw_tbl := tm_3 _ (List.mem_of_getElem? (i := 99) rfl)
theorem MT_321 : mW (MT 321).1 (MT 321).2.1 (MT 321).2.2.1 (MT 321).2.2.2 ∈ lw_tbl := tm_3 _ (List.mem_of_getElem? (i := 100) rfl)
theorem MT_322 : mW (MT 322).1 (MT 322).2.1 (MT 322).2.2.1 (MT 322).2.2.2 ∈ lw_tbl := tm_3 _ (List.mem_of_getElem? (i := 48) rfl)
theorem MT_323 : mW (MT 323).1 (MT 323).2.1 (MT 323).2.2.1 (MT 323).2.2.2 ∈ lw_tbl := tm_3 _ (List.mem_of_getElem? (i := 43) rfl)
theorem MT_324 : mW (MT 324).1 (MT 324).2.1 (MT 324).2.2.1 (MT 324).2.2.2 ∈ lw_tbl := tm_3 _ (List.mem_of_getElem? (i := 103) rfl)
theorem MT_325 : mW (MT 325).1 (MT 325).2.1 (MT 325).2.2.1 (MT 325).2.2.2 ∈ lw_tbl := tm_3 _ (List.mem_of_getElem? (i := 106) rfl)
theorem MT_326 : mW (MT 326).1 (MT 326).2.1 (MT 326).2.2.1 (MT 326).2.2.2 ∈ lw_tbl := tm_3 _ (List.mem_of_getElem? (i := 107) rfl)
theorem MT_327 : mW (MT 327).1 (MT 327).2.1 (MT 327).2.2.1 (MT 327).2.2.2 ∈ lw_tbl := tm_3 _ (List.mem_of_getElem? (i := 108) rfl)
theorem MT_ok {p : Nat} (h : p < MTn) : mW (MT p).1 (MT p).2.1 (MT p).2.2.1 (MT p).2.2.2 ∈ lw_tbl := by
  have h : p < 328 := h
  · by_cases h164 : p < 164
    · by_cases h82 : p < 82
      · by_cases h41 : p < 41
        · by_cases h20 : p < 20
          · by_cases h10 : p < 10
            · by_cases h5 : p < 5
              · by_cases h2 : p < 2
                · by_cases h1 : p < 1
                  · obtain rfl : p = 0 := by omega
                    exact MT_0
                  · obtain rfl : p = 1 := by omega
                    exact MT_1
                · by_cases h3 : p < 3
                  · obtain rfl : p = 2 := by omega
                    exact MT_2
                  · by_cases h4 : p < 4
                    · obtain rfl : p = 3 := by omega
                      exact MT_3
                    · obtain rfl : p = 4 := by omega
                      exact MT_4
              · by_cases h7 : p < 7
                · by_cases h6 : p < 6
                  · obtain rfl : p = 5 := by omega
                    exact MT_5
                  · obtain rfl : p = 6 := by omega
                    exact MT_6
                · by_cases h8 : p < 8
                  · obtain rfl : p = 7 := by omega
                    exact MT_7
                  · by_cases h9 : p < 9
                    · obtain rfl : p = 8 := by omega
                      exact MT_8
                    · obtain rfl : p = 9 := by omega
                      exact MT_9
            · by_cases h15 : p < 15
              · by_cases h12 : p < 12
                · by_cases h11 : p < 11
                  · obtain rfl : p = 10 := by omega
                    exact MT_10
                  · obtain rfl : p = 11 := by omega
                    exact MT_11
                · by_cases h13 : p < 13
                  · obtain rfl : p = 12 := by omega
                    exact MT_12
                  · by_cases h14 : p < 14
                    · obtain rfl : p = 13 := by omega
                      exact MT_13
                    · obtain rfl : p = 14 := by omega
                      exact MT_14
              · by_cases h17 : p < 17
                · by_cases h16 : p < 16
                  · obtain rfl : p = 15 := by omega
                    exact MT_15
                  · obtain rfl : p = 16 := by omega
                    exact MT_16
                · by_cases h18 : p < 18
                  · obtain rfl : p = 17 := by omega
                    exact MT_17
                  · by_cases h19 : p < 19
                    · obtain rfl : p = 18 := by omega
                      exact MT_18
                    · obtain rfl : p = 19 := by omega
                      exact MT_19
          · by_cases h30 : p < 30
            · by_cases h25 : p < 25
              · by_cases h22 : p < 22
                · by_cases h21 : p < 21
                  · obtain rfl : p = 20 := by omega
                    exact MT_20
                  · obtain rfl : p = 21 := by omega
                    exact MT_21
                · by_cases h23 : p < 23
                  · obtain rfl : p = 22 := by omega
                    exact MT_22
                  · by_cases h24 : p < 24
                    · obtain rfl : p = 23 := by omega
                      exact MT_23
                    · obtain rfl : p = 24 := by omega
                      exact MT_24
              · by_cases h27 : p < 27
                · by_cases h26 : p < 26
                  · obtain rfl : p = 25 := by omega
                    exact MT_25
                  · obtain rfl : p = 26 := by omega
                    exact MT_26
                · by_cases h28 : p < 28
                  · obtain rfl : p = 27 := by omega
                    exact MT_27
                  · by_cases h29 : p < 29
                    · obtain rfl : p = 28 := by omega
                      exact MT_28
                    · obtain rfl : p = 29 := by omega
                      exact MT_29
            · by_cases h35 : p < 35
              · by_cases h32 : p < 32
                · by_cases h31 : p < 31
                  · obtain rfl : p = 30 := by omega
                    exact MT_30
                  · obtain rfl : p = 31 := by omega
                    exact MT_31
                · by_cases h33 : p < 33
                  · obtain rfl : p = 32 := by omega
                    exact MT_32
                  · by_cases h34 : p < 34
                    · obtain rfl : p = 33 := by omega
                      exact MT_33
                    · obtain rfl : p = 34 := by omega
                      exact MT_34
              · by_cases h38 : p < 38
                · by_cases h36 : p < 36
                  · obtain rfl : p = 35 := by omega
                    exact MT_35
                  · by_cases h37 : p < 37
                    · obtain rfl : p = 36 := by omega
                      exact MT_36
                    · obtain rfl : p = 37 := by omega
                      exact MT_37
                · by_cases h39 : p < 39
                  · obtain rfl : p = 38 := by omega
                    exact MT_38
                  · by_cases h40 : p < 40
                    · obtain rfl : p = 39 := by omega
                      exact MT_39
                    · obtain rfl : p = 40 := by omega
                      exact MT_40
        · by_cases h61 : p < 61
          · by_cases h51 : p < 51
            · by_cases h46 : p < 46
              · by_cases h43 : p < 43
                · by_cases h42 : p < 42
                  · obtain rfl : p = 41 := by omega
                    exact MT_41
                  · obtain rfl : p = 42 := by omega
                    exact MT_42
                · by_cases h44 : p < 44
                  · obtain rfl : p = 43 := by omega
                    exact MT_43
                  · by_cases h45 : p < 45
                    · obtain rfl : p = 44 := by omega
                      exact MT_44
                    · obtain rfl : p = 45 := by omega
                      exact MT_45
              · by_cases h48 : p < 48
                · by_cases h47 : p < 47
                  · obtain rfl : p = 46 := by omega
                    exact MT_46
                  · obtain rfl : p = 47 := by omega
                    exact MT_47
                · by_cases h49 : p < 49
                  · obtain rfl : p = 48 := by omega
                    exact MT_48
                  · by_cases h50 : p < 50
                    · obtain rfl : p = 49 := by omega
                      exact MT_49
                    · obtain rfl : p = 50 := by omega
                      exact MT_50
            · by_cases h56 : p < 56
              · by_cases h53 : p < 53
                · by_cases h52 : p < 52
                  · obtain rfl : p = 51 := by omega
                    exact MT_51
                  · obtain rfl : p = 52 := by omega
                    exact MT_52
                · by_cases h54 : p < 54
                  · obtain rfl : p = 53 := by omega
                    exact MT_53
                  · by_cases h55 : p < 55
                    · obtain rfl : p = 54 := by omega
                      exact MT_54
                    · obtain rfl : p = 55 := by omega
                      exact MT_55
              · by_cases h58 : p < 58
                · by_cases h57 : p < 57
                  · obtain rfl : p = 56 := by omega
                    exact MT_56
                  · obtain rfl : p = 57 := by omega
                    exact MT_57
                · by_cases h59 : p < 59
                  · obtain rfl : p = 58 := by omega
                    exact MT_58
                  · by_cases h60 : p < 60
                    · obtain rfl : p = 59 := by omega
                      exact MT_59
                    · obtain rfl : p = 60 := by omega
                      exact MT_60
          · by_cases h71 : p < 71
            · by_cases h66 : p < 66
              · by_cases h63 : p < 63
                · by_cases h62 : p < 62
                  · obtain rfl : p = 61 := by omega
                    exact MT_61
                  · obtain rfl : p = 62 := by omega
                    exact MT_62
                · by_cases h64 : p < 64
                  · obtain rfl : p = 63 := by omega
                    exact MT_63
                  · by_cases h65 : p < 65
                    · obtain rfl : p = 64 := by omega
                      exact MT_64
                    · obtain rfl : p = 65 := by omega
                      exact MT_65
              · by_cases h68 : p < 68
                · by_cases h67 : p < 67
                  · obtain rfl : p = 66 := by omega
                    exact MT_66
                  · obtain rfl : p = 67 := by omega
                    exact MT_67
                · by_cases h69 : p < 69
                  · obtain rfl : p = 68 := by omega
                    exact MT_68
                  · by_cases h70 : p < 70
                    · obtain rfl : p = 69 := by omega
                      exact MT_69
                    · obtain rfl : p = 70 := by omega
                      exact MT_70
            · by_cases h76 : p < 76
              · by_cases h73 : p < 73
                · by_cases h72 : p < 72
                  · obtain rfl : p = 71 := by omega
                    exact MT_71
                  · obtain rfl : p = 72 := by omega
                    exact MT_72
                · by_cases h74 : p < 74
                  · obtain rfl : p = 73 := by omega
                    exact MT_73
                  · by_cases h75 : p < 75
                    · obtain rfl : p = 74 := by omega
                      exact MT_74
                    · obtain rfl : p = 75 := by omega
                      exact MT_75
              · by_cases h79 : p < 79
                · by_cases h77 : p < 77
                  · obtain rfl : p = 76 := by omega
                    exact MT_76
                  · by_cases h78 : p < 78
                    · obtain rfl : p = 77 := by omega
                      exact MT_77
                    · obtain rfl : p = 78 := by omega
                      exact MT_78
                · by_cases h80 : p < 80
                  · obtain rfl : p = 79 := by omega
                    exact MT_79
                  · by_cases h81 : p < 81
                    · obtain rfl : p = 80 := by omega
                      exact MT_80
                    · obtain rfl : p = 81 := by omega
                      exact MT_81
      · by_cases h123 : p < 123
        · by_cases h102 : p < 102
          · by_cases h92 : p < 92
            · by_cases h87 : p < 87
              · by_cases h84 : p < 84
                · by_cases h83 : p < 83
                  · obtain rfl : p = 82 := by omega
                    exact MT_82
                  · obtain rfl : p = 83 := by omega
                    exact MT_83
                · by_cases h85 : p < 85
                  · obtain rfl : p = 84 := by omega
                    exact MT_84
                  · by_cases h86 : p < 86
                    · obtain rfl : p = 85 := by omega
                      exact MT_85
                    · obtain rfl : p = 86 := by omega
                      exact MT_86
              · by_cases h89 : p < 89
                · by_cases h88 : p < 88
                  · obtain rfl : p = 87 := by omega
                    exact MT_87
                  · obtain rfl : p = 88 := by omega
                    exact MT_88
                · by_cases h90 : p < 90
                  · obtain rfl : p = 89 := by omega
                    exact MT_89
                  · by_cases h91 : p < 91
                    · obtain rfl : p = 90 := by omega
                      exact MT_90
                    · obtain rfl : p = 91 := by omega
                      exact MT_91
            · by_cases h97 : p < 97
              · by_cases h94 : p < 94
                · by_cases h93 : p < 93
                  · obtain rfl : p = 92 := by omega
                    exact MT_92
                  · obtain rfl : p = 93 := by omega
                    exact MT_93
                · by_cases h95 : p < 95
                  · obtain rfl : p = 94 := by omega
                    exact MT_94
                  · by_cases h96 : p < 96
                    · obtain rfl : p = 95 := by omega
                      exact MT_95
                    · obtain rfl : p = 96 := by omega
                      exact MT_96
              · by_cases h99 : p < 99
                · by_cases h98 : p < 98
                  · obtain rfl : p = 97 := by omega
                    exact MT_97
                  · obtain rfl : p = 98 := by omega
                    exact MT_98
                · by_cases h100 : p < 100
                  · obtain rfl : p = 99 := by omega
                    exact MT_99
                  · by_cases h101 : p < 101
                    · obtain rfl : p = 100 := by omega
                      exact MT_100
                    · obtain rfl : p = 101 := by omega
                      exact MT_101
          · by_cases h112 : p < 112
            · by_cases h107 : p < 107
              · by_cases h104 : p < 104
                · by_cases h103 : p < 103
                  · obtain rfl : p = 102 := by omega
                    exact MT_102
                  · obtain rfl : p = 103 := by omega
                    exact MT_103
                · by_cases h105 : p < 105
                  · obtain rfl : p = 104 := by omega
                    exact MT_104
                  · by_cases h106 : p < 106
                    · obtain rfl : p = 105 := by omega
                      exact MT_105
                    · obtain rfl : p = 106 := by omega
                      exact MT_106
              · by_cases h109 : p < 109
                · by_cases h108 : p < 108
                  · obtain rfl : p = 107 := by omega
                    exact MT_107
                  · obtain rfl : p = 108 := by omega
                    exact MT_108
                · by_cases h110 : p < 110
                  · obtain rfl : p = 109 := by omega
                    exact MT_109
                  · by_cases h111 : p < 111
                    · obtain rfl : p = 110 := by omega
                      exact MT_110
                    · obtain rfl : p = 111 := by omega
                      exact MT_111
            · by_cases h117 : p < 117
              · by_cases h114 : p < 114
                · by_cases h113 : p < 113
                  · obtain rfl : p = 112 := by omega
                    exact MT_112
                  · obtain rfl : p = 113 := by omega
                    exact MT_113
                · by_cases h115 : p < 115
                  · obtain rfl : p = 114 := by omega
                    exact MT_114
                  · by_cases h116 : p < 116
                    · obtain rfl : p = 115 := by omega
                      exact MT_115
                    · obtain rfl : p = 116 := by omega
                      exact MT_116
              · by_cases h120 : p < 120
                · by_cases h118 : p < 118
                  · obtain rfl : p = 117 := by omega
                    exact MT_117
                  · by_cases h119 : p < 119
                    · obtain rfl : p = 118 := by omega
                      exact MT_118
                    · obtain rfl : p = 119 := by omega
                      exact MT_119
                · by_cases h121 : p < 121
                  · obtain rfl : p = 120 := by omega
                    exact MT_120
                  · by_cases h122 : p < 122
                    · obtain rfl : p = 121 := by omega
                      exact MT_121
                    · obtain rfl : p = 122 := by omega
                      exact MT_122
        · by_cases h143 : p < 143
          · by_cases h133 : p < 133
            · by_cases h128 : p < 128
              · by_cases h125 : p < 125
                · by_cases h124 : p < 124
                  · obtain rfl : p = 123 := by omega
                    exact MT_123
                  · obtain rfl : p = 124 := by omega
                    exact MT_124
                · by_cases h126 : p < 126
                  · obtain rfl : p = 125 := by omega
                    exact MT_125
                  · by_cases h127 : p < 127
                    · obtain rfl : p = 126 := by omega
                      exact MT_126
                    · obtain rfl : p = 127 := by omega
                      exact MT_127
              · by_cases h130 : p < 130
                · by_cases h129 : p < 129
                  · obtain rfl : p = 128 := by omega
                    exact MT_128
                  · obtain rfl : p = 129 := by omega
                    exact MT_129
                · by_cases h131 : p < 131
                  · obtain rfl : p = 130 := by omega
                    exact MT_130
                  · by_cases h132 : p < 132
                    · obtain rfl : p = 131 := by omega
                      exact MT_131
                    · obtain rfl : p = 132 := by omega
                      exact MT_132
            · by_cases h138 : p < 138
              · by_cases h135 : p < 135
                · by_cases h134 : p < 134
                  · obtain rfl : p = 133 := by omega
                    exact MT_133
                  · obtain rfl : p = 134 := by omega
                    exact MT_134
                · by_cases h136 : p < 136
                  · obtain rfl : p = 135 := by omega
                    exact MT_135
                  · by_cases h137 : p < 137
                    · obtain rfl : p = 136 := by omega
                      exact MT_136
                    · obtain rfl : p = 137 := by omega
                      exact MT_137
              · by_cases h140 : p < 140
                · by_cases h139 : p < 139
                  · obtain rfl : p = 138 := by omega
                    exact MT_138
                  · obtain rfl : p = 139 := by omega
                    exact MT_139
                · by_cases h141 : p < 141
                  · obtain rfl : p = 140 := by omega
                    exact MT_140
                  · by_cases h142 : p < 142
                    · obtain rfl : p = 141 := by omega
                      exact MT_141
                    · obtain rfl : p = 142 := by omega
                      exact MT_142
          · by_cases h153 : p < 153
            · by_cases h148 : p < 148
              · by_cases h145 : p < 145
                · by_cases h144 : p < 144
                  · obtain rfl : p = 143 := by omega
                    exact MT_143
                  · obtain rfl : p = 144 := by omega
                    exact MT_144
                · by_cases h146 : p < 146
                  · obtain rfl : p = 145 := by omega
                    exact MT_145
                  · by_cases h147 : p < 147
                    · obtain rfl : p = 146 := by omega
                      exact MT_146
                    · obtain rfl : p = 147 := by omega
                      exact MT_147
              · by_cases h150 : p < 150
                · by_cases h149 : p < 149
                  · obtain rfl : p = 148 := by omega
                    exact MT_148
                  · obtain rfl : p = 149 := by omega
                    exact MT_149
                · by_cases h151 : p < 151
                  · obtain rfl : p = 150 := by omega
                    exact MT_150
                  · by_cases h152 : p < 152
                    · obtain rfl : p = 151 := by omega
                      exact MT_151
                    · obtain rfl : p = 152 := by omega
                      exact MT_152
            · by_cases h158 : p < 158
              · by_cases h155 : p < 155
                · by_cases h154 : p < 154
                  · obtain rfl : p = 153 := by omega
                    exact MT_153
                  · obtain rfl : p = 154 := by omega
                    exact MT_154
                · by_cases h156 : p < 156
                  · obtain rfl : p = 155 := by omega
                    exact MT_155
                  · by_cases h157 : p < 157
                    · obtain rfl : p = 156 := by omega
                      exact MT_156
                    · obtain rfl : p = 157 := by omega
                      exact MT_157
              · by_cases h161 : p < 161
                · by_cases h159 : p < 159
                  · obtain rfl : p = 158 := by omega
                    exact MT_158
                  · by_cases h160 : p < 160
                    · obtain rfl : p = 159 := by omega
                      exact MT_159
                    · obtain rfl : p = 160 := by omega
                      exact MT_160
                · by_cases h162 : p < 162
                  · obtain rfl : p = 161 := by omega
                    exact MT_161
                  · by_cases h163 : p < 163
                    · obtain rfl : p = 162 := by omega
                      exact MT_162
                    · obtain rfl : p = 163 := by omega
                      exact MT_163
    · by_cases h246 : p < 246
      · by_cases h205 : p < 205
        · by_cases h184 : p < 184
          · by_cases h174 : p < 174
            · by_cases h169 : p < 169
              · by_cases h166 : p < 166
                · by_cases h165 : p < 165
                  · obtain rfl : p = 164 := by omega
                    exact MT_164
                  · obtain rfl : p = 165 := by omega
                    exact MT_165
                · by_cases h167 : p < 167
                  · obtain rfl : p = 166 := by omega
                    exact MT_166
                  · by_cases h168 : p < 168
                    · obtain rfl : p = 167 := by omega
                      exact MT_167
                    · obtain rfl : p = 168 := by omega
                      exact MT_168
              · by_cases h171 : p < 171
                · by_cases h170 : p < 170
                  · obtain rfl : p = 169 := by omega
                    exact MT_169
                  · obtain rfl : p = 170 := by omega
                    exact MT_170
                · by_cases h172 : p < 172
                  · obtain rfl : p = 171 := by omega
                    exact MT_171
                  · by_cases h173 : p < 173
                    · obtain rfl : p = 172 := by omega
                      exact MT_172
                    · obtain rfl : p = 173 := by omega
                      exact MT_173
            · by_cases h179 : p < 179
              · by_cases h176 : p < 176
                · by_cases h175 : p < 175
                  · obtain rfl : p = 174 := by omega
                    exact MT_174
                  · obtain rfl : p = 175 := by omega
                    exact MT_175
                · by_cases h177 : p < 177
                  · obtain rfl : p = 176 := by omega
                    exact MT_176
                  · by_cases h178 : p < 178
                    · obtain rfl : p = 177 := by omega
                      exact MT_177
                    · obtain rfl : p = 178 := by omega
                      exact MT_178
              · by_cases h181 : p < 181
                · by_cases h180 : p < 180
                  · obtain rfl : p = 179 := by omega
                    exact MT_179
                  · obtain rfl : p = 180 := by omega
                    exact MT_180
                · by_cases h182 : p < 182
                  · obtain rfl : p = 181 := by omega
                    exact MT_181
                  · by_cases h183 : p < 183
                    · obtain rfl : p = 182 := by omega
                      exact MT_182
                    · obtain rfl : p = 183 := by omega
                      exact MT_183
          · by_cases h194 : p < 194
            · by_cases h189 : p < 189
              · by_cases h186 : p < 186
                · by_cases h185 : p < 185
                  · obtain rfl : p = 184 := by omega
                    exact MT_184
                  · obtain rfl : p = 185 := by omega
                    exact MT_185
                · by_cases h187 : p < 187
                  · obtain rfl : p = 186 := by omega
                    exact MT_186
                  · by_cases h188 : p < 188
                    · obtain rfl : p = 187 := by omega
                      exact MT_187
                    · obtain rfl : p = 188 := by omega
                      exact MT_188
              · by_cases h191 : p < 191
                · by_cases h190 : p < 190
                  · obtain rfl : p = 189 := by omega
                    exact MT_189
                  · obtain rfl : p = 190 := by omega
                    exact MT_190
                · by_cases h192 : p < 192
                  · obtain rfl : p = 191 := by omega
                    exact MT_191
                  · by_cases h193 : p < 193
                    · obtain rfl : p = 192 := by omega
                      exact MT_192
                    · obtain rfl : p = 193 := by omega
                      exact MT_193
            · by_cases h199 : p < 199
              · by_cases h196 : p < 196
                · by_cases h195 : p < 195
                  · obtain rfl : p = 194 := by omega
                    exact MT_194
                  · obtain rfl : p = 195 := by omega
                    exact MT_195
                · by_cases h197 : p < 197
                  · obtain rfl : p = 196 := by omega
                    exact MT_196
                  · by_cases h198 : p < 198
                    · obtain rfl : p = 197 := by omega
                      exact MT_197
                    · obtain rfl : p = 198 := by omega
                      exact MT_198
              · by_cases h202 : p < 202
                · by_cases h200 : p < 200
                  · obtain rfl : p = 199 := by omega
                    exact MT_199
                  · by_cases h201 : p < 201
                    · obtain rfl : p = 200 := by omega
                      exact MT_200
                    · obtain rfl : p = 201 := by omega
                      exact MT_201
                · by_cases h203 : p < 203
                  · obtain rfl : p = 202 := by omega
                    exact MT_202
                  · by_cases h204 : p < 204
                    · obtain rfl : p = 203 := by omega
                      exact MT_203
                    · obtain rfl : p = 204 := by omega
                      exact MT_204
        · by_cases h225 : p < 225
          · by_cases h215 : p < 215
            · by_cases h210 : p < 210
              · by_cases h207 : p < 207
                · by_cases h206 : p < 206
                  · obtain rfl : p = 205 := by omega
                    exact MT_205
                  · obtain rfl : p = 206 := by omega
                    exact MT_206
                · by_cases h208 : p < 208
                  · obtain rfl : p = 207 := by omega
                    exact MT_207
                  · by_cases h209 : p < 209
                    · obtain rfl : p = 208 := by omega
                      exact MT_208
                    · obtain rfl : p = 209 := by omega
                      exact MT_209
              · by_cases h212 : p < 212
                · by_cases h211 : p < 211
                  · obtain rfl : p = 210 := by omega
                    exact MT_210
                  · obtain rfl : p = 211 := by omega
                    exact MT_211
                · by_cases h213 : p < 213
                  · obtain rfl : p = 212 := by omega
                    exact MT_212
                  · by_cases h214 : p < 214
                    · obtain rfl : p = 213 := by omega
                      exact MT_213
                    · obtain rfl : p = 214 := by omega
                      exact MT_214
            · by_cases h220 : p < 220
              · by_cases h217 : p < 217
                · by_cases h216 : p < 216
                  · obtain rfl : p = 215 := by omega
                    exact MT_215
                  · obtain rfl : p = 216 := by omega
                    exact MT_216
                · by_cases h218 : p < 218
                  · obtain rfl : p = 217 := by omega
                    exact MT_217
                  · by_cases h219 : p < 219
                    · obtain rfl : p = 218 := by omega
                      exact MT_218
                    · obtain rfl : p = 219 := by omega
                      exact MT_219
              · by_cases h222 : p < 222
                · by_cases h221 : p < 221
                  · obtain rfl : p = 220 := by omega
                    exact MT_220
                  · obtain rfl : p = 221 := by omega
                    exact MT_221
                · by_cases h223 : p < 223
                  · obtain rfl : p = 222 := by omega
                    exact MT_222
                  · by_cases h224 : p < 224
                    · obtain rfl : p = 223 := by omega
                      exact MT_223
                    · obtain rfl : p = 224 := by omega
                      exact MT_224
          · by_cases h235 : p < 235
            · by_cases h230 : p < 230
              · by_cases h227 : p < 227
                · by_cases h226 : p < 226
                  · obtain rfl : p = 225 := by omega
                    exact MT_225
                  · obtain rfl : p = 226 := by omega
                    exact MT_226
                · by_cases h228 : p < 228
                  · obtain rfl : p = 227 := by omega
                    exact MT_227
                  · by_cases h229 : p < 229
                    · obtain rfl : p = 228 := by omega
                      exact MT_228
                    · obtain rfl : p = 229 := by omega
                      exact MT_229
              · by_cases h232 : p < 232
                · by_cases h231 : p < 231
                  · obtain rfl : p = 230 := by omega
                    exact MT_230
                  · obtain rfl : p = 231 := by omega
                    exact MT_231
                · by_cases h233 : p < 233
                  · obtain rfl : p = 232 := by omega
                    exact MT_232
                  · by_cases h234 : p < 234
                    · obtain rfl : p = 233 := by omega
                      exact MT_233
                    · obtain rfl : p = 234 := by omega
                      exact MT_234
            · by_cases h240 : p < 240
              · by_cases h237 : p < 237
                · by_cases h236 : p < 236
                  · obtain rfl : p = 235 := by omega
                    exact MT_235
                  · obtain rfl : p = 236 := by omega
                    exact MT_236
                · by_cases h238 : p < 238
                  · obtain rfl : p = 237 := by omega
                    exact MT_237
                  · by_cases h239 : p < 239
                    · obtain rfl : p = 238 := by omega
                      exact MT_238
                    · obtain rfl : p = 239 := by omega
                      exact MT_239
              · by_cases h243 : p < 243
                · by_cases h241 : p < 241
                  · obtain rfl : p = 240 := by omega
                    exact MT_240
                  · by_cases h242 : p < 242
                    · obtain rfl : p = 241 := by omega
                      exact MT_241
                    · obtain rfl : p = 242 := by omega
                      exact MT_242
                · by_cases h244 : p < 244
                  · obtain rfl : p = 243 := by omega
                    exact MT_243
                  · by_cases h245 : p < 245
                    · obtain rfl : p = 244 := by omega
                      exact MT_244
                    · obtain rfl : p = 245 := by omega
                      exact MT_245
      · by_cases h287 : p < 287
        · by_cases h266 : p < 266
          · by_cases h256 : p < 256
            · by_cases h251 : p < 251
              · by_cases h248 : p < 248
                · by_cases h247 : p < 247
                  · obtain rfl : p = 246 := by omega
                    exact MT_246
                  · obtain rfl : p = 247 := by omega
                    exact MT_247
                · by_cases h249 : p < 249
                  · obtain rfl : p = 248 := by omega
                    exact MT_248
                  · by_cases h250 : p < 250
                    · obtain rfl : p = 249 := by omega
                      exact MT_249
                    · obtain rfl : p = 250 := by omega
                      exact MT_250
              · by_cases h253 : p < 253
                · by_cases h252 : p < 252
                  · obtain rfl : p = 251 := by omega
                    exact MT_251
                  · obtain rfl : p = 252 := by omega
                    exact MT_252
                · by_cases h254 : p < 254
                  · obtain rfl : p = 253 := by omega
                    exact MT_253
                  · by_cases h255 : p < 255
                    · obtain rfl : p = 254 := by omega
                      exact MT_254
                    · obtain rfl : p = 255 := by omega
                      exact MT_255
            · by_cases h261 : p < 261
              · by_cases h258 : p < 258
                · by_cases h257 : p < 257
                  · obtain rfl : p = 256 := by omega
                    exact MT_256
                  · obtain rfl : p = 257 := by omega
                    exact MT_257
                · by_cases h259 : p < 259
                  · obtain rfl : p = 258 := by omega
                    exact MT_258
                  · by_cases h260 : p < 260
                    · obtain rfl : p = 259 := by omega
                      exact MT_259
                    · obtain rfl : p = 260 := by omega
                      exact MT_260
              · by_cases h263 : p < 263
                · by_cases h262 : p < 262
                  · obtain rfl : p = 261 := by omega
                    exact MT_261
                  · obtain rfl : p = 262 := by omega
                    exact MT_262
                · by_cases h264 : p < 264
                  · obtain rfl : p = 263 := by omega
                    exact MT_263
                  · by_cases h265 : p < 265
                    · obtain rfl : p = 264 := by omega
                      exact MT_264
                    · obtain rfl : p = 265 := by omega
                      exact MT_265
          · by_cases h276 : p < 276
            · by_cases h271 : p < 271
              · by_cases h268 : p < 268
                · by_cases h267 : p < 267
                  · obtain rfl : p = 266 := by omega
                    exact MT_266
                  · obtain rfl : p = 267 := by omega
                    exact MT_267
                · by_cases h269 : p < 269
                  · obtain rfl : p = 268 := by omega
                    exact MT_268
                  · by_cases h270 : p < 270
                    · obtain rfl : p = 269 := by omega
                      exact MT_269
                    · obtain rfl : p = 270 := by omega
                      exact MT_270
              · by_cases h273 : p < 273
                · by_cases h272 : p < 272
                  · obtain rfl : p = 271 := by omega
                    exact MT_271
                  · obtain rfl : p = 272 := by omega
                    exact MT_272
                · by_cases h274 : p < 274
                  · obtain rfl : p = 273 := by omega
                    exact MT_273
                  · by_cases h275 : p < 275
                    · obtain rfl : p = 274 := by omega
                      exact MT_274
                    · obtain rfl : p = 275 := by omega
                      exact MT_275
            · by_cases h281 : p < 281
              · by_cases h278 : p < 278
                · by_cases h277 : p < 277
                  · obtain rfl : p = 276 := by omega
                    exact MT_276
                  · obtain rfl : p = 277 := by omega
                    exact MT_277
                · by_cases h279 : p < 279
                  · obtain rfl : p = 278 := by omega
                    exact MT_278
                  · by_cases h280 : p < 280
                    · obtain rfl : p = 279 := by omega
                      exact MT_279
                    · obtain rfl : p = 280 := by omega
                      exact MT_280
              · by_cases h284 : p < 284
                · by_cases h282 : p < 282
                  · obtain rfl : p = 281 := by omega
                    exact MT_281
                  · by_cases h283 : p < 283
                    · obtain rfl : p = 282 := by omega
                      exact MT_282
                    · obtain rfl : p = 283 := by omega
                      exact MT_283
                · by_cases h285 : p < 285
                  · obtain rfl : p = 284 := by omega
                    exact MT_284
                  · by_cases h286 : p < 286
                    · obtain rfl : p = 285 := by omega
                      exact MT_285
                    · obtain rfl : p = 286 := by omega
                      exact MT_286
        · by_cases h307 : p < 307
          · by_cases h297 : p < 297
            · by_cases h292 : p < 292
              · by_cases h289 : p < 289
                · by_cases h288 : p < 288
                  · obtain rfl : p = 287 := by omega
                    exact MT_287
                  · obtain rfl : p = 288 := by omega
                    exact MT_288
                · by_cases h290 : p < 290
                  · obtain rfl : p = 289 := by omega
                    exact MT_289
                  · by_cases h291 : p < 291
                    · obtain rfl : p = 290 := by omega
                      exact MT_290
                    · obtain rfl : p = 291 := by omega
                      exact MT_291
              · by_cases h294 : p < 294
                · by_cases h293 : p < 293
                  · obtain rfl : p = 292 := by omega
                    exact MT_292
                  · obtain rfl : p = 293 := by omega
                    exact MT_293
                · by_cases h295 : p < 295
                  · obtain rfl : p = 294 := by omega
                    exact MT_294
                  · by_cases h296 : p < 296
                    · obtain rfl : p = 295 := by omega
                      exact MT_295
                    · obtain rfl : p = 296 := by omega
                      exact MT_296
            · by_cases h302 : p < 302
              · by_cases h299 : p < 299
                · by_cases h298 : p < 298
                  · obtain rfl : p = 297 := by omega
                    exact MT_297
                  · obtain rfl : p = 298 := by omega
                    exact MT_298
                · by_cases h300 : p < 300
                  · obtain rfl : p = 299 := by omega
                    exact MT_299
                  · by_cases h301 : p < 301
                    · obtain rfl : p = 300 := by omega
                      exact MT_300
                    · obtain rfl : p = 301 := by omega
                      exact MT_301
              · by_cases h304 : p < 304
                · by_cases h303 : p < 303
                  · obtain rfl : p = 302 := by omega
                    exact MT_302
                  · obtain rfl : p = 303 := by omega
                    exact MT_303
                · by_cases h305 : p < 305
                  · obtain rfl : p = 304 := by omega
                    exact MT_304
                  · by_cases h306 : p < 306
                    · obtain rfl : p = 305 := by omega
                      exact MT_305
                    · obtain rfl : p = 306 := by omega
                      exact MT_306
          · by_cases h317 : p < 317
            · by_cases h312 : p < 312
              · by_cases h309 : p < 309
                · by_cases h308 : p < 308
                  · obtain rfl : p = 307 := by omega
                    exact MT_307
                  · obtain rfl : p = 308 := by omega
                    exact MT_308
                · by_cases h310 : p < 310
                  · obtain rfl : p = 309 := by omega
                    exact MT_309
                  · by_cases h311 : p < 311
                    · obtain rfl : p = 310 := by omega
                      exact MT_310
                    · obtain rfl : p = 311 := by omega
                      exact MT_311
              · by_cases h314 : p < 314
                · by_cases h313 : p < 313
                  · obtain rfl : p = 312 := by omega
                    exact MT_312
                  · obtain rfl : p = 313 := by omega
                    exact MT_313
                · by_cases h315 : p < 315
                  · obtain rfl : p = 314 := by omega
                    exact MT_314
                  · by_cases h316 : p < 316
                    · obtain rfl : p = 315 := by omega
                      exact MT_315
                    · obtain rfl : p = 316 := by omega
                      exact MT_316
            · by_cases h322 : p < 322
              · by_cases h319 : p < 319
                · by_cases h318 : p < 318
                  · obtain rfl : p = 317 := by omega
                    exact MT_317
                  · obtain rfl : p = 318 := by omega
                    exact MT_318
                · by_cases h320 : p < 320
                  · obtain rfl : p = 319 := by omega
                    exact MT_319
                  · by_cases h321 : p < 321
                    · obtain rfl : p = 320 := by omega
                      exact MT_320
                    · obtain rfl : p = 321 := by omega
                      exact MT_321
              · by_cases h325 : p < 325
                · by_cases h323 : p < 323
                  · obtain rfl : p = 322 := by omega
                    exact MT_322
                  · by_cases h324 : p < 324
                    · obtain rfl : p = 323 := by omega
                      exact MT_323
                    · obtain rfl : p = 324 := by omega
                      exact MT_324
                · by_cases h326 : p < 326
                  · obtain rfl : p = 325 := by omega
                    exact MT_325
                  · by_cases h327 : p < 327
                    · obtain rfl : p = 326 := by omega
                      exact MT_326
                    · obtain rfl : p = 327 := by omega
                      exact MT_327
noncomputable def CT (k : Nat) : Nat × Nat × Nat := (bif Nat.blt k 9 then (bif Nat.blt k 4 then (bif Nat.blt k 2 then (bif Nat.blt k 1 then (bif Nat.beq k 0 then (11, 7, 9) else (0, 0, 0)) else (bif Nat.beq k 1 then (11, 10, 10) else (0, 0, 0))) else (bif Nat.blt k 3 then (bif Nat.beq k 2 then (0, 9, 3) else (0, 0, 0)) else (bif Nat.beq k 3 then (1, 9, 3) else (0, 0, 0)))) else (bif Nat.blt k 6 then (bif Nat.blt k 5 then (bif Nat.beq k 4 then (2, 9, 1) else (0, 0, 0)) else (bif Nat.beq k 5 then (2, 28, 6) else (0, 0, 0))) else (bif Nat.blt k 7 then (bif Nat.beq k 6 then (2, 35, 3) else (0, 0, 0)) else (bif Nat.blt k 8 then (bif Nat.beq k 7 then (2, 53, 7) else (0, 0, 0)) else (bif Nat.beq k 8 then (2, 18, 4) else (0, 0, 0)))))) else (bif Nat.blt k 14 then (bif Nat.blt k 11 then (bif Nat.blt k 10 then (bif Nat.beq k 9 then (5, 9, 3) else (0, 0, 0)) else (bif Nat.beq k 10 then (5, 20, 7) else (0, 0, 0))) else (bif Nat.blt k 12 then (bif Nat.beq k 11 then (6, 9, 3) else (0, 0, 0)) else (bif Nat.blt k 13 then (bif Nat.beq k 12 then (9, 9, 3) else (0, 0, 0)) else (bif Nat.beq k 13 then (9, 23, 5) else (0, 0, 0))))) else (bif Nat.blt k 16 then (bif Nat.blt k 15 then (bif Nat.beq k 14 then (9, 40, 2) else (0, 0, 0)) else (bif Nat.beq k 15 then (9, 54, 6) else (0, 0, 0))) else (bif Nat.blt k 17 then (bif Nat.beq k 16 then (9, 61, 0) else (0, 0, 0)) else (bif Nat.blt k 18 then (bif Nat.beq k 17 then (9, 30, 7) else (0, 0, 0)) else (bif Nat.beq k 18 then (9, 68, 8) else (0, 0, 0)))))))
def CTn : Nat := 19
theorem CT_0 : Cond.classLink (cNm (CT 0).1) (CT 0).2.1 (cNm (CT 0).2.2) ∈ lw_tbl := tm_1 _ (List.mem_of_getElem? (i := 21) rfl)
theorem CT_1 : Cond.classLink (cNm (CT 1).1) (CT 1).2.1 (cNm (CT 1).2.2) ∈ lw_tbl := tm_4 _ (List.mem_of_getElem? (i := 239) rfl)
theorem CT_2 : Cond.classLink (cNm (CT 2).1) (CT 2).2.1 (cNm (CT 2).2.2) ∈ lw_tbl := tm_2 _ (List.mem_of_getElem? (i := 23) rfl)
theorem CT_3 : Cond.classLink (cNm (CT 3).1) (CT 3).2.1 (cNm (CT 3).2.2) ∈ lw_tbl := tm_1 _ (List.mem_of_getElem? (i := 116) rfl)
theorem CT_4 : Cond.classLink (cNm (CT 4).1) (CT 4).2.1 (cNm (CT 4).2.2) ∈ lw_tbl := tm_1 _ (List.mem_of_getElem? (i := 110) rfl)
theorem CT_5 : Cond.classLink (cNm (CT 5).1) (CT 5).2.1 (cNm (CT 5).2.2) ∈ lw_tbl := tm_1 _ (List.mem_of_getElem? (i := 148) rfl)
theorem CT_6 : Cond.classLink (cNm (CT 6).1) (CT 6).2.1 (cNm (CT 6).2.2) ∈ lw_tbl := tm_1 _ (List.mem_of_getElem? (i := 182) rfl)
theorem CT_7 : Cond.classLink (cNm (CT 7).1) (CT 7).2.1 (cNm (CT 7).2.2) ∈ lw_tbl := tm_1 _ (List.mem_of_getElem? (i := 184) rfl)
theorem CT_8 : Cond.classLink (cNm (CT 8).1) (CT 8).2.1 (cNm (CT 8).2.2) ∈ lw_tbl := tm_1 _ (List.mem_of_getElem? (i := 146) rfl)
theorem CT_9 : Cond.classLink (cNm (CT 9).1) (CT 9).2.1 (cNm (CT 9).2.2) ∈ lw_tbl := tm_1 _ (List.mem_of_getElem? (i := 58) rfl)
theorem CT_10 : Cond.classLink (cNm (CT 10).1) (CT 10).2.1 (cNm (CT 10).2.2) ∈ lw_tbl := tm_1 _ (List.mem_of_getElem? (i := 60) rfl)
theorem CT_11 : Cond.classLink (cNm (CT 11).1) (CT 11).2.1 (cNm (CT 11).2.2) ∈ lw_tbl := tm_1 _ (List.mem_of_getElem? (i := 154) rfl)
theorem CT_12 : Cond.classLink (cNm (CT 12).1) (CT 12).2.1 (cNm (CT 12).2.2) ∈ lw_tbl := tm_1 _ (List.mem_of_getElem? (i := 29) rfl)
theorem CT_13 : Cond.classLink (cNm (CT 13).1) (CT 13).2.1 (cNm (CT 13).2.2) ∈ lw_tbl := tm_1 _ (List.mem_of_getElem? (i := 52) rfl)
theorem CT_14 : Cond.classLink (cNm (CT 14).1) (CT 14).2.1 (cNm (CT 14).2.2) ∈ lw_tbl := tm_1 _ (List.mem_of_getElem? (i := 104) rfl)
theorem CT_15 : Cond.classLink (cNm (CT 15).1) (CT 15).2.1 (cNm (CT 15).2.2) ∈ lw_tbl := tm_2 _ (List.mem_of_getElem? (i := 15) rfl)
theorem CT_16 : Cond.classLink (cNm (CT 16).1) (CT 16).2.1 (cNm (CT 16).2.2) ∈ lw_tbl := tm_2 _ (List.mem_of_getElem? (i := 17) rfl)
theorem CT_17 : Cond.classLink (cNm (CT 17).1) (CT 17).2.1 (cNm (CT 17).2.2) ∈ lw_tbl := tm_1 _ (List.mem_of_getElem? (i := 102) rfl)
theorem CT_18 : Cond.classLink (cNm (CT 18).1) (CT 18).2.1 (cNm (CT 18).2.2) ∈ lw_tbl := tm_2 _ (List.mem_of_getElem? (i := 34) rfl)
theorem CT_ok {p : Nat} (h : p < CTn) : Cond.classLink (cNm (CT p).1) (CT p).2.1 (cNm (CT p).2.2) ∈ lw_tbl := by
  have h : p < 19 := h
  · by_cases h9 : p < 9
    · by_cases h4 : p < 4
      · by_cases h2 : p < 2
        · by_cases h1 : p < 1
          · obtain rfl : p = 0 := by omega
            exact CT_0
          · obtain rfl : p = 1 := by omega
            exact CT_1
        · by_cases h3 : p < 3
          · obtain rfl : p = 2 := by omega
            exact CT_2
          · obtain rfl : p = 3 := by omega
            exact CT_3
      · by_cases h6 : p < 6
        · by_cases h5 : p < 5
          · obtain rfl : p = 4 := by omega
            exact CT_4
          · obtain rfl : p = 5 := by omega
            exact CT_5
        · by_cases h7 : p < 7
          · obtain rfl : p = 6 := by omega
            exact CT_6
          · by_cases h8 : p < 8
            · obtain rfl : p = 7 := by omega
              exact CT_7
            · obtain rfl : p = 8 := by omega
              exact CT_8
    · by_cases h14 : p < 14
      · by_cases h11 : p < 11
        · by_cases h10 : p < 10
          · obtain rfl : p = 9 := by omega
            exact CT_9
          · obtain rfl : p = 10 := by omega
            exact CT_10
        · by_cases h12 : p < 12
          · obtain rfl : p = 11 := by omega
            exact CT_11
          · by_cases h13 : p < 13
            · obtain rfl : p = 12 := by omega
              exact CT_12
            · obtain rfl : p = 13 := by omega
              exact CT_13
      · by_cases h16 : p < 16
        · by_cases h15 : p < 15
          · obtain rfl : p = 14 := by omega
            exact CT_14
          · obtain rfl : p = 15 := by omega
            exact CT_15
        · by_cases h17 : p < 17
          · obtain rfl : p = 16 := by omega
            exact CT_16
          · by_cases h18 : p < 18
            · obtain rfl : p = 17 := by omega
              exact CT_17
            · obtain rfl : p = 18 := by omega
              exact CT_18
noncomputable def AT (k : Nat) : Nat × Nat × Nat := (bif Nat.blt k 2 then (bif Nat.blt k 1 then (bif Nat.beq k 0 then (1, 9, 14) else (0, 0, 0)) else (bif Nat.beq k 1 then (2, 18, 15) else (0, 0, 0))) else (bif Nat.blt k 3 then (bif Nat.beq k 2 then (9, 30, 16) else (0, 0, 0)) else (bif Nat.beq k 3 then (9, 68, 17) else (0, 0, 0))))
def ATn : Nat := 4
theorem AT_0 : Cond.classLink (cNm (AT 0).1) (AT 0).2.1 (oNm (AT 0).2.2) ∈ lw_tbl := tm_1 _ (List.mem_of_getElem? (i := 116) rfl)
theorem AT_1 : Cond.classLink (cNm (AT 1).1) (AT 1).2.1 (oNm (AT 1).2.2) ∈ lw_tbl := tm_1 _ (List.mem_of_getElem? (i := 146) rfl)
theorem AT_2 : Cond.classLink (cNm (AT 2).1) (AT 2).2.1 (oNm (AT 2).2.2) ∈ lw_tbl := tm_1 _ (List.mem_of_getElem? (i := 102) rfl)
theorem AT_3 : Cond.classLink (cNm (AT 3).1) (AT 3).2.1 (oNm (AT 3).2.2) ∈ lw_tbl := tm_2 _ (List.mem_of_getElem? (i := 34) rfl)
theorem AT_ok {p : Nat} (h : p < ATn) : Cond.classLink (cNm (AT p).1) (AT p).2.1 (oNm (AT p).2.2) ∈ lw_tbl := by
  have h : p < 4 := h
  · by_cases h2 : p < 2
    · by_cases h1 : p < 1
      · obtain rfl : p = 0 := by omega
        exact AT_0
      · obtain rfl : p = 1 := by omega
        exact AT_1
    · by_cases h3 : p < 3
      · obtain rfl : p = 2 := by omega
        exact AT_2
      · obtain rfl : p = 3 := by omega
        exact AT_3
noncomputable def KT (k : Nat) : Nat × Nat × Nat := (bif Nat.blt k 1 then (bif Nat.beq k 0 then (16, 265, 1431655765) else (0, 0, 0)) else (bif Nat.blt k 2 then (bif Nat.beq k 1 then (16, 266, 858993459) else (0, 0, 0)) else (bif Nat.beq k 2 then (16, 267, 252645135) else (0, 0, 0))))
def KTn : Nat := 3
theorem KT_0 : Cond.constant (cNm (KT 0).1) (KT 0).2.1 (Int32.ofNat (KT 0).2.2) ∈ lw_tbl := tm_3 _ (List.mem_of_getElem? (i := 228) rfl)
theorem KT_1 : Cond.constant (cNm (KT 1).1) (KT 1).2.1 (Int32.ofNat (KT 1).2.2) ∈ lw_tbl := tm_3 _ (List.mem_of_getElem? (i := 229) rfl)
theorem KT_2 : Cond.constant (cNm (KT 2).1) (KT 2).2.1 (Int32.ofNat (KT 2).2.2) ∈ lw_tbl := tm_3 _ (List.mem_of_getElem? (i := 230) rfl)
theorem KT_ok {p : Nat} (h : p < KTn) : Cond.constant (cNm (KT p).1) (KT p).2.1 (Int32.ofNat (KT p).2.2) ∈ lw_tbl := by
  have h : p < 3 := h
  · by_cases h1 : p < 1
    · obtain rfl : p = 0 := by omega
      exact KT_0
    · by_cases h2 : p < 2
      · obtain rfl : p = 1 := by omega
        exact KT_1
      · obtain rfl : p = 2 := by omega
        exact KT_2
noncomputable def LT (k : Nat) : Nat × Nat × Nat := (bif Nat.blt k 1 then (bif Nat.beq k 0 then (11, 162, 4294967295) else (0, 0, 0)) else (bif Nat.blt k 2 then (bif Nat.beq k 1 then (9, 265, 9223372036854775808) else (0, 0, 0)) else (bif Nat.beq k 2 then (10, 449, 9223372036854775808) else (0, 0, 0))))
def LTn : Nat := 3
theorem LT_0 : Cond.constantLong (cNm (LT 0).1) (LT 0).2.1 (Int64.ofNat (LT 0).2.2) ∈ lw_tbl := tm_7 _ (List.mem_of_getElem? (i := 219) rfl)
theorem LT_1 : Cond.constantLong (cNm (LT 1).1) (LT 1).2.1 (Int64.ofNat (LT 1).2.2) ∈ lw_tbl := tm_4 _ (List.mem_of_getElem? (i := 118) rfl)
theorem LT_2 : Cond.constantLong (cNm (LT 2).1) (LT 2).2.1 (Int64.ofNat (LT 2).2.2) ∈ lw_tbl := tm_7 _ (List.mem_of_getElem? (i := 114) rfl)
theorem LT_ok {p : Nat} (h : p < LTn) : Cond.constantLong (cNm (LT p).1) (LT p).2.1 (Int64.ofNat (LT p).2.2) ∈ lw_tbl := by
  have h : p < 3 := h
  · by_cases h1 : p < 1
    · obtain rfl : p = 0 := by omega
      exact LT_0
    · by_cases h2 : p < 2
      · obtain rfl : p = 1 := by omega
        exact LT_1
      · obtain rfl : p = 2 := by omega
        exact LT_2
noncomputable def TT (k : Nat) : Nat × Nat × Nat := (bif Nat.blt k 3 then (bif Nat.blt k 1 then (bif Nat.beq k 0 then (5, 53, 3) else (0, 0, 0)) else (bif Nat.blt k 2 then (bif Nat.beq k 1 then (5, 65, 7) else (0, 0, 0)) else (bif Nat.beq k 2 then (5, 74, 8) else (0, 0, 0)))) else (bif Nat.blt k 4 then (bif Nat.beq k 3 then (5, 82, 4) else (0, 0, 0)) else (bif Nat.blt k 5 then (bif Nat.beq k 4 then (5, 88, 5) else (0, 0, 0)) else (bif Nat.beq k 5 then (5, 94, 6) else (0, 0, 0)))))
def TTn : Nat := 6
theorem TT_0 : Cond.stringRef (cNm (TT 0).1) (TT 0).2.1 (sTx (TT 0).2.2) ∈ lw_tbl := tm_3 _ (List.mem_of_getElem? (i := 17) rfl)
theorem TT_1 : Cond.stringRef (cNm (TT 1).1) (TT 1).2.1 (sTx (TT 1).2.2) ∈ lw_tbl := tm_3 _ (List.mem_of_getElem? (i := 157) rfl)
theorem TT_2 : Cond.stringRef (cNm (TT 2).1) (TT 2).2.1 (sTx (TT 2).2.2) ∈ lw_tbl := tm_3 _ (List.mem_of_getElem? (i := 158) rfl)
theorem TT_3 : Cond.stringRef (cNm (TT 3).1) (TT 3).2.1 (sTx (TT 3).2.2) ∈ lw_tbl := tm_3 _ (List.mem_of_getElem? (i := 86) rfl)
theorem TT_4 : Cond.stringRef (cNm (TT 4).1) (TT 4).2.1 (sTx (TT 4).2.2) ∈ lw_tbl := tm_3 _ (List.mem_of_getElem? (i := 146) rfl)
theorem TT_5 : Cond.stringRef (cNm (TT 5).1) (TT 5).2.1 (sTx (TT 5).2.2) ∈ lw_tbl := tm_3 _ (List.mem_of_getElem? (i := 151) rfl)
theorem TT_ok {p : Nat} (h : p < TTn) : Cond.stringRef (cNm (TT p).1) (TT p).2.1 (sTx (TT p).2.2) ∈ lw_tbl := by
  have h : p < 6 := h
  · by_cases h3 : p < 3
    · by_cases h1 : p < 1
      · obtain rfl : p = 0 := by omega
        exact TT_0
      · by_cases h2 : p < 2
        · obtain rfl : p = 1 := by omega
          exact TT_1
        · obtain rfl : p = 2 := by omega
          exact TT_2
    · by_cases h4 : p < 4
      · obtain rfl : p = 3 := by omega
        exact TT_3
      · by_cases h5 : p < 5
        · obtain rfl : p = 4 := by omega
          exact TT_4
        · obtain rfl : p = 5 := by omega
          exact TT_5
def MO (m : Nat) : Prop := (m = 0 ∨ (Cond.code (mY m) (mB m) (mL m) (mR m) ∈ lw_tbl ∧ (bif mS m then Cond.static (mY m) else Cond.instanceMethod (mY m)) ∈ lw_tbl ∧ (mS m = true ∨ mI m = true ∨ Cond.selects (cNm (mC m)) (mY m) (mY m) ∈ lw_tbl) ∧ Cond.initialized (cNm (mC m)) ∈ lw_tbl)) ∧ (mY m).cls = cNm (mC m) ∧ (mI m = false ∨ (mY m).name = "<init>")
theorem MO_0 : MO 0 := ⟨Or.inl rfl, rfl, Or.inl rfl⟩
theorem MO_1 : MO 1 := ⟨Or.inr ⟨tm_2 _ (List.mem_of_getElem? (i := 21) rfl), tm_2 _ (List.mem_of_getElem? (i := 20) rfl), Or.inr (Or.inl rfl), tm_1 _ (List.mem_of_getElem? (i := 10) rfl)⟩, rfl, Or.inr rfl⟩
theorem MO_2 : MO 2 := ⟨Or.inr ⟨tm_4 _ (List.mem_of_getElem? (i := 177) rfl), tm_4 _ (List.mem_of_getElem? (i := 175) rfl), Or.inr (Or.inr (tm_4 _ (List.mem_of_getElem? (i := 176) rfl))), tm_1 _ (List.mem_of_getElem? (i := 10) rfl)⟩, rfl, Or.inl rfl⟩
theorem MO_3 : MO 3 := ⟨Or.inr ⟨tm_4 _ (List.mem_of_getElem? (i := 182) rfl), tm_4 _ (List.mem_of_getElem? (i := 180) rfl), Or.inr (Or.inr (tm_4 _ (List.mem_of_getElem? (i := 181) rfl))), tm_1 _ (List.mem_of_getElem? (i := 10) rfl)⟩, rfl, Or.inl rfl⟩
theorem MO_4 : MO 4 := ⟨Or.inr ⟨tm_4 _ (List.mem_of_getElem? (i := 185) rfl), tm_4 _ (List.mem_of_getElem? (i := 184) rfl), Or.inl rfl, tm_1 _ (List.mem_of_getElem? (i := 10) rfl)⟩, rfl, Or.inl rfl⟩
theorem MO_5 : MO 5 := ⟨Or.inr ⟨tm_4 _ (List.mem_of_getElem? (i := 188) rfl), tm_4 _ (List.mem_of_getElem? (i := 187) rfl), Or.inl rfl, tm_1 _ (List.mem_of_getElem? (i := 10) rfl)⟩, rfl, Or.inl rfl⟩
theorem MO_6 : MO 6 := ⟨Or.inr ⟨tm_1 _ (List.mem_of_getElem? (i := 114) rfl), tm_1 _ (List.mem_of_getElem? (i := 113) rfl), Or.inr (Or.inl rfl), tm_1 _ (List.mem_of_getElem? (i := 7) rfl)⟩, rfl, Or.inr rfl⟩
theorem MO_7 : MO 7 := ⟨Or.inr ⟨tm_2 _ (List.mem_of_getElem? (i := 141) rfl), tm_2 _ (List.mem_of_getElem? (i := 139) rfl), Or.inr (Or.inr (tm_2 _ (List.mem_of_getElem? (i := 140) rfl))), tm_1 _ (List.mem_of_getElem? (i := 7) rfl)⟩, rfl, Or.inl rfl⟩
theorem MO_8 : MO 8 := ⟨Or.inr ⟨tm_2 _ (List.mem_of_getElem? (i := 145) rfl), tm_2 _ (List.mem_of_getElem? (i := 143) rfl), Or.inr (Or.inr (tm_2 _ (List.mem_of_getElem? (i := 144) rfl))), tm_1 _ (List.mem_of_getElem? (i := 7) rfl)⟩, rfl, Or.inl rfl⟩
theorem MO_9 : MO 9 := ⟨Or.inr ⟨tm_4 _ (List.mem_of_getElem? (i := 156) rfl), tm_4 _ (List.mem_of_getElem? (i := 154) rfl), Or.inr (Or.inr (tm_4 _ (List.mem_of_getElem? (i := 155) rfl))), tm_1 _ (List.mem_of_getElem? (i := 7) rfl)⟩, rfl, Or.inl rfl⟩
theorem MO_10 : MO 10 := ⟨Or.inr ⟨tm_2 _ (List.mem_of_getElem? (i := 124) rfl), tm_2 _ (List.mem_of_getElem? (i := 122) rfl), Or.inr (Or.inr (tm_2 _ (List.mem_of_getElem? (i := 123) rfl))), tm_1 _ (List.mem_of_getElem? (i := 7) rfl)⟩, rfl, Or.inl rfl⟩
theorem MO_11 : MO 11 := ⟨Or.inr ⟨tm_4 _ (List.mem_of_getElem? (i := 113) rfl), tm_4 _ (List.mem_of_getElem? (i := 111) rfl), Or.inr (Or.inr (tm_4 _ (List.mem_of_getElem? (i := 112) rfl))), tm_1 _ (List.mem_of_getElem? (i := 7) rfl)⟩, rfl, Or.inl rfl⟩
theorem MO_12 : MO 12 := ⟨Or.inr ⟨tm_2 _ (List.mem_of_getElem? (i := 132) rfl), tm_2 _ (List.mem_of_getElem? (i := 130) rfl), Or.inr (Or.inr (tm_2 _ (List.mem_of_getElem? (i := 131) rfl))), tm_1 _ (List.mem_of_getElem? (i := 7) rfl)⟩, rfl, Or.inl rfl⟩
theorem MO_13 : MO 13 := ⟨Or.inr ⟨tm_2 _ (List.mem_of_getElem? (i := 120) rfl), tm_2 _ (List.mem_of_getElem? (i := 118) rfl), Or.inr (Or.inr (tm_2 _ (List.mem_of_getElem? (i := 119) rfl))), tm_1 _ (List.mem_of_getElem? (i := 7) rfl)⟩, rfl, Or.inl rfl⟩
theorem MO_14 : MO 14 := ⟨Or.inr ⟨tm_2 _ (List.mem_of_getElem? (i := 116) rfl), tm_2 _ (List.mem_of_getElem? (i := 114) rfl), Or.inr (Or.inr (tm_2 _ (List.mem_of_getElem? (i := 115) rfl))), tm_1 _ (List.mem_of_getElem? (i := 7) rfl)⟩, rfl, Or.inl rfl⟩
theorem MO_15 : MO 15 := ⟨Or.inr ⟨tm_2 _ (List.mem_of_getElem? (i := 137) rfl), tm_2 _ (List.mem_of_getElem? (i := 135) rfl), Or.inr (Or.inr (tm_2 _ (List.mem_of_getElem? (i := 136) rfl))), tm_1 _ (List.mem_of_getElem? (i := 7) rfl)⟩, rfl, Or.inl rfl⟩
theorem MO_16 : MO 16 := ⟨Or.inr ⟨tm_2 _ (List.mem_of_getElem? (i := 215) rfl), tm_2 _ (List.mem_of_getElem? (i := 213) rfl), Or.inr (Or.inr (tm_2 _ (List.mem_of_getElem? (i := 214) rfl))), tm_1 _ (List.mem_of_getElem? (i := 7) rfl)⟩, rfl, Or.inl rfl⟩
theorem MO_17 : MO 17 := ⟨Or.inr ⟨tm_2 _ (List.mem_of_getElem? (i := 224) rfl), tm_2 _ (List.mem_of_getElem? (i := 222) rfl), Or.inr (Or.inr (tm_2 _ (List.mem_of_getElem? (i := 223) rfl))), tm_1 _ (List.mem_of_getElem? (i := 7) rfl)⟩, rfl, Or.inl rfl⟩
theorem MO_18 : MO 18 := ⟨Or.inr ⟨tm_3 _ (List.mem_of_getElem? (i := 177) rfl), tm_3 _ (List.mem_of_getElem? (i := 175) rfl), Or.inr (Or.inr (tm_3 _ (List.mem_of_getElem? (i := 176) rfl))), tm_1 _ (List.mem_of_getElem? (i := 7) rfl)⟩, rfl, Or.inl rfl⟩
theorem MO_19 : MO 19 := ⟨Or.inr ⟨tm_3 _ (List.mem_of_getElem? (i := 184) rfl), tm_3 _ (List.mem_of_getElem? (i := 182) rfl), Or.inr (Or.inr (tm_3 _ (List.mem_of_getElem? (i := 183) rfl))), tm_1 _ (List.mem_of_getElem? (i := 7) rfl)⟩, rfl, Or.inl rfl⟩
theorem MO_20 : MO 20 := ⟨Or.inr ⟨tm_3 _ (List.mem_of_getElem? (i := 190) rfl), tm_3 _ (List.mem_of_getElem? (i := 189) rfl), Or.inr (Or.inr (tm_0 _ (List.mem_of_getElem? (i := 8) rfl))), tm_1 _ (List.mem_of_getElem? (i := 7) rfl)⟩, rfl, Or.inl rfl⟩
theorem MO_21 : MO 21 := ⟨Or.inr ⟨tm_1 _ (List.mem_of_getElem? (i := 108) rfl), tm_1 _ (List.mem_of_getElem? (i := 107) rfl), Or.inr (Or.inl rfl), tm_1 _ (List.mem_of_getElem? (i := 6) rfl)⟩, rfl, Or.inr rfl⟩
theorem MO_22 : MO 22 := ⟨Or.inr ⟨tm_2 _ (List.mem_of_getElem? (i := 189) rfl), tm_2 _ (List.mem_of_getElem? (i := 187) rfl), Or.inr (Or.inr (tm_2 _ (List.mem_of_getElem? (i := 188) rfl))), tm_1 _ (List.mem_of_getElem? (i := 6) rfl)⟩, rfl, Or.inl rfl⟩
theorem MO_23 : MO 23 := ⟨Or.inr ⟨tm_2 _ (List.mem_of_getElem? (i := 174) rfl), tm_2 _ (List.mem_of_getElem? (i := 172) rfl), Or.inr (Or.inr (tm_2 _ (List.mem_of_getElem? (i := 173) rfl))), tm_1 _ (List.mem_of_getElem? (i := 6) rfl)⟩, rfl, Or.inl rfl⟩
theorem MO_24 : MO 24 := ⟨Or.inr ⟨tm_4 _ (List.mem_of_getElem? (i := 87) rfl), tm_4 _ (List.mem_of_getElem? (i := 85) rfl), Or.inr (Or.inr (tm_4 _ (List.mem_of_getElem? (i := 86) rfl))), tm_1 _ (List.mem_of_getElem? (i := 6) rfl)⟩, rfl, Or.inl rfl⟩
theorem MO_25 : MO 25 := ⟨Or.inr ⟨tm_4 _ (List.mem_of_getElem? (i := 92) rfl), tm_4 _ (List.mem_of_getElem? (i := 90) rfl), Or.inr (Or.inr (tm_4 _ (List.mem_of_getElem? (i := 91) rfl))), tm_1 _ (List.mem_of_getElem? (i := 6) rfl)⟩, rfl, Or.inl rfl⟩
theorem MO_26 : MO 26 := ⟨Or.inr ⟨tm_4 _ (List.mem_of_getElem? (i := 152) rfl), tm_4 _ (List.mem_of_getElem? (i := 150) rfl), Or.inr (Or.inr (tm_4 _ (List.mem_of_getElem? (i := 151) rfl))), tm_1 _ (List.mem_of_getElem? (i := 6) rfl)⟩, rfl, Or.inl rfl⟩
theorem MO_27 : MO 27 := ⟨Or.inr ⟨tm_2 _ (List.mem_of_getElem? (i := 194) rfl), tm_2 _ (List.mem_of_getElem? (i := 192) rfl), Or.inr (Or.inr (tm_2 _ (List.mem_of_getElem? (i := 193) rfl))), tm_1 _ (List.mem_of_getElem? (i := 6) rfl)⟩, rfl, Or.inl rfl⟩
theorem MO_28 : MO 28 := ⟨Or.inr ⟨tm_3 _ (List.mem_of_getElem? (i := 171) rfl), tm_3 _ (List.mem_of_getElem? (i := 169) rfl), Or.inr (Or.inr (tm_3 _ (List.mem_of_getElem? (i := 170) rfl))), tm_1 _ (List.mem_of_getElem? (i := 6) rfl)⟩, rfl, Or.inl rfl⟩
theorem MO_29 : MO 29 := ⟨Or.inr ⟨tm_4 _ (List.mem_of_getElem? (i := 100) rfl), tm_4 _ (List.mem_of_getElem? (i := 98) rfl), Or.inr (Or.inr (tm_4 _ (List.mem_of_getElem? (i := 99) rfl))), tm_1 _ (List.mem_of_getElem? (i := 6) rfl)⟩, rfl, Or.inl rfl⟩
theorem MO_30 : MO 30 := ⟨Or.inr ⟨tm_2 _ (List.mem_of_getElem? (i := 210) rfl), tm_2 _ (List.mem_of_getElem? (i := 208) rfl), Or.inr (Or.inr (tm_2 _ (List.mem_of_getElem? (i := 209) rfl))), tm_1 _ (List.mem_of_getElem? (i := 6) rfl)⟩, rfl, Or.inl rfl⟩
theorem MO_31 : MO 31 := ⟨Or.inr ⟨tm_2 _ (List.mem_of_getElem? (i := 219) rfl), tm_2 _ (List.mem_of_getElem? (i := 217) rfl), Or.inr (Or.inr (tm_2 _ (List.mem_of_getElem? (i := 218) rfl))), tm_1 _ (List.mem_of_getElem? (i := 6) rfl)⟩, rfl, Or.inl rfl⟩
theorem MO_32 : MO 32 := ⟨Or.inr ⟨tm_4 _ (List.mem_of_getElem? (i := 75) rfl), tm_4 _ (List.mem_of_getElem? (i := 73) rfl), Or.inr (Or.inr (tm_4 _ (List.mem_of_getElem? (i := 74) rfl))), tm_1 _ (List.mem_of_getElem? (i := 6) rfl)⟩, rfl, Or.inl rfl⟩
theorem MO_33 : MO 33 := ⟨Or.inr ⟨tm_3 _ (List.mem_of_getElem? (i := 203) rfl), tm_3 _ (List.mem_of_getElem? (i := 201) rfl), Or.inr (Or.inr (tm_3 _ (List.mem_of_getElem? (i := 202) rfl))), tm_1 _ (List.mem_of_getElem? (i := 6) rfl)⟩, rfl, Or.inl rfl⟩
theorem MO_34 : MO 34 := ⟨Or.inr ⟨tm_3 _ (List.mem_of_getElem? (i := 198) rfl), tm_3 _ (List.mem_of_getElem? (i := 196) rfl), Or.inr (Or.inr (tm_3 _ (List.mem_of_getElem? (i := 197) rfl))), tm_1 _ (List.mem_of_getElem? (i := 6) rfl)⟩, rfl, Or.inl rfl⟩
theorem MO_35 : MO 35 := ⟨Or.inr ⟨tm_4 _ (List.mem_of_getElem? (i := 30) rfl), tm_4 _ (List.mem_of_getElem? (i := 28) rfl), Or.inr (Or.inr (tm_4 _ (List.mem_of_getElem? (i := 29) rfl))), tm_1 _ (List.mem_of_getElem? (i := 6) rfl)⟩, rfl, Or.inl rfl⟩
theorem MO_36 : MO 36 := ⟨Or.inr ⟨tm_3 _ (List.mem_of_getElem? (i := 194) rfl), tm_3 _ (List.mem_of_getElem? (i := 192) rfl), Or.inr (Or.inr (tm_3 _ (List.mem_of_getElem? (i := 193) rfl))), tm_1 _ (List.mem_of_getElem? (i := 6) rfl)⟩, rfl, Or.inl rfl⟩
theorem MO_37 : MO 37 := ⟨Or.inr ⟨tm_3 _ (List.mem_of_getElem? (i := 235) rfl), tm_3 _ (List.mem_of_getElem? (i := 233) rfl), Or.inr (Or.inr (tm_3 _ (List.mem_of_getElem? (i := 234) rfl))), tm_1 _ (List.mem_of_getElem? (i := 6) rfl)⟩, rfl, Or.inl rfl⟩
theorem MO_38 : MO 38 := ⟨Or.inr ⟨tm_4 _ (List.mem_of_getElem? (i := 1) rfl), tm_4 _ (List.mem_of_getElem? (i := 0) rfl), Or.inr (Or.inr (tm_0 _ (List.mem_of_getElem? (i := 11) rfl))), tm_1 _ (List.mem_of_getElem? (i := 6) rfl)⟩, rfl, Or.inl rfl⟩
theorem MO_39 : MO 39 := ⟨Or.inr ⟨tm_3 _ (List.mem_of_getElem? (i := 210) rfl), tm_3 _ (List.mem_of_getElem? (i := 209) rfl), Or.inr (Or.inr (tm_0 _ (List.mem_of_getElem? (i := 9) rfl))), tm_1 _ (List.mem_of_getElem? (i := 6) rfl)⟩, rfl, Or.inl rfl⟩
theorem MO_40 : MO 40 := ⟨Or.inr ⟨tm_3 _ (List.mem_of_getElem? (i := 223) rfl), tm_3 _ (List.mem_of_getElem? (i := 222) rfl), Or.inr (Or.inr (tm_0 _ (List.mem_of_getElem? (i := 10) rfl))), tm_1 _ (List.mem_of_getElem? (i := 6) rfl)⟩, rfl, Or.inl rfl⟩
theorem MO_41 : MO 41 := ⟨Or.inr ⟨tm_1 _ (List.mem_of_getElem? (i := 33) rfl), tm_1 _ (List.mem_of_getElem? (i := 32) rfl), Or.inr (Or.inl rfl), tm_1 _ (List.mem_of_getElem? (i := 2) rfl)⟩, rfl, Or.inr rfl⟩
theorem MO_42 : MO 42 := ⟨Or.inr ⟨tm_2 _ (List.mem_of_getElem? (i := 104) rfl), tm_2 _ (List.mem_of_getElem? (i := 102) rfl), Or.inr (Or.inr (tm_2 _ (List.mem_of_getElem? (i := 103) rfl))), tm_1 _ (List.mem_of_getElem? (i := 2) rfl)⟩, rfl, Or.inl rfl⟩
theorem MO_43 : MO 43 := ⟨Or.inr ⟨tm_2 _ (List.mem_of_getElem? (i := 108) rfl), tm_2 _ (List.mem_of_getElem? (i := 106) rfl), Or.inr (Or.inr (tm_2 _ (List.mem_of_getElem? (i := 107) rfl))), tm_1 _ (List.mem_of_getElem? (i := 2) rfl)⟩, rfl, Or.inl rfl⟩
theorem MO_44 : MO 44 := ⟨Or.inr ⟨tm_2 _ (List.mem_of_getElem? (i := 128) rfl), tm_2 _ (List.mem_of_getElem? (i := 126) rfl), Or.inr (Or.inr (tm_2 _ (List.mem_of_getElem? (i := 127) rfl))), tm_1 _ (List.mem_of_getElem? (i := 2) rfl)⟩, rfl, Or.inl rfl⟩
theorem MO_45 : MO 45 := ⟨Or.inr ⟨tm_2 _ (List.mem_of_getElem? (i := 97) rfl), tm_2 _ (List.mem_of_getElem? (i := 95) rfl), Or.inr (Or.inr (tm_2 _ (List.mem_of_getElem? (i := 96) rfl))), tm_1 _ (List.mem_of_getElem? (i := 2) rfl)⟩, rfl, Or.inl rfl⟩
theorem MO_46 : MO 46 := ⟨Or.inr ⟨tm_2 _ (List.mem_of_getElem? (i := 150) rfl), tm_2 _ (List.mem_of_getElem? (i := 148) rfl), Or.inr (Or.inr (tm_2 _ (List.mem_of_getElem? (i := 149) rfl))), tm_1 _ (List.mem_of_getElem? (i := 2) rfl)⟩, rfl, Or.inl rfl⟩
theorem MO_47 : MO 47 := ⟨Or.inr ⟨tm_1 _ (List.mem_of_getElem? (i := 189) rfl), tm_1 _ (List.mem_of_getElem? (i := 188) rfl), Or.inr (Or.inl rfl), tm_1 _ (List.mem_of_getElem? (i := 9) rfl)⟩, rfl, Or.inr rfl⟩
theorem MO_48 : MO 48 := ⟨Or.inr ⟨tm_2 _ (List.mem_of_getElem? (i := 178) rfl), tm_2 _ (List.mem_of_getElem? (i := 176) rfl), Or.inr (Or.inr (tm_2 _ (List.mem_of_getElem? (i := 177) rfl))), tm_1 _ (List.mem_of_getElem? (i := 9) rfl)⟩, rfl, Or.inl rfl⟩
theorem MO_49 : MO 49 := ⟨Or.inr ⟨tm_4 _ (List.mem_of_getElem? (i := 161) rfl), tm_4 _ (List.mem_of_getElem? (i := 159) rfl), Or.inr (Or.inr (tm_4 _ (List.mem_of_getElem? (i := 160) rfl))), tm_1 _ (List.mem_of_getElem? (i := 9) rfl)⟩, rfl, Or.inl rfl⟩
theorem MO_50 : MO 50 := ⟨Or.inr ⟨tm_1 _ (List.mem_of_getElem? (i := 56) rfl), tm_1 _ (List.mem_of_getElem? (i := 55) rfl), Or.inr (Or.inl rfl), tm_1 _ (List.mem_of_getElem? (i := 4) rfl)⟩, rfl, Or.inr rfl⟩
theorem MO_51 : MO 51 := ⟨Or.inr ⟨tm_3 _ (List.mem_of_getElem? (i := 4) rfl), tm_3 _ (List.mem_of_getElem? (i := 2) rfl), Or.inr (Or.inr (tm_3 _ (List.mem_of_getElem? (i := 3) rfl))), tm_1 _ (List.mem_of_getElem? (i := 4) rfl)⟩, rfl, Or.inl rfl⟩
theorem MO_52 : MO 52 := ⟨Or.inr ⟨tm_3 _ (List.mem_of_getElem? (i := 12) rfl), tm_3 _ (List.mem_of_getElem? (i := 11) rfl), Or.inr (Or.inr (tm_0 _ (List.mem_of_getElem? (i := 0) rfl))), tm_1 _ (List.mem_of_getElem? (i := 4) rfl)⟩, rfl, Or.inl rfl⟩
theorem MO_53 : MO 53 := ⟨Or.inr ⟨tm_3 _ (List.mem_of_getElem? (i := 77) rfl), tm_3 _ (List.mem_of_getElem? (i := 76) rfl), Or.inr (Or.inr (tm_0 _ (List.mem_of_getElem? (i := 4) rfl))), tm_1 _ (List.mem_of_getElem? (i := 4) rfl)⟩, rfl, Or.inl rfl⟩
theorem MO_54 : MO 54 := ⟨Or.inr ⟨tm_3 _ (List.mem_of_getElem? (i := 81) rfl), tm_3 _ (List.mem_of_getElem? (i := 80) rfl), Or.inr (Or.inr (tm_0 _ (List.mem_of_getElem? (i := 5) rfl))), tm_1 _ (List.mem_of_getElem? (i := 4) rfl)⟩, rfl, Or.inl rfl⟩
theorem MO_55 : MO 55 := ⟨Or.inr ⟨tm_3 _ (List.mem_of_getElem? (i := 150) rfl), tm_3 _ (List.mem_of_getElem? (i := 149) rfl), Or.inr (Or.inr (tm_0 _ (List.mem_of_getElem? (i := 7) rfl))), tm_1 _ (List.mem_of_getElem? (i := 4) rfl)⟩, rfl, Or.inl rfl⟩
theorem MO_56 : MO 56 := ⟨Or.inr ⟨tm_3 _ (List.mem_of_getElem? (i := 90) rfl), tm_3 _ (List.mem_of_getElem? (i := 89) rfl), Or.inr (Or.inr (tm_0 _ (List.mem_of_getElem? (i := 6) rfl))), tm_1 _ (List.mem_of_getElem? (i := 4) rfl)⟩, rfl, Or.inl rfl⟩
theorem MO_57 : MO 57 := ⟨Or.inr ⟨tm_3 _ (List.mem_of_getElem? (i := 21) rfl), tm_3 _ (List.mem_of_getElem? (i := 20) rfl), Or.inr (Or.inr (tm_0 _ (List.mem_of_getElem? (i := 2) rfl))), tm_1 _ (List.mem_of_getElem? (i := 4) rfl)⟩, rfl, Or.inl rfl⟩
theorem MO_58 : MO 58 := ⟨Or.inr ⟨tm_3 _ (List.mem_of_getElem? (i := 73) rfl), tm_3 _ (List.mem_of_getElem? (i := 72) rfl), Or.inr (Or.inr (tm_0 _ (List.mem_of_getElem? (i := 3) rfl))), tm_1 _ (List.mem_of_getElem? (i := 4) rfl)⟩, rfl, Or.inl rfl⟩
theorem MO_59 : MO 59 := ⟨Or.inr ⟨tm_3 _ (List.mem_of_getElem? (i := 16) rfl), tm_3 _ (List.mem_of_getElem? (i := 15) rfl), Or.inr (Or.inr (tm_0 _ (List.mem_of_getElem? (i := 1) rfl))), tm_1 _ (List.mem_of_getElem? (i := 4) rfl)⟩, rfl, Or.inl rfl⟩
theorem MO_60 : MO 60 := ⟨Or.inr ⟨tm_1 _ (List.mem_of_getElem? (i := 152) rfl), tm_1 _ (List.mem_of_getElem? (i := 151) rfl), Or.inr (Or.inl rfl), tm_1 _ (List.mem_of_getElem? (i := 8) rfl)⟩, rfl, Or.inr rfl⟩
theorem MO_61 : MO 61 := ⟨Or.inr ⟨tm_4 _ (List.mem_of_getElem? (i := 6) rfl), tm_4 _ (List.mem_of_getElem? (i := 4) rfl), Or.inr (Or.inr (tm_4 _ (List.mem_of_getElem? (i := 5) rfl))), tm_1 _ (List.mem_of_getElem? (i := 8) rfl)⟩, rfl, Or.inl rfl⟩
theorem MO_62 : MO 62 := ⟨Or.inr ⟨tm_4 _ (List.mem_of_getElem? (i := 24) rfl), tm_4 _ (List.mem_of_getElem? (i := 22) rfl), Or.inr (Or.inr (tm_4 _ (List.mem_of_getElem? (i := 23) rfl))), tm_1 _ (List.mem_of_getElem? (i := 8) rfl)⟩, rfl, Or.inl rfl⟩
theorem MO_63 : MO 63 := ⟨Or.inr ⟨tm_1 _ (List.mem_of_getElem? (i := 64) rfl), tm_1 _ (List.mem_of_getElem? (i := 63) rfl), Or.inr (Or.inl rfl), tm_1 _ (List.mem_of_getElem? (i := 5) rfl)⟩, rfl, Or.inr rfl⟩
theorem MO_64 : MO 64 := ⟨Or.inr ⟨tm_3 _ (List.mem_of_getElem? (i := 8) rfl), tm_3 _ (List.mem_of_getElem? (i := 6) rfl), Or.inr (Or.inr (tm_3 _ (List.mem_of_getElem? (i := 7) rfl))), tm_1 _ (List.mem_of_getElem? (i := 5) rfl)⟩, rfl, Or.inl rfl⟩
theorem MO_65 : MO 65 := ⟨Or.inr ⟨tm_3 _ (List.mem_of_getElem? (i := 85) rfl), tm_3 _ (List.mem_of_getElem? (i := 83) rfl), Or.inr (Or.inr (tm_3 _ (List.mem_of_getElem? (i := 84) rfl))), tm_1 _ (List.mem_of_getElem? (i := 5) rfl)⟩, rfl, Or.inl rfl⟩
theorem MO_66 : MO 66 := ⟨Or.inr ⟨tm_3 _ (List.mem_of_getElem? (i := 155) rfl), tm_3 _ (List.mem_of_getElem? (i := 153) rfl), Or.inr (Or.inr (tm_3 _ (List.mem_of_getElem? (i := 154) rfl))), tm_1 _ (List.mem_of_getElem? (i := 5) rfl)⟩, rfl, Or.inl rfl⟩
theorem MO_67 : MO 67 := ⟨Or.inr ⟨tm_2 _ (List.mem_of_getElem? (i := 198) rfl), tm_2 _ (List.mem_of_getElem? (i := 196) rfl), Or.inr (Or.inr (tm_2 _ (List.mem_of_getElem? (i := 197) rfl))), tm_1 _ (List.mem_of_getElem? (i := 5) rfl)⟩, rfl, Or.inl rfl⟩
theorem MO_68 : MO 68 := ⟨Or.inr ⟨tm_2 _ (List.mem_of_getElem? (i := 202) rfl), tm_2 _ (List.mem_of_getElem? (i := 201) rfl), Or.inl rfl, tm_1 _ (List.mem_of_getElem? (i := 5) rfl)⟩, rfl, Or.inl rfl⟩
theorem MO_69 : MO 69 := ⟨Or.inr ⟨tm_2 _ (List.mem_of_getElem? (i := 205) rfl), tm_2 _ (List.mem_of_getElem? (i := 204) rfl), Or.inl rfl, tm_1 _ (List.mem_of_getElem? (i := 5) rfl)⟩, rfl, Or.inl rfl⟩
theorem MO_70 : MO 70 := ⟨Or.inr ⟨tm_2 _ (List.mem_of_getElem? (i := 40) rfl), tm_2 _ (List.mem_of_getElem? (i := 39) rfl), Or.inr (Or.inl rfl), tm_1 _ (List.mem_of_getElem? (i := 11) rfl)⟩, rfl, Or.inr rfl⟩
theorem MO_71 : MO 71 := ⟨Or.inr ⟨tm_4 _ (List.mem_of_getElem? (i := 144) rfl), tm_4 _ (List.mem_of_getElem? (i := 142) rfl), Or.inr (Or.inr (tm_4 _ (List.mem_of_getElem? (i := 143) rfl))), tm_1 _ (List.mem_of_getElem? (i := 11) rfl)⟩, rfl, Or.inl rfl⟩
theorem MO_72 : MO 72 := ⟨Or.inr ⟨tm_4 _ (List.mem_of_getElem? (i := 214) rfl), tm_4 _ (List.mem_of_getElem? (i := 212) rfl), Or.inr (Or.inr (tm_4 _ (List.mem_of_getElem? (i := 213) rfl))), tm_1 _ (List.mem_of_getElem? (i := 11) rfl)⟩, rfl, Or.inl rfl⟩
theorem MO_73 : MO 73 := ⟨Or.inr ⟨tm_4 _ (List.mem_of_getElem? (i := 237) rfl), tm_4 _ (List.mem_of_getElem? (i := 235) rfl), Or.inr (Or.inr (tm_4 _ (List.mem_of_getElem? (i := 236) rfl))), tm_1 _ (List.mem_of_getElem? (i := 11) rfl)⟩, rfl, Or.inl rfl⟩
theorem MO_74 : MO 74 := ⟨Or.inr ⟨tm_4 _ (List.mem_of_getElem? (i := 225) rfl), tm_4 _ (List.mem_of_getElem? (i := 223) rfl), Or.inr (Or.inr (tm_4 _ (List.mem_of_getElem? (i := 224) rfl))), tm_1 _ (List.mem_of_getElem? (i := 11) rfl)⟩, rfl, Or.inl rfl⟩
theorem MO_75 : MO 75 := ⟨Or.inr ⟨tm_1 _ (List.mem_of_getElem? (i := 25) rfl), tm_1 _ (List.mem_of_getElem? (i := 24) rfl), Or.inr (Or.inl rfl), tm_1 _ (List.mem_of_getElem? (i := 1) rfl)⟩, rfl, Or.inr rfl⟩
theorem MO_76 : MO 76 := ⟨Or.inr ⟨tm_2 _ (List.mem_of_getElem? (i := 93) rfl), tm_2 _ (List.mem_of_getElem? (i := 91) rfl), Or.inr (Or.inr (tm_2 _ (List.mem_of_getElem? (i := 92) rfl))), tm_1 _ (List.mem_of_getElem? (i := 1) rfl)⟩, rfl, Or.inl rfl⟩
theorem MO_77 : MO 77 := ⟨Or.inr ⟨tm_2 _ (List.mem_of_getElem? (i := 112) rfl), tm_2 _ (List.mem_of_getElem? (i := 110) rfl), Or.inr (Or.inr (tm_2 _ (List.mem_of_getElem? (i := 111) rfl))), tm_1 _ (List.mem_of_getElem? (i := 1) rfl)⟩, rfl, Or.inl rfl⟩
theorem MO_78 : MO 78 := ⟨Or.inr ⟨tm_2 _ (List.mem_of_getElem? (i := 160) rfl), tm_2 _ (List.mem_of_getElem? (i := 158) rfl), Or.inr (Or.inr (tm_2 _ (List.mem_of_getElem? (i := 159) rfl))), tm_1 _ (List.mem_of_getElem? (i := 1) rfl)⟩, rfl, Or.inl rfl⟩
theorem MO_79 : MO 79 := ⟨Or.inr ⟨tm_2 _ (List.mem_of_getElem? (i := 165) rfl), tm_2 _ (List.mem_of_getElem? (i := 163) rfl), Or.inr (Or.inr (tm_2 _ (List.mem_of_getElem? (i := 164) rfl))), tm_1 _ (List.mem_of_getElem? (i := 1) rfl)⟩, rfl, Or.inl rfl⟩
theorem MO_80 : MO 80 := ⟨Or.inr ⟨tm_2 _ (List.mem_of_getElem? (i := 185) rfl), tm_2 _ (List.mem_of_getElem? (i := 183) rfl), Or.inr (Or.inr (tm_2 _ (List.mem_of_getElem? (i := 184) rfl))), tm_1 _ (List.mem_of_getElem? (i := 1) rfl)⟩, rfl, Or.inl rfl⟩
theorem MO_81 : MO 81 := ⟨Or.inr ⟨tm_2 _ (List.mem_of_getElem? (i := 228) rfl), tm_2 _ (List.mem_of_getElem? (i := 226) rfl), Or.inr (Or.inr (tm_2 _ (List.mem_of_getElem? (i := 227) rfl))), tm_1 _ (List.mem_of_getElem? (i := 1) rfl)⟩, rfl, Or.inl rfl⟩
theorem MO_82 : MO 82 := ⟨Or.inr ⟨tm_2 _ (List.mem_of_getElem? (i := 232) rfl), tm_2 _ (List.mem_of_getElem? (i := 230) rfl), Or.inr (Or.inr (tm_2 _ (List.mem_of_getElem? (i := 231) rfl))), tm_1 _ (List.mem_of_getElem? (i := 1) rfl)⟩, rfl, Or.inl rfl⟩
theorem MO_83 : MO 83 := ⟨Or.inr ⟨tm_2 _ (List.mem_of_getElem? (i := 236) rfl), tm_2 _ (List.mem_of_getElem? (i := 234) rfl), Or.inr (Or.inr (tm_2 _ (List.mem_of_getElem? (i := 235) rfl))), tm_1 _ (List.mem_of_getElem? (i := 1) rfl)⟩, rfl, Or.inl rfl⟩
theorem MO_84 : MO 84 := ⟨Or.inr ⟨tm_3 _ (List.mem_of_getElem? (i := 0) rfl), tm_2 _ (List.mem_of_getElem? (i := 238) rfl), Or.inr (Or.inr (tm_2 _ (List.mem_of_getElem? (i := 239) rfl))), tm_1 _ (List.mem_of_getElem? (i := 1) rfl)⟩, rfl, Or.inl rfl⟩
theorem MO_85 : MO 85 := ⟨Or.inr ⟨tm_3 _ (List.mem_of_getElem? (i := 163) rfl), tm_3 _ (List.mem_of_getElem? (i := 161) rfl), Or.inr (Or.inr (tm_3 _ (List.mem_of_getElem? (i := 162) rfl))), tm_1 _ (List.mem_of_getElem? (i := 1) rfl)⟩, rfl, Or.inl rfl⟩
theorem MO_86 : MO 86 := ⟨Or.inr ⟨tm_3 _ (List.mem_of_getElem? (i := 167) rfl), tm_3 _ (List.mem_of_getElem? (i := 165) rfl), Or.inr (Or.inr (tm_3 _ (List.mem_of_getElem? (i := 166) rfl))), tm_1 _ (List.mem_of_getElem? (i := 1) rfl)⟩, rfl, Or.inl rfl⟩
theorem MO_87 : MO 87 := ⟨Or.inr ⟨tm_4 _ (List.mem_of_getElem? (i := 11) rfl), tm_4 _ (List.mem_of_getElem? (i := 9) rfl), Or.inr (Or.inr (tm_4 _ (List.mem_of_getElem? (i := 10) rfl))), tm_1 _ (List.mem_of_getElem? (i := 1) rfl)⟩, rfl, Or.inl rfl⟩
theorem MO_88 : MO 88 := ⟨Or.inr ⟨tm_4 _ (List.mem_of_getElem? (i := 16) rfl), tm_4 _ (List.mem_of_getElem? (i := 14) rfl), Or.inr (Or.inr (tm_4 _ (List.mem_of_getElem? (i := 15) rfl))), tm_1 _ (List.mem_of_getElem? (i := 1) rfl)⟩, rfl, Or.inl rfl⟩
theorem MO_89 : MO 89 := ⟨Or.inr ⟨tm_4 _ (List.mem_of_getElem? (i := 35) rfl), tm_4 _ (List.mem_of_getElem? (i := 33) rfl), Or.inr (Or.inr (tm_4 _ (List.mem_of_getElem? (i := 34) rfl))), tm_1 _ (List.mem_of_getElem? (i := 1) rfl)⟩, rfl, Or.inl rfl⟩
theorem MO_90 : MO 90 := ⟨Or.inr ⟨tm_4 _ (List.mem_of_getElem? (i := 39) rfl), tm_4 _ (List.mem_of_getElem? (i := 37) rfl), Or.inr (Or.inr (tm_4 _ (List.mem_of_getElem? (i := 38) rfl))), tm_1 _ (List.mem_of_getElem? (i := 1) rfl)⟩, rfl, Or.inl rfl⟩
theorem MO_91 : MO 91 := ⟨Or.inr ⟨tm_4 _ (List.mem_of_getElem? (i := 47) rfl), tm_4 _ (List.mem_of_getElem? (i := 45) rfl), Or.inr (Or.inr (tm_4 _ (List.mem_of_getElem? (i := 46) rfl))), tm_1 _ (List.mem_of_getElem? (i := 1) rfl)⟩, rfl, Or.inl rfl⟩
theorem MO_92 : MO 92 := ⟨Or.inr ⟨tm_4 _ (List.mem_of_getElem? (i := 61) rfl), tm_4 _ (List.mem_of_getElem? (i := 59) rfl), Or.inr (Or.inr (tm_4 _ (List.mem_of_getElem? (i := 60) rfl))), tm_1 _ (List.mem_of_getElem? (i := 1) rfl)⟩, rfl, Or.inl rfl⟩
theorem MO_93 : MO 93 := ⟨Or.inr ⟨tm_4 _ (List.mem_of_getElem? (i := 67) rfl), tm_4 _ (List.mem_of_getElem? (i := 65) rfl), Or.inr (Or.inr (tm_4 _ (List.mem_of_getElem? (i := 66) rfl))), tm_1 _ (List.mem_of_getElem? (i := 1) rfl)⟩, rfl, Or.inl rfl⟩
theorem MO_94 : MO 94 := ⟨Or.inr ⟨tm_4 _ (List.mem_of_getElem? (i := 71) rfl), tm_4 _ (List.mem_of_getElem? (i := 69) rfl), Or.inr (Or.inr (tm_4 _ (List.mem_of_getElem? (i := 70) rfl))), tm_1 _ (List.mem_of_getElem? (i := 1) rfl)⟩, rfl, Or.inl rfl⟩
theorem MO_95 : MO 95 := ⟨Or.inr ⟨tm_4 _ (List.mem_of_getElem? (i := 79) rfl), tm_4 _ (List.mem_of_getElem? (i := 77) rfl), Or.inr (Or.inr (tm_4 _ (List.mem_of_getElem? (i := 78) rfl))), tm_1 _ (List.mem_of_getElem? (i := 1) rfl)⟩, rfl, Or.inl rfl⟩
theorem MO_96 : MO 96 := ⟨Or.inr ⟨tm_4 _ (List.mem_of_getElem? (i := 83) rfl), tm_4 _ (List.mem_of_getElem? (i := 81) rfl), Or.inr (Or.inr (tm_4 _ (List.mem_of_getElem? (i := 82) rfl))), tm_1 _ (List.mem_of_getElem? (i := 1) rfl)⟩, rfl, Or.inl rfl⟩
theorem MO_97 : MO 97 := ⟨Or.inr ⟨tm_4 _ (List.mem_of_getElem? (i := 96) rfl), tm_4 _ (List.mem_of_getElem? (i := 94) rfl), Or.inr (Or.inr (tm_4 _ (List.mem_of_getElem? (i := 95) rfl))), tm_1 _ (List.mem_of_getElem? (i := 1) rfl)⟩, rfl, Or.inl rfl⟩
theorem MO_98 : MO 98 := ⟨Or.inr ⟨tm_4 _ (List.mem_of_getElem? (i := 105) rfl), tm_4 _ (List.mem_of_getElem? (i := 103) rfl), Or.inr (Or.inr (tm_4 _ (List.mem_of_getElem? (i := 104) rfl))), tm_1 _ (List.mem_of_getElem? (i := 1) rfl)⟩, rfl, Or.inl rfl⟩
theorem MO_99 : MO 99 := ⟨Or.inr ⟨tm_4 _ (List.mem_of_getElem? (i := 109) rfl), tm_4 _ (List.mem_of_getElem? (i := 107) rfl), Or.inr (Or.inr (tm_4 _ (List.mem_of_getElem? (i := 108) rfl))), tm_1 _ (List.mem_of_getElem? (i := 1) rfl)⟩, rfl, Or.inl rfl⟩
theorem MO_100 : MO 100 := ⟨Or.inr ⟨tm_4 _ (List.mem_of_getElem? (i := 117) rfl), tm_4 _ (List.mem_of_getElem? (i := 115) rfl), Or.inr (Or.inr (tm_4 _ (List.mem_of_getElem? (i := 116) rfl))), tm_1 _ (List.mem_of_getElem? (i := 1) rfl)⟩, rfl, Or.inl rfl⟩
theorem MO_101 : MO 101 := ⟨Or.inr ⟨tm_4 _ (List.mem_of_getElem? (i := 125) rfl), tm_4 _ (List.mem_of_getElem? (i := 123) rfl), Or.inr (Or.inr (tm_4 _ (List.mem_of_getElem? (i := 124) rfl))), tm_1 _ (List.mem_of_getElem? (i := 1) rfl)⟩, rfl, Or.inl rfl⟩
theorem MO_102 : MO 102 := ⟨Or.inr ⟨tm_4 _ (List.mem_of_getElem? (i := 129) rfl), tm_4 _ (List.mem_of_getElem? (i := 127) rfl), Or.inr (Or.inr (tm_4 _ (List.mem_of_getElem? (i := 128) rfl))), tm_1 _ (List.mem_of_getElem? (i := 1) rfl)⟩, rfl, Or.inl rfl⟩
theorem MO_103 : MO 103 := ⟨Or.inr ⟨tm_4 _ (List.mem_of_getElem? (i := 133) rfl), tm_4 _ (List.mem_of_getElem? (i := 131) rfl), Or.inr (Or.inr (tm_4 _ (List.mem_of_getElem? (i := 132) rfl))), tm_1 _ (List.mem_of_getElem? (i := 1) rfl)⟩, rfl, Or.inl rfl⟩
theorem MO_104 : MO 104 := ⟨Or.inr ⟨tm_4 _ (List.mem_of_getElem? (i := 137) rfl), tm_4 _ (List.mem_of_getElem? (i := 135) rfl), Or.inr (Or.inr (tm_4 _ (List.mem_of_getElem? (i := 136) rfl))), tm_1 _ (List.mem_of_getElem? (i := 1) rfl)⟩, rfl, Or.inl rfl⟩
theorem MO_105 : MO 105 := ⟨Or.inr ⟨tm_4 _ (List.mem_of_getElem? (i := 148) rfl), tm_4 _ (List.mem_of_getElem? (i := 146) rfl), Or.inr (Or.inr (tm_4 _ (List.mem_of_getElem? (i := 147) rfl))), tm_1 _ (List.mem_of_getElem? (i := 1) rfl)⟩, rfl, Or.inl rfl⟩
theorem MO_106 : MO 106 := ⟨Or.inr ⟨tm_4 _ (List.mem_of_getElem? (i := 169) rfl), tm_4 _ (List.mem_of_getElem? (i := 167) rfl), Or.inr (Or.inr (tm_4 _ (List.mem_of_getElem? (i := 168) rfl))), tm_1 _ (List.mem_of_getElem? (i := 1) rfl)⟩, rfl, Or.inl rfl⟩
theorem MO_107 : MO 107 := ⟨Or.inr ⟨tm_4 _ (List.mem_of_getElem? (i := 173) rfl), tm_4 _ (List.mem_of_getElem? (i := 171) rfl), Or.inr (Or.inr (tm_4 _ (List.mem_of_getElem? (i := 172) rfl))), tm_1 _ (List.mem_of_getElem? (i := 1) rfl)⟩, rfl, Or.inl rfl⟩
theorem MO_108 : MO 108 := ⟨Or.inr ⟨tm_4 _ (List.mem_of_getElem? (i := 197) rfl), tm_4 _ (List.mem_of_getElem? (i := 195) rfl), Or.inr (Or.inr (tm_4 _ (List.mem_of_getElem? (i := 196) rfl))), tm_1 _ (List.mem_of_getElem? (i := 1) rfl)⟩, rfl, Or.inl rfl⟩
theorem MO_109 : MO 109 := ⟨Or.inr ⟨tm_4 _ (List.mem_of_getElem? (i := 201) rfl), tm_4 _ (List.mem_of_getElem? (i := 199) rfl), Or.inr (Or.inr (tm_4 _ (List.mem_of_getElem? (i := 200) rfl))), tm_1 _ (List.mem_of_getElem? (i := 1) rfl)⟩, rfl, Or.inl rfl⟩
theorem MO_110 : MO 110 := ⟨Or.inr ⟨tm_4 _ (List.mem_of_getElem? (i := 206) rfl), tm_4 _ (List.mem_of_getElem? (i := 204) rfl), Or.inr (Or.inr (tm_4 _ (List.mem_of_getElem? (i := 205) rfl))), tm_1 _ (List.mem_of_getElem? (i := 1) rfl)⟩, rfl, Or.inl rfl⟩
theorem MO_111 : MO 111 := ⟨Or.inr ⟨tm_4 _ (List.mem_of_getElem? (i := 210) rfl), tm_4 _ (List.mem_of_getElem? (i := 208) rfl), Or.inr (Or.inr (tm_4 _ (List.mem_of_getElem? (i := 209) rfl))), tm_1 _ (List.mem_of_getElem? (i := 1) rfl)⟩, rfl, Or.inl rfl⟩
theorem MO_112 : MO 112 := ⟨Or.inr ⟨tm_4 _ (List.mem_of_getElem? (i := 221) rfl), tm_4 _ (List.mem_of_getElem? (i := 219) rfl), Or.inr (Or.inr (tm_4 _ (List.mem_of_getElem? (i := 220) rfl))), tm_1 _ (List.mem_of_getElem? (i := 1) rfl)⟩, rfl, Or.inl rfl⟩
theorem MO_113 : MO 113 := ⟨Or.inr ⟨tm_4 _ (List.mem_of_getElem? (i := 229) rfl), tm_4 _ (List.mem_of_getElem? (i := 227) rfl), Or.inr (Or.inr (tm_4 _ (List.mem_of_getElem? (i := 228) rfl))), tm_1 _ (List.mem_of_getElem? (i := 1) rfl)⟩, rfl, Or.inl rfl⟩
theorem MO_114 : MO 114 := ⟨Or.inr ⟨tm_4 _ (List.mem_of_getElem? (i := 233) rfl), tm_4 _ (List.mem_of_getElem? (i := 231) rfl), Or.inr (Or.inr (tm_4 _ (List.mem_of_getElem? (i := 232) rfl))), tm_1 _ (List.mem_of_getElem? (i := 1) rfl)⟩, rfl, Or.inl rfl⟩
theorem MO_115 : MO 115 := ⟨Or.inr ⟨tm_4 _ (List.mem_of_getElem? (i := 20) rfl), tm_4 _ (List.mem_of_getElem? (i := 19) rfl), Or.inr (Or.inr (tm_0 _ (List.mem_of_getElem? (i := 12) rfl))), tm_1 _ (List.mem_of_getElem? (i := 1) rfl)⟩, rfl, Or.inl rfl⟩
theorem MO_116 : MO 116 := ⟨Or.inr ⟨tm_4 _ (List.mem_of_getElem? (i := 51) rfl), tm_4 _ (List.mem_of_getElem? (i := 50) rfl), Or.inr (Or.inr (tm_0 _ (List.mem_of_getElem? (i := 13) rfl))), tm_1 _ (List.mem_of_getElem? (i := 1) rfl)⟩, rfl, Or.inl rfl⟩
theorem MO_117 : MO 117 := ⟨Or.inr ⟨tm_4 _ (List.mem_of_getElem? (i := 56) rfl), tm_4 _ (List.mem_of_getElem? (i := 55) rfl), Or.inr (Or.inr (tm_0 _ (List.mem_of_getElem? (i := 14) rfl))), tm_1 _ (List.mem_of_getElem? (i := 1) rfl)⟩, rfl, Or.inl rfl⟩
theorem MO_118 : MO 118 := ⟨Or.inr ⟨tm_2 _ (List.mem_of_getElem? (i := 100) rfl), tm_2 _ (List.mem_of_getElem? (i := 99) rfl), Or.inl rfl, tm_1 _ (List.mem_of_getElem? (i := 1) rfl)⟩, rfl, Or.inl rfl⟩
theorem MO_119 : MO 119 := ⟨Or.inr ⟨tm_4 _ (List.mem_of_getElem? (i := 140) rfl), tm_4 _ (List.mem_of_getElem? (i := 139) rfl), Or.inl rfl, tm_1 _ (List.mem_of_getElem? (i := 1) rfl)⟩, rfl, Or.inl rfl⟩
theorem MO_120 : MO 120 := ⟨Or.inr ⟨tm_2 _ (List.mem_of_getElem? (i := 168) rfl), tm_2 _ (List.mem_of_getElem? (i := 167) rfl), Or.inl rfl, tm_1 _ (List.mem_of_getElem? (i := 1) rfl)⟩, rfl, Or.inl rfl⟩
theorem MO_121 : MO 121 := ⟨Or.inr ⟨tm_3 _ (List.mem_of_getElem? (i := 219) rfl), tm_3 _ (List.mem_of_getElem? (i := 218) rfl), Or.inl rfl, tm_1 _ (List.mem_of_getElem? (i := 1) rfl)⟩, rfl, Or.inl rfl⟩
theorem MO_122 : MO 122 := ⟨Or.inr ⟨tm_3 _ (List.mem_of_getElem? (i := 180) rfl), tm_3 _ (List.mem_of_getElem? (i := 179) rfl), Or.inl rfl, tm_1 _ (List.mem_of_getElem? (i := 1) rfl)⟩, rfl, Or.inl rfl⟩
theorem MO_123 : MO 123 := ⟨Or.inr ⟨tm_3 _ (List.mem_of_getElem? (i := 215) rfl), tm_3 _ (List.mem_of_getElem? (i := 214) rfl), Or.inl rfl, tm_1 _ (List.mem_of_getElem? (i := 1) rfl)⟩, rfl, Or.inl rfl⟩
theorem MO_124 : MO 124 := ⟨Or.inr ⟨tm_4 _ (List.mem_of_getElem? (i := 121) rfl), tm_4 _ (List.mem_of_getElem? (i := 120) rfl), Or.inl rfl, tm_1 _ (List.mem_of_getElem? (i := 1) rfl)⟩, rfl, Or.inl rfl⟩
theorem MO_125 : MO 125 := ⟨Or.inr ⟨tm_5 _ (List.mem_of_getElem? (i := 3) rfl), tm_5 _ (List.mem_of_getElem? (i := 2) rfl), Or.inr (Or.inl rfl), tm_1 _ (List.mem_of_getElem? (i := 12) rfl)⟩, rfl, Or.inr rfl⟩
theorem MO_126 : MO 126 := ⟨Or.inr ⟨tm_6 _ (List.mem_of_getElem? (i := 5) rfl), tm_6 _ (List.mem_of_getElem? (i := 4) rfl), Or.inr (Or.inr (tm_0 _ (List.mem_of_getElem? (i := 15) rfl))), tm_1 _ (List.mem_of_getElem? (i := 12) rfl)⟩, rfl, Or.inl rfl⟩
theorem MO_127 : MO 127 := ⟨Or.inr ⟨tm_6 _ (List.mem_of_getElem? (i := 137) rfl), tm_6 _ (List.mem_of_getElem? (i := 136) rfl), Or.inr (Or.inr (tm_0 _ (List.mem_of_getElem? (i := 40) rfl))), tm_1 _ (List.mem_of_getElem? (i := 12) rfl)⟩, rfl, Or.inl rfl⟩
theorem MO_128 : MO 128 := ⟨Or.inr ⟨tm_7 _ (List.mem_of_getElem? (i := 1) rfl), tm_7 _ (List.mem_of_getElem? (i := 0) rfl), Or.inr (Or.inr (tm_0 _ (List.mem_of_getElem? (i := 64) rfl))), tm_1 _ (List.mem_of_getElem? (i := 12) rfl)⟩, rfl, Or.inl rfl⟩
theorem MO_129 : MO 129 := ⟨Or.inr ⟨tm_6 _ (List.mem_of_getElem? (i := 161) rfl), tm_6 _ (List.mem_of_getElem? (i := 160) rfl), Or.inr (Or.inr (tm_0 _ (List.mem_of_getElem? (i := 46) rfl))), tm_1 _ (List.mem_of_getElem? (i := 12) rfl)⟩, rfl, Or.inl rfl⟩
theorem MO_130 : MO 130 := ⟨Or.inr ⟨tm_6 _ (List.mem_of_getElem? (i := 21) rfl), tm_6 _ (List.mem_of_getElem? (i := 20) rfl), Or.inr (Or.inr (tm_0 _ (List.mem_of_getElem? (i := 17) rfl))), tm_1 _ (List.mem_of_getElem? (i := 12) rfl)⟩, rfl, Or.inl rfl⟩
theorem MO_131 : MO 131 := ⟨Or.inr ⟨tm_6 _ (List.mem_of_getElem? (i := 1) rfl), tm_5 _ (List.mem_of_getElem? (i := 239) rfl), Or.inr (Or.inr (tm_6 _ (List.mem_of_getElem? (i := 0) rfl))), tm_1 _ (List.mem_of_getElem? (i := 12) rfl)⟩, rfl, Or.inl rfl⟩
theorem MO_132 : MO 132 := ⟨Or.inr ⟨tm_6 _ (List.mem_of_getElem? (i := 13) rfl), tm_6 _ (List.mem_of_getElem? (i := 12) rfl), Or.inr (Or.inr (tm_0 _ (List.mem_of_getElem? (i := 16) rfl))), tm_1 _ (List.mem_of_getElem? (i := 12) rfl)⟩, rfl, Or.inl rfl⟩
theorem MO_133 : MO 133 := ⟨Or.inr ⟨tm_6 _ (List.mem_of_getElem? (i := 9) rfl), tm_6 _ (List.mem_of_getElem? (i := 7) rfl), Or.inr (Or.inr (tm_6 _ (List.mem_of_getElem? (i := 8) rfl))), tm_1 _ (List.mem_of_getElem? (i := 12) rfl)⟩, rfl, Or.inl rfl⟩
theorem MO_134 : MO 134 := ⟨Or.inr ⟨tm_6 _ (List.mem_of_getElem? (i := 17) rfl), tm_6 _ (List.mem_of_getElem? (i := 15) rfl), Or.inr (Or.inr (tm_6 _ (List.mem_of_getElem? (i := 16) rfl))), tm_1 _ (List.mem_of_getElem? (i := 12) rfl)⟩, rfl, Or.inl rfl⟩
theorem MO_135 : MO 135 := ⟨Or.inr ⟨tm_6 _ (List.mem_of_getElem? (i := 45) rfl), tm_6 _ (List.mem_of_getElem? (i := 44) rfl), Or.inr (Or.inr (tm_0 _ (List.mem_of_getElem? (i := 21) rfl))), tm_1 _ (List.mem_of_getElem? (i := 12) rfl)⟩, rfl, Or.inl rfl⟩
theorem MO_136 : MO 136 := ⟨Or.inr ⟨tm_6 _ (List.mem_of_getElem? (i := 25) rfl), tm_6 _ (List.mem_of_getElem? (i := 23) rfl), Or.inr (Or.inr (tm_6 _ (List.mem_of_getElem? (i := 24) rfl))), tm_1 _ (List.mem_of_getElem? (i := 12) rfl)⟩, rfl, Or.inl rfl⟩
theorem MO_137 : MO 137 := ⟨Or.inr ⟨tm_6 _ (List.mem_of_getElem? (i := 41) rfl), tm_6 _ (List.mem_of_getElem? (i := 39) rfl), Or.inr (Or.inr (tm_6 _ (List.mem_of_getElem? (i := 40) rfl))), tm_1 _ (List.mem_of_getElem? (i := 12) rfl)⟩, rfl, Or.inl rfl⟩
theorem MO_138 : MO 138 := ⟨Or.inr ⟨tm_6 _ (List.mem_of_getElem? (i := 49) rfl), tm_6 _ (List.mem_of_getElem? (i := 47) rfl), Or.inr (Or.inr (tm_6 _ (List.mem_of_getElem? (i := 48) rfl))), tm_1 _ (List.mem_of_getElem? (i := 12) rfl)⟩, rfl, Or.inl rfl⟩
theorem MO_139 : MO 139 := ⟨Or.inr ⟨tm_6 _ (List.mem_of_getElem? (i := 53) rfl), tm_6 _ (List.mem_of_getElem? (i := 51) rfl), Or.inr (Or.inr (tm_6 _ (List.mem_of_getElem? (i := 52) rfl))), tm_1 _ (List.mem_of_getElem? (i := 12) rfl)⟩, rfl, Or.inl rfl⟩
theorem MO_140 : MO 140 := ⟨Or.inr ⟨tm_6 _ (List.mem_of_getElem? (i := 73) rfl), tm_6 _ (List.mem_of_getElem? (i := 72) rfl), Or.inr (Or.inr (tm_0 _ (List.mem_of_getElem? (i := 25) rfl))), tm_1 _ (List.mem_of_getElem? (i := 12) rfl)⟩, rfl, Or.inl rfl⟩
theorem MO_141 : MO 141 := ⟨Or.inr ⟨tm_6 _ (List.mem_of_getElem? (i := 85) rfl), tm_6 _ (List.mem_of_getElem? (i := 84) rfl), Or.inr (Or.inr (tm_0 _ (List.mem_of_getElem? (i := 28) rfl))), tm_1 _ (List.mem_of_getElem? (i := 12) rfl)⟩, rfl, Or.inl rfl⟩
theorem MO_142 : MO 142 := ⟨Or.inr ⟨tm_6 _ (List.mem_of_getElem? (i := 81) rfl), tm_6 _ (List.mem_of_getElem? (i := 80) rfl), Or.inr (Or.inr (tm_0 _ (List.mem_of_getElem? (i := 27) rfl))), tm_1 _ (List.mem_of_getElem? (i := 12) rfl)⟩, rfl, Or.inl rfl⟩
theorem MO_143 : MO 143 := ⟨Or.inr ⟨tm_6 _ (List.mem_of_getElem? (i := 77) rfl), tm_6 _ (List.mem_of_getElem? (i := 76) rfl), Or.inr (Or.inr (tm_0 _ (List.mem_of_getElem? (i := 26) rfl))), tm_1 _ (List.mem_of_getElem? (i := 12) rfl)⟩, rfl, Or.inl rfl⟩
theorem MO_144 : MO 144 := ⟨Or.inr ⟨tm_6 _ (List.mem_of_getElem? (i := 105) rfl), tm_6 _ (List.mem_of_getElem? (i := 104) rfl), Or.inr (Or.inr (tm_0 _ (List.mem_of_getElem? (i := 33) rfl))), tm_1 _ (List.mem_of_getElem? (i := 12) rfl)⟩, rfl, Or.inl rfl⟩
theorem MO_145 : MO 145 := ⟨Or.inr ⟨tm_6 _ (List.mem_of_getElem? (i := 101) rfl), tm_6 _ (List.mem_of_getElem? (i := 100) rfl), Or.inr (Or.inr (tm_0 _ (List.mem_of_getElem? (i := 32) rfl))), tm_1 _ (List.mem_of_getElem? (i := 12) rfl)⟩, rfl, Or.inl rfl⟩
theorem MO_146 : MO 146 := ⟨Or.inr ⟨tm_6 _ (List.mem_of_getElem? (i := 109) rfl), tm_6 _ (List.mem_of_getElem? (i := 108) rfl), Or.inr (Or.inr (tm_0 _ (List.mem_of_getElem? (i := 34) rfl))), tm_1 _ (List.mem_of_getElem? (i := 12) rfl)⟩, rfl, Or.inl rfl⟩
theorem MO_147 : MO 147 := ⟨Or.inr ⟨tm_6 _ (List.mem_of_getElem? (i := 113) rfl), tm_6 _ (List.mem_of_getElem? (i := 112) rfl), Or.inr (Or.inr (tm_0 _ (List.mem_of_getElem? (i := 35) rfl))), tm_1 _ (List.mem_of_getElem? (i := 12) rfl)⟩, rfl, Or.inl rfl⟩
theorem MO_148 : MO 148 := ⟨Or.inr ⟨tm_6 _ (List.mem_of_getElem? (i := 117) rfl), tm_6 _ (List.mem_of_getElem? (i := 116) rfl), Or.inr (Or.inr (tm_0 _ (List.mem_of_getElem? (i := 36) rfl))), tm_1 _ (List.mem_of_getElem? (i := 12) rfl)⟩, rfl, Or.inl rfl⟩
theorem MO_149 : MO 149 := ⟨Or.inr ⟨tm_6 _ (List.mem_of_getElem? (i := 97) rfl), tm_6 _ (List.mem_of_getElem? (i := 96) rfl), Or.inr (Or.inr (tm_0 _ (List.mem_of_getElem? (i := 31) rfl))), tm_1 _ (List.mem_of_getElem? (i := 12) rfl)⟩, rfl, Or.inl rfl⟩
theorem MO_150 : MO 150 := ⟨Or.inr ⟨tm_6 _ (List.mem_of_getElem? (i := 93) rfl), tm_6 _ (List.mem_of_getElem? (i := 92) rfl), Or.inr (Or.inr (tm_0 _ (List.mem_of_getElem? (i := 30) rfl))), tm_1 _ (List.mem_of_getElem? (i := 12) rfl)⟩, rfl, Or.inl rfl⟩
theorem MO_151 : MO 151 := ⟨Or.inr ⟨tm_6 _ (List.mem_of_getElem? (i := 89) rfl), tm_6 _ (List.mem_of_getElem? (i := 88) rfl), Or.inr (Or.inr (tm_0 _ (List.mem_of_getElem? (i := 29) rfl))), tm_1 _ (List.mem_of_getElem? (i := 12) rfl)⟩, rfl, Or.inl rfl⟩
theorem MO_152 : MO 152 := ⟨Or.inr ⟨tm_6 _ (List.mem_of_getElem? (i := 69) rfl), tm_6 _ (List.mem_of_getElem? (i := 68) rfl), Or.inr (Or.inr (tm_0 _ (List.mem_of_getElem? (i := 24) rfl))), tm_1 _ (List.mem_of_getElem? (i := 12) rfl)⟩, rfl, Or.inl rfl⟩
theorem MO_153 : MO 153 := ⟨Or.inr ⟨tm_6 _ (List.mem_of_getElem? (i := 65) rfl), tm_6 _ (List.mem_of_getElem? (i := 64) rfl), Or.inr (Or.inr (tm_0 _ (List.mem_of_getElem? (i := 23) rfl))), tm_1 _ (List.mem_of_getElem? (i := 12) rfl)⟩, rfl, Or.inl rfl⟩
theorem MO_154 : MO 154 := ⟨Or.inr ⟨tm_6 _ (List.mem_of_getElem? (i := 61) rfl), tm_6 _ (List.mem_of_getElem? (i := 60) rfl), Or.inr (Or.inr (tm_0 _ (List.mem_of_getElem? (i := 22) rfl))), tm_1 _ (List.mem_of_getElem? (i := 12) rfl)⟩, rfl, Or.inl rfl⟩
theorem MO_155 : MO 155 := ⟨Or.inr ⟨tm_6 _ (List.mem_of_getElem? (i := 57) rfl), tm_6 _ (List.mem_of_getElem? (i := 55) rfl), Or.inr (Or.inr (tm_6 _ (List.mem_of_getElem? (i := 56) rfl))), tm_1 _ (List.mem_of_getElem? (i := 12) rfl)⟩, rfl, Or.inl rfl⟩
theorem MO_156 : MO 156 := ⟨Or.inr ⟨tm_6 _ (List.mem_of_getElem? (i := 33) rfl), tm_6 _ (List.mem_of_getElem? (i := 32) rfl), Or.inr (Or.inr (tm_0 _ (List.mem_of_getElem? (i := 19) rfl))), tm_1 _ (List.mem_of_getElem? (i := 12) rfl)⟩, rfl, Or.inl rfl⟩
theorem MO_157 : MO 157 := ⟨Or.inr ⟨tm_6 _ (List.mem_of_getElem? (i := 37) rfl), tm_6 _ (List.mem_of_getElem? (i := 36) rfl), Or.inr (Or.inr (tm_0 _ (List.mem_of_getElem? (i := 20) rfl))), tm_1 _ (List.mem_of_getElem? (i := 12) rfl)⟩, rfl, Or.inl rfl⟩
theorem MO_158 : MO 158 := ⟨Or.inr ⟨tm_6 _ (List.mem_of_getElem? (i := 29) rfl), tm_6 _ (List.mem_of_getElem? (i := 28) rfl), Or.inr (Or.inr (tm_0 _ (List.mem_of_getElem? (i := 18) rfl))), tm_1 _ (List.mem_of_getElem? (i := 12) rfl)⟩, rfl, Or.inl rfl⟩
theorem MO_159 : MO 159 := ⟨Or.inr ⟨tm_6 _ (List.mem_of_getElem? (i := 209) rfl), tm_6 _ (List.mem_of_getElem? (i := 208) rfl), Or.inr (Or.inr (tm_0 _ (List.mem_of_getElem? (i := 56) rfl))), tm_1 _ (List.mem_of_getElem? (i := 12) rfl)⟩, rfl, Or.inl rfl⟩
theorem MO_160 : MO 160 := ⟨Or.inr ⟨tm_6 _ (List.mem_of_getElem? (i := 205) rfl), tm_6 _ (List.mem_of_getElem? (i := 204) rfl), Or.inr (Or.inr (tm_0 _ (List.mem_of_getElem? (i := 55) rfl))), tm_1 _ (List.mem_of_getElem? (i := 12) rfl)⟩, rfl, Or.inl rfl⟩
theorem MO_161 : MO 161 := ⟨Or.inr ⟨tm_6 _ (List.mem_of_getElem? (i := 201) rfl), tm_6 _ (List.mem_of_getElem? (i := 200) rfl), Or.inr (Or.inr (tm_0 _ (List.mem_of_getElem? (i := 54) rfl))), tm_1 _ (List.mem_of_getElem? (i := 12) rfl)⟩, rfl, Or.inl rfl⟩
theorem MO_162 : MO 162 := ⟨Or.inr ⟨tm_6 _ (List.mem_of_getElem? (i := 197) rfl), tm_6 _ (List.mem_of_getElem? (i := 196) rfl), Or.inr (Or.inr (tm_0 _ (List.mem_of_getElem? (i := 53) rfl))), tm_1 _ (List.mem_of_getElem? (i := 12) rfl)⟩, rfl, Or.inl rfl⟩
theorem MO_163 : MO 163 := ⟨Or.inr ⟨tm_6 _ (List.mem_of_getElem? (i := 141) rfl), tm_6 _ (List.mem_of_getElem? (i := 140) rfl), Or.inr (Or.inr (tm_0 _ (List.mem_of_getElem? (i := 41) rfl))), tm_1 _ (List.mem_of_getElem? (i := 12) rfl)⟩, rfl, Or.inl rfl⟩
theorem MO_164 : MO 164 := ⟨Or.inr ⟨tm_6 _ (List.mem_of_getElem? (i := 133) rfl), tm_6 _ (List.mem_of_getElem? (i := 132) rfl), Or.inr (Or.inr (tm_0 _ (List.mem_of_getElem? (i := 39) rfl))), tm_1 _ (List.mem_of_getElem? (i := 12) rfl)⟩, rfl, Or.inl rfl⟩
theorem MO_165 : MO 165 := ⟨Or.inr ⟨tm_6 _ (List.mem_of_getElem? (i := 125) rfl), tm_6 _ (List.mem_of_getElem? (i := 124) rfl), Or.inr (Or.inr (tm_0 _ (List.mem_of_getElem? (i := 37) rfl))), tm_1 _ (List.mem_of_getElem? (i := 12) rfl)⟩, rfl, Or.inl rfl⟩
theorem MO_166 : MO 166 := ⟨Or.inr ⟨tm_6 _ (List.mem_of_getElem? (i := 225) rfl), tm_6 _ (List.mem_of_getElem? (i := 224) rfl), Or.inr (Or.inr (tm_0 _ (List.mem_of_getElem? (i := 60) rfl))), tm_1 _ (List.mem_of_getElem? (i := 12) rfl)⟩, rfl, Or.inl rfl⟩
theorem MO_167 : MO 167 := ⟨Or.inr ⟨tm_6 _ (List.mem_of_getElem? (i := 221) rfl), tm_6 _ (List.mem_of_getElem? (i := 220) rfl), Or.inr (Or.inr (tm_0 _ (List.mem_of_getElem? (i := 59) rfl))), tm_1 _ (List.mem_of_getElem? (i := 12) rfl)⟩, rfl, Or.inl rfl⟩
theorem MO_168 : MO 168 := ⟨Or.inr ⟨tm_6 _ (List.mem_of_getElem? (i := 213) rfl), tm_6 _ (List.mem_of_getElem? (i := 212) rfl), Or.inr (Or.inr (tm_0 _ (List.mem_of_getElem? (i := 57) rfl))), tm_1 _ (List.mem_of_getElem? (i := 12) rfl)⟩, rfl, Or.inl rfl⟩
theorem MO_169 : MO 169 := ⟨Or.inr ⟨tm_6 _ (List.mem_of_getElem? (i := 217) rfl), tm_6 _ (List.mem_of_getElem? (i := 216) rfl), Or.inr (Or.inr (tm_0 _ (List.mem_of_getElem? (i := 58) rfl))), tm_1 _ (List.mem_of_getElem? (i := 12) rfl)⟩, rfl, Or.inl rfl⟩
theorem MO_170 : MO 170 := ⟨Or.inr ⟨tm_6 _ (List.mem_of_getElem? (i := 153) rfl), tm_6 _ (List.mem_of_getElem? (i := 152) rfl), Or.inr (Or.inr (tm_0 _ (List.mem_of_getElem? (i := 44) rfl))), tm_1 _ (List.mem_of_getElem? (i := 12) rfl)⟩, rfl, Or.inl rfl⟩
theorem MO_171 : MO 171 := ⟨Or.inr ⟨tm_6 _ (List.mem_of_getElem? (i := 157) rfl), tm_6 _ (List.mem_of_getElem? (i := 156) rfl), Or.inr (Or.inr (tm_0 _ (List.mem_of_getElem? (i := 45) rfl))), tm_1 _ (List.mem_of_getElem? (i := 12) rfl)⟩, rfl, Or.inl rfl⟩
theorem MO_172 : MO 172 := ⟨Or.inr ⟨tm_6 _ (List.mem_of_getElem? (i := 149) rfl), tm_6 _ (List.mem_of_getElem? (i := 148) rfl), Or.inr (Or.inr (tm_0 _ (List.mem_of_getElem? (i := 43) rfl))), tm_1 _ (List.mem_of_getElem? (i := 12) rfl)⟩, rfl, Or.inl rfl⟩
theorem MO_173 : MO 173 := ⟨Or.inr ⟨tm_6 _ (List.mem_of_getElem? (i := 145) rfl), tm_6 _ (List.mem_of_getElem? (i := 144) rfl), Or.inr (Or.inr (tm_0 _ (List.mem_of_getElem? (i := 42) rfl))), tm_1 _ (List.mem_of_getElem? (i := 12) rfl)⟩, rfl, Or.inl rfl⟩
theorem MO_174 : MO 174 := ⟨Or.inr ⟨tm_6 _ (List.mem_of_getElem? (i := 129) rfl), tm_6 _ (List.mem_of_getElem? (i := 128) rfl), Or.inr (Or.inr (tm_0 _ (List.mem_of_getElem? (i := 38) rfl))), tm_1 _ (List.mem_of_getElem? (i := 12) rfl)⟩, rfl, Or.inl rfl⟩
theorem MO_175 : MO 175 := ⟨Or.inr ⟨tm_7 _ (List.mem_of_getElem? (i := 17) rfl), tm_7 _ (List.mem_of_getElem? (i := 16) rfl), Or.inr (Or.inr (tm_0 _ (List.mem_of_getElem? (i := 68) rfl))), tm_1 _ (List.mem_of_getElem? (i := 12) rfl)⟩, rfl, Or.inl rfl⟩
theorem MO_176 : MO 176 := ⟨Or.inr ⟨tm_6 _ (List.mem_of_getElem? (i := 121) rfl), tm_6 _ (List.mem_of_getElem? (i := 119) rfl), Or.inr (Or.inr (tm_6 _ (List.mem_of_getElem? (i := 120) rfl))), tm_1 _ (List.mem_of_getElem? (i := 12) rfl)⟩, rfl, Or.inl rfl⟩
theorem MO_177 : MO 177 := ⟨Or.inr ⟨tm_6 _ (List.mem_of_getElem? (i := 165) rfl), tm_6 _ (List.mem_of_getElem? (i := 163) rfl), Or.inr (Or.inr (tm_6 _ (List.mem_of_getElem? (i := 164) rfl))), tm_1 _ (List.mem_of_getElem? (i := 12) rfl)⟩, rfl, Or.inl rfl⟩
theorem MO_178 : MO 178 := ⟨Or.inr ⟨tm_6 _ (List.mem_of_getElem? (i := 173) rfl), tm_6 _ (List.mem_of_getElem? (i := 172) rfl), Or.inr (Or.inr (tm_0 _ (List.mem_of_getElem? (i := 47) rfl))), tm_1 _ (List.mem_of_getElem? (i := 12) rfl)⟩, rfl, Or.inl rfl⟩
theorem MO_179 : MO 179 := ⟨Or.inr ⟨tm_6 _ (List.mem_of_getElem? (i := 185) rfl), tm_6 _ (List.mem_of_getElem? (i := 184) rfl), Or.inr (Or.inr (tm_0 _ (List.mem_of_getElem? (i := 50) rfl))), tm_1 _ (List.mem_of_getElem? (i := 12) rfl)⟩, rfl, Or.inl rfl⟩
theorem MO_180 : MO 180 := ⟨Or.inr ⟨tm_6 _ (List.mem_of_getElem? (i := 193) rfl), tm_6 _ (List.mem_of_getElem? (i := 192) rfl), Or.inr (Or.inr (tm_0 _ (List.mem_of_getElem? (i := 52) rfl))), tm_1 _ (List.mem_of_getElem? (i := 12) rfl)⟩, rfl, Or.inl rfl⟩
theorem MO_181 : MO 181 := ⟨Or.inr ⟨tm_6 _ (List.mem_of_getElem? (i := 237) rfl), tm_6 _ (List.mem_of_getElem? (i := 236) rfl), Or.inr (Or.inr (tm_0 _ (List.mem_of_getElem? (i := 63) rfl))), tm_1 _ (List.mem_of_getElem? (i := 12) rfl)⟩, rfl, Or.inl rfl⟩
theorem MO_182 : MO 182 := ⟨Or.inr ⟨tm_6 _ (List.mem_of_getElem? (i := 233) rfl), tm_6 _ (List.mem_of_getElem? (i := 232) rfl), Or.inr (Or.inr (tm_0 _ (List.mem_of_getElem? (i := 62) rfl))), tm_1 _ (List.mem_of_getElem? (i := 12) rfl)⟩, rfl, Or.inl rfl⟩
theorem MO_183 : MO 183 := ⟨Or.inr ⟨tm_6 _ (List.mem_of_getElem? (i := 229) rfl), tm_6 _ (List.mem_of_getElem? (i := 228) rfl), Or.inr (Or.inr (tm_0 _ (List.mem_of_getElem? (i := 61) rfl))), tm_1 _ (List.mem_of_getElem? (i := 12) rfl)⟩, rfl, Or.inl rfl⟩
theorem MO_184 : MO 184 := ⟨Or.inr ⟨tm_7 _ (List.mem_of_getElem? (i := 13) rfl), tm_7 _ (List.mem_of_getElem? (i := 12) rfl), Or.inr (Or.inr (tm_0 _ (List.mem_of_getElem? (i := 67) rfl))), tm_1 _ (List.mem_of_getElem? (i := 12) rfl)⟩, rfl, Or.inl rfl⟩
theorem MO_185 : MO 185 := ⟨Or.inr ⟨tm_7 _ (List.mem_of_getElem? (i := 5) rfl), tm_7 _ (List.mem_of_getElem? (i := 4) rfl), Or.inr (Or.inr (tm_0 _ (List.mem_of_getElem? (i := 65) rfl))), tm_1 _ (List.mem_of_getElem? (i := 12) rfl)⟩, rfl, Or.inl rfl⟩
theorem MO_186 : MO 186 := ⟨Or.inr ⟨tm_7 _ (List.mem_of_getElem? (i := 9) rfl), tm_7 _ (List.mem_of_getElem? (i := 8) rfl), Or.inr (Or.inr (tm_0 _ (List.mem_of_getElem? (i := 66) rfl))), tm_1 _ (List.mem_of_getElem? (i := 12) rfl)⟩, rfl, Or.inl rfl⟩
theorem MO_187 : MO 187 := ⟨Or.inr ⟨tm_6 _ (List.mem_of_getElem? (i := 189) rfl), tm_6 _ (List.mem_of_getElem? (i := 188) rfl), Or.inr (Or.inr (tm_0 _ (List.mem_of_getElem? (i := 51) rfl))), tm_1 _ (List.mem_of_getElem? (i := 12) rfl)⟩, rfl, Or.inl rfl⟩
theorem MO_188 : MO 188 := ⟨Or.inr ⟨tm_7 _ (List.mem_of_getElem? (i := 25) rfl), tm_7 _ (List.mem_of_getElem? (i := 24) rfl), Or.inr (Or.inr (tm_0 _ (List.mem_of_getElem? (i := 70) rfl))), tm_1 _ (List.mem_of_getElem? (i := 12) rfl)⟩, rfl, Or.inl rfl⟩
theorem MO_189 : MO 189 := ⟨Or.inr ⟨tm_7 _ (List.mem_of_getElem? (i := 29) rfl), tm_7 _ (List.mem_of_getElem? (i := 28) rfl), Or.inr (Or.inr (tm_0 _ (List.mem_of_getElem? (i := 71) rfl))), tm_1 _ (List.mem_of_getElem? (i := 12) rfl)⟩, rfl, Or.inl rfl⟩
theorem MO_190 : MO 190 := ⟨Or.inr ⟨tm_7 _ (List.mem_of_getElem? (i := 21) rfl), tm_7 _ (List.mem_of_getElem? (i := 20) rfl), Or.inr (Or.inr (tm_0 _ (List.mem_of_getElem? (i := 69) rfl))), tm_1 _ (List.mem_of_getElem? (i := 12) rfl)⟩, rfl, Or.inl rfl⟩
theorem MO_191 : MO 191 := ⟨Or.inr ⟨tm_6 _ (List.mem_of_getElem? (i := 181) rfl), tm_6 _ (List.mem_of_getElem? (i := 180) rfl), Or.inr (Or.inr (tm_0 _ (List.mem_of_getElem? (i := 49) rfl))), tm_1 _ (List.mem_of_getElem? (i := 12) rfl)⟩, rfl, Or.inl rfl⟩
theorem MO_192 : MO 192 := ⟨Or.inr ⟨tm_6 _ (List.mem_of_getElem? (i := 177) rfl), tm_6 _ (List.mem_of_getElem? (i := 176) rfl), Or.inr (Or.inr (tm_0 _ (List.mem_of_getElem? (i := 48) rfl))), tm_1 _ (List.mem_of_getElem? (i := 12) rfl)⟩, rfl, Or.inl rfl⟩
theorem MO_193 : MO 193 := ⟨Or.inr ⟨tm_6 _ (List.mem_of_getElem? (i := 169) rfl), tm_6 _ (List.mem_of_getElem? (i := 167) rfl), Or.inr (Or.inr (tm_6 _ (List.mem_of_getElem? (i := 168) rfl))), tm_1 _ (List.mem_of_getElem? (i := 12) rfl)⟩, rfl, Or.inl rfl⟩
theorem MO_194 : MO 194 := ⟨Or.inr ⟨tm_7 _ (List.mem_of_getElem? (i := 33) rfl), tm_7 _ (List.mem_of_getElem? (i := 31) rfl), Or.inr (Or.inr (tm_7 _ (List.mem_of_getElem? (i := 32) rfl))), tm_1 _ (List.mem_of_getElem? (i := 12) rfl)⟩, rfl, Or.inl rfl⟩
theorem MO_195 : MO 195 := ⟨Or.inr ⟨tm_7 _ (List.mem_of_getElem? (i := 37) rfl), tm_7 _ (List.mem_of_getElem? (i := 35) rfl), Or.inr (Or.inr (tm_7 _ (List.mem_of_getElem? (i := 36) rfl))), tm_1 _ (List.mem_of_getElem? (i := 12) rfl)⟩, rfl, Or.inl rfl⟩
theorem MO_196 : MO 196 := ⟨Or.inr ⟨tm_7 _ (List.mem_of_getElem? (i := 41) rfl), tm_7 _ (List.mem_of_getElem? (i := 39) rfl), Or.inr (Or.inr (tm_7 _ (List.mem_of_getElem? (i := 40) rfl))), tm_1 _ (List.mem_of_getElem? (i := 12) rfl)⟩, rfl, Or.inl rfl⟩
theorem MO_197 : MO 197 := ⟨Or.inr ⟨tm_7 _ (List.mem_of_getElem? (i := 49) rfl), tm_7 _ (List.mem_of_getElem? (i := 48) rfl), Or.inr (Or.inr (tm_0 _ (List.mem_of_getElem? (i := 72) rfl))), tm_1 _ (List.mem_of_getElem? (i := 12) rfl)⟩, rfl, Or.inl rfl⟩
theorem MO_198 : MO 198 := ⟨Or.inr ⟨tm_7 _ (List.mem_of_getElem? (i := 57) rfl), tm_7 _ (List.mem_of_getElem? (i := 56) rfl), Or.inr (Or.inr (tm_0 _ (List.mem_of_getElem? (i := 74) rfl))), tm_1 _ (List.mem_of_getElem? (i := 12) rfl)⟩, rfl, Or.inl rfl⟩
theorem MO_199 : MO 199 := ⟨Or.inr ⟨tm_7 _ (List.mem_of_getElem? (i := 53) rfl), tm_7 _ (List.mem_of_getElem? (i := 52) rfl), Or.inr (Or.inr (tm_0 _ (List.mem_of_getElem? (i := 73) rfl))), tm_1 _ (List.mem_of_getElem? (i := 12) rfl)⟩, rfl, Or.inl rfl⟩
theorem MO_200 : MO 200 := ⟨Or.inr ⟨tm_7 _ (List.mem_of_getElem? (i := 45) rfl), tm_7 _ (List.mem_of_getElem? (i := 43) rfl), Or.inr (Or.inr (tm_7 _ (List.mem_of_getElem? (i := 44) rfl))), tm_1 _ (List.mem_of_getElem? (i := 12) rfl)⟩, rfl, Or.inl rfl⟩
theorem MO_201 : MO 201 := ⟨Or.inr ⟨tm_7 _ (List.mem_of_getElem? (i := 65) rfl), tm_7 _ (List.mem_of_getElem? (i := 64) rfl), Or.inr (Or.inr (tm_0 _ (List.mem_of_getElem? (i := 75) rfl))), tm_1 _ (List.mem_of_getElem? (i := 12) rfl)⟩, rfl, Or.inl rfl⟩
theorem MO_202 : MO 202 := ⟨Or.inr ⟨tm_7 _ (List.mem_of_getElem? (i := 61) rfl), tm_7 _ (List.mem_of_getElem? (i := 59) rfl), Or.inr (Or.inr (tm_7 _ (List.mem_of_getElem? (i := 60) rfl))), tm_1 _ (List.mem_of_getElem? (i := 12) rfl)⟩, rfl, Or.inl rfl⟩
theorem MO_203 : MO 203 := ⟨Or.inr ⟨tm_7 _ (List.mem_of_getElem? (i := 69) rfl), tm_7 _ (List.mem_of_getElem? (i := 67) rfl), Or.inr (Or.inr (tm_7 _ (List.mem_of_getElem? (i := 68) rfl))), tm_1 _ (List.mem_of_getElem? (i := 12) rfl)⟩, rfl, Or.inl rfl⟩
theorem MO_204 : MO 204 := ⟨Or.inr ⟨tm_7 _ (List.mem_of_getElem? (i := 73) rfl), tm_7 _ (List.mem_of_getElem? (i := 71) rfl), Or.inr (Or.inr (tm_7 _ (List.mem_of_getElem? (i := 72) rfl))), tm_1 _ (List.mem_of_getElem? (i := 12) rfl)⟩, rfl, Or.inl rfl⟩
theorem MO_205 : MO 205 := ⟨Or.inr ⟨tm_7 _ (List.mem_of_getElem? (i := 81) rfl), tm_7 _ (List.mem_of_getElem? (i := 80) rfl), Or.inr (Or.inr (tm_0 _ (List.mem_of_getElem? (i := 76) rfl))), tm_1 _ (List.mem_of_getElem? (i := 12) rfl)⟩, rfl, Or.inl rfl⟩
theorem MO_206 : MO 206 := ⟨Or.inr ⟨tm_7 _ (List.mem_of_getElem? (i := 77) rfl), tm_7 _ (List.mem_of_getElem? (i := 75) rfl), Or.inr (Or.inr (tm_7 _ (List.mem_of_getElem? (i := 76) rfl))), tm_1 _ (List.mem_of_getElem? (i := 12) rfl)⟩, rfl, Or.inl rfl⟩
theorem MO_207 : MO 207 := ⟨Or.inr ⟨tm_7 _ (List.mem_of_getElem? (i := 89) rfl), tm_7 _ (List.mem_of_getElem? (i := 88) rfl), Or.inr (Or.inr (tm_0 _ (List.mem_of_getElem? (i := 77) rfl))), tm_1 _ (List.mem_of_getElem? (i := 12) rfl)⟩, rfl, Or.inl rfl⟩
theorem MO_208 : MO 208 := ⟨Or.inr ⟨tm_7 _ (List.mem_of_getElem? (i := 85) rfl), tm_7 _ (List.mem_of_getElem? (i := 83) rfl), Or.inr (Or.inr (tm_7 _ (List.mem_of_getElem? (i := 84) rfl))), tm_1 _ (List.mem_of_getElem? (i := 12) rfl)⟩, rfl, Or.inl rfl⟩
theorem MO_209 : MO 209 := ⟨Or.inr ⟨tm_7 _ (List.mem_of_getElem? (i := 93) rfl), tm_7 _ (List.mem_of_getElem? (i := 91) rfl), Or.inr (Or.inr (tm_7 _ (List.mem_of_getElem? (i := 92) rfl))), tm_1 _ (List.mem_of_getElem? (i := 12) rfl)⟩, rfl, Or.inl rfl⟩
theorem MO_210 : MO 210 := ⟨Or.inr ⟨tm_7 _ (List.mem_of_getElem? (i := 97) rfl), tm_7 _ (List.mem_of_getElem? (i := 95) rfl), Or.inr (Or.inr (tm_7 _ (List.mem_of_getElem? (i := 96) rfl))), tm_1 _ (List.mem_of_getElem? (i := 12) rfl)⟩, rfl, Or.inl rfl⟩
theorem MO_211 : MO 211 := ⟨Or.inr ⟨tm_7 _ (List.mem_of_getElem? (i := 105) rfl), tm_7 _ (List.mem_of_getElem? (i := 104) rfl), Or.inr (Or.inr (tm_0 _ (List.mem_of_getElem? (i := 78) rfl))), tm_1 _ (List.mem_of_getElem? (i := 12) rfl)⟩, rfl, Or.inl rfl⟩
theorem MO_212 : MO 212 := ⟨Or.inr ⟨tm_7 _ (List.mem_of_getElem? (i := 101) rfl), tm_7 _ (List.mem_of_getElem? (i := 99) rfl), Or.inr (Or.inr (tm_7 _ (List.mem_of_getElem? (i := 100) rfl))), tm_1 _ (List.mem_of_getElem? (i := 12) rfl)⟩, rfl, Or.inl rfl⟩
theorem MO_213 : MO 213 := ⟨Or.inr ⟨tm_7 _ (List.mem_of_getElem? (i := 109) rfl), tm_7 _ (List.mem_of_getElem? (i := 107) rfl), Or.inr (Or.inr (tm_7 _ (List.mem_of_getElem? (i := 108) rfl))), tm_1 _ (List.mem_of_getElem? (i := 12) rfl)⟩, rfl, Or.inl rfl⟩
theorem MO_214 : MO 214 := ⟨Or.inr ⟨tm_7 _ (List.mem_of_getElem? (i := 122) rfl), tm_7 _ (List.mem_of_getElem? (i := 121) rfl), Or.inr (Or.inr (tm_0 _ (List.mem_of_getElem? (i := 80) rfl))), tm_1 _ (List.mem_of_getElem? (i := 12) rfl)⟩, rfl, Or.inl rfl⟩
theorem MO_215 : MO 215 := ⟨Or.inr ⟨tm_7 _ (List.mem_of_getElem? (i := 118) rfl), tm_7 _ (List.mem_of_getElem? (i := 117) rfl), Or.inr (Or.inr (tm_0 _ (List.mem_of_getElem? (i := 79) rfl))), tm_1 _ (List.mem_of_getElem? (i := 12) rfl)⟩, rfl, Or.inl rfl⟩
theorem MO_216 : MO 216 := ⟨Or.inr ⟨tm_7 _ (List.mem_of_getElem? (i := 113) rfl), tm_7 _ (List.mem_of_getElem? (i := 111) rfl), Or.inr (Or.inr (tm_7 _ (List.mem_of_getElem? (i := 112) rfl))), tm_1 _ (List.mem_of_getElem? (i := 12) rfl)⟩, rfl, Or.inl rfl⟩
theorem MO_217 : MO 217 := ⟨Or.inr ⟨tm_7 _ (List.mem_of_getElem? (i := 126) rfl), tm_7 _ (List.mem_of_getElem? (i := 124) rfl), Or.inr (Or.inr (tm_7 _ (List.mem_of_getElem? (i := 125) rfl))), tm_1 _ (List.mem_of_getElem? (i := 12) rfl)⟩, rfl, Or.inl rfl⟩
theorem MO_218 : MO 218 := ⟨Or.inr ⟨tm_7 _ (List.mem_of_getElem? (i := 130) rfl), tm_7 _ (List.mem_of_getElem? (i := 128) rfl), Or.inr (Or.inr (tm_7 _ (List.mem_of_getElem? (i := 129) rfl))), tm_1 _ (List.mem_of_getElem? (i := 12) rfl)⟩, rfl, Or.inl rfl⟩
theorem MO_219 : MO 219 := ⟨Or.inr ⟨tm_7 _ (List.mem_of_getElem? (i := 134) rfl), tm_7 _ (List.mem_of_getElem? (i := 132) rfl), Or.inr (Or.inr (tm_7 _ (List.mem_of_getElem? (i := 133) rfl))), tm_1 _ (List.mem_of_getElem? (i := 12) rfl)⟩, rfl, Or.inl rfl⟩
theorem MO_220 : MO 220 := ⟨Or.inr ⟨tm_7 _ (List.mem_of_getElem? (i := 138) rfl), tm_7 _ (List.mem_of_getElem? (i := 136) rfl), Or.inr (Or.inr (tm_7 _ (List.mem_of_getElem? (i := 137) rfl))), tm_1 _ (List.mem_of_getElem? (i := 12) rfl)⟩, rfl, Or.inl rfl⟩
theorem MO_221 : MO 221 := ⟨Or.inr ⟨tm_7 _ (List.mem_of_getElem? (i := 146) rfl), tm_7 _ (List.mem_of_getElem? (i := 144) rfl), Or.inr (Or.inr (tm_7 _ (List.mem_of_getElem? (i := 145) rfl))), tm_1 _ (List.mem_of_getElem? (i := 12) rfl)⟩, rfl, Or.inl rfl⟩
theorem MO_222 : MO 222 := ⟨Or.inr ⟨tm_7 _ (List.mem_of_getElem? (i := 150) rfl), tm_7 _ (List.mem_of_getElem? (i := 148) rfl), Or.inr (Or.inr (tm_7 _ (List.mem_of_getElem? (i := 149) rfl))), tm_1 _ (List.mem_of_getElem? (i := 12) rfl)⟩, rfl, Or.inl rfl⟩
theorem MO_223 : MO 223 := ⟨Or.inr ⟨tm_7 _ (List.mem_of_getElem? (i := 162) rfl), tm_7 _ (List.mem_of_getElem? (i := 161) rfl), Or.inr (Or.inr (tm_0 _ (List.mem_of_getElem? (i := 83) rfl))), tm_1 _ (List.mem_of_getElem? (i := 12) rfl)⟩, rfl, Or.inl rfl⟩
theorem MO_224 : MO 224 := ⟨Or.inr ⟨tm_7 _ (List.mem_of_getElem? (i := 166) rfl), tm_7 _ (List.mem_of_getElem? (i := 165) rfl), Or.inr (Or.inr (tm_0 _ (List.mem_of_getElem? (i := 84) rfl))), tm_1 _ (List.mem_of_getElem? (i := 12) rfl)⟩, rfl, Or.inl rfl⟩
theorem MO_225 : MO 225 := ⟨Or.inr ⟨tm_7 _ (List.mem_of_getElem? (i := 158) rfl), tm_7 _ (List.mem_of_getElem? (i := 157) rfl), Or.inr (Or.inr (tm_0 _ (List.mem_of_getElem? (i := 82) rfl))), tm_1 _ (List.mem_of_getElem? (i := 12) rfl)⟩, rfl, Or.inl rfl⟩
theorem MO_226 : MO 226 := ⟨Or.inr ⟨tm_7 _ (List.mem_of_getElem? (i := 178) rfl), tm_7 _ (List.mem_of_getElem? (i := 177) rfl), Or.inr (Or.inr (tm_0 _ (List.mem_of_getElem? (i := 87) rfl))), tm_1 _ (List.mem_of_getElem? (i := 12) rfl)⟩, rfl, Or.inl rfl⟩
theorem MO_227 : MO 227 := ⟨Or.inr ⟨tm_7 _ (List.mem_of_getElem? (i := 174) rfl), tm_7 _ (List.mem_of_getElem? (i := 173) rfl), Or.inr (Or.inr (tm_0 _ (List.mem_of_getElem? (i := 86) rfl))), tm_1 _ (List.mem_of_getElem? (i := 12) rfl)⟩, rfl, Or.inl rfl⟩
theorem MO_228 : MO 228 := ⟨Or.inr ⟨tm_7 _ (List.mem_of_getElem? (i := 170) rfl), tm_7 _ (List.mem_of_getElem? (i := 169) rfl), Or.inr (Or.inr (tm_0 _ (List.mem_of_getElem? (i := 85) rfl))), tm_1 _ (List.mem_of_getElem? (i := 12) rfl)⟩, rfl, Or.inl rfl⟩
theorem MO_229 : MO 229 := ⟨Or.inr ⟨tm_7 _ (List.mem_of_getElem? (i := 186) rfl), tm_7 _ (List.mem_of_getElem? (i := 185) rfl), Or.inr (Or.inr (tm_0 _ (List.mem_of_getElem? (i := 89) rfl))), tm_1 _ (List.mem_of_getElem? (i := 12) rfl)⟩, rfl, Or.inl rfl⟩
theorem MO_230 : MO 230 := ⟨Or.inr ⟨tm_7 _ (List.mem_of_getElem? (i := 182) rfl), tm_7 _ (List.mem_of_getElem? (i := 181) rfl), Or.inr (Or.inr (tm_0 _ (List.mem_of_getElem? (i := 88) rfl))), tm_1 _ (List.mem_of_getElem? (i := 12) rfl)⟩, rfl, Or.inl rfl⟩
theorem MO_231 : MO 231 := ⟨Or.inr ⟨tm_7 _ (List.mem_of_getElem? (i := 154) rfl), tm_7 _ (List.mem_of_getElem? (i := 152) rfl), Or.inr (Or.inr (tm_7 _ (List.mem_of_getElem? (i := 153) rfl))), tm_1 _ (List.mem_of_getElem? (i := 12) rfl)⟩, rfl, Or.inl rfl⟩
theorem MO_232 : MO 232 := ⟨Or.inr ⟨tm_7 _ (List.mem_of_getElem? (i := 190) rfl), tm_7 _ (List.mem_of_getElem? (i := 188) rfl), Or.inr (Or.inr (tm_7 _ (List.mem_of_getElem? (i := 189) rfl))), tm_1 _ (List.mem_of_getElem? (i := 12) rfl)⟩, rfl, Or.inl rfl⟩
theorem MO_233 : MO 233 := ⟨Or.inr ⟨tm_7 _ (List.mem_of_getElem? (i := 194) rfl), tm_7 _ (List.mem_of_getElem? (i := 192) rfl), Or.inr (Or.inr (tm_7 _ (List.mem_of_getElem? (i := 193) rfl))), tm_1 _ (List.mem_of_getElem? (i := 12) rfl)⟩, rfl, Or.inl rfl⟩
theorem MO_234 : MO 234 := ⟨Or.inr ⟨tm_7 _ (List.mem_of_getElem? (i := 198) rfl), tm_7 _ (List.mem_of_getElem? (i := 196) rfl), Or.inr (Or.inr (tm_7 _ (List.mem_of_getElem? (i := 197) rfl))), tm_1 _ (List.mem_of_getElem? (i := 12) rfl)⟩, rfl, Or.inl rfl⟩
theorem MO_235 : MO 235 := ⟨Or.inr ⟨tm_7 _ (List.mem_of_getElem? (i := 142) rfl), tm_7 _ (List.mem_of_getElem? (i := 141) rfl), Or.inr (Or.inr (tm_0 _ (List.mem_of_getElem? (i := 81) rfl))), tm_1 _ (List.mem_of_getElem? (i := 12) rfl)⟩, rfl, Or.inl rfl⟩
theorem MO_236 : MO 236 := ⟨Or.inr ⟨tm_7 _ (List.mem_of_getElem? (i := 202) rfl), tm_7 _ (List.mem_of_getElem? (i := 200) rfl), Or.inr (Or.inr (tm_7 _ (List.mem_of_getElem? (i := 201) rfl))), tm_1 _ (List.mem_of_getElem? (i := 12) rfl)⟩, rfl, Or.inl rfl⟩
theorem MO_237 : MO 237 := ⟨Or.inr ⟨tm_7 _ (List.mem_of_getElem? (i := 210) rfl), tm_7 _ (List.mem_of_getElem? (i := 209) rfl), Or.inr (Or.inr (tm_0 _ (List.mem_of_getElem? (i := 90) rfl))), tm_1 _ (List.mem_of_getElem? (i := 12) rfl)⟩, rfl, Or.inl rfl⟩
theorem MO_238 : MO 238 := ⟨Or.inr ⟨tm_7 _ (List.mem_of_getElem? (i := 206) rfl), tm_7 _ (List.mem_of_getElem? (i := 204) rfl), Or.inr (Or.inr (tm_7 _ (List.mem_of_getElem? (i := 205) rfl))), tm_1 _ (List.mem_of_getElem? (i := 12) rfl)⟩, rfl, Or.inl rfl⟩
theorem MO_239 : MO 239 := ⟨Or.inr ⟨tm_7 _ (List.mem_of_getElem? (i := 214) rfl), tm_7 _ (List.mem_of_getElem? (i := 212) rfl), Or.inr (Or.inr (tm_7 _ (List.mem_of_getElem? (i := 213) rfl))), tm_1 _ (List.mem_of_getElem? (i := 12) rfl)⟩, rfl, Or.inl rfl⟩
theorem MO_240 : MO 240 := ⟨Or.inr ⟨tm_7 _ (List.mem_of_getElem? (i := 218) rfl), tm_7 _ (List.mem_of_getElem? (i := 216) rfl), Or.inr (Or.inr (tm_7 _ (List.mem_of_getElem? (i := 217) rfl))), tm_1 _ (List.mem_of_getElem? (i := 12) rfl)⟩, rfl, Or.inl rfl⟩
theorem MO_241 : MO 241 := ⟨Or.inr ⟨tm_3 _ (List.mem_of_getElem? (i := 25) rfl), tm_3 _ (List.mem_of_getElem? (i := 23) rfl), Or.inr (Or.inr (tm_3 _ (List.mem_of_getElem? (i := 24) rfl))), tm_1 _ (List.mem_of_getElem? (i := 15) rfl)⟩, rfl, Or.inl rfl⟩
theorem MO_242 : MO 242 := ⟨Or.inr ⟨tm_3 _ (List.mem_of_getElem? (i := 35) rfl), tm_3 _ (List.mem_of_getElem? (i := 33) rfl), Or.inr (Or.inr (tm_3 _ (List.mem_of_getElem? (i := 34) rfl))), tm_1 _ (List.mem_of_getElem? (i := 15) rfl)⟩, rfl, Or.inl rfl⟩
theorem MO_243 : MO 243 := ⟨Or.inr ⟨tm_3 _ (List.mem_of_getElem? (i := 94) rfl), tm_3 _ (List.mem_of_getElem? (i := 92) rfl), Or.inr (Or.inr (tm_3 _ (List.mem_of_getElem? (i := 93) rfl))), tm_1 _ (List.mem_of_getElem? (i := 15) rfl)⟩, rfl, Or.inl rfl⟩
theorem MO_244 : MO 244 := ⟨Or.inr ⟨tm_3 _ (List.mem_of_getElem? (i := 98) rfl), tm_3 _ (List.mem_of_getElem? (i := 96) rfl), Or.inr (Or.inr (tm_3 _ (List.mem_of_getElem? (i := 97) rfl))), tm_1 _ (List.mem_of_getElem? (i := 15) rfl)⟩, rfl, Or.inl rfl⟩
theorem MO_245 : MO 245 := ⟨Or.inr ⟨tm_3 _ (List.mem_of_getElem? (i := 29) rfl), tm_3 _ (List.mem_of_getElem? (i := 27) rfl), Or.inr (Or.inr (tm_3 _ (List.mem_of_getElem? (i := 28) rfl))), tm_1 _ (List.mem_of_getElem? (i := 15) rfl)⟩, rfl, Or.inl rfl⟩
theorem MO_246 : MO 246 := ⟨Or.inr ⟨tm_3 _ (List.mem_of_getElem? (i := 39) rfl), tm_3 _ (List.mem_of_getElem? (i := 37) rfl), Or.inr (Or.inr (tm_3 _ (List.mem_of_getElem? (i := 38) rfl))), tm_1 _ (List.mem_of_getElem? (i := 15) rfl)⟩, rfl, Or.inl rfl⟩
theorem MO_247 : MO 247 := ⟨Or.inr ⟨tm_3 _ (List.mem_of_getElem? (i := 45) rfl), tm_3 _ (List.mem_of_getElem? (i := 44) rfl), Or.inl rfl, tm_1 _ (List.mem_of_getElem? (i := 15) rfl)⟩, rfl, Or.inl rfl⟩
theorem MO_248 : MO 248 := ⟨Or.inr ⟨tm_3 _ (List.mem_of_getElem? (i := 42) rfl), tm_3 _ (List.mem_of_getElem? (i := 41) rfl), Or.inl rfl, tm_1 _ (List.mem_of_getElem? (i := 16) rfl)⟩, rfl, Or.inl rfl⟩
theorem MO_249 : MO 249 := ⟨Or.inr ⟨tm_3 _ (List.mem_of_getElem? (i := 105) rfl), tm_3 _ (List.mem_of_getElem? (i := 104) rfl), Or.inl rfl, tm_1 _ (List.mem_of_getElem? (i := 16) rfl)⟩, rfl, Or.inl rfl⟩
theorem MO_250 : MO 250 := ⟨Or.inr ⟨tm_3 _ (List.mem_of_getElem? (i := 102) rfl), tm_3 _ (List.mem_of_getElem? (i := 101) rfl), Or.inl rfl, tm_1 _ (List.mem_of_getElem? (i := 16) rfl)⟩, rfl, Or.inl rfl⟩
theorem MO_251 : MO 251 := ⟨Or.inr ⟨tm_3 _ (List.mem_of_getElem? (i := 110) rfl), tm_3 _ (List.mem_of_getElem? (i := 109) rfl), Or.inl rfl, tm_1 _ (List.mem_of_getElem? (i := 16) rfl)⟩, rfl, Or.inl rfl⟩
theorem MO_252 : MO 252 := ⟨Or.inr ⟨tm_3 _ (List.mem_of_getElem? (i := 50) rfl), tm_3 _ (List.mem_of_getElem? (i := 49) rfl), Or.inl rfl, tm_1 _ (List.mem_of_getElem? (i := 17) rfl)⟩, rfl, Or.inl rfl⟩
theorem MO_253 : MO 253 := ⟨Or.inr ⟨tm_3 _ (List.mem_of_getElem? (i := 227) rfl), tm_3 _ (List.mem_of_getElem? (i := 226) rfl), Or.inl rfl, tm_1 _ (List.mem_of_getElem? (i := 20) rfl)⟩, rfl, Or.inl rfl⟩
theorem MO_254 : MO 254 := ⟨Or.inr ⟨tm_4 _ (List.mem_of_getElem? (i := 217) rfl), tm_4 _ (List.mem_of_getElem? (i := 216) rfl), Or.inl rfl, tm_1 _ (List.mem_of_getElem? (i := 14) rfl)⟩, rfl, Or.inl rfl⟩
theorem MO_255 : MO 255 := ⟨Or.inr ⟨tm_2 _ (List.mem_of_getElem? (i := 181) rfl), tm_2 _ (List.mem_of_getElem? (i := 180) rfl), Or.inl rfl, tm_1 _ (List.mem_of_getElem? (i := 14) rfl)⟩, rfl, Or.inl rfl⟩
theorem MO_256 : MO 256 := ⟨Or.inr ⟨tm_3 _ (List.mem_of_getElem? (i := 206) rfl), tm_3 _ (List.mem_of_getElem? (i := 205) rfl), Or.inl rfl, tm_1 _ (List.mem_of_getElem? (i := 3) rfl)⟩, rfl, Or.inl rfl⟩
theorem MO_ok {m : Nat} (h : m < mCnt) : MO m := by
  have h : m < 257 := h
  · by_cases h128 : m < 128
    · by_cases h64 : m < 64
      · by_cases h32 : m < 32
        · by_cases h16 : m < 16
          · by_cases h8 : m < 8
            · by_cases h4 : m < 4
              · by_cases h2 : m < 2
                · by_cases h1 : m < 1
                  · obtain rfl : m = 0 := by omega
                    exact MO_0
                  · obtain rfl : m = 1 := by omega
                    exact MO_1
                · by_cases h3 : m < 3
                  · obtain rfl : m = 2 := by omega
                    exact MO_2
                  · obtain rfl : m = 3 := by omega
                    exact MO_3
              · by_cases h6 : m < 6
                · by_cases h5 : m < 5
                  · obtain rfl : m = 4 := by omega
                    exact MO_4
                  · obtain rfl : m = 5 := by omega
                    exact MO_5
                · by_cases h7 : m < 7
                  · obtain rfl : m = 6 := by omega
                    exact MO_6
                  · obtain rfl : m = 7 := by omega
                    exact MO_7
            · by_cases h12 : m < 12
              · by_cases h10 : m < 10
                · by_cases h9 : m < 9
                  · obtain rfl : m = 8 := by omega
                    exact MO_8
                  · obtain rfl : m = 9 := by omega
                    exact MO_9
                · by_cases h11 : m < 11
                  · obtain rfl : m = 10 := by omega
                    exact MO_10
                  · obtain rfl : m = 11 := by omega
                    exact MO_11
              · by_cases h14 : m < 14
                · by_cases h13 : m < 13
                  · obtain rfl : m = 12 := by omega
                    exact MO_12
                  · obtain rfl : m = 13 := by omega
                    exact MO_13
                · by_cases h15 : m < 15
                  · obtain rfl : m = 14 := by omega
                    exact MO_14
                  · obtain rfl : m = 15 := by omega
                    exact MO_15
          · by_cases h24 : m < 24
            · by_cases h20 : m < 20
              · by_cases h18 : m < 18
                · by_cases h17 : m < 17
                  · obtain rfl : m = 16 := by omega
                    exact MO_16
                  · obtain rfl : m = 17 := by omega
                    exact MO_17
                · by_cases h19 : m < 19
                  · obtain rfl : m = 18 := by omega
                    exact MO_18
                  · obtain rfl : m = 19 := by omega
                    exact MO_19
              · by_cases h22 : m < 22
                · by_cases h21 : m < 21
                  · obtain rfl : m = 20 := by omega
                    exact MO_20
                  · obtain rfl : m = 21 := by omega
                    exact MO_21
                · by_cases h23 : m < 23
                  · obtain rfl : m = 22 := by omega
                    exact MO_22
                  · obtain rfl : m = 23 := by omega
                    exact MO_23
            · by_cases h28 : m < 28
              · by_cases h26 : m < 26
                · by_cases h25 : m < 25
                  · obtain rfl : m = 24 := by omega
                    exact MO_24
                  · obtain rfl : m = 25 := by omega
                    exact MO_25
                · by_cases h27 : m < 27
                  · obtain rfl : m = 26 := by omega
                    exact MO_26
                  · obtain rfl : m = 27 := by omega
                    exact MO_27
              · by_cases h30 : m < 30
                · by_cases h29 : m < 29
                  · obtain rfl : m = 28 := by omega
                    exact MO_28
                  · obtain rfl : m = 29 := by omega
                    exact MO_29
                · by_cases h31 : m < 31
                  · obtain rfl : m = 30 := by omega
                    exact MO_30
                  · obtain rfl : m = 31 := by omega
                    exact MO_31
        · by_cases h48 : m < 48
          · by_cases h40 : m < 40
            · by_cases h36 : m < 36
              · by_cases h34 : m < 34
                · by_cases h33 : m < 33
                  · obtain rfl : m = 32 := by omega
                    exact MO_32
                  · obtain rfl : m = 33 := by omega
                    exact MO_33
                · by_cases h35 : m < 35
                  · obtain rfl : m = 34 := by omega
                    exact MO_34
                  · obtain rfl : m = 35 := by omega
                    exact MO_35
              · by_cases h38 : m < 38
                · by_cases h37 : m < 37
                  · obtain rfl : m = 36 := by omega
                    exact MO_36
                  · obtain rfl : m = 37 := by omega
                    exact MO_37
                · by_cases h39 : m < 39
                  · obtain rfl : m = 38 := by omega
                    exact MO_38
                  · obtain rfl : m = 39 := by omega
                    exact MO_39
            · by_cases h44 : m < 44
              · by_cases h42 : m < 42
                · by_cases h41 : m < 41
                  · obtain rfl : m = 40 := by omega
                    exact MO_40
                  · obtain rfl : m = 41 := by omega
                    exact MO_41
                · by_cases h43 : m < 43
                  · obtain rfl : m = 42 := by omega
                    exact MO_42
                  · obtain rfl : m = 43 := by omega
                    exact MO_43
              · by_cases h46 : m < 46
                · by_cases h45 : m < 45
                  · obtain rfl : m = 44 := by omega
                    exact MO_44
                  · obtain rfl : m = 45 := by omega
                    exact MO_45
                · by_cases h47 : m < 47
                  · obtain rfl : m = 46 := by omega
                    exact MO_46
                  · obtain rfl : m = 47 := by omega
                    exact MO_47
          · by_cases h56 : m < 56
            · by_cases h52 : m < 52
              · by_cases h50 : m < 50
                · by_cases h49 : m < 49
                  · obtain rfl : m = 48 := by omega
                    exact MO_48
                  · obtain rfl : m = 49 := by omega
                    exact MO_49
                · by_cases h51 : m < 51
                  · obtain rfl : m = 50 := by omega
                    exact MO_50
                  · obtain rfl : m = 51 := by omega
                    exact MO_51
              · by_cases h54 : m < 54
                · by_cases h53 : m < 53
                  · obtain rfl : m = 52 := by omega
                    exact MO_52
                  · obtain rfl : m = 53 := by omega
                    exact MO_53
                · by_cases h55 : m < 55
                  · obtain rfl : m = 54 := by omega
                    exact MO_54
                  · obtain rfl : m = 55 := by omega
                    exact MO_55
            · by_cases h60 : m < 60
              · by_cases h58 : m < 58
                · by_cases h57 : m < 57
                  · obtain rfl : m = 56 := by omega
                    exact MO_56
                  · obtain rfl : m = 57 := by omega
                    exact MO_57
                · by_cases h59 : m < 59
                  · obtain rfl : m = 58 := by omega
                    exact MO_58
                  · obtain rfl : m = 59 := by omega
                    exact MO_59
              · by_cases h62 : m < 62
                · by_cases h61 : m < 61
                  · obtain rfl : m = 60 := by omega
                    exact MO_60
                  · obtain rfl : m = 61 := by omega
                    exact MO_61
                · by_cases h63 : m < 63
                  · obtain rfl : m = 62 := by omega
                    exact MO_62
                  · obtain rfl : m = 63 := by omega
                    exact MO_63
      · by_cases h96 : m < 96
        · by_cases h80 : m < 80
          · by_cases h72 : m < 72
            · by_cases h68 : m < 68
              · by_cases h66 : m < 66
                · by_cases h65 : m < 65
                  · obtain rfl : m = 64 := by omega
                    exact MO_64
                  · obtain rfl : m = 65 := by omega
                    exact MO_65
                · by_cases h67 : m < 67
                  · obtain rfl : m = 66 := by omega
                    exact MO_66
                  · obtain rfl : m = 67 := by omega
                    exact MO_67
              · by_cases h70 : m < 70
                · by_cases h69 : m < 69
                  · obtain rfl : m = 68 := by omega
                    exact MO_68
                  · obtain rfl : m = 69 := by omega
                    exact MO_69
                · by_cases h71 : m < 71
                  · obtain rfl : m = 70 := by omega
                    exact MO_70
                  · obtain rfl : m = 71 := by omega
                    exact MO_71
            · by_cases h76 : m < 76
              · by_cases h74 : m < 74
                · by_cases h73 : m < 73
                  · obtain rfl : m = 72 := by omega
                    exact MO_72
                  · obtain rfl : m = 73 := by omega
                    exact MO_73
                · by_cases h75 : m < 75
                  · obtain rfl : m = 74 := by omega
                    exact MO_74
                  · obtain rfl : m = 75 := by omega
                    exact MO_75
              · by_cases h78 : m < 78
                · by_cases h77 : m < 77
                  · obtain rfl : m = 76 := by omega
                    exact MO_76
                  · obtain rfl : m = 77 := by omega
                    exact MO_77
                · by_cases h79 : m < 79
                  · obtain rfl : m = 78 := by omega
                    exact MO_78
                  · obtain rfl : m = 79 := by omega
                    exact MO_79
          · by_cases h88 : m < 88
            · by_cases h84 : m < 84
              · by_cases h82 : m < 82
                · by_cases h81 : m < 81
                  · obtain rfl : m = 80 := by omega
                    exact MO_80
                  · obtain rfl : m = 81 := by omega
                    exact MO_81
                · by_cases h83 : m < 83
                  · obtain rfl : m = 82 := by omega
                    exact MO_82
                  · obtain rfl : m = 83 := by omega
                    exact MO_83
              · by_cases h86 : m < 86
                · by_cases h85 : m < 85
                  · obtain rfl : m = 84 := by omega
                    exact MO_84
                  · obtain rfl : m = 85 := by omega
                    exact MO_85
                · by_cases h87 : m < 87
                  · obtain rfl : m = 86 := by omega
                    exact MO_86
                  · obtain rfl : m = 87 := by omega
                    exact MO_87
            · by_cases h92 : m < 92
              · by_cases h90 : m < 90
                · by_cases h89 : m < 89
                  · obtain rfl : m = 88 := by omega
                    exact MO_88
                  · obtain rfl : m = 89 := by omega
                    exact MO_89
                · by_cases h91 : m < 91
                  · obtain rfl : m = 90 := by omega
                    exact MO_90
                  · obtain rfl : m = 91 := by omega
                    exact MO_91
              · by_cases h94 : m < 94
                · by_cases h93 : m < 93
                  · obtain rfl : m = 92 := by omega
                    exact MO_92
                  · obtain rfl : m = 93 := by omega
                    exact MO_93
                · by_cases h95 : m < 95
                  · obtain rfl : m = 94 := by omega
                    exact MO_94
                  · obtain rfl : m = 95 := by omega
                    exact MO_95
        · by_cases h112 : m < 112
          · by_cases h104 : m < 104
            · by_cases h100 : m < 100
              · by_cases h98 : m < 98
                · by_cases h97 : m < 97
                  · obtain rfl : m = 96 := by omega
                    exact MO_96
                  · obtain rfl : m = 97 := by omega
                    exact MO_97
                · by_cases h99 : m < 99
                  · obtain rfl : m = 98 := by omega
                    exact MO_98
                  · obtain rfl : m = 99 := by omega
                    exact MO_99
              · by_cases h102 : m < 102
                · by_cases h101 : m < 101
                  · obtain rfl : m = 100 := by omega
                    exact MO_100
                  · obtain rfl : m = 101 := by omega
                    exact MO_101
                · by_cases h103 : m < 103
                  · obtain rfl : m = 102 := by omega
                    exact MO_102
                  · obtain rfl : m = 103 := by omega
                    exact MO_103
            · by_cases h108 : m < 108
              · by_cases h106 : m < 106
                · by_cases h105 : m < 105
                  · obtain rfl : m = 104 := by omega
                    exact MO_104
                  · obtain rfl : m = 105 := by omega
                    exact MO_105
                · by_cases h107 : m < 107
                  · obtain rfl : m = 106 := by omega
                    exact MO_106
                  · obtain rfl : m = 107 := by omega
                    exact MO_107
              · by_cases h110 : m < 110
                · by_cases h109 : m < 109
                  · obtain rfl : m = 108 := by omega
                    exact MO_108
                  · obtain rfl : m = 109 := by omega
                    exact MO_109
                · by_cases h111 : m < 111
                  · obtain rfl : m = 110 := by omega
                    exact MO_110
                  · obtain rfl : m = 111 := by omega
                    exact MO_111
          · by_cases h120 : m < 120
            · by_cases h116 : m < 116
              · by_cases h114 : m < 114
                · by_cases h113 : m < 113
                  · obtain rfl : m = 112 := by omega
                    exact MO_112
                  · obtain rfl : m = 113 := by omega
                    exact MO_113
                · by_cases h115 : m < 115
                  · obtain rfl : m = 114 := by omega
                    exact MO_114
                  · obtain rfl : m = 115 := by omega
                    exact MO_115
              · by_cases h118 : m < 118
                · by_cases h117 : m < 117
                  · obtain rfl : m = 116 := by omega
                    exact MO_116
                  · obtain rfl : m = 117 := by omega
                    exact MO_117
                · by_cases h119 : m < 119
                  · obtain rfl : m = 118 := by omega
                    exact MO_118
                  · obtain rfl : m = 119 := by omega
                    exact MO_119
            · by_cases h124 : m < 124
              · by_cases h122 : m < 122
                · by_cases h121 : m < 121
                  · obtain rfl : m = 120 := by omega
                    exact MO_120
                  · obtain rfl : m = 121 := by omega
                    exact MO_121
                · by_cases h123 : m < 123
                  · obtain rfl : m = 122 := by omega
                    exact MO_122
                  · obtain rfl : m = 123 := by omega
                    exact MO_123
              · by_cases h126 : m < 126
                · by_cases h125 : m < 125
                  · obtain rfl : m = 124 := by omega
                    exact MO_124
                  · obtain rfl : m = 125 := by omega
                    exact MO_125
                · by_cases h127 : m < 127
                  · obtain rfl : m = 126 := by omega
                    exact MO_126
                  · obtain rfl : m = 127 := by omega
                    exact MO_127
    · by_cases h192 : m < 192
      · by_cases h160 : m < 160
        · by_cases h144 : m < 144
          · by_cases h136 : m < 136
            · by_cases h132 : m < 132
              · by_cases h130 : m < 130
                · by_cases h129 : m < 129
                  · obtain rfl : m = 128 := by omega
                    exact MO_128
                  · obtain rfl : m = 129 := by omega
                    exact MO_129
                · by_cases h131 : m < 131
                  · obtain rfl : m = 130 := by omega
                    exact MO_130
                  · obtain rfl : m = 131 := by omega
                    exact MO_131
              · by_cases h134 : m < 134
                · by_cases h133 : m < 133
                  · obtain rfl : m = 132 := by omega
                    exact MO_132
                  · obtain rfl : m = 133 := by omega
                    exact MO_133
                · by_cases h135 : m < 135
                  · obtain rfl : m = 134 := by omega
                    exact MO_134
                  · obtain rfl : m = 135 := by omega
                    exact MO_135
            · by_cases h140 : m < 140
              · by_cases h138 : m < 138
                · by_cases h137 : m < 137
                  · obtain rfl : m = 136 := by omega
                    exact MO_136
                  · obtain rfl : m = 137 := by omega
                    exact MO_137
                · by_cases h139 : m < 139
                  · obtain rfl : m = 138 := by omega
                    exact MO_138
                  · obtain rfl : m = 139 := by omega
                    exact MO_139
              · by_cases h142 : m < 142
                · by_cases h141 : m < 141
                  · obtain rfl : m = 140 := by omega
                    exact MO_140
                  · obtain rfl : m = 141 := by omega
                    exact MO_141
                · by_cases h143 : m < 143
                  · obtain rfl : m = 142 := by omega
                    exact MO_142
                  · obtain rfl : m = 143 := by omega
                    exact MO_143
          · by_cases h152 : m < 152
            · by_cases h148 : m < 148
              · by_cases h146 : m < 146
                · by_cases h145 : m < 145
                  · obtain rfl : m = 144 := by omega
                    exact MO_144
                  · obtain rfl : m = 145 := by omega
                    exact MO_145
                · by_cases h147 : m < 147
                  · obtain rfl : m = 146 := by omega
                    exact MO_146
                  · obtain rfl : m = 147 := by omega
                    exact MO_147
              · by_cases h150 : m < 150
                · by_cases h149 : m < 149
                  · obtain rfl : m = 148 := by omega
                    exact MO_148
                  · obtain rfl : m = 149 := by omega
                    exact MO_149
                · by_cases h151 : m < 151
                  · obtain rfl : m = 150 := by omega
                    exact MO_150
                  · obtain rfl : m = 151 := by omega
                    exact MO_151
            · by_cases h156 : m < 156
              · by_cases h154 : m < 154
                · by_cases h153 : m < 153
                  · obtain rfl : m = 152 := by omega
                    exact MO_152
                  · obtain rfl : m = 153 := by omega
                    exact MO_153
                · by_cases h155 : m < 155
                  · obtain rfl : m = 154 := by omega
                    exact MO_154
                  · obtain rfl : m = 155 := by omega
                    exact MO_155
              · by_cases h158 : m < 158
                · by_cases h157 : m < 157
                  · obtain rfl : m = 156 := by omega
                    exact MO_156
                  · obtain rfl : m = 157 := by omega
                    exact MO_157
                · by_cases h159 : m < 159
                  · obtain rfl : m = 158 := by omega
                    exact MO_158
                  · obtain rfl : m = 159 := by omega
                    exact MO_159
        · by_cases h176 : m < 176
          · by_cases h168 : m < 168
            · by_cases h164 : m < 164
              · by_cases h162 : m < 162
                · by_cases h161 : m < 161
                  · obtain rfl : m = 160 := by omega
                    exact MO_160
                  · obtain rfl : m = 161 := by omega
                    exact MO_161
                · by_cases h163 : m < 163
                  · obtain rfl : m = 162 := by omega
                    exact MO_162
                  · obtain rfl : m = 163 := by omega
                    exact MO_163
              · by_cases h166 : m < 166
                · by_cases h165 : m < 165
                  · obtain rfl : m = 164 := by omega
                    exact MO_164
                  · obtain rfl : m = 165 := by omega
                    exact MO_165
                · by_cases h167 : m < 167
                  · obtain rfl : m = 166 := by omega
                    exact MO_166
                  · obtain rfl : m = 167 := by omega
                    exact MO_167
            · by_cases h172 : m < 172
              · by_cases h170 : m < 170
                · by_cases h169 : m < 169
                  · obtain rfl : m = 168 := by omega
                    exact MO_168
                  · obtain rfl : m = 169 := by omega
                    exact MO_169
                · by_cases h171 : m < 171
                  · obtain rfl : m = 170 := by omega
                    exact MO_170
                  · obtain rfl : m = 171 := by omega
                    exact MO_171
              · by_cases h174 : m < 174
                · by_cases h173 : m < 173
                  · obtain rfl : m = 172 := by omega
                    exact MO_172
                  · obtain rfl : m = 173 := by omega
                    exact MO_173
                · by_cases h175 : m < 175
                  · obtain rfl : m = 174 := by omega
                    exact MO_174
                  · obtain rfl : m = 175 := by omega
                    exact MO_175
          · by_cases h184 : m < 184
            · by_cases h180 : m < 180
              · by_cases h178 : m < 178
                · by_cases h177 : m < 177
                  · obtain rfl : m = 176 := by omega
                    exact MO_176
                  · obtain rfl : m = 177 := by omega
                    exact MO_177
                · by_cases h179 : m < 179
                  · obtain rfl : m = 178 := by omega
                    exact MO_178
                  · obtain rfl : m = 179 := by omega
                    exact MO_179
              · by_cases h182 : m < 182
                · by_cases h181 : m < 181
                  · obtain rfl : m = 180 := by omega
                    exact MO_180
                  · obtain rfl : m = 181 := by omega
                    exact MO_181
                · by_cases h183 : m < 183
                  · obtain rfl : m = 182 := by omega
                    exact MO_182
                  · obtain rfl : m = 183 := by omega
                    exact MO_183
            · by_cases h188 : m < 188
              · by_cases h186 : m < 186
                · by_cases h185 : m < 185
                  · obtain rfl : m = 184 := by omega
                    exact MO_184
                  · obtain rfl : m = 185 := by omega
                    exact MO_185
                · by_cases h187 : m < 187
                  · obtain rfl : m = 186 := by omega
                    exact MO_186
                  · obtain rfl : m = 187 := by omega
                    exact MO_187
              · by_cases h190 : m < 190
                · by_cases h189 : m < 189
                  · obtain rfl : m = 188 := by omega
                    exact MO_188
                  · obtain rfl : m = 189 := by omega
                    exact MO_189
                · by_cases h191 : m < 191
                  · obtain rfl : m = 190 := by omega
                    exact MO_190
                  · obtain rfl : m = 191 := by omega
                    exact MO_191
      · by_cases h224 : m < 224
        · by_cases h208 : m < 208
          · by_cases h200 : m < 200
            · by_cases h196 : m < 196
              · by_cases h194 : m < 194
                · by_cases h193 : m < 193
                  · obtain rfl : m = 192 := by omega
                    exact MO_192
                  · obtain rfl : m = 193 := by omega
                    exact MO_193
                · by_cases h195 : m < 195
                  · obtain rfl : m = 194 := by omega
                    exact MO_194
                  · obtain rfl : m = 195 := by omega
                    exact MO_195
              · by_cases h198 : m < 198
                · by_cases h197 : m < 197
                  · obtain rfl : m = 196 := by omega
                    exact MO_196
                  · obtain rfl : m = 197 := by omega
                    exact MO_197
                · by_cases h199 : m < 199
                  · obtain rfl : m = 198 := by omega
                    exact MO_198
                  · obtain rfl : m = 199 := by omega
                    exact MO_199
            · by_cases h204 : m < 204
              · by_cases h202 : m < 202
                · by_cases h201 : m < 201
                  · obtain rfl : m = 200 := by omega
                    exact MO_200
                  · obtain rfl : m = 201 := by omega
                    exact MO_201
                · by_cases h203 : m < 203
                  · obtain rfl : m = 202 := by omega
                    exact MO_202
                  · obtain rfl : m = 203 := by omega
                    exact MO_203
              · by_cases h206 : m < 206
                · by_cases h205 : m < 205
                  · obtain rfl : m = 204 := by omega
                    exact MO_204
                  · obtain rfl : m = 205 := by omega
                    exact MO_205
                · by_cases h207 : m < 207
                  · obtain rfl : m = 206 := by omega
                    exact MO_206
                  · obtain rfl : m = 207 := by omega
                    exact MO_207
          · by_cases h216 : m < 216
            · by_cases h212 : m < 212
              · by_cases h210 : m < 210
                · by_cases h209 : m < 209
                  · obtain rfl : m = 208 := by omega
                    exact MO_208
                  · obtain rfl : m = 209 := by omega
                    exact MO_209
                · by_cases h211 : m < 211
                  · obtain rfl : m = 210 := by omega
                    exact MO_210
                  · obtain rfl : m = 211 := by omega
                    exact MO_211
              · by_cases h214 : m < 214
                · by_cases h213 : m < 213
                  · obtain rfl : m = 212 := by omega
                    exact MO_212
                  · obtain rfl : m = 213 := by omega
                    exact MO_213
                · by_cases h215 : m < 215
                  · obtain rfl : m = 214 := by omega
                    exact MO_214
                  · obtain rfl : m = 215 := by omega
                    exact MO_215
            · by_cases h220 : m < 220
              · by_cases h218 : m < 218
                · by_cases h217 : m < 217
                  · obtain rfl : m = 216 := by omega
                    exact MO_216
                  · obtain rfl : m = 217 := by omega
                    exact MO_217
                · by_cases h219 : m < 219
                  · obtain rfl : m = 218 := by omega
                    exact MO_218
                  · obtain rfl : m = 219 := by omega
                    exact MO_219
              · by_cases h222 : m < 222
                · by_cases h221 : m < 221
                  · obtain rfl : m = 220 := by omega
                    exact MO_220
                  · obtain rfl : m = 221 := by omega
                    exact MO_221
                · by_cases h223 : m < 223
                  · obtain rfl : m = 222 := by omega
                    exact MO_222
                  · obtain rfl : m = 223 := by omega
                    exact MO_223
        · by_cases h240 : m < 240
          · by_cases h232 : m < 232
            · by_cases h228 : m < 228
              · by_cases h226 : m < 226
                · by_cases h225 : m < 225
                  · obtain rfl : m = 224 := by omega
                    exact MO_224
                  · obtain rfl : m = 225 := by omega
                    exact MO_225
                · by_cases h227 : m < 227
                  · obtain rfl : m = 226 := by omega
                    exact MO_226
                  · obtain rfl : m = 227 := by omega
                    exact MO_227
              · by_cases h230 : m < 230
                · by_cases h229 : m < 229
                  · obtain rfl : m = 228 := by omega
                    exact MO_228
                  · obtain rfl : m = 229 := by omega
                    exact MO_229
                · by_cases h231 : m < 231
                  · obtain rfl : m = 230 := by omega
                    exact MO_230
                  · obtain rfl : m = 231 := by omega
                    exact MO_231
            · by_cases h236 : m < 236
              · by_cases h234 : m < 234
                · by_cases h233 : m < 233
                  · obtain rfl : m = 232 := by omega
                    exact MO_232
                  · obtain rfl : m = 233 := by omega
                    exact MO_233
                · by_cases h235 : m < 235
                  · obtain rfl : m = 234 := by omega
                    exact MO_234
                  · obtain rfl : m = 235 := by omega
                    exact MO_235
              · by_cases h238 : m < 238
                · by_cases h237 : m < 237
                  · obtain rfl : m = 236 := by omega
                    exact MO_236
                  · obtain rfl : m = 237 := by omega
                    exact MO_237
                · by_cases h239 : m < 239
                  · obtain rfl : m = 238 := by omega
                    exact MO_238
                  · obtain rfl : m = 239 := by omega
                    exact MO_239
          · by_cases h248 : m < 248
            · by_cases h244 : m < 244
              · by_cases h242 : m < 242
                · by_cases h241 : m < 241
                  · obtain rfl : m = 240 := by omega
                    exact MO_240
                  · obtain rfl : m = 241 := by omega
                    exact MO_241
                · by_cases h243 : m < 243
                  · obtain rfl : m = 242 := by omega
                    exact MO_242
                  · obtain rfl : m = 243 := by omega
                    exact MO_243
              · by_cases h246 : m < 246
                · by_cases h245 : m < 245
                  · obtain rfl : m = 244 := by omega
                    exact MO_244
                  · obtain rfl : m = 245 := by omega
                    exact MO_245
                · by_cases h247 : m < 247
                  · obtain rfl : m = 246 := by omega
                    exact MO_246
                  · obtain rfl : m = 247 := by omega
                    exact MO_247
            · by_cases h252 : m < 252
              · by_cases h250 : m < 250
                · by_cases h249 : m < 249
                  · obtain rfl : m = 248 := by omega
                    exact MO_248
                  · obtain rfl : m = 249 := by omega
                    exact MO_249
                · by_cases h251 : m < 251
                  · obtain rfl : m = 250 := by omega
                    exact MO_250
                  · obtain rfl : m = 251 := by omega
                    exact MO_251
              · by_cases h254 : m < 254
                · by_cases h253 : m < 253
                  · obtain rfl : m = 252 := by omega
                    exact MO_252
                  · obtain rfl : m = 253 := by omega
                    exact MO_253
                · by_cases h255 : m < 255
                  · obtain rfl : m = 254 := by omega
                    exact MO_254
                  · by_cases h256 : m < 256
                    · obtain rfl : m = 255 := by omega
                      exact MO_255
                    · obtain rfl : m = 256 := by omega
                      exact MO_256
theorem w_ac1 : Cond.native arraycopyName ∈ lw_tbl := tm_2 _ (List.mem_of_getElem? (i := 156) rfl)
theorem w_ac2 : Cond.static arraycopyName ∈ lw_tbl := tm_2 _ (List.mem_of_getElem? (i := 155) rfl)
theorem w_ac3 : Cond.initialized "java/lang/System" ∈ lw_tbl := tm_1 _ (List.mem_of_getElem? (i := 13) rfl)
theorem w_oi1 : Cond.instanceMethod objectInit ∈ lw_tbl := tm_1 _ (List.mem_of_getElem? (i := 27) rfl)
theorem w_oi2 : Cond.code objectInit ⟨#[0xb1]⟩ 1 none ∈ lw_tbl := tm_1 _ (List.mem_of_getElem? (i := 28) rfl)
theorem w_mx1 : Cond.static Lib.Math.max.name ∈ lw_tbl := tm_1 _ (List.mem_of_getElem? (i := 36) rfl)
theorem w_mx2 : Cond.code Lib.Math.max.name Lib.Math.max.code 2 (some .int) ∈ lw_tbl := tm_1 _ (List.mem_of_getElem? (i := 37) rfl)
theorem w_mn1 : Cond.static Lib.Math.min.name ∈ lw_tbl := tm_2 _ (List.mem_of_getElem? (i := 152) rfl)
theorem w_mn2 : Cond.code Lib.Math.min.name Lib.Math.min.code 2 (some .int) ∈ lw_tbl := tm_2 _ (List.mem_of_getElem? (i := 153) rfl)
theorem w_mth : Cond.initialized "java/lang/Math" ∈ lw_tbl := tm_1 _ (List.mem_of_getElem? (i := 3) rfl)
theorem w_in0 : Cond.instantiable (cNm 0) (cNn 0) ∈ lw_tbl := tm_2 _ (List.mem_of_getElem? (i := 18) rfl)
theorem w_it0 : Cond.initialized (cNm 0) ∈ lw_tbl := tm_1 _ (List.mem_of_getElem? (i := 10) rfl)
theorem w_in1 : Cond.instantiable (cNm 1) (cNn 1) ∈ lw_tbl := tm_1 _ (List.mem_of_getElem? (i := 111) rfl)
theorem w_it1 : Cond.initialized (cNm 1) ∈ lw_tbl := tm_1 _ (List.mem_of_getElem? (i := 7) rfl)
theorem w_in2 : Cond.instantiable (cNm 2) (cNn 2) ∈ lw_tbl := tm_1 _ (List.mem_of_getElem? (i := 105) rfl)
theorem w_it2 : Cond.initialized (cNm 2) ∈ lw_tbl := tm_1 _ (List.mem_of_getElem? (i := 6) rfl)
theorem w_in3 : Cond.instantiable (cNm 3) (cNn 3) ∈ lw_tbl := tm_1 _ (List.mem_of_getElem? (i := 30) rfl)
theorem w_it3 : Cond.initialized (cNm 3) ∈ lw_tbl := tm_1 _ (List.mem_of_getElem? (i := 2) rfl)
theorem w_in4 : Cond.instantiable (cNm 4) (cNn 4) ∈ lw_tbl := tm_1 _ (List.mem_of_getElem? (i := 186) rfl)
theorem w_it4 : Cond.initialized (cNm 4) ∈ lw_tbl := tm_1 _ (List.mem_of_getElem? (i := 9) rfl)
theorem w_in5 : Cond.instantiable (cNm 5) (cNn 5) ∈ lw_tbl := tm_1 _ (List.mem_of_getElem? (i := 53) rfl)
theorem w_it5 : Cond.initialized (cNm 5) ∈ lw_tbl := tm_1 _ (List.mem_of_getElem? (i := 4) rfl)
theorem w_in6 : Cond.instantiable (cNm 6) (cNn 6) ∈ lw_tbl := tm_1 _ (List.mem_of_getElem? (i := 149) rfl)
theorem w_it6 : Cond.initialized (cNm 6) ∈ lw_tbl := tm_1 _ (List.mem_of_getElem? (i := 8) rfl)
theorem w_in7 : Cond.instantiable (cNm 7) (cNn 7) ∈ lw_tbl := tm_1 _ (List.mem_of_getElem? (i := 61) rfl)
theorem w_it7 : Cond.initialized (cNm 7) ∈ lw_tbl := tm_1 _ (List.mem_of_getElem? (i := 5) rfl)
theorem w_in8 : Cond.instantiable (cNm 8) (cNn 8) ∈ lw_tbl := tm_2 _ (List.mem_of_getElem? (i := 37) rfl)
theorem w_it8 : Cond.initialized (cNm 8) ∈ lw_tbl := tm_1 _ (List.mem_of_getElem? (i := 11) rfl)
theorem w_in9 : Cond.instantiable (cNm 9) (cNn 9) ∈ lw_tbl := tm_1 _ (List.mem_of_getElem? (i := 22) rfl)
theorem w_it9 : Cond.initialized (cNm 9) ∈ lw_tbl := tm_1 _ (List.mem_of_getElem? (i := 1) rfl)
theorem w_in10 : Cond.instantiable (cNm 10) (cNn 10) ∈ lw_tbl := tm_5 _ (List.mem_of_getElem? (i := 0) rfl)
theorem w_it10 : Cond.initialized (cNm 10) ∈ lw_tbl := tm_1 _ (List.mem_of_getElem? (i := 12) rfl)
theorem w_ar_int : Cond.arrayClass .int ∈ lw_tbl := tm_1 _ (List.mem_of_getElem? (i := 51) rfl)
theorem w_ar_long : Cond.arrayClass .long ∈ lw_tbl := tm_2 _ (List.mem_of_getElem? (i := 55) rfl)
theorem w_ar_boolean : Cond.arrayClass .boolean ∈ lw_tbl := tm_5 _ (List.mem_of_getElem? (i := 237) rfl)
theorem w_ar_byte : Cond.arrayClass .byte ∈ lw_tbl := tm_3 _ (List.mem_of_getElem? (i := 159) rfl)
theorem w_ao14 : Cond.arrayOver (.object (oNm 14)) ∈ lw_tbl := tm_1 _ (List.mem_of_getElem? (i := 117) rfl)
theorem w_ao15 : Cond.arrayOver (.object (oNm 15)) ∈ lw_tbl := tm_1 _ (List.mem_of_getElem? (i := 147) rfl)
theorem w_ao16 : Cond.arrayOver (.object (oNm 16)) ∈ lw_tbl := tm_1 _ (List.mem_of_getElem? (i := 103) rfl)
theorem w_ao17 : Cond.arrayOver (.object (oNm 17)) ∈ lw_tbl := tm_2 _ (List.mem_of_getElem? (i := 35) rfl)
