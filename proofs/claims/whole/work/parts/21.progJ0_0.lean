/-! the programs of J0, checked (by program) -/
def PJ0_length_8abf5 : List En := [(0, 1, .aload_n 0, [0], 0, 0),
  (1, 3, .getfield 9, [9, 1], 0, 0),
  (4, 1, .arraylength, [], 0, 0),
  (5, 1, .aload_n 0, [0], 0, 0),
  (6, 3, .invokevirtual 335, [195, 1, 9], 0, 0),
  (9, 1, .ishr, [], 0, 0),
  (10, 1, .ireturn, [], 0, 0)]
set_option maxRecDepth 100000 in
theorem kJ0_length_8abf5 : na_okP (na_mi MJ0_length_8abf5) PJ0_length_8abf5 := ⟨by decide +kernel, na_lks_s lk_RJ0 (by decide +kernel)⟩
def PJ0_charAt_5068e : List En := [(0, 1, .aload_n 0, [0], 0, 0),
  (1, 3, .invokevirtual 492, [196, 1, 9], 0, 0),
  (4, 3, .ifCond .eq 12, [8], 0, 0),
  (7, 1, .aload_n 0, [0], 0, 0),
  (8, 3, .getfield 9, [9, 1], 0, 0),
  (11, 1, .iload_n 1, [1], 0, 0),
  (12, 3, .invokestatic 495, [198, 2], 0, 0),
  (15, 1, .ireturn, [], 0, 0),
  (16, 1, .aload_n 0, [0], 0, 0),
  (17, 3, .getfield 9, [9, 1], 0, 0),
  (20, 1, .iload_n 1, [1], 0, 0),
  (21, 3, .invokestatic 498, [998], 0, 0),
  (24, 1, .ireturn, [], 0, 0)]
set_option maxRecDepth 100000 in
theorem kJ0_charAt_5068e : na_okP (na_mi MJ0_charAt_5068e) PJ0_charAt_5068e := ⟨by decide +kernel, na_lks_s lk_RJ0 (by decide +kernel)⟩
def PJ0_coder_7d493 : List En := [(0, 3, .getstatic 38, [5], 0, 0),
  (3, 3, .ifCond .eq 10, [5], 0, 0),
  (6, 1, .aload_n 0, [0], 0, 0),
  (7, 3, .getfield 15, [9, 0], 0, 0),
  (10, 3, .goto 4, [6], 0, 0),
  (13, 1, .iconst 1, [], 1, 0),
  (14, 1, .ireturn, [], 0, 0)]
set_option maxRecDepth 100000 in
theorem kJ0_coder_7d493 : na_okP (na_mi MJ0_coder_7d493) PJ0_coder_7d493 := ⟨by decide +kernel, na_lks_s lk_RJ0 (by decide +kernel)⟩
def PJ0_isLatin1_aae02 : List En := [(0, 3, .getstatic 38, [5], 0, 0),
  (3, 3, .ifCond .eq 14, [7], 0, 0),
  (6, 1, .aload_n 0, [0], 0, 0),
  (7, 3, .getfield 15, [9, 0], 0, 0),
  (10, 3, .ifCond .ne 7, [7], 0, 0),
  (13, 1, .iconst 1, [], 1, 0),
  (14, 3, .goto 4, [8], 0, 0),
  (17, 1, .iconst 0, [], 0, 0),
  (18, 1, .ireturn, [], 0, 0)]
set_option maxRecDepth 100000 in
theorem kJ0_isLatin1_aae02 : na_okP (na_mi MJ0_isLatin1_aae02) PJ0_isLatin1_aae02 := ⟨by decide +kernel, na_lks_s lk_RJ0 (by decide +kernel)⟩
def PJ0_checkIndex_df160 : List En := [(0, 1, .iload_n 0, [0], 0, 0),
  (1, 1, .iload_n 1, [1], 0, 0),
  (2, 3, .getstatic 1053, [6], 0, 0),
  (5, 3, .invokestatic 1059, [199, 3], 0, 0),
  (8, 1, .pop, [], 0, 0),
  (9, 1, .return_, [], 0, 0)]
set_option maxRecDepth 100000 in
theorem kJ0_checkIndex_df160 : na_okP (na_mi MJ0_checkIndex_df160) PJ0_checkIndex_df160 := ⟨by decide +kernel, na_lks_s lk_RJ0 (by decide +kernel)⟩
