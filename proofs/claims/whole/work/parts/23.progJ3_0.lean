/-! the programs of J3, checked (by program) -/
def PJ3_checkIndex_8e157 : List En := [(0, 1, .iload_n 0, [0], 0, 0),
  (1, 3, .ifCond .lt 8, [5], 0, 0),
  (4, 1, .iload_n 0, [0], 0, 0),
  (5, 1, .iload_n 1, [1], 0, 0),
  (6, 3, .if_icmp .lt 10, [10], 0, 0),
  (9, 1, .aload_n 2, [2], 0, 0),
  (10, 1, .iload_n 0, [0], 0, 0),
  (11, 1, .iload_n 1, [1], 0, 0),
  (12, 3, .invokestatic 95, [998], 0, 0),
  (15, 1, .athrow, [], 0, 0),
  (16, 1, .iload_n 0, [0], 0, 0),
  (17, 1, .ireturn, [], 0, 0)]
set_option maxRecDepth 100000 in
theorem kJ3_checkIndex_8e157 : na_okP (na_mi MJ3_checkIndex_8e157) PJ3_checkIndex_8e157 := ⟨by decide +kernel, na_lks_s lk_RJ3 (by decide +kernel)⟩
