/-! the programs of J1, checked (by program) -/
def PJ1_charAt_3b067 : List En := [(0, 1, .iload_n 1, [1], 0, 0),
  (1, 1, .aload_n 0, [0], 0, 0),
  (2, 1, .arraylength, [], 0, 0),
  (3, 3, .invokestatic 9, [197, 2], 0, 0),
  (6, 1, .aload_n 0, [0], 0, 0),
  (7, 1, .iload_n 1, [1], 0, 0),
  (8, 1, .baload, [], 0, 0),
  (9, 3, .sipush 255, [], 255, 0),
  (12, 1, .iand, [], 0, 0),
  (13, 1, .i2c, [], 0, 0),
  (14, 1, .ireturn, [], 0, 0)]
set_option maxRecDepth 100000 in
theorem kJ1_charAt_3b067 : na_okP (na_mi MJ1_charAt_3b067) PJ1_charAt_3b067 := ⟨by decide +kernel, na_lks_s lk_RJ1 (by decide +kernel)⟩
