/-! the programs of J9, checked (by program) -/
def PJ9_max_7cf53 : List En := [(0, 1, .iload_n 0, [0], 0, 0),
  (1, 1, .iload_n 1, [1], 0, 0),
  (2, 3, .if_icmp .lt 7, [5], 0, 0),
  (5, 1, .iload_n 0, [0], 0, 0),
  (6, 3, .goto 4, [6], 0, 0),
  (9, 1, .iload_n 1, [1], 0, 0),
  (10, 1, .ireturn, [], 0, 0)]
set_option maxRecDepth 100000 in
theorem kJ9_max_7cf53 : na_okP (na_mi MJ9_max_7cf53) PJ9_max_7cf53 := ⟨by decide +kernel, na_lks_s (L := []) (fun _ h => absurd h List.not_mem_nil) (by decide +kernel)⟩
def PJ9_min_7cf53 : List En := [(0, 1, .iload_n 0, [0], 0, 0),
  (1, 1, .iload_n 1, [1], 0, 0),
  (2, 3, .if_icmp .gt 7, [5], 0, 0),
  (5, 1, .iload_n 0, [0], 0, 0),
  (6, 3, .goto 4, [6], 0, 0),
  (9, 1, .iload_n 1, [1], 0, 0),
  (10, 1, .ireturn, [], 0, 0)]
set_option maxRecDepth 100000 in
theorem kJ9_min_7cf53 : na_okP (na_mi MJ9_min_7cf53) PJ9_min_7cf53 := ⟨by decide +kernel, na_lks_s (L := []) (fun _ h => absurd h List.not_mem_nil) (by decide +kernel)⟩
