/-! methods of the JDK that are walked as any other -/
abbrev mJ6_bitCount_0f7a4 : px_M := (yJ6_bitCount_0f7a4, cJ6_bitCount_0f7a4, 1, (some .int))
def tJ6_bitCount_0f7a4_0 : List px_I := [(0, 1, .iload_n 0, 0, 0, .null), (1, 1, .iload_n 0, 0, 0, .null), (2, 1, .iconst 1, 0, 0, .null), (3, 1, .iushr, 0, 0, .null)]
set_option maxRecDepth 100000 in
theorem tJ6_bitCount_0f7a4_0_ok : px_tab mJ6_bitCount_0f7a4 tJ6_bitCount_0f7a4_0 := px_tab_of (fun _ h => absurd h List.not_mem_nil) (by decide +kernel) (by decide +kernel)
def tJ6_bitCount_0f7a4_1 : List px_I := [(4, 3, .ldc_w 265, 0, 0, .int 1431655765)]
set_option maxRecDepth 100000 in
theorem tJ6_bitCount_0f7a4_1_ok : px_tab mJ6_bitCount_0f7a4 tJ6_bitCount_0f7a4_1 := List.forall_mem_cons.mpr ⟨⟨by decide +kernel, rfl, ⟨_, rfl, px_mem4 33 (by decide +kernel) (by decide +kernel)⟩⟩, fun _ h => absurd h List.not_mem_nil⟩
def tJ6_bitCount_0f7a4_2 : List px_I := [(7, 1, .iand, 0, 0, .null), (8, 1, .isub, 0, 0, .null), (9, 1, .istore_n 0, 0, 0, .null), (10, 1, .iload_n 0, 0, 0, .null)]
set_option maxRecDepth 100000 in
theorem tJ6_bitCount_0f7a4_2_ok : px_tab mJ6_bitCount_0f7a4 tJ6_bitCount_0f7a4_2 := px_tab_of (fun _ h => absurd h List.not_mem_nil) (by decide +kernel) (by decide +kernel)
def tJ6_bitCount_0f7a4_3 : List px_I := [(11, 3, .ldc_w 266, 0, 0, .int 858993459)]
set_option maxRecDepth 100000 in
theorem tJ6_bitCount_0f7a4_3_ok : px_tab mJ6_bitCount_0f7a4 tJ6_bitCount_0f7a4_3 := List.forall_mem_cons.mpr ⟨⟨by decide +kernel, rfl, ⟨_, rfl, px_mem4 34 (by decide +kernel) (by decide +kernel)⟩⟩, fun _ h => absurd h List.not_mem_nil⟩
def tJ6_bitCount_0f7a4_4 : List px_I := [(14, 1, .iand, 0, 0, .null), (15, 1, .iload_n 0, 0, 0, .null), (16, 1, .iconst 2, 0, 0, .null), (17, 1, .iushr, 0, 0, .null)]
set_option maxRecDepth 100000 in
theorem tJ6_bitCount_0f7a4_4_ok : px_tab mJ6_bitCount_0f7a4 tJ6_bitCount_0f7a4_4 := px_tab_of (fun _ h => absurd h List.not_mem_nil) (by decide +kernel) (by decide +kernel)
def tJ6_bitCount_0f7a4_5 : List px_I := [(18, 3, .ldc_w 266, 0, 0, .int 858993459)]
set_option maxRecDepth 100000 in
theorem tJ6_bitCount_0f7a4_5_ok : px_tab mJ6_bitCount_0f7a4 tJ6_bitCount_0f7a4_5 := List.forall_mem_cons.mpr ⟨⟨by decide +kernel, rfl, ⟨_, rfl, px_mem4 34 (by decide +kernel) (by decide +kernel)⟩⟩, fun _ h => absurd h List.not_mem_nil⟩
def tJ6_bitCount_0f7a4_6 : List px_I := [(21, 1, .iand, 0, 0, .null), (22, 1, .iadd, 0, 0, .null), (23, 1, .istore_n 0, 0, 0, .null), (24, 1, .iload_n 0, 0, 0, .null), (25, 1, .iload_n 0, 0, 0, .null), (26, 1, .iconst 4, 0, 0, .null), (27, 1, .iushr, 0, 0, .null), (28, 1, .iadd, 0, 0, .null)]
set_option maxRecDepth 100000 in
theorem tJ6_bitCount_0f7a4_6_ok : px_tab mJ6_bitCount_0f7a4 tJ6_bitCount_0f7a4_6 := px_tab_of (fun _ h => absurd h List.not_mem_nil) (by decide +kernel) (by decide +kernel)
def tJ6_bitCount_0f7a4_7 : List px_I := [(29, 3, .ldc_w 267, 0, 0, .int 252645135)]
set_option maxRecDepth 100000 in
theorem tJ6_bitCount_0f7a4_7_ok : px_tab mJ6_bitCount_0f7a4 tJ6_bitCount_0f7a4_7 := List.forall_mem_cons.mpr ⟨⟨by decide +kernel, rfl, ⟨_, rfl, px_mem4 35 (by decide +kernel) (by decide +kernel)⟩⟩, fun _ h => absurd h List.not_mem_nil⟩
def tJ6_bitCount_0f7a4_8 : List px_I := [(32, 1, .iand, 0, 0, .null), (33, 1, .istore_n 0, 0, 0, .null), (34, 1, .iload_n 0, 0, 0, .null), (35, 1, .iload_n 0, 0, 0, .null), (36, 2, .bipush 8, 0, 0, .null), (38, 1, .iushr, 0, 0, .null), (39, 1, .iadd, 0, 0, .null), (40, 1, .istore_n 0, 0, 0, .null), (41, 1, .iload_n 0, 0, 0, .null), (42, 1, .iload_n 0, 0, 0, .null), (43, 2, .bipush 16, 0, 0, .null), (45, 1, .iushr, 0, 0, .null), (46, 1, .iadd, 0, 0, .null), (47, 1, .istore_n 0, 0, 0, .null), (48, 1, .iload_n 0, 0, 0, .null), (49, 2, .bipush 63, 0, 0, .null), (51, 1, .iand, 0, 0, .null), (52, 1, .ireturn, 0, 0, .null)]
set_option maxRecDepth 100000 in
theorem tJ6_bitCount_0f7a4_8_ok : px_tab mJ6_bitCount_0f7a4 tJ6_bitCount_0f7a4_8 := px_tab_of (fun _ h => absurd h List.not_mem_nil) (by decide +kernel) (by decide +kernel)
def tJ6_bitCount_0f7a4 : List px_I := [(0, 1, .iload_n 0, 0, 0, .null), (1, 1, .iload_n 0, 0, 0, .null), (2, 1, .iconst 1, 0, 0, .null), (3, 1, .iushr, 0, 0, .null), (4, 3, .ldc_w 265, 0, 0, .int 1431655765), (7, 1, .iand, 0, 0, .null), (8, 1, .isub, 0, 0, .null), (9, 1, .istore_n 0, 0, 0, .null), (10, 1, .iload_n 0, 0, 0, .null), (11, 3, .ldc_w 266, 0, 0, .int 858993459), (14, 1, .iand, 0, 0, .null), (15, 1, .iload_n 0, 0, 0, .null), (16, 1, .iconst 2, 0, 0, .null), (17, 1, .iushr, 0, 0, .null), (18, 3, .ldc_w 266, 0, 0, .int 858993459), (21, 1, .iand, 0, 0, .null), (22, 1, .iadd, 0, 0, .null), (23, 1, .istore_n 0, 0, 0, .null), (24, 1, .iload_n 0, 0, 0, .null), (25, 1, .iload_n 0, 0, 0, .null), (26, 1, .iconst 4, 0, 0, .null), (27, 1, .iushr, 0, 0, .null), (28, 1, .iadd, 0, 0, .null), (29, 3, .ldc_w 267, 0, 0, .int 252645135), (32, 1, .iand, 0, 0, .null), (33, 1, .istore_n 0, 0, 0, .null), (34, 1, .iload_n 0, 0, 0, .null), (35, 1, .iload_n 0, 0, 0, .null), (36, 2, .bipush 8, 0, 0, .null), (38, 1, .iushr, 0, 0, .null), (39, 1, .iadd, 0, 0, .null), (40, 1, .istore_n 0, 0, 0, .null), (41, 1, .iload_n 0, 0, 0, .null), (42, 1, .iload_n 0, 0, 0, .null), (43, 2, .bipush 16, 0, 0, .null), (45, 1, .iushr, 0, 0, .null), (46, 1, .iadd, 0, 0, .null), (47, 1, .istore_n 0, 0, 0, .null), (48, 1, .iload_n 0, 0, 0, .null), (49, 2, .bipush 63, 0, 0, .null), (51, 1, .iand, 0, 0, .null), (52, 1, .ireturn, 0, 0, .null)]
set_option maxRecDepth 100000 in
theorem tJ6_bitCount_0f7a4_ok : px_tab mJ6_bitCount_0f7a4 tJ6_bitCount_0f7a4 := (px_tab_app tJ6_bitCount_0f7a4_0_ok (px_tab_app tJ6_bitCount_0f7a4_1_ok (px_tab_app tJ6_bitCount_0f7a4_2_ok (px_tab_app tJ6_bitCount_0f7a4_3_ok (px_tab_app tJ6_bitCount_0f7a4_4_ok (px_tab_app tJ6_bitCount_0f7a4_5_ok (px_tab_app tJ6_bitCount_0f7a4_6_ok (px_tab_app tJ6_bitCount_0f7a4_7_ok tJ6_bitCount_0f7a4_8_ok))))))))
abbrev mJ9_max_7cf53 : px_M := (yJ9_max_7cf53, cJ9_max_7cf53, 2, (some .int))
def tJ9_max_7cf53_0 : List px_I := [(0, 1, .iload_n 0, 0, 0, .null), (1, 1, .iload_n 1, 0, 0, .null), (2, 3, .if_icmp .lt 7, 0, 0, .null), (5, 1, .iload_n 0, 0, 0, .null), (6, 3, .goto 4, 0, 0, .null), (9, 1, .iload_n 1, 0, 0, .null), (10, 1, .ireturn, 0, 0, .null)]
set_option maxRecDepth 100000 in
theorem tJ9_max_7cf53_0_ok : px_tab mJ9_max_7cf53 tJ9_max_7cf53_0 := px_tab_of (fun _ h => absurd h List.not_mem_nil) (by decide +kernel) (by decide +kernel)
abbrev tJ9_max_7cf53 : List px_I := tJ9_max_7cf53_0
theorem tJ9_max_7cf53_ok : px_tab mJ9_max_7cf53 tJ9_max_7cf53 := tJ9_max_7cf53_0_ok
abbrev mJ9_min_7cf53 : px_M := (yJ9_min_7cf53, cJ9_min_7cf53, 2, (some .int))
def tJ9_min_7cf53_0 : List px_I := [(0, 1, .iload_n 0, 0, 0, .null), (1, 1, .iload_n 1, 0, 0, .null), (2, 3, .if_icmp .gt 7, 0, 0, .null), (5, 1, .iload_n 0, 0, 0, .null), (6, 3, .goto 4, 0, 0, .null), (9, 1, .iload_n 1, 0, 0, .null), (10, 1, .ireturn, 0, 0, .null)]
set_option maxRecDepth 100000 in
theorem tJ9_min_7cf53_0_ok : px_tab mJ9_min_7cf53 tJ9_min_7cf53_0 := px_tab_of (fun _ h => absurd h List.not_mem_nil) (by decide +kernel) (by decide +kernel)
abbrev tJ9_min_7cf53 : List px_I := tJ9_min_7cf53_0
theorem tJ9_min_7cf53_ok : px_tab mJ9_min_7cf53 tJ9_min_7cf53 := tJ9_min_7cf53_0_ok
